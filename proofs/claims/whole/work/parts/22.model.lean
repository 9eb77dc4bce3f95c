abbrev p_X7_isStuff (M : ea_M) (i : Int32) : Prop := p_X7_in ((i).toInt64) (0 : Int64) ((((M 61 1) - (1 : Int32))).toInt64)
set_option maxRecDepth 100000 in
set_option maxHeartbeats 4000000 in
theorem sp_X7_isStuff {M : ea_M} {i : Int32}    : ea_Sp 1 yX7_isStuff cX7_isStuff 2 (some .boolean) [.ref 61, .int i] M (some (.int (if p_X7_isStuff M i then (1 : Int32) else 0))) M := by
  refine ea_intro (own := RX7) (by decide +kernel) rfl (fun g => Nat.le_of_ble_eq_true rfl) (fun k C X => ?_)
  obtain ⟨o, ho⟩ : ∃ z : Option Value, z = (some (.int (if p_X7_isStuff M i then (1 : Int32) else 0))) := ⟨_, rfl⟩
  obtain ⟨M', hM'⟩ : ∃ z : ea_M, z = M := ⟨_, rfl⟩
  rw [← ho, ← hM'] at X
  have h1 : o = some (.int (if p_X7_in ((i).toInt64) (0 : Int64) ((((M 61 1) - (1 : Int32))).toInt64) then (1 : Int32) else 0)) ∧ M' = M := by
    subst ho hM'
    exact ⟨congrArg (fun z => some (Value.int z)) (pa_bc ⟨fun h => h, fun h => h⟩), by rfl⟩
  refine e_iload_n (n := 1) C dX7_isStuff_0 rfl rfl ?_
  refine e_i2l C dX7_isStuff_1 ?_
  refine e_lconst (v := 0) C dX7_isStuff_2 (by decide) ?_
  refine e_aload_n (n := 0) C dX7_isStuff_3 rfl rfl ?_
  refine e_get (v := .int (M 61 1)) C fd_X7_123 (by decide) rfl rfl dX7_isStuff_4 ?_
  refine e_iconst (v := 1) C dX7_isStuff_7 (by decide) ?_
  refine e_isub C dX7_isStuff_8 ?_
  refine e_i2l C dX7_isStuff_9 ?_
  refine e_callS1 (as := [.long ((i).toInt64), .long (0 : Int64), .long ((((M 61 1) - (1 : Int32))).toInt64)]) (rest := []) C lk_X7_64 (sp_X7_in (M := M) (v := ((i).toInt64)) (a := (0 : Int64)) (b := ((((M 61 1) - (1 : Int32))).toInt64)) ) (by decide) rfl rfl (Nat.le_of_ble_eq_true rfl) dX7_isStuff_10 ?_
  exact e_iret C X rfl (ea_nz (pa_b01 (p_X7_in ((i).toInt64) (0 : Int64) ((((M 61 1) - (1 : Int32))).toInt64)))) dX7_isStuff_13 h1
abbrev p_X7_isCell (M : ea_M) (i : Int32) : Prop := p_X7_in ((i).toInt64) (0 : Int64) ((((M 61 6) - (1 : Int32))).toInt64)
set_option maxRecDepth 100000 in
set_option maxHeartbeats 4000000 in
theorem sp_X7_isCell {M : ea_M} {i : Int32}    : ea_Sp 1 yX7_isCell cX7_isCell 2 (some .boolean) [.ref 61, .int i] M (some (.int (if p_X7_isCell M i then (1 : Int32) else 0))) M := by
  refine ea_intro (own := RX7) (by decide +kernel) rfl (fun g => Nat.le_of_ble_eq_true rfl) (fun k C X => ?_)
  obtain ⟨o, ho⟩ : ∃ z : Option Value, z = (some (.int (if p_X7_isCell M i then (1 : Int32) else 0))) := ⟨_, rfl⟩
  obtain ⟨M', hM'⟩ : ∃ z : ea_M, z = M := ⟨_, rfl⟩
  rw [← ho, ← hM'] at X
  have h1 : o = some (.int (if p_X7_in ((i).toInt64) (0 : Int64) ((((M 61 6) - (1 : Int32))).toInt64) then (1 : Int32) else 0)) ∧ M' = M := by
    subst ho hM'
    exact ⟨congrArg (fun z => some (Value.int z)) (pa_bc ⟨fun h => h, fun h => h⟩), by rfl⟩
  refine e_iload_n (n := 1) C dX7_isCell_0 rfl rfl ?_
  refine e_i2l C dX7_isCell_1 ?_
  refine e_lconst (v := 0) C dX7_isCell_2 (by decide) ?_
  refine e_aload_n (n := 0) C dX7_isCell_3 rfl rfl ?_
  refine e_get (v := .int (M 61 6)) C fd_X7_126 (by decide) rfl rfl dX7_isCell_4 ?_
  refine e_iconst (v := 1) C dX7_isCell_7 (by decide) ?_
  refine e_isub C dX7_isCell_8 ?_
  refine e_i2l C dX7_isCell_9 ?_
  refine e_callS1 (as := [.long ((i).toInt64), .long (0 : Int64), .long ((((M 61 6) - (1 : Int32))).toInt64)]) (rest := []) C lk_X7_64 (sp_X7_in (M := M) (v := ((i).toInt64)) (a := (0 : Int64)) (b := ((((M 61 6) - (1 : Int32))).toInt64)) ) (by decide) rfl rfl (Nat.le_of_ble_eq_true rfl) dX7_isCell_10 ?_
  exact e_iret C X rfl (ea_nz (pa_b01 (p_X7_in ((i).toInt64) (0 : Int64) ((((M 61 6) - (1 : Int32))).toInt64)))) dX7_isCell_13 h1
set_option maxRecDepth 100000 in
set_option maxHeartbeats 4000000 in
theorem km_holdsOf {k : ea_K} {o : Option Value} {M' : ea_M} (C : ea_C k RX7 cX7_holdsOf 2 0) (X : ea_X k (some .int) o M') {M : ea_M} {i : Int32}   (s1 : vp_in i 10) (s2 : vp_in (M 67 i.toNatClampNeg) 6) (h3 : o = some (.int (M 64 (M 67 i.toNatClampNeg).toNatClampNeg)) ∧ M' = M) : ea_E k 0 [(0, .ref 61), (1, .int i)] [] M := by
  refine e_aload_n (n := 0) C dX7_holdsOf_0 rfl rfl ?_
  refine e_get (v := .ref 64) C fd_X7_16 (by decide) rfl rfl dX7_holdsOf_1 ?_
  refine e_aload_n (n := 0) C dX7_holdsOf_4 rfl rfl ?_
  refine e_get (v := .ref 67) C fd_X7_25 (by decide) rfl rfl dX7_holdsOf_5 ?_
  refine e_iload_n (n := 1) C dX7_holdsOf_8 rfl rfl ?_
  refine e_iald (n := 10) C (by decide) rfl (by decide) s1 dX7_holdsOf_9 ?_
  refine e_iald (n := 6) C (by decide) rfl (by decide) s2 dX7_holdsOf_10 ?_
  exact e_iret C X rfl (vp_nar_int _) dX7_holdsOf_11 h3
set_option maxRecDepth 100000 in
set_option maxHeartbeats 4000000 in
theorem km_passesOf {k : ea_K} {o : Option Value} {M' : ea_M} (C : ea_C k RX7 cX7_passesOf 2 0) (X : ea_X k (some .int) o M') {M : ea_M} {i : Int32}   (s1 : vp_in i 10) (s2 : vp_in (M 67 i.toNatClampNeg) 6) (h3 : o = some (.int (M 63 (M 67 i.toNatClampNeg).toNatClampNeg)) ∧ M' = M) : ea_E k 0 [(0, .ref 61), (1, .int i)] [] M := by
  refine e_aload_n (n := 0) C dX7_passesOf_0 rfl rfl ?_
  refine e_get (v := .ref 63) C fd_X7_13 (by decide) rfl rfl dX7_passesOf_1 ?_
  refine e_aload_n (n := 0) C dX7_passesOf_4 rfl rfl ?_
  refine e_get (v := .ref 67) C fd_X7_25 (by decide) rfl rfl dX7_passesOf_5 ?_
  refine e_iload_n (n := 1) C dX7_passesOf_8 rfl rfl ?_
  refine e_iald (n := 10) C (by decide) rfl (by decide) s1 dX7_passesOf_9 ?_
  refine e_iald (n := 6) C (by decide) rfl (by decide) s2 dX7_passesOf_10 ?_
  exact e_iret C X rfl (vp_nar_int _) dX7_passesOf_11 h3
set_option maxRecDepth 100000 in
set_option maxHeartbeats 4000000 in
theorem km_copyRow {k : ea_K} {o : Option Value} {M' : ea_M} (C : ea_C k RX7 cX7_copyRow 4 0) (X : ea_X k none o M') {M : ea_M} {a b : Int32}   (h1 : ea_E k 2 [(0, .ref 61), (1, .int a), (2, .int b), (3, .int (0 : Int32))] [] M) : ea_E k 0 [(0, .ref 61), (1, .int a), (2, .int b)] [] M := by
  refine e_iconst (v := 0) C dX7_copyRow_0 (by decide) ?_
  refine e_istore_n C dX7_copyRow_1 rfl (by decide) rfl ?_
  refine e_perm C [1, 2, 3, 0] rfl ?_
  exact h1
set_option maxRecDepth 100000 in
set_option maxHeartbeats 4000000 in
theorem km_copyRow_2 {k : ea_K} {o : Option Value} {M' : ea_M} (C : ea_C k RX7 cX7_copyRow 4 0) (X : ea_X k none o M') {M : ea_M} {a b i : Int32}   (h2 : (16 : Int32) ≤ i → o = none ∧ M' = M) (s3 : ¬ (16 : Int32) ≤ i → vp_in (a + i) 192) (s4 : ¬ (16 : Int32) ≤ i → vp_in (b + i) 192) (h5 : ¬ (16 : Int32) ≤ i → ea_E k 2 [(0, .ref 61), (1, .int a), (2, .int b), (3, .int (i + 1))] [] (ea_up M 62 (b + i).toNatClampNeg (M 62 (a + i).toNatClampNeg))) : ea_E k 2 [(0, .ref 61), (1, .int a), (2, .int b), (3, .int i)] [] M := by
  refine e_iload_n (n := 3) C dX7_copyRow_2 rfl rfl ?_
  refine e_bipush (v := 16) C dX7_copyRow_3 (by decide) ?_
  refine e_icmp_ge (tgt := 30) C dX7_copyRow_5 (by decide) (fun c1 => ?_) (fun c1 => ?_)
  · exact e_vret C X dX7_copyRow_30 (h2 c1)
  · refine e_aload_n (n := 0) C dX7_copyRow_8 rfl rfl ?_
    refine e_get (v := .ref 62) C fd_X7_7 (by decide) rfl rfl dX7_copyRow_9 ?_
    refine e_iload_n (n := 2) C dX7_copyRow_12 rfl rfl ?_
    refine e_iload_n (n := 3) C dX7_copyRow_13 rfl rfl ?_
    refine e_iadd C dX7_copyRow_14 ?_
    refine e_aload_n (n := 0) C dX7_copyRow_15 rfl rfl ?_
    refine e_get (v := .ref 62) C fd_X7_7 (by decide) rfl rfl dX7_copyRow_16 ?_
    refine e_iload_n (n := 1) C dX7_copyRow_19 rfl rfl ?_
    refine e_iload_n (n := 3) C dX7_copyRow_20 rfl rfl ?_
    refine e_iadd C dX7_copyRow_21 ?_
    refine e_iald (n := 192) C (by decide) rfl (by decide) (s3 c1) dX7_copyRow_22 ?_
    refine e_iast (n := 192) C (by decide) rfl (by decide) (s4 c1) dX7_copyRow_23 ?_
    refine e_iinc (n := 3) (v := (i + 1)) C dX7_copyRow_24 rfl rfl (by decide) rfl ?_
    refine e_goto (tgt := 2) C dX7_copyRow_27 (by decide) ?_
    refine e_perm C [1, 2, 3, 0] rfl ?_
    exact (h5 c1)
set_option maxRecDepth 100000 in
set_option maxHeartbeats 4000000 in
theorem km_write {k : ea_K} {o : Option Value} {M' : ea_M} (C : ea_C k RX7 cX7_write 2 1) (X : ea_X k (some .int) o M') {M : ea_M} {c : Int32}   (s3 : p_X7_in ((c).toInt64) (0 : Int64) (255 : Int64) → ¬ (M 61 11) = (200 : Int32) → vp_in (M 61 11) 200) (h4 : p_X7_in ((c).toInt64) (0 : Int64) (255 : Int64) → ¬ (M 61 11) = (200 : Int32) → o = some (.int ((M 61 11) + (1 : Int32))) ∧ M' = (ea_up (ea_up M 69 (M 61 11).toNatClampNeg c) 61 11 ((M 61 11) + (1 : Int32)))) (h5 : p_X7_in ((c).toInt64) (0 : Int64) (255 : Int64) → (M 61 11) = (200 : Int32) → o = some (.int (-2000000004 : Int32)) ∧ M' = M) (h6 : ¬ p_X7_in ((c).toInt64) (0 : Int64) (255 : Int64) → o = some (.int (-2000000002 : Int32)) ∧ M' = M) : ea_E k 0 [(0, .ref 61), (1, .int c)] [] M := by
  refine e_iload_n (n := 1) C dX7_write_0 rfl rfl ?_
  refine e_i2l C dX7_write_1 ?_
  refine e_lconst (v := 0) C dX7_write_2 (by decide) ?_
  refine e_ldc2 C kc_X7_62 dX7_write_3 ?_
  refine e_callS1 (as := [.long ((c).toInt64), .long (0 : Int64), .long (255 : Int64)]) (rest := []) C lk_X7_64 (sp_X7_in (M := M) (v := ((c).toInt64)) (a := (0 : Int64)) (b := (255 : Int64)) ) (by decide) rfl rfl (Nat.le_of_ble_eq_true rfl) dX7_write_6 ?_
  refine e_ifb_ne (tgt := 15) C dX7_write_9 (by decide) (fun c1 => ?_) (fun c1 => ?_)
  · refine e_aload_n (n := 0) C dX7_write_15 rfl rfl ?_
    refine e_get (v := .int (M 61 11)) C fd_X7_69 (by decide) rfl rfl dX7_write_16 ?_
    refine e_sipush (v := 200) C dX7_write_19 (by decide) ?_
    refine e_icmp_ne (tgt := 28) C dX7_write_22 (by decide) (fun c2 => ?_) (fun c2 => ?_)
    · refine e_aload_n (n := 0) C dX7_write_28 rfl rfl ?_
      refine e_get (v := .ref 69) C fd_X7_32 (by decide) rfl rfl dX7_write_29 ?_
      refine e_aload_n (n := 0) C dX7_write_32 rfl rfl ?_
      refine e_get (v := .int (M 61 11)) C fd_X7_69 (by decide) rfl rfl dX7_write_33 ?_
      refine e_iload_n (n := 1) C dX7_write_36 rfl rfl ?_
      refine e_iast (n := 200) C (by decide) rfl (by decide) (s3 c1 c2) dX7_write_37 ?_
      refine e_aload_n (n := 0) C dX7_write_38 rfl rfl ?_
      refine e_dup C dX7_write_39 rfl ?_
      refine e_get (v := .int (M 61 11)) C fd_X7_69 (by decide) rfl (congrArg (fun z => some (Value.int z)) (by simp [ea_upR, ea_upS, ea_upK, pa_setR, pa_cpR, fr_X3_add, fr_X5_forget, fr_X5_become, fr_X4_clear, fr_X4_addStuff, fr_X4_become_d, fr_X4_become_s, fr_X0_enter, fr_X0_remove] : (ea_up M 69 (M 61 11).toNatClampNeg c) 61 11 = (M 61 11))) dX7_write_40 ?_
      refine e_iconst (v := 1) C dX7_write_43 (by decide) ?_
      refine e_iadd C dX7_write_44 ?_
      refine e_put (ty := .int) C fd_X7_69 (by decide) rfl rfl (by decide +kernel) (vp_nar_int _) rfl (ea_set7_11 _ _ _) dX7_write_45 ?_
      refine e_aload_n (n := 0) C dX7_write_48 rfl rfl ?_
      refine e_get (v := .int ((M 61 11) + (1 : Int32))) C fd_X7_69 (by decide) rfl (congrArg (fun z => some (Value.int z)) (by simp [ea_upR, ea_upS, ea_upK, pa_setR, pa_cpR, fr_X3_add, fr_X5_forget, fr_X5_become, fr_X4_clear, fr_X4_addStuff, fr_X4_become_d, fr_X4_become_s, fr_X0_enter, fr_X0_remove] : (ea_up (ea_up M 69 (M 61 11).toNatClampNeg c) 61 11 ((M 61 11) + (1 : Int32))) 61 11 = ((M 61 11) + (1 : Int32)))) dX7_write_49 ?_
      exact e_iret C X rfl (vp_nar_int _) dX7_write_52 (h4 c1 c2)
    · refine e_ldc C kc_X7_73 dX7_write_25 ?_
      exact e_iret C X rfl (vp_nar_int _) dX7_write_27 (h5 c1 c2)
  · refine e_ldc C kc_X7_68 dX7_write_12 ?_
    exact e_iret C X rfl (vp_nar_int _) dX7_write_14 (h6 c1)
def f_X7_erase (M : ea_M) : Int32 := (M 61 11)
def g_X7_erase (M : ea_M) : ea_M := (ea_up M 61 11 (0 : Int32))
set_option maxRecDepth 100000 in
set_option maxHeartbeats 4000000 in
theorem sp_X7_erase {M : ea_M}    : ea_Sp 0 yX7_erase cX7_erase 2 (some .int) [.ref 61] M (some (.int (f_X7_erase M))) (g_X7_erase M) := by
  refine ea_intro (own := RX7) (by decide +kernel) rfl (fun g => Nat.le_of_ble_eq_true rfl) (fun k C X => ?_)
  obtain ⟨o, ho⟩ : ∃ z : Option Value, z = (some (.int (f_X7_erase M))) := ⟨_, rfl⟩
  obtain ⟨M', hM'⟩ : ∃ z : ea_M, z = (g_X7_erase M) := ⟨_, rfl⟩
  rw [← ho, ← hM'] at X
  have h1 : o = some (.int (M 61 11)) ∧ M' = (ea_up M 61 11 (0 : Int32)) := by
    subst ho hM'
    exact ⟨by simp only [f_X7_erase], by simp only [g_X7_erase]⟩
  refine e_aload_n (n := 0) C dX7_erase_0 rfl rfl ?_
  refine e_get (v := .int (M 61 11)) C fd_X7_69 (by decide) rfl rfl dX7_erase_1 ?_
  refine e_istore_n C dX7_erase_4 rfl (by decide) rfl ?_
  refine e_aload_n (n := 1) C dX7_erase_5 rfl rfl ?_
  refine e_iconst (v := 0) C dX7_erase_6 (by decide) ?_
  refine e_put (ty := .int) C fd_X7_69 (by decide) rfl rfl (by decide +kernel) (vp_nar_int _) rfl (ea_set7_11 _ _ _) dX7_erase_7 ?_
  refine e_iload_n (n := 0) C dX7_erase_10 rfl rfl ?_
  exact e_iret C X rfl (vp_nar_int _) dX7_erase_11 h1
theorem fr_X7_erase {M : ea_M} {zz : Nat} (e0 : zz ≠ 61) : g_X7_erase M zz = M zz := by
  simp only [g_X7_erase]
  repeat' split
  all_goals simp [ea_upR, ea_upS, ea_upK, pa_setR, pa_cpR, fr_X3_add, fr_X5_forget, fr_X5_become, fr_X4_clear, fr_X4_addStuff, fr_X4_become_d, fr_X4_become_s, fr_X0_enter, fr_X0_remove, e0]
set_option maxRecDepth 100000 in
set_option maxHeartbeats 4000000 in
theorem km_nextToken {k : ea_K} {o : Option Value} {M' : ea_M} (C : ea_C k RX7 cX7_nextToken 1 2) (X : ea_X k none o M') {M : ea_M}   (h1 : ea_E k 8 [(0, .ref 61)] [] (ea_up M 61 16 (M 61 17))) : ea_E k 0 [(0, .ref 61)] [] M := by
  refine e_aload_n (n := 0) C dX7_nextToken_0 rfl rfl ?_
  refine e_aload_n (n := 0) C dX7_nextToken_1 rfl rfl ?_
  refine e_get (v := .int (M 61 17)) C fd_X7_82 (by decide) rfl rfl dX7_nextToken_2 ?_
  refine e_put (ty := .int) C fd_X7_85 (by decide) rfl rfl (by decide +kernel) (vp_nar_int _) rfl (ea_set7_16 _ _ _) dX7_nextToken_5 ?_
  exact h1
set_option maxRecDepth 100000 in
set_option maxHeartbeats 4000000 in
theorem km_nextToken_8 {k : ea_K} {o : Option Value} {M' : ea_M} (C : ea_C k RX7 cX7_nextToken 1 2) (X : ea_X k none o M') {M : ea_M}   (h5 : (M 61 11) ≤ (M 61 16) → (M 61 11) ≤ (M 61 16) → (M 61 11) ≤ (M 61 16) → (M 61 11) ≤ (M 61 16) → o = none ∧ M' = (ea_up M 61 17 (M 61 16))) (s6 : (M 61 11) ≤ (M 61 16) → (M 61 11) ≤ (M 61 16) → (M 61 11) ≤ (M 61 16) → ¬ (M 61 11) ≤ (M 61 16) → vp_in (M 61 16) 200) (h8 : (M 61 11) ≤ (M 61 16) → (M 61 11) ≤ (M 61 16) → (M 61 11) ≤ (M 61 16) → ¬ (M 61 11) ≤ (M 61 16) → ¬ p_X7_isDigit (M 69 (M 61 16).toNatClampNeg) → o = none ∧ M' = (ea_up M 61 17 (M 61 16))) (h9 : (M 61 11) ≤ (M 61 16) → (M 61 11) ≤ (M 61 16) → (M 61 11) ≤ (M 61 16) → ¬ (M 61 11) ≤ (M 61 16) → p_X7_isDigit (M 69 (M 61 16).toNatClampNeg) → ea_E k 165 [(0, .ref 61)] [] (ea_up M 61 17 (M 61 16))) (s10 : (M 61 11) ≤ (M 61 16) → (M 61 11) ≤ (M 61 16) → ¬ (M 61 11) ≤ (M 61 16) → vp_in (M 61 16) 200) (h13 : (M 61 11) ≤ (M 61 16) → (M 61 11) ≤ (M 61 16) → ¬ (M 61 11) ≤ (M 61 16) → ¬ p_X7_isSmall (M 69 (M 61 16).toNatClampNeg) → (M 61 11) ≤ (M 61 16) → o = none ∧ M' = (ea_up M 61 17 (M 61 16))) (s14 : (M 61 11) ≤ (M 61 16) → (M 61 11) ≤ (M 61 16) → ¬ (M 61 11) ≤ (M 61 16) → ¬ p_X7_isSmall (M 69 (M 61 16).toNatClampNeg) → ¬ (M 61 11) ≤ (M 61 16) → vp_in (M 61 16) 200) (h16 : (M 61 11) ≤ (M 61 16) → (M 61 11) ≤ (M 61 16) → ¬ (M 61 11) ≤ (M 61 16) → ¬ p_X7_isSmall (M 69 (M 61 16).toNatClampNeg) → ¬ (M 61 11) ≤ (M 61 16) → ¬ p_X7_isDigit (M 69 (M 61 16).toNatClampNeg) → o = none ∧ M' = (ea_up M 61 17 (M 61 16))) (h17 : (M 61 11) ≤ (M 61 16) → (M 61 11) ≤ (M 61 16) → ¬ (M 61 11) ≤ (M 61 16) → ¬ p_X7_isSmall (M 69 (M 61 16).toNatClampNeg) → ¬ (M 61 11) ≤ (M 61 16) → p_X7_isDigit (M 69 (M 61 16).toNatClampNeg) → ea_E k 165 [(0, .ref 61)] [] (ea_up M 61 17 (M 61 16))) (h18 : (M 61 11) ≤ (M 61 16) → (M 61 11) ≤ (M 61 16) → ¬ (M 61 11) ≤ (M 61 16) → p_X7_isSmall (M 69 (M 61 16).toNatClampNeg) → ea_E k 100 [(0, .ref 61)] [] (ea_up M 61 17 (M 61 16))) (h21 : (M 61 11) ≤ (M 61 16) → ¬ (M 61 11) ≤ (M 61 16) → (M 61 11) ≤ (M 61 16) → (M 61 11) ≤ (M 61 16) → o = none ∧ M' = (ea_up M 61 17 ((M 61 16) + (1 : Int32)))) (s22 : (M 61 11) ≤ (M 61 16) → ¬ (M 61 11) ≤ (M 61 16) → (M 61 11) ≤ (M 61 16) → ¬ (M 61 11) ≤ (M 61 16) → vp_in (M 61 16) 200) (h24 : (M 61 11) ≤ (M 61 16) → ¬ (M 61 11) ≤ (M 61 16) → (M 61 11) ≤ (M 61 16) → ¬ (M 61 11) ≤ (M 61 16) → ¬ p_X7_isDigit (M 69 (M 61 16).toNatClampNeg) → o = none ∧ M' = (ea_up M 61 17 ((M 61 16) + (1 : Int32)))) (h25 : (M 61 11) ≤ (M 61 16) → ¬ (M 61 11) ≤ (M 61 16) → (M 61 11) ≤ (M 61 16) → ¬ (M 61 11) ≤ (M 61 16) → p_X7_isDigit (M 69 (M 61 16).toNatClampNeg) → ea_E k 165 [(0, .ref 61)] [] (ea_up M 61 17 ((M 61 16) + (1 : Int32)))) (s26 : (M 61 11) ≤ (M 61 16) → ¬ (M 61 11) ≤ (M 61 16) → ¬ (M 61 11) ≤ (M 61 16) → vp_in (M 61 16) 200) (h29 : (M 61 11) ≤ (M 61 16) → ¬ (M 61 11) ≤ (M 61 16) → ¬ (M 61 11) ≤ (M 61 16) → ¬ p_X7_isSmall (M 69 (M 61 16).toNatClampNeg) → (M 61 11) ≤ (M 61 16) → o = none ∧ M' = (ea_up M 61 17 ((M 61 16) + (1 : Int32)))) (s30 : (M 61 11) ≤ (M 61 16) → ¬ (M 61 11) ≤ (M 61 16) → ¬ (M 61 11) ≤ (M 61 16) → ¬ p_X7_isSmall (M 69 (M 61 16).toNatClampNeg) → ¬ (M 61 11) ≤ (M 61 16) → vp_in (M 61 16) 200) (h32 : (M 61 11) ≤ (M 61 16) → ¬ (M 61 11) ≤ (M 61 16) → ¬ (M 61 11) ≤ (M 61 16) → ¬ p_X7_isSmall (M 69 (M 61 16).toNatClampNeg) → ¬ (M 61 11) ≤ (M 61 16) → ¬ p_X7_isDigit (M 69 (M 61 16).toNatClampNeg) → o = none ∧ M' = (ea_up M 61 17 ((M 61 16) + (1 : Int32)))) (h33 : (M 61 11) ≤ (M 61 16) → ¬ (M 61 11) ≤ (M 61 16) → ¬ (M 61 11) ≤ (M 61 16) → ¬ p_X7_isSmall (M 69 (M 61 16).toNatClampNeg) → ¬ (M 61 11) ≤ (M 61 16) → p_X7_isDigit (M 69 (M 61 16).toNatClampNeg) → ea_E k 165 [(0, .ref 61)] [] (ea_up M 61 17 ((M 61 16) + (1 : Int32)))) (h34 : (M 61 11) ≤ (M 61 16) → ¬ (M 61 11) ≤ (M 61 16) → ¬ (M 61 11) ≤ (M 61 16) → p_X7_isSmall (M 69 (M 61 16).toNatClampNeg) → ea_E k 100 [(0, .ref 61)] [] (ea_up M 61 17 ((M 61 16) + (1 : Int32)))) (s35 : ¬ (M 61 11) ≤ (M 61 16) → vp_in (M 61 16) 200) (h40 : ¬ (M 61 11) ≤ (M 61 16) → ¬ (M 69 (M 61 16).toNatClampNeg) = (32 : Int32) → (M 61 11) ≤ (M 61 16) → (M 61 11) ≤ (M 61 16) → (M 61 11) ≤ (M 61 16) → o = none ∧ M' = (ea_up M 61 17 (M 61 16))) (s41 : ¬ (M 61 11) ≤ (M 61 16) → ¬ (M 69 (M 61 16).toNatClampNeg) = (32 : Int32) → (M 61 11) ≤ (M 61 16) → (M 61 11) ≤ (M 61 16) → ¬ (M 61 11) ≤ (M 61 16) → vp_in (M 61 16) 200) (h43 : ¬ (M 61 11) ≤ (M 61 16) → ¬ (M 69 (M 61 16).toNatClampNeg) = (32 : Int32) → (M 61 11) ≤ (M 61 16) → (M 61 11) ≤ (M 61 16) → ¬ (M 61 11) ≤ (M 61 16) → ¬ p_X7_isDigit (M 69 (M 61 16).toNatClampNeg) → o = none ∧ M' = (ea_up M 61 17 (M 61 16))) (h44 : ¬ (M 61 11) ≤ (M 61 16) → ¬ (M 69 (M 61 16).toNatClampNeg) = (32 : Int32) → (M 61 11) ≤ (M 61 16) → (M 61 11) ≤ (M 61 16) → ¬ (M 61 11) ≤ (M 61 16) → p_X7_isDigit (M 69 (M 61 16).toNatClampNeg) → ea_E k 165 [(0, .ref 61)] [] (ea_up M 61 17 (M 61 16))) (s45 : ¬ (M 61 11) ≤ (M 61 16) → ¬ (M 69 (M 61 16).toNatClampNeg) = (32 : Int32) → (M 61 11) ≤ (M 61 16) → ¬ (M 61 11) ≤ (M 61 16) → vp_in (M 61 16) 200) (h48 : ¬ (M 61 11) ≤ (M 61 16) → ¬ (M 69 (M 61 16).toNatClampNeg) = (32 : Int32) → (M 61 11) ≤ (M 61 16) → ¬ (M 61 11) ≤ (M 61 16) → ¬ p_X7_isSmall (M 69 (M 61 16).toNatClampNeg) → (M 61 11) ≤ (M 61 16) → o = none ∧ M' = (ea_up M 61 17 (M 61 16))) (s49 : ¬ (M 61 11) ≤ (M 61 16) → ¬ (M 69 (M 61 16).toNatClampNeg) = (32 : Int32) → (M 61 11) ≤ (M 61 16) → ¬ (M 61 11) ≤ (M 61 16) → ¬ p_X7_isSmall (M 69 (M 61 16).toNatClampNeg) → ¬ (M 61 11) ≤ (M 61 16) → vp_in (M 61 16) 200) (h51 : ¬ (M 61 11) ≤ (M 61 16) → ¬ (M 69 (M 61 16).toNatClampNeg) = (32 : Int32) → (M 61 11) ≤ (M 61 16) → ¬ (M 61 11) ≤ (M 61 16) → ¬ p_X7_isSmall (M 69 (M 61 16).toNatClampNeg) → ¬ (M 61 11) ≤ (M 61 16) → ¬ p_X7_isDigit (M 69 (M 61 16).toNatClampNeg) → o = none ∧ M' = (ea_up M 61 17 (M 61 16))) (h52 : ¬ (M 61 11) ≤ (M 61 16) → ¬ (M 69 (M 61 16).toNatClampNeg) = (32 : Int32) → (M 61 11) ≤ (M 61 16) → ¬ (M 61 11) ≤ (M 61 16) → ¬ p_X7_isSmall (M 69 (M 61 16).toNatClampNeg) → ¬ (M 61 11) ≤ (M 61 16) → p_X7_isDigit (M 69 (M 61 16).toNatClampNeg) → ea_E k 165 [(0, .ref 61)] [] (ea_up M 61 17 (M 61 16))) (h53 : ¬ (M 61 11) ≤ (M 61 16) → ¬ (M 69 (M 61 16).toNatClampNeg) = (32 : Int32) → (M 61 11) ≤ (M 61 16) → ¬ (M 61 11) ≤ (M 61 16) → p_X7_isSmall (M 69 (M 61 16).toNatClampNeg) → ea_E k 100 [(0, .ref 61)] [] (ea_up M 61 17 (M 61 16))) (h56 : ¬ (M 61 11) ≤ (M 61 16) → ¬ (M 69 (M 61 16).toNatClampNeg) = (32 : Int32) → ¬ (M 61 11) ≤ (M 61 16) → (M 61 11) ≤ (M 61 16) → (M 61 11) ≤ (M 61 16) → o = none ∧ M' = (ea_up M 61 17 ((M 61 16) + (1 : Int32)))) (s57 : ¬ (M 61 11) ≤ (M 61 16) → ¬ (M 69 (M 61 16).toNatClampNeg) = (32 : Int32) → ¬ (M 61 11) ≤ (M 61 16) → (M 61 11) ≤ (M 61 16) → ¬ (M 61 11) ≤ (M 61 16) → vp_in (M 61 16) 200) (h59 : ¬ (M 61 11) ≤ (M 61 16) → ¬ (M 69 (M 61 16).toNatClampNeg) = (32 : Int32) → ¬ (M 61 11) ≤ (M 61 16) → (M 61 11) ≤ (M 61 16) → ¬ (M 61 11) ≤ (M 61 16) → ¬ p_X7_isDigit (M 69 (M 61 16).toNatClampNeg) → o = none ∧ M' = (ea_up M 61 17 ((M 61 16) + (1 : Int32)))) (h60 : ¬ (M 61 11) ≤ (M 61 16) → ¬ (M 69 (M 61 16).toNatClampNeg) = (32 : Int32) → ¬ (M 61 11) ≤ (M 61 16) → (M 61 11) ≤ (M 61 16) → ¬ (M 61 11) ≤ (M 61 16) → p_X7_isDigit (M 69 (M 61 16).toNatClampNeg) → ea_E k 165 [(0, .ref 61)] [] (ea_up M 61 17 ((M 61 16) + (1 : Int32)))) (s61 : ¬ (M 61 11) ≤ (M 61 16) → ¬ (M 69 (M 61 16).toNatClampNeg) = (32 : Int32) → ¬ (M 61 11) ≤ (M 61 16) → ¬ (M 61 11) ≤ (M 61 16) → vp_in (M 61 16) 200) (h64 : ¬ (M 61 11) ≤ (M 61 16) → ¬ (M 69 (M 61 16).toNatClampNeg) = (32 : Int32) → ¬ (M 61 11) ≤ (M 61 16) → ¬ (M 61 11) ≤ (M 61 16) → ¬ p_X7_isSmall (M 69 (M 61 16).toNatClampNeg) → (M 61 11) ≤ (M 61 16) → o = none ∧ M' = (ea_up M 61 17 ((M 61 16) + (1 : Int32)))) (s65 : ¬ (M 61 11) ≤ (M 61 16) → ¬ (M 69 (M 61 16).toNatClampNeg) = (32 : Int32) → ¬ (M 61 11) ≤ (M 61 16) → ¬ (M 61 11) ≤ (M 61 16) → ¬ p_X7_isSmall (M 69 (M 61 16).toNatClampNeg) → ¬ (M 61 11) ≤ (M 61 16) → vp_in (M 61 16) 200) (h67 : ¬ (M 61 11) ≤ (M 61 16) → ¬ (M 69 (M 61 16).toNatClampNeg) = (32 : Int32) → ¬ (M 61 11) ≤ (M 61 16) → ¬ (M 61 11) ≤ (M 61 16) → ¬ p_X7_isSmall (M 69 (M 61 16).toNatClampNeg) → ¬ (M 61 11) ≤ (M 61 16) → ¬ p_X7_isDigit (M 69 (M 61 16).toNatClampNeg) → o = none ∧ M' = (ea_up M 61 17 ((M 61 16) + (1 : Int32)))) (h68 : ¬ (M 61 11) ≤ (M 61 16) → ¬ (M 69 (M 61 16).toNatClampNeg) = (32 : Int32) → ¬ (M 61 11) ≤ (M 61 16) → ¬ (M 61 11) ≤ (M 61 16) → ¬ p_X7_isSmall (M 69 (M 61 16).toNatClampNeg) → ¬ (M 61 11) ≤ (M 61 16) → p_X7_isDigit (M 69 (M 61 16).toNatClampNeg) → ea_E k 165 [(0, .ref 61)] [] (ea_up M 61 17 ((M 61 16) + (1 : Int32)))) (h69 : ¬ (M 61 11) ≤ (M 61 16) → ¬ (M 69 (M 61 16).toNatClampNeg) = (32 : Int32) → ¬ (M 61 11) ≤ (M 61 16) → ¬ (M 61 11) ≤ (M 61 16) → p_X7_isSmall (M 69 (M 61 16).toNatClampNeg) → ea_E k 100 [(0, .ref 61)] [] (ea_up M 61 17 ((M 61 16) + (1 : Int32)))) (h70 : ¬ (M 61 11) ≤ (M 61 16) → (M 69 (M 61 16).toNatClampNeg) = (32 : Int32) → ea_E k 8 [(0, .ref 61)] [] (ea_up M 61 16 ((M 61 16) + (1 : Int32)))) : ea_E k 8 [(0, .ref 61)] [] M := by
  refine e_aload_n (n := 0) C dX7_nextToken_8 rfl rfl ?_
  refine e_get (v := .int (M 61 16)) C fd_X7_85 (by decide) rfl rfl dX7_nextToken_9 ?_
  refine e_aload_n (n := 0) C dX7_nextToken_12 rfl rfl ?_
  refine e_get (v := .int (M 61 11)) C fd_X7_69 (by decide) rfl rfl dX7_nextToken_13 ?_
  refine e_icmp_ge (tgt := 46) C dX7_nextToken_16 (by decide) (fun c1 => ?_) (fun c1 => ?_)
  · refine e_aload_n (n := 0) C dX7_nextToken_46 rfl rfl ?_
    refine e_aload_n (n := 0) C dX7_nextToken_47 rfl rfl ?_
    refine e_get (v := .int (M 61 16)) C fd_X7_85 (by decide) rfl rfl dX7_nextToken_48 ?_
    refine e_aload_n (n := 0) C dX7_nextToken_51 rfl rfl ?_
    refine e_get (v := .int (M 61 11)) C fd_X7_69 (by decide) rfl rfl dX7_nextToken_52 ?_
    refine e_icmp_ge (tgt := 67) C dX7_nextToken_55 (by decide) (fun c2 => ?_) (fun c2 => ?_)
    · refine e_aload_n (n := 0) C dX7_nextToken_67 rfl rfl ?_
      refine e_get (v := .int (M 61 16)) C fd_X7_85 (by decide) rfl rfl dX7_nextToken_68 ?_
      refine e_put (ty := .int) C fd_X7_82 (by decide) rfl rfl (by decide +kernel) (vp_nar_int _) rfl (ea_set7_17 _ _ _) dX7_nextToken_71 ?_
      refine e_aload_n (n := 0) C dX7_nextToken_74 rfl rfl ?_
      refine e_get (v := .int (M 61 16)) C fd_X7_85 (by decide) rfl (congrArg (fun z => some (Value.int z)) (by simp [ea_upR, ea_upS, ea_upK, pa_setR, pa_cpR, fr_X3_add, fr_X5_forget, fr_X5_become, fr_X4_clear, fr_X4_addStuff, fr_X4_become_d, fr_X4_become_s, fr_X0_enter, fr_X0_remove, fr_X7_erase] : (ea_up M 61 17 (M 61 16)) 61 16 = (M 61 16))) dX7_nextToken_75 ?_
      refine e_aload_n (n := 0) C dX7_nextToken_78 rfl rfl ?_
      refine e_get (v := .int (M 61 11)) C fd_X7_69 (by decide) rfl (congrArg (fun z => some (Value.int z)) (by simp [ea_upR, ea_upS, ea_upK, pa_setR, pa_cpR, fr_X3_add, fr_X5_forget, fr_X5_become, fr_X4_clear, fr_X4_addStuff, fr_X4_become_d, fr_X4_become_s, fr_X0_enter, fr_X0_remove, fr_X7_erase] : (ea_up M 61 17 (M 61 16)) 61 11 = (M 61 11))) dX7_nextToken_79 ?_
      refine e_icmp_ge (tgt := 139) C dX7_nextToken_82 (by decide) (fun c3 => ?_) (fun c3 => ?_)
      · refine e_aload_n (n := 0) C dX7_nextToken_139 rfl rfl ?_
        refine e_get (v := .int (M 61 16)) C fd_X7_85 (by decide) rfl (congrArg (fun z => some (Value.int z)) (by simp [ea_upR, ea_upS, ea_upK, pa_setR, pa_cpR, fr_X3_add, fr_X5_forget, fr_X5_become, fr_X4_clear, fr_X4_addStuff, fr_X4_become_d, fr_X4_become_s, fr_X0_enter, fr_X0_remove, fr_X7_erase] : (ea_up M 61 17 (M 61 16)) 61 16 = (M 61 16))) dX7_nextToken_140 ?_
        refine e_aload_n (n := 0) C dX7_nextToken_143 rfl rfl ?_
        refine e_get (v := .int (M 61 11)) C fd_X7_69 (by decide) rfl (congrArg (fun z => some (Value.int z)) (by simp [ea_upR, ea_upS, ea_upK, pa_setR, pa_cpR, fr_X3_add, fr_X5_forget, fr_X5_become, fr_X4_clear, fr_X4_addStuff, fr_X4_become_d, fr_X4_become_s, fr_X0_enter, fr_X0_remove, fr_X7_erase] : (ea_up M 61 17 (M 61 16)) 61 11 = (M 61 11))) dX7_nextToken_144 ?_
        refine e_icmp_ge (tgt := 204) C dX7_nextToken_147 (by decide) (fun c4 => ?_) (fun c4 => ?_)
        · exact e_vret C X dX7_nextToken_204 (h5 c1 c2 c3 c4)
        · refine e_aload_n (n := 0) C dX7_nextToken_150 rfl rfl ?_
          refine e_get (v := .ref 69) C fd_X7_32 (by decide) rfl rfl dX7_nextToken_151 ?_
          refine e_aload_n (n := 0) C dX7_nextToken_154 rfl rfl ?_
          refine e_get (v := .int (M 61 16)) C fd_X7_85 (by decide) rfl (congrArg (fun z => some (Value.int z)) (by simp [ea_upR, ea_upS, ea_upK, pa_setR, pa_cpR, fr_X3_add, fr_X5_forget, fr_X5_become, fr_X4_clear, fr_X4_addStuff, fr_X4_become_d, fr_X4_become_s, fr_X0_enter, fr_X0_remove, fr_X7_erase] : (ea_up M 61 17 (M 61 16)) 61 16 = (M 61 16))) dX7_nextToken_155 ?_
          refine e_ialdV (n := 200) (r := M 69) (by simp [ea_upR, ea_upS, ea_upK, pa_setR, pa_cpR, fr_X3_add, fr_X5_forget, fr_X5_become, fr_X4_clear, fr_X4_addStuff, fr_X4_become_d, fr_X4_become_s, fr_X0_enter, fr_X0_remove, fr_X7_erase]) C (by decide) rfl (by decide) (s6 c1 c2 c3 c4) dX7_nextToken_158 ?_
          refine e_callS1 (as := [.int (M 69 (M 61 16).toNatClampNeg)]) (rest := []) C lk_X7_92 (sp_X7_isDigit (M := (ea_up M 61 17 (M 61 16))) (i := (M 69 (M 61 16).toNatClampNeg)) ) (by decide) rfl rfl (Nat.le_of_ble_eq_true rfl) dX7_nextToken_159 ?_
          refine e_ifb_eq (tgt := 204) C dX7_nextToken_162 (by decide) (fun c7 => ?_) (fun c7 => ?_)
          · exact e_vret C X dX7_nextToken_204 (h8 c1 c2 c3 c4 c7)
          · exact (h9 c1 c2 c3 c4 c7)
      · refine e_aload_n (n := 0) C dX7_nextToken_85 rfl rfl ?_
        refine e_get (v := .ref 69) C fd_X7_32 (by decide) rfl rfl dX7_nextToken_86 ?_
        refine e_aload_n (n := 0) C dX7_nextToken_89 rfl rfl ?_
        refine e_get (v := .int (M 61 16)) C fd_X7_85 (by decide) rfl (congrArg (fun z => some (Value.int z)) (by simp [ea_upR, ea_upS, ea_upK, pa_setR, pa_cpR, fr_X3_add, fr_X5_forget, fr_X5_become, fr_X4_clear, fr_X4_addStuff, fr_X4_become_d, fr_X4_become_s, fr_X0_enter, fr_X0_remove, fr_X7_erase] : (ea_up M 61 17 (M 61 16)) 61 16 = (M 61 16))) dX7_nextToken_90 ?_
        refine e_ialdV (n := 200) (r := M 69) (by simp [ea_upR, ea_upS, ea_upK, pa_setR, pa_cpR, fr_X3_add, fr_X5_forget, fr_X5_become, fr_X4_clear, fr_X4_addStuff, fr_X4_become_d, fr_X4_become_s, fr_X0_enter, fr_X0_remove, fr_X7_erase]) C (by decide) rfl (by decide) (s10 c1 c2 c3) dX7_nextToken_93 ?_
        refine e_callS1 (as := [.int (M 69 (M 61 16).toNatClampNeg)]) (rest := []) C lk_X7_88 (sp_X7_isSmall (M := (ea_up M 61 17 (M 61 16))) (i := (M 69 (M 61 16).toNatClampNeg)) ) (by decide) rfl rfl (Nat.le_of_ble_eq_true rfl) dX7_nextToken_94 ?_
        refine e_ifb_eq (tgt := 139) C dX7_nextToken_97 (by decide) (fun c11 => ?_) (fun c11 => ?_)
        · refine e_aload_n (n := 0) C dX7_nextToken_139 rfl rfl ?_
          refine e_get (v := .int (M 61 16)) C fd_X7_85 (by decide) rfl (congrArg (fun z => some (Value.int z)) (by simp [ea_upR, ea_upS, ea_upK, pa_setR, pa_cpR, fr_X3_add, fr_X5_forget, fr_X5_become, fr_X4_clear, fr_X4_addStuff, fr_X4_become_d, fr_X4_become_s, fr_X0_enter, fr_X0_remove, fr_X7_erase] : (ea_up M 61 17 (M 61 16)) 61 16 = (M 61 16))) dX7_nextToken_140 ?_
          refine e_aload_n (n := 0) C dX7_nextToken_143 rfl rfl ?_
          refine e_get (v := .int (M 61 11)) C fd_X7_69 (by decide) rfl (congrArg (fun z => some (Value.int z)) (by simp [ea_upR, ea_upS, ea_upK, pa_setR, pa_cpR, fr_X3_add, fr_X5_forget, fr_X5_become, fr_X4_clear, fr_X4_addStuff, fr_X4_become_d, fr_X4_become_s, fr_X0_enter, fr_X0_remove, fr_X7_erase] : (ea_up M 61 17 (M 61 16)) 61 11 = (M 61 11))) dX7_nextToken_144 ?_
          refine e_icmp_ge (tgt := 204) C dX7_nextToken_147 (by decide) (fun c12 => ?_) (fun c12 => ?_)
          · exact e_vret C X dX7_nextToken_204 (h13 c1 c2 c3 c11 c12)
          · refine e_aload_n (n := 0) C dX7_nextToken_150 rfl rfl ?_
            refine e_get (v := .ref 69) C fd_X7_32 (by decide) rfl rfl dX7_nextToken_151 ?_
            refine e_aload_n (n := 0) C dX7_nextToken_154 rfl rfl ?_
            refine e_get (v := .int (M 61 16)) C fd_X7_85 (by decide) rfl (congrArg (fun z => some (Value.int z)) (by simp [ea_upR, ea_upS, ea_upK, pa_setR, pa_cpR, fr_X3_add, fr_X5_forget, fr_X5_become, fr_X4_clear, fr_X4_addStuff, fr_X4_become_d, fr_X4_become_s, fr_X0_enter, fr_X0_remove, fr_X7_erase] : (ea_up M 61 17 (M 61 16)) 61 16 = (M 61 16))) dX7_nextToken_155 ?_
            refine e_ialdV (n := 200) (r := M 69) (by simp [ea_upR, ea_upS, ea_upK, pa_setR, pa_cpR, fr_X3_add, fr_X5_forget, fr_X5_become, fr_X4_clear, fr_X4_addStuff, fr_X4_become_d, fr_X4_become_s, fr_X0_enter, fr_X0_remove, fr_X7_erase]) C (by decide) rfl (by decide) (s14 c1 c2 c3 c11 c12) dX7_nextToken_158 ?_
            refine e_callS1 (as := [.int (M 69 (M 61 16).toNatClampNeg)]) (rest := []) C lk_X7_92 (sp_X7_isDigit (M := (ea_up M 61 17 (M 61 16))) (i := (M 69 (M 61 16).toNatClampNeg)) ) (by decide) rfl rfl (Nat.le_of_ble_eq_true rfl) dX7_nextToken_159 ?_
            refine e_ifb_eq (tgt := 204) C dX7_nextToken_162 (by decide) (fun c15 => ?_) (fun c15 => ?_)
            · exact e_vret C X dX7_nextToken_204 (h16 c1 c2 c3 c11 c12 c15)
            · exact (h17 c1 c2 c3 c11 c12 c15)
        · exact (h18 c1 c2 c3 c11)
    · refine e_aload_n (n := 0) C dX7_nextToken_58 rfl rfl ?_
      refine e_get (v := .int (M 61 16)) C fd_X7_85 (by decide) rfl rfl dX7_nextToken_59 ?_
      refine e_iconst (v := 1) C dX7_nextToken_62 (by decide) ?_
      refine e_iadd C dX7_nextToken_63 ?_
      refine e_goto (tgt := 71) C dX7_nextToken_64 (by decide) ?_
      refine e_put (ty := .int) C fd_X7_82 (by decide) rfl rfl (by decide +kernel) (vp_nar_int _) rfl (ea_set7_17 _ _ _) dX7_nextToken_71 ?_
      refine e_aload_n (n := 0) C dX7_nextToken_74 rfl rfl ?_
      refine e_get (v := .int (M 61 16)) C fd_X7_85 (by decide) rfl (congrArg (fun z => some (Value.int z)) (by simp [ea_upR, ea_upS, ea_upK, pa_setR, pa_cpR, fr_X3_add, fr_X5_forget, fr_X5_become, fr_X4_clear, fr_X4_addStuff, fr_X4_become_d, fr_X4_become_s, fr_X0_enter, fr_X0_remove, fr_X7_erase] : (ea_up M 61 17 ((M 61 16) + (1 : Int32))) 61 16 = (M 61 16))) dX7_nextToken_75 ?_
      refine e_aload_n (n := 0) C dX7_nextToken_78 rfl rfl ?_
      refine e_get (v := .int (M 61 11)) C fd_X7_69 (by decide) rfl (congrArg (fun z => some (Value.int z)) (by simp [ea_upR, ea_upS, ea_upK, pa_setR, pa_cpR, fr_X3_add, fr_X5_forget, fr_X5_become, fr_X4_clear, fr_X4_addStuff, fr_X4_become_d, fr_X4_become_s, fr_X0_enter, fr_X0_remove, fr_X7_erase] : (ea_up M 61 17 ((M 61 16) + (1 : Int32))) 61 11 = (M 61 11))) dX7_nextToken_79 ?_
      refine e_icmp_ge (tgt := 139) C dX7_nextToken_82 (by decide) (fun c19 => ?_) (fun c19 => ?_)
      · refine e_aload_n (n := 0) C dX7_nextToken_139 rfl rfl ?_
        refine e_get (v := .int (M 61 16)) C fd_X7_85 (by decide) rfl (congrArg (fun z => some (Value.int z)) (by simp [ea_upR, ea_upS, ea_upK, pa_setR, pa_cpR, fr_X3_add, fr_X5_forget, fr_X5_become, fr_X4_clear, fr_X4_addStuff, fr_X4_become_d, fr_X4_become_s, fr_X0_enter, fr_X0_remove, fr_X7_erase] : (ea_up M 61 17 ((M 61 16) + (1 : Int32))) 61 16 = (M 61 16))) dX7_nextToken_140 ?_
        refine e_aload_n (n := 0) C dX7_nextToken_143 rfl rfl ?_
        refine e_get (v := .int (M 61 11)) C fd_X7_69 (by decide) rfl (congrArg (fun z => some (Value.int z)) (by simp [ea_upR, ea_upS, ea_upK, pa_setR, pa_cpR, fr_X3_add, fr_X5_forget, fr_X5_become, fr_X4_clear, fr_X4_addStuff, fr_X4_become_d, fr_X4_become_s, fr_X0_enter, fr_X0_remove, fr_X7_erase] : (ea_up M 61 17 ((M 61 16) + (1 : Int32))) 61 11 = (M 61 11))) dX7_nextToken_144 ?_
        refine e_icmp_ge (tgt := 204) C dX7_nextToken_147 (by decide) (fun c20 => ?_) (fun c20 => ?_)
        · exact e_vret C X dX7_nextToken_204 (h21 c1 c2 c19 c20)
        · refine e_aload_n (n := 0) C dX7_nextToken_150 rfl rfl ?_
          refine e_get (v := .ref 69) C fd_X7_32 (by decide) rfl rfl dX7_nextToken_151 ?_
          refine e_aload_n (n := 0) C dX7_nextToken_154 rfl rfl ?_
          refine e_get (v := .int (M 61 16)) C fd_X7_85 (by decide) rfl (congrArg (fun z => some (Value.int z)) (by simp [ea_upR, ea_upS, ea_upK, pa_setR, pa_cpR, fr_X3_add, fr_X5_forget, fr_X5_become, fr_X4_clear, fr_X4_addStuff, fr_X4_become_d, fr_X4_become_s, fr_X0_enter, fr_X0_remove, fr_X7_erase] : (ea_up M 61 17 ((M 61 16) + (1 : Int32))) 61 16 = (M 61 16))) dX7_nextToken_155 ?_
          refine e_ialdV (n := 200) (r := M 69) (by simp [ea_upR, ea_upS, ea_upK, pa_setR, pa_cpR, fr_X3_add, fr_X5_forget, fr_X5_become, fr_X4_clear, fr_X4_addStuff, fr_X4_become_d, fr_X4_become_s, fr_X0_enter, fr_X0_remove, fr_X7_erase]) C (by decide) rfl (by decide) (s22 c1 c2 c19 c20) dX7_nextToken_158 ?_
          refine e_callS1 (as := [.int (M 69 (M 61 16).toNatClampNeg)]) (rest := []) C lk_X7_92 (sp_X7_isDigit (M := (ea_up M 61 17 ((M 61 16) + (1 : Int32)))) (i := (M 69 (M 61 16).toNatClampNeg)) ) (by decide) rfl rfl (Nat.le_of_ble_eq_true rfl) dX7_nextToken_159 ?_
          refine e_ifb_eq (tgt := 204) C dX7_nextToken_162 (by decide) (fun c23 => ?_) (fun c23 => ?_)
          · exact e_vret C X dX7_nextToken_204 (h24 c1 c2 c19 c20 c23)
          · exact (h25 c1 c2 c19 c20 c23)
      · refine e_aload_n (n := 0) C dX7_nextToken_85 rfl rfl ?_
        refine e_get (v := .ref 69) C fd_X7_32 (by decide) rfl rfl dX7_nextToken_86 ?_
        refine e_aload_n (n := 0) C dX7_nextToken_89 rfl rfl ?_
        refine e_get (v := .int (M 61 16)) C fd_X7_85 (by decide) rfl (congrArg (fun z => some (Value.int z)) (by simp [ea_upR, ea_upS, ea_upK, pa_setR, pa_cpR, fr_X3_add, fr_X5_forget, fr_X5_become, fr_X4_clear, fr_X4_addStuff, fr_X4_become_d, fr_X4_become_s, fr_X0_enter, fr_X0_remove, fr_X7_erase] : (ea_up M 61 17 ((M 61 16) + (1 : Int32))) 61 16 = (M 61 16))) dX7_nextToken_90 ?_
        refine e_ialdV (n := 200) (r := M 69) (by simp [ea_upR, ea_upS, ea_upK, pa_setR, pa_cpR, fr_X3_add, fr_X5_forget, fr_X5_become, fr_X4_clear, fr_X4_addStuff, fr_X4_become_d, fr_X4_become_s, fr_X0_enter, fr_X0_remove, fr_X7_erase]) C (by decide) rfl (by decide) (s26 c1 c2 c19) dX7_nextToken_93 ?_
        refine e_callS1 (as := [.int (M 69 (M 61 16).toNatClampNeg)]) (rest := []) C lk_X7_88 (sp_X7_isSmall (M := (ea_up M 61 17 ((M 61 16) + (1 : Int32)))) (i := (M 69 (M 61 16).toNatClampNeg)) ) (by decide) rfl rfl (Nat.le_of_ble_eq_true rfl) dX7_nextToken_94 ?_
        refine e_ifb_eq (tgt := 139) C dX7_nextToken_97 (by decide) (fun c27 => ?_) (fun c27 => ?_)
        · refine e_aload_n (n := 0) C dX7_nextToken_139 rfl rfl ?_
          refine e_get (v := .int (M 61 16)) C fd_X7_85 (by decide) rfl (congrArg (fun z => some (Value.int z)) (by simp [ea_upR, ea_upS, ea_upK, pa_setR, pa_cpR, fr_X3_add, fr_X5_forget, fr_X5_become, fr_X4_clear, fr_X4_addStuff, fr_X4_become_d, fr_X4_become_s, fr_X0_enter, fr_X0_remove, fr_X7_erase] : (ea_up M 61 17 ((M 61 16) + (1 : Int32))) 61 16 = (M 61 16))) dX7_nextToken_140 ?_
          refine e_aload_n (n := 0) C dX7_nextToken_143 rfl rfl ?_
          refine e_get (v := .int (M 61 11)) C fd_X7_69 (by decide) rfl (congrArg (fun z => some (Value.int z)) (by simp [ea_upR, ea_upS, ea_upK, pa_setR, pa_cpR, fr_X3_add, fr_X5_forget, fr_X5_become, fr_X4_clear, fr_X4_addStuff, fr_X4_become_d, fr_X4_become_s, fr_X0_enter, fr_X0_remove, fr_X7_erase] : (ea_up M 61 17 ((M 61 16) + (1 : Int32))) 61 11 = (M 61 11))) dX7_nextToken_144 ?_
          refine e_icmp_ge (tgt := 204) C dX7_nextToken_147 (by decide) (fun c28 => ?_) (fun c28 => ?_)
          · exact e_vret C X dX7_nextToken_204 (h29 c1 c2 c19 c27 c28)
          · refine e_aload_n (n := 0) C dX7_nextToken_150 rfl rfl ?_
            refine e_get (v := .ref 69) C fd_X7_32 (by decide) rfl rfl dX7_nextToken_151 ?_
            refine e_aload_n (n := 0) C dX7_nextToken_154 rfl rfl ?_
            refine e_get (v := .int (M 61 16)) C fd_X7_85 (by decide) rfl (congrArg (fun z => some (Value.int z)) (by simp [ea_upR, ea_upS, ea_upK, pa_setR, pa_cpR, fr_X3_add, fr_X5_forget, fr_X5_become, fr_X4_clear, fr_X4_addStuff, fr_X4_become_d, fr_X4_become_s, fr_X0_enter, fr_X0_remove, fr_X7_erase] : (ea_up M 61 17 ((M 61 16) + (1 : Int32))) 61 16 = (M 61 16))) dX7_nextToken_155 ?_
            refine e_ialdV (n := 200) (r := M 69) (by simp [ea_upR, ea_upS, ea_upK, pa_setR, pa_cpR, fr_X3_add, fr_X5_forget, fr_X5_become, fr_X4_clear, fr_X4_addStuff, fr_X4_become_d, fr_X4_become_s, fr_X0_enter, fr_X0_remove, fr_X7_erase]) C (by decide) rfl (by decide) (s30 c1 c2 c19 c27 c28) dX7_nextToken_158 ?_
            refine e_callS1 (as := [.int (M 69 (M 61 16).toNatClampNeg)]) (rest := []) C lk_X7_92 (sp_X7_isDigit (M := (ea_up M 61 17 ((M 61 16) + (1 : Int32)))) (i := (M 69 (M 61 16).toNatClampNeg)) ) (by decide) rfl rfl (Nat.le_of_ble_eq_true rfl) dX7_nextToken_159 ?_
            refine e_ifb_eq (tgt := 204) C dX7_nextToken_162 (by decide) (fun c31 => ?_) (fun c31 => ?_)
            · exact e_vret C X dX7_nextToken_204 (h32 c1 c2 c19 c27 c28 c31)
            · exact (h33 c1 c2 c19 c27 c28 c31)
        · exact (h34 c1 c2 c19 c27)
  · refine e_aload_n (n := 0) C dX7_nextToken_19 rfl rfl ?_
    refine e_get (v := .ref 69) C fd_X7_32 (by decide) rfl rfl dX7_nextToken_20 ?_
    refine e_aload_n (n := 0) C dX7_nextToken_23 rfl rfl ?_
    refine e_get (v := .int (M 61 16)) C fd_X7_85 (by decide) rfl rfl dX7_nextToken_24 ?_
    refine e_iald (n := 200) C (by decide) rfl (by decide) (s35 c1) dX7_nextToken_27 ?_
    refine e_bipush (v := 32) C dX7_nextToken_28 (by decide) ?_
    refine e_icmp_ne (tgt := 46) C dX7_nextToken_30 (by decide) (fun c36 => ?_) (fun c36 => ?_)
    · refine e_aload_n (n := 0) C dX7_nextToken_46 rfl rfl ?_
      refine e_aload_n (n := 0) C dX7_nextToken_47 rfl rfl ?_
      refine e_get (v := .int (M 61 16)) C fd_X7_85 (by decide) rfl rfl dX7_nextToken_48 ?_
      refine e_aload_n (n := 0) C dX7_nextToken_51 rfl rfl ?_
      refine e_get (v := .int (M 61 11)) C fd_X7_69 (by decide) rfl rfl dX7_nextToken_52 ?_
      refine e_icmp_ge (tgt := 67) C dX7_nextToken_55 (by decide) (fun c37 => ?_) (fun c37 => ?_)
      · refine e_aload_n (n := 0) C dX7_nextToken_67 rfl rfl ?_
        refine e_get (v := .int (M 61 16)) C fd_X7_85 (by decide) rfl rfl dX7_nextToken_68 ?_
        refine e_put (ty := .int) C fd_X7_82 (by decide) rfl rfl (by decide +kernel) (vp_nar_int _) rfl (ea_set7_17 _ _ _) dX7_nextToken_71 ?_
        refine e_aload_n (n := 0) C dX7_nextToken_74 rfl rfl ?_
        refine e_get (v := .int (M 61 16)) C fd_X7_85 (by decide) rfl (congrArg (fun z => some (Value.int z)) (by simp [ea_upR, ea_upS, ea_upK, pa_setR, pa_cpR, fr_X3_add, fr_X5_forget, fr_X5_become, fr_X4_clear, fr_X4_addStuff, fr_X4_become_d, fr_X4_become_s, fr_X0_enter, fr_X0_remove, fr_X7_erase] : (ea_up M 61 17 (M 61 16)) 61 16 = (M 61 16))) dX7_nextToken_75 ?_
        refine e_aload_n (n := 0) C dX7_nextToken_78 rfl rfl ?_
        refine e_get (v := .int (M 61 11)) C fd_X7_69 (by decide) rfl (congrArg (fun z => some (Value.int z)) (by simp [ea_upR, ea_upS, ea_upK, pa_setR, pa_cpR, fr_X3_add, fr_X5_forget, fr_X5_become, fr_X4_clear, fr_X4_addStuff, fr_X4_become_d, fr_X4_become_s, fr_X0_enter, fr_X0_remove, fr_X7_erase] : (ea_up M 61 17 (M 61 16)) 61 11 = (M 61 11))) dX7_nextToken_79 ?_
        refine e_icmp_ge (tgt := 139) C dX7_nextToken_82 (by decide) (fun c38 => ?_) (fun c38 => ?_)
        · refine e_aload_n (n := 0) C dX7_nextToken_139 rfl rfl ?_
          refine e_get (v := .int (M 61 16)) C fd_X7_85 (by decide) rfl (congrArg (fun z => some (Value.int z)) (by simp [ea_upR, ea_upS, ea_upK, pa_setR, pa_cpR, fr_X3_add, fr_X5_forget, fr_X5_become, fr_X4_clear, fr_X4_addStuff, fr_X4_become_d, fr_X4_become_s, fr_X0_enter, fr_X0_remove, fr_X7_erase] : (ea_up M 61 17 (M 61 16)) 61 16 = (M 61 16))) dX7_nextToken_140 ?_
          refine e_aload_n (n := 0) C dX7_nextToken_143 rfl rfl ?_
          refine e_get (v := .int (M 61 11)) C fd_X7_69 (by decide) rfl (congrArg (fun z => some (Value.int z)) (by simp [ea_upR, ea_upS, ea_upK, pa_setR, pa_cpR, fr_X3_add, fr_X5_forget, fr_X5_become, fr_X4_clear, fr_X4_addStuff, fr_X4_become_d, fr_X4_become_s, fr_X0_enter, fr_X0_remove, fr_X7_erase] : (ea_up M 61 17 (M 61 16)) 61 11 = (M 61 11))) dX7_nextToken_144 ?_
          refine e_icmp_ge (tgt := 204) C dX7_nextToken_147 (by decide) (fun c39 => ?_) (fun c39 => ?_)
          · exact e_vret C X dX7_nextToken_204 (h40 c1 c36 c37 c38 c39)
          · refine e_aload_n (n := 0) C dX7_nextToken_150 rfl rfl ?_
            refine e_get (v := .ref 69) C fd_X7_32 (by decide) rfl rfl dX7_nextToken_151 ?_
            refine e_aload_n (n := 0) C dX7_nextToken_154 rfl rfl ?_
            refine e_get (v := .int (M 61 16)) C fd_X7_85 (by decide) rfl (congrArg (fun z => some (Value.int z)) (by simp [ea_upR, ea_upS, ea_upK, pa_setR, pa_cpR, fr_X3_add, fr_X5_forget, fr_X5_become, fr_X4_clear, fr_X4_addStuff, fr_X4_become_d, fr_X4_become_s, fr_X0_enter, fr_X0_remove, fr_X7_erase] : (ea_up M 61 17 (M 61 16)) 61 16 = (M 61 16))) dX7_nextToken_155 ?_
            refine e_ialdV (n := 200) (r := M 69) (by simp [ea_upR, ea_upS, ea_upK, pa_setR, pa_cpR, fr_X3_add, fr_X5_forget, fr_X5_become, fr_X4_clear, fr_X4_addStuff, fr_X4_become_d, fr_X4_become_s, fr_X0_enter, fr_X0_remove, fr_X7_erase]) C (by decide) rfl (by decide) (s41 c1 c36 c37 c38 c39) dX7_nextToken_158 ?_
            refine e_callS1 (as := [.int (M 69 (M 61 16).toNatClampNeg)]) (rest := []) C lk_X7_92 (sp_X7_isDigit (M := (ea_up M 61 17 (M 61 16))) (i := (M 69 (M 61 16).toNatClampNeg)) ) (by decide) rfl rfl (Nat.le_of_ble_eq_true rfl) dX7_nextToken_159 ?_
            refine e_ifb_eq (tgt := 204) C dX7_nextToken_162 (by decide) (fun c42 => ?_) (fun c42 => ?_)
            · exact e_vret C X dX7_nextToken_204 (h43 c1 c36 c37 c38 c39 c42)
            · exact (h44 c1 c36 c37 c38 c39 c42)
        · refine e_aload_n (n := 0) C dX7_nextToken_85 rfl rfl ?_
          refine e_get (v := .ref 69) C fd_X7_32 (by decide) rfl rfl dX7_nextToken_86 ?_
          refine e_aload_n (n := 0) C dX7_nextToken_89 rfl rfl ?_
          refine e_get (v := .int (M 61 16)) C fd_X7_85 (by decide) rfl (congrArg (fun z => some (Value.int z)) (by simp [ea_upR, ea_upS, ea_upK, pa_setR, pa_cpR, fr_X3_add, fr_X5_forget, fr_X5_become, fr_X4_clear, fr_X4_addStuff, fr_X4_become_d, fr_X4_become_s, fr_X0_enter, fr_X0_remove, fr_X7_erase] : (ea_up M 61 17 (M 61 16)) 61 16 = (M 61 16))) dX7_nextToken_90 ?_
          refine e_ialdV (n := 200) (r := M 69) (by simp [ea_upR, ea_upS, ea_upK, pa_setR, pa_cpR, fr_X3_add, fr_X5_forget, fr_X5_become, fr_X4_clear, fr_X4_addStuff, fr_X4_become_d, fr_X4_become_s, fr_X0_enter, fr_X0_remove, fr_X7_erase]) C (by decide) rfl (by decide) (s45 c1 c36 c37 c38) dX7_nextToken_93 ?_
          refine e_callS1 (as := [.int (M 69 (M 61 16).toNatClampNeg)]) (rest := []) C lk_X7_88 (sp_X7_isSmall (M := (ea_up M 61 17 (M 61 16))) (i := (M 69 (M 61 16).toNatClampNeg)) ) (by decide) rfl rfl (Nat.le_of_ble_eq_true rfl) dX7_nextToken_94 ?_
          refine e_ifb_eq (tgt := 139) C dX7_nextToken_97 (by decide) (fun c46 => ?_) (fun c46 => ?_)
          · refine e_aload_n (n := 0) C dX7_nextToken_139 rfl rfl ?_
            refine e_get (v := .int (M 61 16)) C fd_X7_85 (by decide) rfl (congrArg (fun z => some (Value.int z)) (by simp [ea_upR, ea_upS, ea_upK, pa_setR, pa_cpR, fr_X3_add, fr_X5_forget, fr_X5_become, fr_X4_clear, fr_X4_addStuff, fr_X4_become_d, fr_X4_become_s, fr_X0_enter, fr_X0_remove, fr_X7_erase] : (ea_up M 61 17 (M 61 16)) 61 16 = (M 61 16))) dX7_nextToken_140 ?_
            refine e_aload_n (n := 0) C dX7_nextToken_143 rfl rfl ?_
            refine e_get (v := .int (M 61 11)) C fd_X7_69 (by decide) rfl (congrArg (fun z => some (Value.int z)) (by simp [ea_upR, ea_upS, ea_upK, pa_setR, pa_cpR, fr_X3_add, fr_X5_forget, fr_X5_become, fr_X4_clear, fr_X4_addStuff, fr_X4_become_d, fr_X4_become_s, fr_X0_enter, fr_X0_remove, fr_X7_erase] : (ea_up M 61 17 (M 61 16)) 61 11 = (M 61 11))) dX7_nextToken_144 ?_
            refine e_icmp_ge (tgt := 204) C dX7_nextToken_147 (by decide) (fun c47 => ?_) (fun c47 => ?_)
            · exact e_vret C X dX7_nextToken_204 (h48 c1 c36 c37 c38 c46 c47)
            · refine e_aload_n (n := 0) C dX7_nextToken_150 rfl rfl ?_
              refine e_get (v := .ref 69) C fd_X7_32 (by decide) rfl rfl dX7_nextToken_151 ?_
              refine e_aload_n (n := 0) C dX7_nextToken_154 rfl rfl ?_
              refine e_get (v := .int (M 61 16)) C fd_X7_85 (by decide) rfl (congrArg (fun z => some (Value.int z)) (by simp [ea_upR, ea_upS, ea_upK, pa_setR, pa_cpR, fr_X3_add, fr_X5_forget, fr_X5_become, fr_X4_clear, fr_X4_addStuff, fr_X4_become_d, fr_X4_become_s, fr_X0_enter, fr_X0_remove, fr_X7_erase] : (ea_up M 61 17 (M 61 16)) 61 16 = (M 61 16))) dX7_nextToken_155 ?_
              refine e_ialdV (n := 200) (r := M 69) (by simp [ea_upR, ea_upS, ea_upK, pa_setR, pa_cpR, fr_X3_add, fr_X5_forget, fr_X5_become, fr_X4_clear, fr_X4_addStuff, fr_X4_become_d, fr_X4_become_s, fr_X0_enter, fr_X0_remove, fr_X7_erase]) C (by decide) rfl (by decide) (s49 c1 c36 c37 c38 c46 c47) dX7_nextToken_158 ?_
              refine e_callS1 (as := [.int (M 69 (M 61 16).toNatClampNeg)]) (rest := []) C lk_X7_92 (sp_X7_isDigit (M := (ea_up M 61 17 (M 61 16))) (i := (M 69 (M 61 16).toNatClampNeg)) ) (by decide) rfl rfl (Nat.le_of_ble_eq_true rfl) dX7_nextToken_159 ?_
              refine e_ifb_eq (tgt := 204) C dX7_nextToken_162 (by decide) (fun c50 => ?_) (fun c50 => ?_)
              · exact e_vret C X dX7_nextToken_204 (h51 c1 c36 c37 c38 c46 c47 c50)
              · exact (h52 c1 c36 c37 c38 c46 c47 c50)
          · exact (h53 c1 c36 c37 c38 c46)
      · refine e_aload_n (n := 0) C dX7_nextToken_58 rfl rfl ?_
        refine e_get (v := .int (M 61 16)) C fd_X7_85 (by decide) rfl rfl dX7_nextToken_59 ?_
        refine e_iconst (v := 1) C dX7_nextToken_62 (by decide) ?_
        refine e_iadd C dX7_nextToken_63 ?_
        refine e_goto (tgt := 71) C dX7_nextToken_64 (by decide) ?_
        refine e_put (ty := .int) C fd_X7_82 (by decide) rfl rfl (by decide +kernel) (vp_nar_int _) rfl (ea_set7_17 _ _ _) dX7_nextToken_71 ?_
        refine e_aload_n (n := 0) C dX7_nextToken_74 rfl rfl ?_
        refine e_get (v := .int (M 61 16)) C fd_X7_85 (by decide) rfl (congrArg (fun z => some (Value.int z)) (by simp [ea_upR, ea_upS, ea_upK, pa_setR, pa_cpR, fr_X3_add, fr_X5_forget, fr_X5_become, fr_X4_clear, fr_X4_addStuff, fr_X4_become_d, fr_X4_become_s, fr_X0_enter, fr_X0_remove, fr_X7_erase] : (ea_up M 61 17 ((M 61 16) + (1 : Int32))) 61 16 = (M 61 16))) dX7_nextToken_75 ?_
        refine e_aload_n (n := 0) C dX7_nextToken_78 rfl rfl ?_
        refine e_get (v := .int (M 61 11)) C fd_X7_69 (by decide) rfl (congrArg (fun z => some (Value.int z)) (by simp [ea_upR, ea_upS, ea_upK, pa_setR, pa_cpR, fr_X3_add, fr_X5_forget, fr_X5_become, fr_X4_clear, fr_X4_addStuff, fr_X4_become_d, fr_X4_become_s, fr_X0_enter, fr_X0_remove, fr_X7_erase] : (ea_up M 61 17 ((M 61 16) + (1 : Int32))) 61 11 = (M 61 11))) dX7_nextToken_79 ?_
        refine e_icmp_ge (tgt := 139) C dX7_nextToken_82 (by decide) (fun c54 => ?_) (fun c54 => ?_)
        · refine e_aload_n (n := 0) C dX7_nextToken_139 rfl rfl ?_
          refine e_get (v := .int (M 61 16)) C fd_X7_85 (by decide) rfl (congrArg (fun z => some (Value.int z)) (by simp [ea_upR, ea_upS, ea_upK, pa_setR, pa_cpR, fr_X3_add, fr_X5_forget, fr_X5_become, fr_X4_clear, fr_X4_addStuff, fr_X4_become_d, fr_X4_become_s, fr_X0_enter, fr_X0_remove, fr_X7_erase] : (ea_up M 61 17 ((M 61 16) + (1 : Int32))) 61 16 = (M 61 16))) dX7_nextToken_140 ?_
          refine e_aload_n (n := 0) C dX7_nextToken_143 rfl rfl ?_
          refine e_get (v := .int (M 61 11)) C fd_X7_69 (by decide) rfl (congrArg (fun z => some (Value.int z)) (by simp [ea_upR, ea_upS, ea_upK, pa_setR, pa_cpR, fr_X3_add, fr_X5_forget, fr_X5_become, fr_X4_clear, fr_X4_addStuff, fr_X4_become_d, fr_X4_become_s, fr_X0_enter, fr_X0_remove, fr_X7_erase] : (ea_up M 61 17 ((M 61 16) + (1 : Int32))) 61 11 = (M 61 11))) dX7_nextToken_144 ?_
          refine e_icmp_ge (tgt := 204) C dX7_nextToken_147 (by decide) (fun c55 => ?_) (fun c55 => ?_)
          · exact e_vret C X dX7_nextToken_204 (h56 c1 c36 c37 c54 c55)
          · refine e_aload_n (n := 0) C dX7_nextToken_150 rfl rfl ?_
            refine e_get (v := .ref 69) C fd_X7_32 (by decide) rfl rfl dX7_nextToken_151 ?_
            refine e_aload_n (n := 0) C dX7_nextToken_154 rfl rfl ?_
            refine e_get (v := .int (M 61 16)) C fd_X7_85 (by decide) rfl (congrArg (fun z => some (Value.int z)) (by simp [ea_upR, ea_upS, ea_upK, pa_setR, pa_cpR, fr_X3_add, fr_X5_forget, fr_X5_become, fr_X4_clear, fr_X4_addStuff, fr_X4_become_d, fr_X4_become_s, fr_X0_enter, fr_X0_remove, fr_X7_erase] : (ea_up M 61 17 ((M 61 16) + (1 : Int32))) 61 16 = (M 61 16))) dX7_nextToken_155 ?_
            refine e_ialdV (n := 200) (r := M 69) (by simp [ea_upR, ea_upS, ea_upK, pa_setR, pa_cpR, fr_X3_add, fr_X5_forget, fr_X5_become, fr_X4_clear, fr_X4_addStuff, fr_X4_become_d, fr_X4_become_s, fr_X0_enter, fr_X0_remove, fr_X7_erase]) C (by decide) rfl (by decide) (s57 c1 c36 c37 c54 c55) dX7_nextToken_158 ?_
            refine e_callS1 (as := [.int (M 69 (M 61 16).toNatClampNeg)]) (rest := []) C lk_X7_92 (sp_X7_isDigit (M := (ea_up M 61 17 ((M 61 16) + (1 : Int32)))) (i := (M 69 (M 61 16).toNatClampNeg)) ) (by decide) rfl rfl (Nat.le_of_ble_eq_true rfl) dX7_nextToken_159 ?_
            refine e_ifb_eq (tgt := 204) C dX7_nextToken_162 (by decide) (fun c58 => ?_) (fun c58 => ?_)
            · exact e_vret C X dX7_nextToken_204 (h59 c1 c36 c37 c54 c55 c58)
            · exact (h60 c1 c36 c37 c54 c55 c58)
        · refine e_aload_n (n := 0) C dX7_nextToken_85 rfl rfl ?_
          refine e_get (v := .ref 69) C fd_X7_32 (by decide) rfl rfl dX7_nextToken_86 ?_
          refine e_aload_n (n := 0) C dX7_nextToken_89 rfl rfl ?_
          refine e_get (v := .int (M 61 16)) C fd_X7_85 (by decide) rfl (congrArg (fun z => some (Value.int z)) (by simp [ea_upR, ea_upS, ea_upK, pa_setR, pa_cpR, fr_X3_add, fr_X5_forget, fr_X5_become, fr_X4_clear, fr_X4_addStuff, fr_X4_become_d, fr_X4_become_s, fr_X0_enter, fr_X0_remove, fr_X7_erase] : (ea_up M 61 17 ((M 61 16) + (1 : Int32))) 61 16 = (M 61 16))) dX7_nextToken_90 ?_
          refine e_ialdV (n := 200) (r := M 69) (by simp [ea_upR, ea_upS, ea_upK, pa_setR, pa_cpR, fr_X3_add, fr_X5_forget, fr_X5_become, fr_X4_clear, fr_X4_addStuff, fr_X4_become_d, fr_X4_become_s, fr_X0_enter, fr_X0_remove, fr_X7_erase]) C (by decide) rfl (by decide) (s61 c1 c36 c37 c54) dX7_nextToken_93 ?_
          refine e_callS1 (as := [.int (M 69 (M 61 16).toNatClampNeg)]) (rest := []) C lk_X7_88 (sp_X7_isSmall (M := (ea_up M 61 17 ((M 61 16) + (1 : Int32)))) (i := (M 69 (M 61 16).toNatClampNeg)) ) (by decide) rfl rfl (Nat.le_of_ble_eq_true rfl) dX7_nextToken_94 ?_
          refine e_ifb_eq (tgt := 139) C dX7_nextToken_97 (by decide) (fun c62 => ?_) (fun c62 => ?_)
          · refine e_aload_n (n := 0) C dX7_nextToken_139 rfl rfl ?_
            refine e_get (v := .int (M 61 16)) C fd_X7_85 (by decide) rfl (congrArg (fun z => some (Value.int z)) (by simp [ea_upR, ea_upS, ea_upK, pa_setR, pa_cpR, fr_X3_add, fr_X5_forget, fr_X5_become, fr_X4_clear, fr_X4_addStuff, fr_X4_become_d, fr_X4_become_s, fr_X0_enter, fr_X0_remove, fr_X7_erase] : (ea_up M 61 17 ((M 61 16) + (1 : Int32))) 61 16 = (M 61 16))) dX7_nextToken_140 ?_
            refine e_aload_n (n := 0) C dX7_nextToken_143 rfl rfl ?_
            refine e_get (v := .int (M 61 11)) C fd_X7_69 (by decide) rfl (congrArg (fun z => some (Value.int z)) (by simp [ea_upR, ea_upS, ea_upK, pa_setR, pa_cpR, fr_X3_add, fr_X5_forget, fr_X5_become, fr_X4_clear, fr_X4_addStuff, fr_X4_become_d, fr_X4_become_s, fr_X0_enter, fr_X0_remove, fr_X7_erase] : (ea_up M 61 17 ((M 61 16) + (1 : Int32))) 61 11 = (M 61 11))) dX7_nextToken_144 ?_
            refine e_icmp_ge (tgt := 204) C dX7_nextToken_147 (by decide) (fun c63 => ?_) (fun c63 => ?_)
            · exact e_vret C X dX7_nextToken_204 (h64 c1 c36 c37 c54 c62 c63)
            · refine e_aload_n (n := 0) C dX7_nextToken_150 rfl rfl ?_
              refine e_get (v := .ref 69) C fd_X7_32 (by decide) rfl rfl dX7_nextToken_151 ?_
              refine e_aload_n (n := 0) C dX7_nextToken_154 rfl rfl ?_
              refine e_get (v := .int (M 61 16)) C fd_X7_85 (by decide) rfl (congrArg (fun z => some (Value.int z)) (by simp [ea_upR, ea_upS, ea_upK, pa_setR, pa_cpR, fr_X3_add, fr_X5_forget, fr_X5_become, fr_X4_clear, fr_X4_addStuff, fr_X4_become_d, fr_X4_become_s, fr_X0_enter, fr_X0_remove, fr_X7_erase] : (ea_up M 61 17 ((M 61 16) + (1 : Int32))) 61 16 = (M 61 16))) dX7_nextToken_155 ?_
              refine e_ialdV (n := 200) (r := M 69) (by simp [ea_upR, ea_upS, ea_upK, pa_setR, pa_cpR, fr_X3_add, fr_X5_forget, fr_X5_become, fr_X4_clear, fr_X4_addStuff, fr_X4_become_d, fr_X4_become_s, fr_X0_enter, fr_X0_remove, fr_X7_erase]) C (by decide) rfl (by decide) (s65 c1 c36 c37 c54 c62 c63) dX7_nextToken_158 ?_
              refine e_callS1 (as := [.int (M 69 (M 61 16).toNatClampNeg)]) (rest := []) C lk_X7_92 (sp_X7_isDigit (M := (ea_up M 61 17 ((M 61 16) + (1 : Int32)))) (i := (M 69 (M 61 16).toNatClampNeg)) ) (by decide) rfl rfl (Nat.le_of_ble_eq_true rfl) dX7_nextToken_159 ?_
              refine e_ifb_eq (tgt := 204) C dX7_nextToken_162 (by decide) (fun c66 => ?_) (fun c66 => ?_)
              · exact e_vret C X dX7_nextToken_204 (h67 c1 c36 c37 c54 c62 c63 c66)
              · exact (h68 c1 c36 c37 c54 c62 c63 c66)
          · exact (h69 c1 c36 c37 c54 c62)
    · refine e_aload_n (n := 0) C dX7_nextToken_33 rfl rfl ?_
      refine e_dup C dX7_nextToken_34 rfl ?_
      refine e_get (v := .int (M 61 16)) C fd_X7_85 (by decide) rfl rfl dX7_nextToken_35 ?_
      refine e_iconst (v := 1) C dX7_nextToken_38 (by decide) ?_
      refine e_iadd C dX7_nextToken_39 ?_
      refine e_put (ty := .int) C fd_X7_85 (by decide) rfl rfl (by decide +kernel) (vp_nar_int _) rfl (ea_set7_16 _ _ _) dX7_nextToken_40 ?_
      refine e_goto (tgt := 8) C dX7_nextToken_43 (by decide) ?_
      exact (h70 c1 c36)
set_option maxRecDepth 100000 in
set_option maxHeartbeats 4000000 in
theorem km_nextToken_100 {k : ea_K} {o : Option Value} {M' : ea_M} (C : ea_C k RX7 cX7_nextToken 1 2) (X : ea_X k none o M') {M : ea_M}   (h2 : (M 61 11) ≤ (M 61 17) → o = none ∧ M' = M) (s3 : ¬ (M 61 11) ≤ (M 61 17) → vp_in (M 61 17) 200) (h5 : ¬ (M 61 11) ≤ (M 61 17) → ¬ p_X7_isSmall (M 69 (M 61 17).toNatClampNeg) → o = none ∧ M' = M) (h6 : ¬ (M 61 11) ≤ (M 61 17) → p_X7_isSmall (M 69 (M 61 17).toNatClampNeg) → ea_E k 100 [(0, .ref 61)] [] (ea_up M 61 17 ((M 61 17) + (1 : Int32)))) : ea_E k 100 [(0, .ref 61)] [] M := by
  refine e_aload_n (n := 0) C dX7_nextToken_100 rfl rfl ?_
  refine e_get (v := .int (M 61 17)) C fd_X7_82 (by decide) rfl rfl dX7_nextToken_101 ?_
  refine e_aload_n (n := 0) C dX7_nextToken_104 rfl rfl ?_
  refine e_get (v := .int (M 61 11)) C fd_X7_69 (by decide) rfl rfl dX7_nextToken_105 ?_
  refine e_icmp_ge (tgt := 204) C dX7_nextToken_108 (by decide) (fun c1 => ?_) (fun c1 => ?_)
  · exact e_vret C X dX7_nextToken_204 (h2 c1)
  · refine e_aload_n (n := 0) C dX7_nextToken_111 rfl rfl ?_
    refine e_get (v := .ref 69) C fd_X7_32 (by decide) rfl rfl dX7_nextToken_112 ?_
    refine e_aload_n (n := 0) C dX7_nextToken_115 rfl rfl ?_
    refine e_get (v := .int (M 61 17)) C fd_X7_82 (by decide) rfl rfl dX7_nextToken_116 ?_
    refine e_iald (n := 200) C (by decide) rfl (by decide) (s3 c1) dX7_nextToken_119 ?_
    refine e_callS1 (as := [.int (M 69 (M 61 17).toNatClampNeg)]) (rest := []) C lk_X7_88 (sp_X7_isSmall (M := M) (i := (M 69 (M 61 17).toNatClampNeg)) ) (by decide) rfl rfl (Nat.le_of_ble_eq_true rfl) dX7_nextToken_120 ?_
    refine e_ifb_eq (tgt := 204) C dX7_nextToken_123 (by decide) (fun c4 => ?_) (fun c4 => ?_)
    · exact e_vret C X dX7_nextToken_204 (h5 c1 c4)
    · refine e_aload_n (n := 0) C dX7_nextToken_126 rfl rfl ?_
      refine e_dup C dX7_nextToken_127 rfl ?_
      refine e_get (v := .int (M 61 17)) C fd_X7_82 (by decide) rfl rfl dX7_nextToken_128 ?_
      refine e_iconst (v := 1) C dX7_nextToken_131 (by decide) ?_
      refine e_iadd C dX7_nextToken_132 ?_
      refine e_put (ty := .int) C fd_X7_82 (by decide) rfl rfl (by decide +kernel) (vp_nar_int _) rfl (ea_set7_17 _ _ _) dX7_nextToken_133 ?_
      refine e_goto (tgt := 100) C dX7_nextToken_136 (by decide) ?_
      exact (h6 c1 c4)
set_option maxRecDepth 100000 in
set_option maxHeartbeats 4000000 in
theorem km_nextToken_165 {k : ea_K} {o : Option Value} {M' : ea_M} (C : ea_C k RX7 cX7_nextToken 1 2) (X : ea_X k none o M') {M : ea_M}   (h2 : (M 61 11) ≤ (M 61 17) → o = none ∧ M' = M) (s3 : ¬ (M 61 11) ≤ (M 61 17) → vp_in (M 61 17) 200) (h5 : ¬ (M 61 11) ≤ (M 61 17) → ¬ p_X7_isDigit (M 69 (M 61 17).toNatClampNeg) → o = none ∧ M' = M) (h6 : ¬ (M 61 11) ≤ (M 61 17) → p_X7_isDigit (M 69 (M 61 17).toNatClampNeg) → ea_E k 165 [(0, .ref 61)] [] (ea_up M 61 17 ((M 61 17) + (1 : Int32)))) : ea_E k 165 [(0, .ref 61)] [] M := by
  refine e_aload_n (n := 0) C dX7_nextToken_165 rfl rfl ?_
  refine e_get (v := .int (M 61 17)) C fd_X7_82 (by decide) rfl rfl dX7_nextToken_166 ?_
  refine e_aload_n (n := 0) C dX7_nextToken_169 rfl rfl ?_
  refine e_get (v := .int (M 61 11)) C fd_X7_69 (by decide) rfl rfl dX7_nextToken_170 ?_
  refine e_icmp_ge (tgt := 204) C dX7_nextToken_173 (by decide) (fun c1 => ?_) (fun c1 => ?_)
  · exact e_vret C X dX7_nextToken_204 (h2 c1)
  · refine e_aload_n (n := 0) C dX7_nextToken_176 rfl rfl ?_
    refine e_get (v := .ref 69) C fd_X7_32 (by decide) rfl rfl dX7_nextToken_177 ?_
    refine e_aload_n (n := 0) C dX7_nextToken_180 rfl rfl ?_
    refine e_get (v := .int (M 61 17)) C fd_X7_82 (by decide) rfl rfl dX7_nextToken_181 ?_
    refine e_iald (n := 200) C (by decide) rfl (by decide) (s3 c1) dX7_nextToken_184 ?_
    refine e_callS1 (as := [.int (M 69 (M 61 17).toNatClampNeg)]) (rest := []) C lk_X7_92 (sp_X7_isDigit (M := M) (i := (M 69 (M 61 17).toNatClampNeg)) ) (by decide) rfl rfl (Nat.le_of_ble_eq_true rfl) dX7_nextToken_185 ?_
    refine e_ifb_eq (tgt := 204) C dX7_nextToken_188 (by decide) (fun c4 => ?_) (fun c4 => ?_)
    · exact e_vret C X dX7_nextToken_204 (h5 c1 c4)
    · refine e_aload_n (n := 0) C dX7_nextToken_191 rfl rfl ?_
      refine e_dup C dX7_nextToken_192 rfl ?_
      refine e_get (v := .int (M 61 17)) C fd_X7_82 (by decide) rfl rfl dX7_nextToken_193 ?_
      refine e_iconst (v := 1) C dX7_nextToken_196 (by decide) ?_
      refine e_iadd C dX7_nextToken_197 ?_
      refine e_put (ty := .int) C fd_X7_82 (by decide) rfl rfl (by decide +kernel) (vp_nar_int _) rfl (ea_set7_17 _ _ _) dX7_nextToken_198 ?_
      refine e_goto (tgt := 165) C dX7_nextToken_201 (by decide) ?_
      exact (h6 c1 c4)
set_option maxRecDepth 100000 in
set_option maxHeartbeats 4000000 in
theorem km_number {k : ea_K} {o : Option Value} {M' : ea_M} (C : ea_C k RX7 cX7_number 6 3) (X : ea_X k (some .boolean) o M') {M : ea_M} {k0 a b : Int32}   (h2 : (M 61 16) = (M 61 11) → o = some (.int (0 : Int32)) ∧ M' = M) (s3 : ¬ (M 61 16) = (M 61 11) → vp_in (M 61 16) 200) (h5 : ¬ (M 61 16) = (M 61 11) → ¬ p_X7_isDigit (M 69 (M 61 16).toNatClampNeg) → o = some (.int (0 : Int32)) ∧ M' = M) (h7 : ¬ (M 61 16) = (M 61 11) → p_X7_isDigit (M 69 (M 61 16).toNatClampNeg) → ((M 61 17) - (M 61 16)) ≤ (4 : Int32) → ea_E k 50 [(0, .ref 61), (1, .int k0), (2, .int a), (3, .int b), (4, .int (0 : Int32)), (5, .int (M 61 16))] [] M) (h8 : ¬ (M 61 16) = (M 61 11) → p_X7_isDigit (M 69 (M 61 16).toNatClampNeg) → ¬ ((M 61 17) - (M 61 16)) ≤ (4 : Int32) → o = some (.int (0 : Int32)) ∧ M' = M) : ea_E k 0 [(0, .ref 61), (1, .int k0), (2, .int a), (3, .int b)] [] M := by
  refine e_aload_n (n := 0) C dX7_number_0 rfl rfl ?_
  refine e_get (v := .int (M 61 16)) C fd_X7_85 (by decide) rfl rfl dX7_number_1 ?_
  refine e_aload_n (n := 0) C dX7_number_4 rfl rfl ?_
  refine e_get (v := .int (M 61 11)) C fd_X7_69 (by decide) rfl rfl dX7_number_5 ?_
  refine e_icmp_eq (tgt := 39) C dX7_number_8 (by decide) (fun c1 => ?_) (fun c1 => ?_)
  · refine e_iconst (v := 0) C dX7_number_39 (by decide) ?_
    exact e_iret C X rfl rfl dX7_number_40 (h2 c1)
  · refine e_aload_n (n := 0) C dX7_number_11 rfl rfl ?_
    refine e_get (v := .ref 69) C fd_X7_32 (by decide) rfl rfl dX7_number_12 ?_
    refine e_aload_n (n := 0) C dX7_number_15 rfl rfl ?_
    refine e_get (v := .int (M 61 16)) C fd_X7_85 (by decide) rfl rfl dX7_number_16 ?_
    refine e_iald (n := 200) C (by decide) rfl (by decide) (s3 c1) dX7_number_19 ?_
    refine e_callS1 (as := [.int (M 69 (M 61 16).toNatClampNeg)]) (rest := []) C lk_X7_92 (sp_X7_isDigit (M := M) (i := (M 69 (M 61 16).toNatClampNeg)) ) (by decide) rfl rfl (Nat.le_of_ble_eq_true rfl) dX7_number_20 ?_
    refine e_ifb_eq (tgt := 39) C dX7_number_23 (by decide) (fun c4 => ?_) (fun c4 => ?_)
    · refine e_iconst (v := 0) C dX7_number_39 (by decide) ?_
      exact e_iret C X rfl rfl dX7_number_40 (h5 c1 c4)
    · refine e_aload_n (n := 0) C dX7_number_26 rfl rfl ?_
      refine e_get (v := .int (M 61 17)) C fd_X7_82 (by decide) rfl rfl dX7_number_27 ?_
      refine e_aload_n (n := 0) C dX7_number_30 rfl rfl ?_
      refine e_get (v := .int (M 61 16)) C fd_X7_85 (by decide) rfl rfl dX7_number_31 ?_
      refine e_isub C dX7_number_34 ?_
      refine e_iconst (v := 4) C dX7_number_35 (by decide) ?_
      refine e_icmp_le (tgt := 41) C dX7_number_36 (by decide) (fun c6 => ?_) (fun c6 => ?_)
      · refine e_iconst (v := 0) C dX7_number_41 (by decide) ?_
        refine e_istore C dX7_number_42 (by decide) rfl ?_
        refine e_aload_n (n := 1) C dX7_number_44 rfl rfl ?_
        refine e_get (v := .int (M 61 16)) C fd_X7_85 (by decide) rfl rfl dX7_number_45 ?_
        refine e_istore C dX7_number_48 (by decide) rfl ?_
        refine e_perm C [2, 3, 4, 5, 1, 0] rfl ?_
        exact (h7 c1 c4 c6)
      · refine e_iconst (v := 0) C dX7_number_39 (by decide) ?_
        exact e_iret C X rfl rfl dX7_number_40 (h8 c1 c4 c6)
set_option maxRecDepth 100000 in
set_option maxHeartbeats 4000000 in
theorem km_number_50 {k : ea_K} {o : Option Value} {M' : ea_M} (C : ea_C k RX7 cX7_number 6 3) (X : ea_X k (some .boolean) o M') {M : ea_M} {k0 a b v i : Int32} {M1 : ea_M}   (h3 : (M 61 17) ≤ i → ¬ p_X7_in ((v).toInt64) ((a).toInt64) ((b).toInt64) → o = some (.int (if p_X7_in ((v).toInt64) ((a).toInt64) ((b).toInt64) then (1 : Int32) else 0)) ∧ M' = M) (s4 : (M 61 17) ≤ i → p_X7_in ((v).toInt64) ((a).toInt64) ((b).toInt64) → vp_in k0 3) (q5 : (M 61 17) ≤ i → p_X7_in ((v).toInt64) ((a).toInt64) ((b).toInt64) → ea_Sp 2 yX7_nextToken cX7_nextToken 1 none [.ref 61] (ea_up M 76 k0.toNatClampNeg v) none M1) (h6 : (M 61 17) ≤ i → p_X7_in ((v).toInt64) ((a).toInt64) ((b).toInt64) → o = some (.int (if p_X7_in ((v).toInt64) ((a).toInt64) ((b).toInt64) then (1 : Int32) else 0)) ∧ M' = M1) (s7 : ¬ (M 61 17) ≤ i → vp_in i 200) (h8 : ¬ (M 61 17) ≤ i → ea_E k 50 [(0, .ref 61), (1, .int k0), (2, .int a), (3, .int b), (4, .int ((((10 : Int32) * v) + (M 69 i.toNatClampNeg)) - (48 : Int32))), (5, .int (i + 1))] [] M) : ea_E k 50 [(0, .ref 61), (1, .int k0), (2, .int a), (3, .int b), (4, .int v), (5, .int i)] [] M := by
  refine e_iload (n := 5) C dX7_number_50 rfl ?_
  refine e_aload_n (n := 0) C dX7_number_52 rfl rfl ?_
  refine e_get (v := .int (M 61 17)) C fd_X7_82 (by decide) rfl rfl dX7_number_53 ?_
  refine e_icmp_ge (tgt := 83) C dX7_number_56 (by decide) (fun c1 => ?_) (fun c1 => ?_)
  · refine e_iload (n := 4) C dX7_number_83 rfl ?_
    refine e_i2l C dX7_number_85 ?_
    refine e_iload_n (n := 2) C dX7_number_86 rfl rfl ?_
    refine e_i2l C dX7_number_87 ?_
    refine e_iload_n (n := 3) C dX7_number_88 rfl rfl ?_
    refine e_i2l C dX7_number_89 ?_
    refine e_callS1 (as := [.long ((v).toInt64), .long ((a).toInt64), .long ((b).toInt64)]) (rest := []) C lk_X7_64 (sp_X7_in (M := M) (v := ((v).toInt64)) (a := ((a).toInt64)) (b := ((b).toInt64)) ) (by decide) rfl rfl (Nat.le_of_ble_eq_true rfl) dX7_number_90 ?_
    refine e_istore C dX7_number_93 (by decide) rfl ?_
    refine e_iload (n := 0) C dX7_number_95 rfl ?_
    refine e_ifb_eq (tgt := 112) C dX7_number_97 (by decide) (fun c2 => ?_) (fun c2 => ?_)
    · refine e_iload (n := 0) C dX7_number_112 rfl ?_
      exact e_iret C X rfl (ea_nz (pa_b01 (p_X7_in ((v).toInt64) ((a).toInt64) ((b).toInt64)))) dX7_number_114 (h3 c1 c2)
    · refine e_aload_n (n := 1) C dX7_number_100 rfl rfl ?_
      refine e_get (v := .ref 76) C fd_X7_53 (by decide) rfl rfl dX7_number_101 ?_
      refine e_iload_n (n := 2) C dX7_number_104 rfl rfl ?_
      refine e_iload (n := 5) C dX7_number_105 rfl ?_
      refine e_iast (n := 3) C (by decide) rfl (by decide) (s4 c1 c2) dX7_number_107 ?_
      refine e_aload_n (n := 1) C dX7_number_108 rfl rfl ?_
      refine e_callV0 (as := []) (rest := []) C lk_X7_95 (q5 c1 c2) (by decide) rfl (by decide) rfl (by decide) rfl rfl (Nat.le_of_ble_eq_true rfl) dX7_number_109 ?_
      refine e_iload (n := 0) C dX7_number_112 rfl ?_
      exact e_iret C X rfl (ea_nz (pa_b01 (p_X7_in ((v).toInt64) ((a).toInt64) ((b).toInt64)))) dX7_number_114 (h6 c1 c2)
  · refine e_bipush (v := 10) C dX7_number_59 (by decide) ?_
    refine e_iload (n := 4) C dX7_number_61 rfl ?_
    refine e_imul C dX7_number_63 ?_
    refine e_aload_n (n := 0) C dX7_number_64 rfl rfl ?_
    refine e_get (v := .ref 69) C fd_X7_32 (by decide) rfl rfl dX7_number_65 ?_
    refine e_iload (n := 5) C dX7_number_68 rfl ?_
    refine e_iald (n := 200) C (by decide) rfl (by decide) (s7 c1) dX7_number_70 ?_
    refine e_iadd C dX7_number_71 ?_
    refine e_bipush (v := 48) C dX7_number_72 (by decide) ?_
    refine e_isub C dX7_number_74 ?_
    refine e_istore C dX7_number_75 (by decide) rfl ?_
    refine e_iinc (n := 5) (v := (i + 1)) C dX7_number_77 rfl rfl (by decide) rfl ?_
    refine e_goto (tgt := 50) C dX7_number_80 (by decide) ?_
    refine e_perm C [2, 3, 4, 5, 1, 0] rfl ?_
    exact (h8 c1)
set_option maxRecDepth 100000 in
set_option maxHeartbeats 4000000 in
theorem km_readsTold {k : ea_K} {o : Option Value} {M' : ea_M} (C : ea_C k RX7 cX7_readsTold 2 3) (X : ea_X k (some .boolean) o M') {M : ea_M} {M2 M3 : ea_M} {r1 : Int32}   (q2 : ¬ (M 61 16) = (M 61 11) → ea_Sp 0 yX7_stuffHere cX7_stuffHere 4 (some .int) [.ref 61] M (some (.int r1)) M) (h5 : ¬ (M 61 16) = (M 61 11) → r1 = (-1 : Int32) → r1 = (-1 : Int32) → o = some (.int (0 : Int32)) ∧ M' = M) (h6 : ¬ (M 61 16) = (M 61 11) → r1 = (-1 : Int32) → ¬ r1 = (-1 : Int32) → o = some (.int (1 : Int32)) ∧ M' = M) (q8 : ¬ (M 61 16) = (M 61 11) → ¬ r1 = (-1 : Int32) → ea_Sp 2 yX7_nextToken cX7_nextToken 1 none [.ref 61] (ea_up M 76 0 r1) none M2) (h10 : ¬ (M 61 16) = (M 61 11) → ¬ r1 = (-1 : Int32) → r1 = (-1 : Int32) → o = some (.int (0 : Int32)) ∧ M' = M2) (h11 : ¬ (M 61 16) = (M 61 11) → ¬ r1 = (-1 : Int32) → ¬ r1 = (-1 : Int32) → o = some (.int (1 : Int32)) ∧ M' = M2) (h14 : (M 61 16) = (M 61 11) → (-1 : Int32) = (-1 : Int32) → (-1 : Int32) = (-1 : Int32) → o = some (.int (0 : Int32)) ∧ M' = M) (h15 : (M 61 16) = (M 61 11) → (-1 : Int32) = (-1 : Int32) → ¬ (-1 : Int32) = (-1 : Int32) → o = some (.int (1 : Int32)) ∧ M' = M) (q17 : (M 61 16) = (M 61 11) → ¬ (-1 : Int32) = (-1 : Int32) → ea_Sp 2 yX7_nextToken cX7_nextToken 1 none [.ref 61] (ea_up M 76 0 (-1 : Int32)) none M3) (h19 : (M 61 16) = (M 61 11) → ¬ (-1 : Int32) = (-1 : Int32) → (-1 : Int32) = (-1 : Int32) → o = some (.int (0 : Int32)) ∧ M' = M3) (h20 : (M 61 16) = (M 61 11) → ¬ (-1 : Int32) = (-1 : Int32) → ¬ (-1 : Int32) = (-1 : Int32) → o = some (.int (1 : Int32)) ∧ M' = M3) : ea_E k 0 [(0, .ref 61)] [] M := by
  refine e_aload_n (n := 0) C dX7_readsTold_0 rfl rfl ?_
  refine e_get (v := .int (M 61 16)) C fd_X7_85 (by decide) rfl rfl dX7_readsTold_1 ?_
  refine e_aload_n (n := 0) C dX7_readsTold_4 rfl rfl ?_
  refine e_get (v := .int (M 61 11)) C fd_X7_69 (by decide) rfl rfl dX7_readsTold_5 ?_
  refine e_icmp_ne (tgt := 15) C dX7_readsTold_8 (by decide) (fun c1 => ?_) (fun c1 => ?_)
  · refine e_aload_n (n := 0) C dX7_readsTold_15 rfl rfl ?_
    refine e_callV1 (as := []) (rest := []) C lk_X7_101 (q2 c1) (by decide) rfl (by decide) rfl (by decide) rfl rfl (Nat.le_of_ble_eq_true rfl) dX7_readsTold_16 ?_
    refine e_istore_n C dX7_readsTold_19 rfl (by decide) rfl ?_
    refine e_iload_n (n := 0) C dX7_readsTold_20 rfl rfl ?_
    refine e_iconst (v := -1) C dX7_readsTold_21 (by decide) ?_
    refine e_icmp_eq (tgt := 36) C dX7_readsTold_22 (by decide) (fun c3 => ?_) (fun c3 => ?_)
    · refine e_iload_n (n := 0) C dX7_readsTold_36 rfl rfl ?_
      refine e_iconst (v := -1) C dX7_readsTold_37 (by decide) ?_
      refine e_icmp_eq (tgt := 45) C dX7_readsTold_38 (by decide) (fun c4 => ?_) (fun c4 => ?_)
      · refine e_iconst (v := 0) C dX7_readsTold_45 (by decide) ?_
        exact e_iret C X rfl rfl dX7_readsTold_46 (h5 c1 c3 c4)
      · refine e_iconst (v := 1) C dX7_readsTold_41 (by decide) ?_
        refine e_goto (tgt := 46) C dX7_readsTold_42 (by decide) ?_
        exact e_iret C X rfl rfl dX7_readsTold_46 (h6 c1 c3 c4)
    · refine e_aload_n (n := 1) C dX7_readsTold_25 rfl rfl ?_
      refine e_get (v := .ref 76) C fd_X7_53 (by decide) rfl rfl dX7_readsTold_26 ?_
      refine e_iconst (v := 0) C dX7_readsTold_29 (by decide) ?_
      refine e_iload_n (n := 0) C dX7_readsTold_30 rfl rfl ?_
      refine e_iast (n := 3) C (by decide) rfl (by decide) (vp_in_nI (n := 0) (N := 3) (by decide) (by decide)) dX7_readsTold_31 ?_
      refine e_aload_n (n := 1) C dX7_readsTold_32 rfl rfl ?_
      refine e_callV0 (as := []) (rest := []) C lk_X7_95 (q8 c1 c3) (by decide) rfl (by decide) rfl (by decide) rfl rfl (Nat.le_of_ble_eq_true rfl) dX7_readsTold_33 ?_
      refine e_iload_n (n := 0) C dX7_readsTold_36 rfl rfl ?_
      refine e_iconst (v := -1) C dX7_readsTold_37 (by decide) ?_
      refine e_icmp_eq (tgt := 45) C dX7_readsTold_38 (by decide) (fun c9 => ?_) (fun c9 => ?_)
      · refine e_iconst (v := 0) C dX7_readsTold_45 (by decide) ?_
        exact e_iret C X rfl rfl dX7_readsTold_46 (h10 c1 c3 c9)
      · refine e_iconst (v := 1) C dX7_readsTold_41 (by decide) ?_
        refine e_goto (tgt := 46) C dX7_readsTold_42 (by decide) ?_
        exact e_iret C X rfl rfl dX7_readsTold_46 (h11 c1 c3 c9)
  · refine e_iconst (v := -1) C dX7_readsTold_11 (by decide) ?_
    refine e_goto (tgt := 19) C dX7_readsTold_12 (by decide) ?_
    refine e_istore_n C dX7_readsTold_19 rfl (by decide) rfl ?_
    refine e_iload_n (n := 0) C dX7_readsTold_20 rfl rfl ?_
    refine e_iconst (v := -1) C dX7_readsTold_21 (by decide) ?_
    refine e_icmp_eq (tgt := 36) C dX7_readsTold_22 (by decide) (fun c12 => ?_) (fun c12 => ?_)
    · refine e_iload_n (n := 0) C dX7_readsTold_36 rfl rfl ?_
      refine e_iconst (v := -1) C dX7_readsTold_37 (by decide) ?_
      refine e_icmp_eq (tgt := 45) C dX7_readsTold_38 (by decide) (fun c13 => ?_) (fun c13 => ?_)
      · refine e_iconst (v := 0) C dX7_readsTold_45 (by decide) ?_
        exact e_iret C X rfl rfl dX7_readsTold_46 (h14 c1 c12 c13)
      · refine e_iconst (v := 1) C dX7_readsTold_41 (by decide) ?_
        refine e_goto (tgt := 46) C dX7_readsTold_42 (by decide) ?_
        exact e_iret C X rfl rfl dX7_readsTold_46 (h15 c1 c12 c13)
    · refine e_aload_n (n := 1) C dX7_readsTold_25 rfl rfl ?_
      refine e_get (v := .ref 76) C fd_X7_53 (by decide) rfl rfl dX7_readsTold_26 ?_
      refine e_iconst (v := 0) C dX7_readsTold_29 (by decide) ?_
      refine e_iload_n (n := 0) C dX7_readsTold_30 rfl rfl ?_
      refine e_iast (n := 3) C (by decide) rfl (by decide) (vp_in_nI (n := 0) (N := 3) (by decide) (by decide)) dX7_readsTold_31 ?_
      refine e_aload_n (n := 1) C dX7_readsTold_32 rfl rfl ?_
      refine e_callV0 (as := []) (rest := []) C lk_X7_95 (q17 c1 c12) (by decide) rfl (by decide) rfl (by decide) rfl rfl (Nat.le_of_ble_eq_true rfl) dX7_readsTold_33 ?_
      refine e_iload_n (n := 0) C dX7_readsTold_36 rfl rfl ?_
      refine e_iconst (v := -1) C dX7_readsTold_37 (by decide) ?_
      refine e_icmp_eq (tgt := 45) C dX7_readsTold_38 (by decide) (fun c18 => ?_) (fun c18 => ?_)
      · refine e_iconst (v := 0) C dX7_readsTold_45 (by decide) ?_
        exact e_iret C X rfl rfl dX7_readsTold_46 (h19 c1 c12 c18)
      · refine e_iconst (v := 1) C dX7_readsTold_41 (by decide) ?_
        refine e_goto (tgt := 46) C dX7_readsTold_42 (by decide) ?_
        exact e_iret C X rfl rfl dX7_readsTold_46 (h20 c1 c12 c18)
set_option maxRecDepth 100000 in
set_option maxHeartbeats 4000000 in
theorem km_readsRest {k : ea_K} {o : Option Value} {M' : ea_M} (C : ea_C k RX7 cX7_readsRest 2 4) (X : ea_X k (some .boolean) o M') {M : ea_M} {w : Int32} {M1 M2 M3 M4 M5 M6 M7 M8 M9 M10 : ea_M} {r1 r2 r3 r4 r5 r6 r7 r8 r9 r10 : Int32}   (q2 : w = 0 → ea_Sp 3 yX7_number cX7_number 6 (some .boolean) [.ref 61, .int (0 : Int32), .int (1 : Int32), .int (999 : Int32)] M (some (.int r1)) M1) (h3 : w = 0 → o = some (.int r1) ∧ M' = M1) (b4 : w = 0 → r1 = 0 ∨ r1 = 1) (q6 : ¬ w = 0 → w = 1 → ea_Sp 3 yX7_readsNewWord cX7_readsNewWord 2 (some .boolean) [.ref 61] M (some (.int r2)) M2) (h8 : ¬ w = 0 → w = 1 → r2 = 0 → o = some (.int (0 : Int32)) ∧ M' = M2) (q9 : ¬ w = 0 → w = 1 → ¬ r2 = 0 → ea_Sp 3 yX7_number cX7_number 6 (some .boolean) [.ref 61, .int (0 : Int32), .int (1 : Int32), .int (20 : Int32)] M2 (some (.int r3)) M3) (h11 : ¬ w = 0 → w = 1 → ¬ r2 = 0 → r3 = 0 → o = some (.int (0 : Int32)) ∧ M' = M3) (q12 : ¬ w = 0 → w = 1 → ¬ r2 = 0 → ¬ r3 = 0 → ea_Sp 3 yX7_number cX7_number 6 (some .boolean) [.ref 61, .int (1 : Int32), .int (1 : Int32), .int (20 : Int32)] M3 (some (.int r4)) M4) (h14 : ¬ w = 0 → w = 1 → ¬ r2 = 0 → ¬ r3 = 0 → r4 = 0 → o = some (.int (0 : Int32)) ∧ M' = M4) (h15 : ¬ w = 0 → w = 1 → ¬ r2 = 0 → ¬ r3 = 0 → ¬ r4 = 0 → o = some (.int (1 : Int32)) ∧ M' = M4) (q17 : ¬ w = 0 → ¬ w = 1 → w = 2 → ea_Sp 3 yX7_readsTold cX7_readsTold 2 (some .boolean) [.ref 61] M (some (.int r5)) M5) (h19 : ¬ w = 0 → ¬ w = 1 → w = 2 → r5 = 0 → o = some (.int (0 : Int32)) ∧ M' = M5) (q20 : ¬ w = 0 → ¬ w = 1 → w = 2 → ¬ r5 = 0 → ea_Sp 3 yX7_number cX7_number 6 (some .boolean) [.ref 61, .int (1 : Int32), .int (1 : Int32), .int (f_X7_lesser (9 : Int32) ((10 : Int32) - (M5 61 19)))] M5 (some (.int r6)) M6) (h22 : ¬ w = 0 → ¬ w = 1 → w = 2 → ¬ r5 = 0 → r6 = 0 → o = some (.int (0 : Int32)) ∧ M' = M6) (h23 : ¬ w = 0 → ¬ w = 1 → w = 2 → ¬ r5 = 0 → ¬ r6 = 0 → o = some (.int (1 : Int32)) ∧ M' = M6) (q25 : ¬ w = 0 → ¬ w = 1 → ¬ w = 2 → w = 3 → ea_Sp 3 yX7_number cX7_number 6 (some .boolean) [.ref 61, .int (0 : Int32), .int (0 : Int32), .int (999 : Int32)] M (some (.int r7)) M7) (h27 : ¬ w = 0 → ¬ w = 1 → ¬ w = 2 → w = 3 → r7 = 0 → o = some (.int (0 : Int32)) ∧ M' = M7) (q28 : ¬ w = 0 → ¬ w = 1 → ¬ w = 2 → w = 3 → ¬ r7 = 0 → ea_Sp 3 yX7_number cX7_number 6 (some .boolean) [.ref 61, .int (1 : Int32), .int (0 : Int32), .int (999 : Int32)] M7 (some (.int r8)) M8) (h30 : ¬ w = 0 → ¬ w = 1 → ¬ w = 2 → w = 3 → ¬ r7 = 0 → r8 = 0 → o = some (.int (0 : Int32)) ∧ M' = M8) (h31 : ¬ w = 0 → ¬ w = 1 → ¬ w = 2 → w = 3 → ¬ r7 = 0 → ¬ r8 = 0 → o = some (.int (1 : Int32)) ∧ M' = M8) (q32 : ¬ w = 0 → ¬ w = 1 → ¬ w = 2 → ¬ w = 3 → ea_Sp 3 yX7_number cX7_number 6 (some .boolean) [.ref 61, .int (0 : Int32), .int (0 : Int32), .int ((M 61 19) - (1 : Int32))] M (some (.int r9)) M9) (h34 : ¬ w = 0 → ¬ w = 1 → ¬ w = 2 → ¬ w = 3 → r9 = 0 → o = some (.int (0 : Int32)) ∧ M' = M9) (q35 : ¬ w = 0 → ¬ w = 1 → ¬ w = 2 → ¬ w = 3 → ¬ r9 = 0 → ea_Sp 3 yX7_number cX7_number 6 (some .boolean) [.ref 61, .int (1 : Int32), .int (0 : Int32), .int (9999 : Int32)] M9 (some (.int r10)) M10) (h37 : ¬ w = 0 → ¬ w = 1 → ¬ w = 2 → ¬ w = 3 → ¬ r9 = 0 → r10 = 0 → o = some (.int (0 : Int32)) ∧ M' = M10) (h38 : ¬ w = 0 → ¬ w = 1 → ¬ w = 2 → ¬ w = 3 → ¬ r9 = 0 → ¬ r10 = 0 → o = some (.int (1 : Int32)) ∧ M' = M10) : ea_E k 0 [(0, .ref 61), (1, .int w)] [] M := by
  refine e_iload_n (n := 1) C dX7_readsRest_0 rfl rfl ?_
  by_cases c1 : w = 0
  · refine e_tabIn (tgt := 32) (off := 31) C dX7_readsRest_1 (by rw [c1]; decide) (by rw [c1]; decide) (by rw [c1]; decide) (by decide) ?_
    refine e_aload_n (n := 0) C dX7_readsRest_32 rfl rfl ?_
    refine e_iconst (v := 0) C dX7_readsRest_33 (by decide) ?_
    refine e_iconst (v := 1) C dX7_readsRest_34 (by decide) ?_
    refine e_sipush (v := 999) C dX7_readsRest_35 (by decide) ?_
    refine e_callV1 (as := [.int (0 : Int32), .int (1 : Int32), .int (999 : Int32)]) (rest := []) C lk_X7_105 (q2 c1) (by decide) rfl (by decide) rfl (by decide) rfl rfl (Nat.le_of_ble_eq_true rfl) dX7_readsRest_38 ?_
    exact e_iret C X rfl (ea_nz (b4 c1)) dX7_readsRest_41 (h3 c1)
  by_cases c5 : w = 1
  · refine e_tabIn (tgt := 42) (off := 41) C dX7_readsRest_1 (by rw [c5]; decide) (by rw [c5]; decide) (by rw [c5]; decide) (by decide) ?_
    refine e_aload_n (n := 0) C dX7_readsRest_42 rfl rfl ?_
    refine e_callV1 (as := []) (rest := []) C lk_X7_109 (q6 c1 c5) (by decide) rfl (by decide) rfl (by decide) rfl rfl (Nat.le_of_ble_eq_true rfl) dX7_readsRest_43 ?_
    refine e_if_eq (tgt := 75) C dX7_readsRest_46 (by decide) (fun c7 => ?_) (fun c7 => ?_)
    · refine e_iconst (v := 0) C dX7_readsRest_75 (by decide) ?_
      exact e_iret C X rfl rfl dX7_readsRest_76 (h8 c1 c5 c7)
    · refine e_aload_n (n := 0) C dX7_readsRest_49 rfl rfl ?_
      refine e_iconst (v := 0) C dX7_readsRest_50 (by decide) ?_
      refine e_iconst (v := 1) C dX7_readsRest_51 (by decide) ?_
      refine e_bipush (v := 20) C dX7_readsRest_52 (by decide) ?_
      refine e_callV1 (as := [.int (0 : Int32), .int (1 : Int32), .int (20 : Int32)]) (rest := []) C lk_X7_105 (q9 c1 c5 c7) (by decide) rfl (by decide) rfl (by decide) rfl rfl (Nat.le_of_ble_eq_true rfl) dX7_readsRest_54 ?_
      refine e_if_eq (tgt := 75) C dX7_readsRest_57 (by decide) (fun c10 => ?_) (fun c10 => ?_)
      · refine e_iconst (v := 0) C dX7_readsRest_75 (by decide) ?_
        exact e_iret C X rfl rfl dX7_readsRest_76 (h11 c1 c5 c7 c10)
      · refine e_aload_n (n := 0) C dX7_readsRest_60 rfl rfl ?_
        refine e_iconst (v := 1) C dX7_readsRest_61 (by decide) ?_
        refine e_iconst (v := 1) C dX7_readsRest_62 (by decide) ?_
        refine e_bipush (v := 20) C dX7_readsRest_63 (by decide) ?_
        refine e_callV1 (as := [.int (1 : Int32), .int (1 : Int32), .int (20 : Int32)]) (rest := []) C lk_X7_105 (q12 c1 c5 c7 c10) (by decide) rfl (by decide) rfl (by decide) rfl rfl (Nat.le_of_ble_eq_true rfl) dX7_readsRest_65 ?_
        refine e_if_eq (tgt := 75) C dX7_readsRest_68 (by decide) (fun c13 => ?_) (fun c13 => ?_)
        · refine e_iconst (v := 0) C dX7_readsRest_75 (by decide) ?_
          exact e_iret C X rfl rfl dX7_readsRest_76 (h14 c1 c5 c7 c10 c13)
        · refine e_iconst (v := 1) C dX7_readsRest_71 (by decide) ?_
          refine e_goto (tgt := 76) C dX7_readsRest_72 (by decide) ?_
          exact e_iret C X rfl rfl dX7_readsRest_76 (h15 c1 c5 c7 c10 c13)
  by_cases c16 : w = 2
  · refine e_tabIn (tgt := 77) (off := 76) C dX7_readsRest_1 (by rw [c16]; decide) (by rw [c16]; decide) (by rw [c16]; decide) (by decide) ?_
    refine e_aload_n (n := 0) C dX7_readsRest_77 rfl rfl ?_
    refine e_callV1 (as := []) (rest := []) C lk_X7_113 (q17 c1 c5 c16) (by decide) rfl (by decide) rfl (by decide) rfl rfl (Nat.le_of_ble_eq_true rfl) dX7_readsRest_78 ?_
    refine e_if_eq (tgt := 109) C dX7_readsRest_81 (by decide) (fun c18 => ?_) (fun c18 => ?_)
    · refine e_iconst (v := 0) C dX7_readsRest_109 (by decide) ?_
      exact e_iret C X rfl rfl dX7_readsRest_110 (h19 c1 c5 c16 c18)
    · refine e_aload_n (n := 0) C dX7_readsRest_84 rfl rfl ?_
      refine e_iconst (v := 1) C dX7_readsRest_85 (by decide) ?_
      refine e_iconst (v := 1) C dX7_readsRest_86 (by decide) ?_
      refine e_bipush (v := 9) C dX7_readsRest_87 (by decide) ?_
      refine e_bipush (v := 10) C dX7_readsRest_89 (by decide) ?_
      refine e_aload_n (n := 0) C dX7_readsRest_91 rfl rfl ?_
      refine e_get (v := .int (M5 61 19)) C fd_X7_116 (by decide) rfl rfl dX7_readsRest_92 ?_
      refine e_isub C dX7_readsRest_95 ?_
      refine e_callS1 (as := [.int (9 : Int32), .int ((10 : Int32) - (M5 61 19))]) (rest := [.int (1 : Int32), .int (1 : Int32), .ref 61]) C lk_X7_119 (sp_X7_lesser (M := M5) (a := (9 : Int32)) (b := ((10 : Int32) - (M5 61 19))) ) (by decide) rfl rfl (Nat.le_of_ble_eq_true rfl) dX7_readsRest_96 ?_
      refine e_callV1 (as := [.int (1 : Int32), .int (1 : Int32), .int (f_X7_lesser (9 : Int32) ((10 : Int32) - (M5 61 19)))]) (rest := []) C lk_X7_105 (q20 c1 c5 c16 c18) (by decide) rfl (by decide) rfl (by decide) rfl rfl (Nat.le_of_ble_eq_true rfl) dX7_readsRest_99 ?_
      refine e_if_eq (tgt := 109) C dX7_readsRest_102 (by decide) (fun c21 => ?_) (fun c21 => ?_)
      · refine e_iconst (v := 0) C dX7_readsRest_109 (by decide) ?_
        exact e_iret C X rfl rfl dX7_readsRest_110 (h22 c1 c5 c16 c18 c21)
      · refine e_iconst (v := 1) C dX7_readsRest_105 (by decide) ?_
        refine e_goto (tgt := 110) C dX7_readsRest_106 (by decide) ?_
        exact e_iret C X rfl rfl dX7_readsRest_110 (h23 c1 c5 c16 c18 c21)
  by_cases c24 : w = 3
  · refine e_tabIn (tgt := 111) (off := 110) C dX7_readsRest_1 (by rw [c24]; decide) (by rw [c24]; decide) (by rw [c24]; decide) (by decide) ?_
    refine e_aload_n (n := 0) C dX7_readsRest_111 rfl rfl ?_
    refine e_iconst (v := 0) C dX7_readsRest_112 (by decide) ?_
    refine e_iconst (v := 0) C dX7_readsRest_113 (by decide) ?_
    refine e_sipush (v := 999) C dX7_readsRest_114 (by decide) ?_
    refine e_callV1 (as := [.int (0 : Int32), .int (0 : Int32), .int (999 : Int32)]) (rest := []) C lk_X7_105 (q25 c1 c5 c16 c24) (by decide) rfl (by decide) rfl (by decide) rfl rfl (Nat.le_of_ble_eq_true rfl) dX7_readsRest_117 ?_
    refine e_if_eq (tgt := 139) C dX7_readsRest_120 (by decide) (fun c26 => ?_) (fun c26 => ?_)
    · refine e_iconst (v := 0) C dX7_readsRest_139 (by decide) ?_
      exact e_iret C X rfl rfl dX7_readsRest_140 (h27 c1 c5 c16 c24 c26)
    · refine e_aload_n (n := 0) C dX7_readsRest_123 rfl rfl ?_
      refine e_iconst (v := 1) C dX7_readsRest_124 (by decide) ?_
      refine e_iconst (v := 0) C dX7_readsRest_125 (by decide) ?_
      refine e_sipush (v := 999) C dX7_readsRest_126 (by decide) ?_
      refine e_callV1 (as := [.int (1 : Int32), .int (0 : Int32), .int (999 : Int32)]) (rest := []) C lk_X7_105 (q28 c1 c5 c16 c24 c26) (by decide) rfl (by decide) rfl (by decide) rfl rfl (Nat.le_of_ble_eq_true rfl) dX7_readsRest_129 ?_
      refine e_if_eq (tgt := 139) C dX7_readsRest_132 (by decide) (fun c29 => ?_) (fun c29 => ?_)
      · refine e_iconst (v := 0) C dX7_readsRest_139 (by decide) ?_
        exact e_iret C X rfl rfl dX7_readsRest_140 (h30 c1 c5 c16 c24 c26 c29)
      · refine e_iconst (v := 1) C dX7_readsRest_135 (by decide) ?_
        refine e_goto (tgt := 140) C dX7_readsRest_136 (by decide) ?_
        exact e_iret C X rfl rfl dX7_readsRest_140 (h31 c1 c5 c16 c24 c26 c29)
  refine e_tabOut (tgt := 141) C dX7_readsRest_1 (ea_tab3 c1 c5 c16 c24) (by decide) ?_
  refine e_aload_n (n := 0) C dX7_readsRest_141 rfl rfl ?_
  refine e_iconst (v := 0) C dX7_readsRest_142 (by decide) ?_
  refine e_iconst (v := 0) C dX7_readsRest_143 (by decide) ?_
  refine e_aload_n (n := 0) C dX7_readsRest_144 rfl rfl ?_
  refine e_get (v := .int (M 61 19)) C fd_X7_116 (by decide) rfl rfl dX7_readsRest_145 ?_
  refine e_iconst (v := 1) C dX7_readsRest_148 (by decide) ?_
  refine e_isub C dX7_readsRest_149 ?_
  refine e_callV1 (as := [.int (0 : Int32), .int (0 : Int32), .int ((M 61 19) - (1 : Int32))]) (rest := []) C lk_X7_105 (q32 c1 c5 c16 c24) (by decide) rfl (by decide) rfl (by decide) rfl rfl (Nat.le_of_ble_eq_true rfl) dX7_readsRest_150 ?_
  refine e_if_eq (tgt := 172) C dX7_readsRest_153 (by decide) (fun c33 => ?_) (fun c33 => ?_)
  · refine e_iconst (v := 0) C dX7_readsRest_172 (by decide) ?_
    exact e_iret C X rfl rfl dX7_readsRest_173 (h34 c1 c5 c16 c24 c33)
  · refine e_aload_n (n := 0) C dX7_readsRest_156 rfl rfl ?_
    refine e_iconst (v := 1) C dX7_readsRest_157 (by decide) ?_
    refine e_iconst (v := 0) C dX7_readsRest_158 (by decide) ?_
    refine e_sipush (v := 9999) C dX7_readsRest_159 (by decide) ?_
    refine e_callV1 (as := [.int (1 : Int32), .int (0 : Int32), .int (9999 : Int32)]) (rest := []) C lk_X7_105 (q35 c1 c5 c16 c24 c33) (by decide) rfl (by decide) rfl (by decide) rfl rfl (Nat.le_of_ble_eq_true rfl) dX7_readsRest_162 ?_
    refine e_if_eq (tgt := 172) C dX7_readsRest_165 (by decide) (fun c36 => ?_) (fun c36 => ?_)
    · refine e_iconst (v := 0) C dX7_readsRest_172 (by decide) ?_
      exact e_iret C X rfl rfl dX7_readsRest_173 (h37 c1 c5 c16 c24 c33 c36)
    · refine e_iconst (v := 1) C dX7_readsRest_168 (by decide) ?_
      refine e_goto (tgt := 173) C dX7_readsRest_169 (by decide) ?_
      exact e_iret C X rfl rfl dX7_readsRest_173 (h38 c1 c5 c16 c24 c33 c36)
set_option maxRecDepth 100000 in
set_option maxHeartbeats 4000000 in
theorem km_readsClause {k : ea_K} {o : Option Value} {M' : ea_M} (C : ea_C k RX7 cX7_readsClause 2 5) (X : ea_X k (some .boolean) o M') {M : ea_M} {M2 M3 M4 M5 M6 M7 M8 M9 M10 M11 : ea_M} {r1 r3 r8 : Int32}   (q1 : ea_Sp 0 yX7_wordHere cX7_wordHere 4 (some .int) [.ref 61] M (some (.int r1)) M) (h3 : r1 = (-1 : Int32) → o = some (.int (0 : Int32)) ∧ M' = M) (q5 : ¬ r1 = (-1 : Int32) → ¬ r1 = (1 : Int32) → ea_Sp 2 yX7_nextToken cX7_nextToken 1 none [.ref 61] M none M2) (q6 : ¬ r1 = (-1 : Int32) → ¬ r1 = (1 : Int32) → ea_Sp 4 yX7_readsRest cX7_readsRest 2 (some .boolean) [.ref 61, .int r1] M2 (some (.int r3)) M3) (h13 : ¬ r1 = (-1 : Int32) → ¬ r1 = (1 : Int32) → ¬ r3 = 0 → ¬ r1 = 0 → ¬ r1 = (2 : Int32) → (M3 61 23) = 0 → ¬ r1 = 0 → ¬ r1 = (1 : Int32) → o = some (.int (1 : Int32)) ∧ M' = (ea_up (ea_up M3 61 19 (M3 61 19)) 61 18 (M3 61 18))) (h14 : ¬ r1 = (-1 : Int32) → ¬ r1 = (1 : Int32) → ¬ r3 = 0 → ¬ r1 = 0 → ¬ r1 = (2 : Int32) → (M3 61 23) = 0 → ¬ r1 = 0 → r1 = (1 : Int32) → o = some (.int (1 : Int32)) ∧ M' = (ea_up (ea_up M3 61 19 (M3 61 19)) 61 18 ((M3 61 18) + (1 : Int32)))) (h15 : ¬ r1 = (-1 : Int32) → ¬ r1 = (1 : Int32) → ¬ r3 = 0 → ¬ r1 = 0 → ¬ r1 = (2 : Int32) → (M3 61 23) = 0 → r1 = 0 → o = some (.int (1 : Int32)) ∧ M' = (ea_up (ea_up M3 61 19 (M3 61 19)) 61 18 (0 : Int32))) (q16 : ¬ r1 = (-1 : Int32) → ¬ r1 = (1 : Int32) → ¬ r3 = 0 → ¬ r1 = 0 → ¬ r1 = (2 : Int32) → ¬ (M3 61 23) = 0 → ea_Sp 0 yX7_does cX7_does 3 none [.ref 61, .int r1] (ea_up M3 61 19 (M3 61 19)) none M4) (h19 : ¬ r1 = (-1 : Int32) → ¬ r1 = (1 : Int32) → ¬ r3 = 0 → ¬ r1 = 0 → ¬ r1 = (2 : Int32) → ¬ (M3 61 23) = 0 → ¬ r1 = 0 → ¬ r1 = (1 : Int32) → o = some (.int (1 : Int32)) ∧ M' = (ea_up M4 61 18 (M4 61 18))) (h20 : ¬ r1 = (-1 : Int32) → ¬ r1 = (1 : Int32) → ¬ r3 = 0 → ¬ r1 = 0 → ¬ r1 = (2 : Int32) → ¬ (M3 61 23) = 0 → ¬ r1 = 0 → r1 = (1 : Int32) → o = some (.int (1 : Int32)) ∧ M' = (ea_up M4 61 18 ((M4 61 18) + (1 : Int32)))) (h21 : ¬ r1 = (-1 : Int32) → ¬ r1 = (1 : Int32) → ¬ r3 = 0 → ¬ r1 = 0 → ¬ r1 = (2 : Int32) → ¬ (M3 61 23) = 0 → r1 = 0 → o = some (.int (1 : Int32)) ∧ M' = (ea_up M4 61 18 (0 : Int32))) (h26 : ¬ r1 = (-1 : Int32) → ¬ r1 = (1 : Int32) → ¬ r3 = 0 → ¬ r1 = 0 → r1 = (2 : Int32) → (M3 61 23) = 0 → ¬ r1 = 0 → ¬ r1 = (1 : Int32) → o = some (.int (1 : Int32)) ∧ M' = (ea_up (ea_up M3 61 19 ((M3 61 19) + (M3 76 1))) 61 18 (M3 61 18))) (h27 : ¬ r1 = (-1 : Int32) → ¬ r1 = (1 : Int32) → ¬ r3 = 0 → ¬ r1 = 0 → r1 = (2 : Int32) → (M3 61 23) = 0 → ¬ r1 = 0 → r1 = (1 : Int32) → o = some (.int (1 : Int32)) ∧ M' = (ea_up (ea_up M3 61 19 ((M3 61 19) + (M3 76 1))) 61 18 ((M3 61 18) + (1 : Int32)))) (h28 : ¬ r1 = (-1 : Int32) → ¬ r1 = (1 : Int32) → ¬ r3 = 0 → ¬ r1 = 0 → r1 = (2 : Int32) → (M3 61 23) = 0 → r1 = 0 → o = some (.int (1 : Int32)) ∧ M' = (ea_up (ea_up M3 61 19 ((M3 61 19) + (M3 76 1))) 61 18 (0 : Int32))) (q29 : ¬ r1 = (-1 : Int32) → ¬ r1 = (1 : Int32) → ¬ r3 = 0 → ¬ r1 = 0 → r1 = (2 : Int32) → ¬ (M3 61 23) = 0 → ea_Sp 0 yX7_does cX7_does 3 none [.ref 61, .int r1] (ea_up M3 61 19 ((M3 61 19) + (M3 76 1))) none M5) (h32 : ¬ r1 = (-1 : Int32) → ¬ r1 = (1 : Int32) → ¬ r3 = 0 → ¬ r1 = 0 → r1 = (2 : Int32) → ¬ (M3 61 23) = 0 → ¬ r1 = 0 → ¬ r1 = (1 : Int32) → o = some (.int (1 : Int32)) ∧ M' = (ea_up M5 61 18 (M5 61 18))) (h33 : ¬ r1 = (-1 : Int32) → ¬ r1 = (1 : Int32) → ¬ r3 = 0 → ¬ r1 = 0 → r1 = (2 : Int32) → ¬ (M3 61 23) = 0 → ¬ r1 = 0 → r1 = (1 : Int32) → o = some (.int (1 : Int32)) ∧ M' = (ea_up M5 61 18 ((M5 61 18) + (1 : Int32)))) (h34 : ¬ r1 = (-1 : Int32) → ¬ r1 = (1 : Int32) → ¬ r3 = 0 → ¬ r1 = 0 → r1 = (2 : Int32) → ¬ (M3 61 23) = 0 → r1 = 0 → o = some (.int (1 : Int32)) ∧ M' = (ea_up M5 61 18 (0 : Int32))) (h38 : ¬ r1 = (-1 : Int32) → ¬ r1 = (1 : Int32) → ¬ r3 = 0 → r1 = 0 → (M3 61 23) = 0 → ¬ r1 = 0 → ¬ r1 = (1 : Int32) → o = some (.int (1 : Int32)) ∧ M' = (ea_up (ea_up M3 61 19 (0 : Int32)) 61 18 (M3 61 18))) (h39 : ¬ r1 = (-1 : Int32) → ¬ r1 = (1 : Int32) → ¬ r3 = 0 → r1 = 0 → (M3 61 23) = 0 → ¬ r1 = 0 → r1 = (1 : Int32) → o = some (.int (1 : Int32)) ∧ M' = (ea_up (ea_up M3 61 19 (0 : Int32)) 61 18 ((M3 61 18) + (1 : Int32)))) (h40 : ¬ r1 = (-1 : Int32) → ¬ r1 = (1 : Int32) → ¬ r3 = 0 → r1 = 0 → (M3 61 23) = 0 → r1 = 0 → o = some (.int (1 : Int32)) ∧ M' = (ea_up (ea_up M3 61 19 (0 : Int32)) 61 18 (0 : Int32))) (q41 : ¬ r1 = (-1 : Int32) → ¬ r1 = (1 : Int32) → ¬ r3 = 0 → r1 = 0 → ¬ (M3 61 23) = 0 → ea_Sp 0 yX7_does cX7_does 3 none [.ref 61, .int r1] (ea_up M3 61 19 (0 : Int32)) none M6) (h44 : ¬ r1 = (-1 : Int32) → ¬ r1 = (1 : Int32) → ¬ r3 = 0 → r1 = 0 → ¬ (M3 61 23) = 0 → ¬ r1 = 0 → ¬ r1 = (1 : Int32) → o = some (.int (1 : Int32)) ∧ M' = (ea_up M6 61 18 (M6 61 18))) (h45 : ¬ r1 = (-1 : Int32) → ¬ r1 = (1 : Int32) → ¬ r3 = 0 → r1 = 0 → ¬ (M3 61 23) = 0 → ¬ r1 = 0 → r1 = (1 : Int32) → o = some (.int (1 : Int32)) ∧ M' = (ea_up M6 61 18 ((M6 61 18) + (1 : Int32)))) (h46 : ¬ r1 = (-1 : Int32) → ¬ r1 = (1 : Int32) → ¬ r3 = 0 → r1 = 0 → ¬ (M3 61 23) = 0 → r1 = 0 → o = some (.int (1 : Int32)) ∧ M' = (ea_up M6 61 18 (0 : Int32))) (h47 : ¬ r1 = (-1 : Int32) → ¬ r1 = (1 : Int32) → r3 = 0 → o = some (.int (0 : Int32)) ∧ M' = M3) (q49 : ¬ r1 = (-1 : Int32) → r1 = (1 : Int32) → ¬ (M 61 18) = (6 : Int32) → ea_Sp 2 yX7_nextToken cX7_nextToken 1 none [.ref 61] M none M7) (q50 : ¬ r1 = (-1 : Int32) → r1 = (1 : Int32) → ¬ (M 61 18) = (6 : Int32) → ea_Sp 4 yX7_readsRest cX7_readsRest 2 (some .boolean) [.ref 61, .int r1] M7 (some (.int r8)) M8) (h57 : ¬ r1 = (-1 : Int32) → r1 = (1 : Int32) → ¬ (M 61 18) = (6 : Int32) → ¬ r8 = 0 → ¬ r1 = 0 → ¬ r1 = (2 : Int32) → (M8 61 23) = 0 → ¬ r1 = 0 → ¬ r1 = (1 : Int32) → o = some (.int (1 : Int32)) ∧ M' = (ea_up (ea_up M8 61 19 (M8 61 19)) 61 18 (M8 61 18))) (h58 : ¬ r1 = (-1 : Int32) → r1 = (1 : Int32) → ¬ (M 61 18) = (6 : Int32) → ¬ r8 = 0 → ¬ r1 = 0 → ¬ r1 = (2 : Int32) → (M8 61 23) = 0 → ¬ r1 = 0 → r1 = (1 : Int32) → o = some (.int (1 : Int32)) ∧ M' = (ea_up (ea_up M8 61 19 (M8 61 19)) 61 18 ((M8 61 18) + (1 : Int32)))) (h59 : ¬ r1 = (-1 : Int32) → r1 = (1 : Int32) → ¬ (M 61 18) = (6 : Int32) → ¬ r8 = 0 → ¬ r1 = 0 → ¬ r1 = (2 : Int32) → (M8 61 23) = 0 → r1 = 0 → o = some (.int (1 : Int32)) ∧ M' = (ea_up (ea_up M8 61 19 (M8 61 19)) 61 18 (0 : Int32))) (q60 : ¬ r1 = (-1 : Int32) → r1 = (1 : Int32) → ¬ (M 61 18) = (6 : Int32) → ¬ r8 = 0 → ¬ r1 = 0 → ¬ r1 = (2 : Int32) → ¬ (M8 61 23) = 0 → ea_Sp 0 yX7_does cX7_does 3 none [.ref 61, .int r1] (ea_up M8 61 19 (M8 61 19)) none M9) (h63 : ¬ r1 = (-1 : Int32) → r1 = (1 : Int32) → ¬ (M 61 18) = (6 : Int32) → ¬ r8 = 0 → ¬ r1 = 0 → ¬ r1 = (2 : Int32) → ¬ (M8 61 23) = 0 → ¬ r1 = 0 → ¬ r1 = (1 : Int32) → o = some (.int (1 : Int32)) ∧ M' = (ea_up M9 61 18 (M9 61 18))) (h64 : ¬ r1 = (-1 : Int32) → r1 = (1 : Int32) → ¬ (M 61 18) = (6 : Int32) → ¬ r8 = 0 → ¬ r1 = 0 → ¬ r1 = (2 : Int32) → ¬ (M8 61 23) = 0 → ¬ r1 = 0 → r1 = (1 : Int32) → o = some (.int (1 : Int32)) ∧ M' = (ea_up M9 61 18 ((M9 61 18) + (1 : Int32)))) (h65 : ¬ r1 = (-1 : Int32) → r1 = (1 : Int32) → ¬ (M 61 18) = (6 : Int32) → ¬ r8 = 0 → ¬ r1 = 0 → ¬ r1 = (2 : Int32) → ¬ (M8 61 23) = 0 → r1 = 0 → o = some (.int (1 : Int32)) ∧ M' = (ea_up M9 61 18 (0 : Int32))) (h70 : ¬ r1 = (-1 : Int32) → r1 = (1 : Int32) → ¬ (M 61 18) = (6 : Int32) → ¬ r8 = 0 → ¬ r1 = 0 → r1 = (2 : Int32) → (M8 61 23) = 0 → ¬ r1 = 0 → ¬ r1 = (1 : Int32) → o = some (.int (1 : Int32)) ∧ M' = (ea_up (ea_up M8 61 19 ((M8 61 19) + (M8 76 1))) 61 18 (M8 61 18))) (h71 : ¬ r1 = (-1 : Int32) → r1 = (1 : Int32) → ¬ (M 61 18) = (6 : Int32) → ¬ r8 = 0 → ¬ r1 = 0 → r1 = (2 : Int32) → (M8 61 23) = 0 → ¬ r1 = 0 → r1 = (1 : Int32) → o = some (.int (1 : Int32)) ∧ M' = (ea_up (ea_up M8 61 19 ((M8 61 19) + (M8 76 1))) 61 18 ((M8 61 18) + (1 : Int32)))) (h72 : ¬ r1 = (-1 : Int32) → r1 = (1 : Int32) → ¬ (M 61 18) = (6 : Int32) → ¬ r8 = 0 → ¬ r1 = 0 → r1 = (2 : Int32) → (M8 61 23) = 0 → r1 = 0 → o = some (.int (1 : Int32)) ∧ M' = (ea_up (ea_up M8 61 19 ((M8 61 19) + (M8 76 1))) 61 18 (0 : Int32))) (q73 : ¬ r1 = (-1 : Int32) → r1 = (1 : Int32) → ¬ (M 61 18) = (6 : Int32) → ¬ r8 = 0 → ¬ r1 = 0 → r1 = (2 : Int32) → ¬ (M8 61 23) = 0 → ea_Sp 0 yX7_does cX7_does 3 none [.ref 61, .int r1] (ea_up M8 61 19 ((M8 61 19) + (M8 76 1))) none M10) (h76 : ¬ r1 = (-1 : Int32) → r1 = (1 : Int32) → ¬ (M 61 18) = (6 : Int32) → ¬ r8 = 0 → ¬ r1 = 0 → r1 = (2 : Int32) → ¬ (M8 61 23) = 0 → ¬ r1 = 0 → ¬ r1 = (1 : Int32) → o = some (.int (1 : Int32)) ∧ M' = (ea_up M10 61 18 (M10 61 18))) (h77 : ¬ r1 = (-1 : Int32) → r1 = (1 : Int32) → ¬ (M 61 18) = (6 : Int32) → ¬ r8 = 0 → ¬ r1 = 0 → r1 = (2 : Int32) → ¬ (M8 61 23) = 0 → ¬ r1 = 0 → r1 = (1 : Int32) → o = some (.int (1 : Int32)) ∧ M' = (ea_up M10 61 18 ((M10 61 18) + (1 : Int32)))) (h78 : ¬ r1 = (-1 : Int32) → r1 = (1 : Int32) → ¬ (M 61 18) = (6 : Int32) → ¬ r8 = 0 → ¬ r1 = 0 → r1 = (2 : Int32) → ¬ (M8 61 23) = 0 → r1 = 0 → o = some (.int (1 : Int32)) ∧ M' = (ea_up M10 61 18 (0 : Int32))) (h82 : ¬ r1 = (-1 : Int32) → r1 = (1 : Int32) → ¬ (M 61 18) = (6 : Int32) → ¬ r8 = 0 → r1 = 0 → (M8 61 23) = 0 → ¬ r1 = 0 → ¬ r1 = (1 : Int32) → o = some (.int (1 : Int32)) ∧ M' = (ea_up (ea_up M8 61 19 (0 : Int32)) 61 18 (M8 61 18))) (h83 : ¬ r1 = (-1 : Int32) → r1 = (1 : Int32) → ¬ (M 61 18) = (6 : Int32) → ¬ r8 = 0 → r1 = 0 → (M8 61 23) = 0 → ¬ r1 = 0 → r1 = (1 : Int32) → o = some (.int (1 : Int32)) ∧ M' = (ea_up (ea_up M8 61 19 (0 : Int32)) 61 18 ((M8 61 18) + (1 : Int32)))) (h84 : ¬ r1 = (-1 : Int32) → r1 = (1 : Int32) → ¬ (M 61 18) = (6 : Int32) → ¬ r8 = 0 → r1 = 0 → (M8 61 23) = 0 → r1 = 0 → o = some (.int (1 : Int32)) ∧ M' = (ea_up (ea_up M8 61 19 (0 : Int32)) 61 18 (0 : Int32))) (q85 : ¬ r1 = (-1 : Int32) → r1 = (1 : Int32) → ¬ (M 61 18) = (6 : Int32) → ¬ r8 = 0 → r1 = 0 → ¬ (M8 61 23) = 0 → ea_Sp 0 yX7_does cX7_does 3 none [.ref 61, .int r1] (ea_up M8 61 19 (0 : Int32)) none M11) (h88 : ¬ r1 = (-1 : Int32) → r1 = (1 : Int32) → ¬ (M 61 18) = (6 : Int32) → ¬ r8 = 0 → r1 = 0 → ¬ (M8 61 23) = 0 → ¬ r1 = 0 → ¬ r1 = (1 : Int32) → o = some (.int (1 : Int32)) ∧ M' = (ea_up M11 61 18 (M11 61 18))) (h89 : ¬ r1 = (-1 : Int32) → r1 = (1 : Int32) → ¬ (M 61 18) = (6 : Int32) → ¬ r8 = 0 → r1 = 0 → ¬ (M8 61 23) = 0 → ¬ r1 = 0 → r1 = (1 : Int32) → o = some (.int (1 : Int32)) ∧ M' = (ea_up M11 61 18 ((M11 61 18) + (1 : Int32)))) (h90 : ¬ r1 = (-1 : Int32) → r1 = (1 : Int32) → ¬ (M 61 18) = (6 : Int32) → ¬ r8 = 0 → r1 = 0 → ¬ (M8 61 23) = 0 → r1 = 0 → o = some (.int (1 : Int32)) ∧ M' = (ea_up M11 61 18 (0 : Int32))) (h91 : ¬ r1 = (-1 : Int32) → r1 = (1 : Int32) → ¬ (M 61 18) = (6 : Int32) → r8 = 0 → o = some (.int (0 : Int32)) ∧ M' = M8) (h92 : ¬ r1 = (-1 : Int32) → r1 = (1 : Int32) → (M 61 18) = (6 : Int32) → o = some (.int (0 : Int32)) ∧ M' = M) : ea_E k 0 [(0, .ref 61)] [] M := by
  refine e_aload_n (n := 0) C dX7_readsClause_0 rfl rfl ?_
  refine e_callV1 (as := []) (rest := []) C lk_X7_129 q1 (by decide) rfl (by decide) rfl (by decide) rfl rfl (Nat.le_of_ble_eq_true rfl) dX7_readsClause_1 ?_
  refine e_istore_n C dX7_readsClause_4 rfl (by decide) rfl ?_
  refine e_iload_n (n := 0) C dX7_readsClause_5 rfl rfl ?_
  refine e_iconst (v := -1) C dX7_readsClause_6 (by decide) ?_
  refine e_icmp_eq (tgt := 24) C dX7_readsClause_7 (by decide) (fun c2 => ?_) (fun c2 => ?_)
  · refine e_iconst (v := 0) C dX7_readsClause_24 (by decide) ?_
    exact e_iret C X rfl rfl dX7_readsClause_25 (h3 c2)
  · refine e_iload_n (n := 0) C dX7_readsClause_10 rfl rfl ?_
    refine e_iconst (v := 1) C dX7_readsClause_11 (by decide) ?_
    refine e_icmp_ne (tgt := 26) C dX7_readsClause_12 (by decide) (fun c4 => ?_) (fun c4 => ?_)
    · refine e_aload_n (n := 1) C dX7_readsClause_26 rfl rfl ?_
      refine e_callV0 (as := []) (rest := []) C lk_X7_95 (q5 c2 c4) (by decide) rfl (by decide) rfl (by decide) rfl rfl (Nat.le_of_ble_eq_true rfl) dX7_readsClause_27 ?_
      refine e_aload_n (n := 1) C dX7_readsClause_30 rfl rfl ?_
      refine e_iload_n (n := 0) C dX7_readsClause_31 rfl rfl ?_
      refine e_callV1 (as := [.int r1]) (rest := []) C lk_X7_132 (q6 c2 c4) (by decide) rfl (by decide) rfl (by decide) rfl rfl (Nat.le_of_ble_eq_true rfl) dX7_readsClause_32 ?_
      refine e_if_ne (tgt := 40) C dX7_readsClause_35 (by decide) (fun c7 => ?_) (fun c7 => ?_)
      · refine e_aload_n (n := 1) C dX7_readsClause_40 rfl rfl ?_
        refine e_iload_n (n := 0) C dX7_readsClause_41 rfl rfl ?_
        refine e_if_ne (tgt := 49) C dX7_readsClause_42 (by decide) (fun c8 => ?_) (fun c8 => ?_)
        · refine e_iload_n (n := 0) C dX7_readsClause_49 rfl rfl ?_
          refine e_iconst (v := 2) C dX7_readsClause_50 (by decide) ?_
          refine e_icmp_ne (tgt := 68) C dX7_readsClause_51 (by decide) (fun c9 => ?_) (fun c9 => ?_)
          · refine e_aload_n (n := 1) C dX7_readsClause_68 rfl rfl ?_
            refine e_get (v := .int (M3 61 19)) C fd_X7_116 (by decide) rfl rfl dX7_readsClause_69 ?_
            refine e_put (ty := .int) C fd_X7_116 (by decide) rfl rfl (by decide +kernel) (vp_nar_int _) rfl (ea_set7_19 _ _ _) dX7_readsClause_72 ?_
            refine e_aload_n (n := 1) C dX7_readsClause_75 rfl rfl ?_
            refine e_get (v := .int (M3 61 23)) C fd_X7_135 (by decide) rfl (congrArg (fun z => some (Value.int z)) (by simp [ea_upR, ea_upS, ea_upK, pa_setR, pa_cpR, fr_X3_add, fr_X5_forget, fr_X5_become, fr_X4_clear, fr_X4_addStuff, fr_X4_become_d, fr_X4_become_s, fr_X0_enter, fr_X0_remove, fr_X7_erase] : (ea_up M3 61 19 (M3 61 19)) 61 23 = (M3 61 23))) dX7_readsClause_76 ?_
            refine e_if_eq (tgt := 87) C dX7_readsClause_79 (by decide) (fun c10 => ?_) (fun c10 => ?_)
            · refine e_aload_n (n := 1) C dX7_readsClause_87 rfl rfl ?_
              refine e_iload_n (n := 0) C dX7_readsClause_88 rfl rfl ?_
              refine e_if_ne (tgt := 96) C dX7_readsClause_89 (by decide) (fun c11 => ?_) (fun c11 => ?_)
              · refine e_iload_n (n := 0) C dX7_readsClause_96 rfl rfl ?_
                refine e_iconst (v := 1) C dX7_readsClause_97 (by decide) ?_
                refine e_icmp_ne (tgt := 110) C dX7_readsClause_98 (by decide) (fun c12 => ?_) (fun c12 => ?_)
                · refine e_aload_n (n := 1) C dX7_readsClause_110 rfl rfl ?_
                  refine e_get (v := .int (M3 61 18)) C fd_X7_98 (by decide) rfl (congrArg (fun z => some (Value.int z)) (by simp [ea_upR, ea_upS, ea_upK, pa_setR, pa_cpR, fr_X3_add, fr_X5_forget, fr_X5_become, fr_X4_clear, fr_X4_addStuff, fr_X4_become_d, fr_X4_become_s, fr_X0_enter, fr_X0_remove, fr_X7_erase] : (ea_up M3 61 19 (M3 61 19)) 61 18 = (M3 61 18))) dX7_readsClause_111 ?_
                  refine e_put (ty := .int) C fd_X7_98 (by decide) rfl rfl (by decide +kernel) (vp_nar_int _) rfl (ea_set7_18 _ _ _) dX7_readsClause_114 ?_
                  refine e_iconst (v := 1) C dX7_readsClause_117 (by decide) ?_
                  exact e_iret C X rfl rfl dX7_readsClause_118 (h13 c2 c4 c7 c8 c9 c10 c11 c12)
                · refine e_aload_n (n := 1) C dX7_readsClause_101 rfl rfl ?_
                  refine e_get (v := .int (M3 61 18)) C fd_X7_98 (by decide) rfl (congrArg (fun z => some (Value.int z)) (by simp [ea_upR, ea_upS, ea_upK, pa_setR, pa_cpR, fr_X3_add, fr_X5_forget, fr_X5_become, fr_X4_clear, fr_X4_addStuff, fr_X4_become_d, fr_X4_become_s, fr_X0_enter, fr_X0_remove, fr_X7_erase] : (ea_up M3 61 19 (M3 61 19)) 61 18 = (M3 61 18))) dX7_readsClause_102 ?_
                  refine e_iconst (v := 1) C dX7_readsClause_105 (by decide) ?_
                  refine e_iadd C dX7_readsClause_106 ?_
                  refine e_goto (tgt := 114) C dX7_readsClause_107 (by decide) ?_
                  refine e_put (ty := .int) C fd_X7_98 (by decide) rfl rfl (by decide +kernel) (vp_nar_int _) rfl (ea_set7_18 _ _ _) dX7_readsClause_114 ?_
                  refine e_iconst (v := 1) C dX7_readsClause_117 (by decide) ?_
                  exact e_iret C X rfl rfl dX7_readsClause_118 (h14 c2 c4 c7 c8 c9 c10 c11 c12)
              · refine e_iconst (v := 0) C dX7_readsClause_92 (by decide) ?_
                refine e_goto (tgt := 114) C dX7_readsClause_93 (by decide) ?_
                refine e_put (ty := .int) C fd_X7_98 (by decide) rfl rfl (by decide +kernel) (vp_nar_int _) rfl (ea_set7_18 _ _ _) dX7_readsClause_114 ?_
                refine e_iconst (v := 1) C dX7_readsClause_117 (by decide) ?_
                exact e_iret C X rfl rfl dX7_readsClause_118 (h15 c2 c4 c7 c8 c9 c10 c11)
            · refine e_aload_n (n := 1) C dX7_readsClause_82 rfl rfl ?_
              refine e_iload_n (n := 0) C dX7_readsClause_83 rfl rfl ?_
              refine e_callV0 (as := [.int r1]) (rest := []) C lk_X7_139 (q16 c2 c4 c7 c8 c9 c10) (by decide) rfl (by decide) rfl (by decide) rfl rfl (Nat.le_of_ble_eq_true rfl) dX7_readsClause_84 ?_
              refine e_aload_n (n := 1) C dX7_readsClause_87 rfl rfl ?_
              refine e_iload_n (n := 0) C dX7_readsClause_88 rfl rfl ?_
              refine e_if_ne (tgt := 96) C dX7_readsClause_89 (by decide) (fun c17 => ?_) (fun c17 => ?_)
              · refine e_iload_n (n := 0) C dX7_readsClause_96 rfl rfl ?_
                refine e_iconst (v := 1) C dX7_readsClause_97 (by decide) ?_
                refine e_icmp_ne (tgt := 110) C dX7_readsClause_98 (by decide) (fun c18 => ?_) (fun c18 => ?_)
                · refine e_aload_n (n := 1) C dX7_readsClause_110 rfl rfl ?_
                  refine e_get (v := .int (M4 61 18)) C fd_X7_98 (by decide) rfl rfl dX7_readsClause_111 ?_
                  refine e_put (ty := .int) C fd_X7_98 (by decide) rfl rfl (by decide +kernel) (vp_nar_int _) rfl (ea_set7_18 _ _ _) dX7_readsClause_114 ?_
                  refine e_iconst (v := 1) C dX7_readsClause_117 (by decide) ?_
                  exact e_iret C X rfl rfl dX7_readsClause_118 (h19 c2 c4 c7 c8 c9 c10 c17 c18)
                · refine e_aload_n (n := 1) C dX7_readsClause_101 rfl rfl ?_
                  refine e_get (v := .int (M4 61 18)) C fd_X7_98 (by decide) rfl rfl dX7_readsClause_102 ?_
                  refine e_iconst (v := 1) C dX7_readsClause_105 (by decide) ?_
                  refine e_iadd C dX7_readsClause_106 ?_
                  refine e_goto (tgt := 114) C dX7_readsClause_107 (by decide) ?_
                  refine e_put (ty := .int) C fd_X7_98 (by decide) rfl rfl (by decide +kernel) (vp_nar_int _) rfl (ea_set7_18 _ _ _) dX7_readsClause_114 ?_
                  refine e_iconst (v := 1) C dX7_readsClause_117 (by decide) ?_
                  exact e_iret C X rfl rfl dX7_readsClause_118 (h20 c2 c4 c7 c8 c9 c10 c17 c18)
              · refine e_iconst (v := 0) C dX7_readsClause_92 (by decide) ?_
                refine e_goto (tgt := 114) C dX7_readsClause_93 (by decide) ?_
                refine e_put (ty := .int) C fd_X7_98 (by decide) rfl rfl (by decide +kernel) (vp_nar_int _) rfl (ea_set7_18 _ _ _) dX7_readsClause_114 ?_
                refine e_iconst (v := 1) C dX7_readsClause_117 (by decide) ?_
                exact e_iret C X rfl rfl dX7_readsClause_118 (h21 c2 c4 c7 c8 c9 c10 c17)
          · refine e_aload_n (n := 1) C dX7_readsClause_54 rfl rfl ?_
            refine e_get (v := .int (M3 61 19)) C fd_X7_116 (by decide) rfl rfl dX7_readsClause_55 ?_
            refine e_aload_n (n := 1) C dX7_readsClause_58 rfl rfl ?_
            refine e_get (v := .ref 76) C fd_X7_53 (by decide) rfl rfl dX7_readsClause_59 ?_
            refine e_iconst (v := 1) C dX7_readsClause_62 (by decide) ?_
            refine e_iald (n := 3) C (by decide) rfl (by decide) (vp_in_nI (n := 1) (N := 3) (by decide) (by decide)) dX7_readsClause_63 ?_
            refine e_iadd C dX7_readsClause_64 ?_
            refine e_goto (tgt := 72) C dX7_readsClause_65 (by decide) ?_
            refine e_put (ty := .int) C fd_X7_116 (by decide) rfl rfl (by decide +kernel) (vp_nar_int _) rfl (ea_set7_19 _ _ _) dX7_readsClause_72 ?_
            refine e_aload_n (n := 1) C dX7_readsClause_75 rfl rfl ?_
            refine e_get (v := .int (M3 61 23)) C fd_X7_135 (by decide) rfl (congrArg (fun z => some (Value.int z)) (by simp [ea_upR, ea_upS, ea_upK, pa_setR, pa_cpR, fr_X3_add, fr_X5_forget, fr_X5_become, fr_X4_clear, fr_X4_addStuff, fr_X4_become_d, fr_X4_become_s, fr_X0_enter, fr_X0_remove, fr_X7_erase] : (ea_up M3 61 19 ((M3 61 19) + (M3 76 1))) 61 23 = (M3 61 23))) dX7_readsClause_76 ?_
            refine e_if_eq (tgt := 87) C dX7_readsClause_79 (by decide) (fun c23 => ?_) (fun c23 => ?_)
            · refine e_aload_n (n := 1) C dX7_readsClause_87 rfl rfl ?_
              refine e_iload_n (n := 0) C dX7_readsClause_88 rfl rfl ?_
              refine e_if_ne (tgt := 96) C dX7_readsClause_89 (by decide) (fun c24 => ?_) (fun c24 => ?_)
              · refine e_iload_n (n := 0) C dX7_readsClause_96 rfl rfl ?_
                refine e_iconst (v := 1) C dX7_readsClause_97 (by decide) ?_
                refine e_icmp_ne (tgt := 110) C dX7_readsClause_98 (by decide) (fun c25 => ?_) (fun c25 => ?_)
                · refine e_aload_n (n := 1) C dX7_readsClause_110 rfl rfl ?_
                  refine e_get (v := .int (M3 61 18)) C fd_X7_98 (by decide) rfl (congrArg (fun z => some (Value.int z)) (by simp [ea_upR, ea_upS, ea_upK, pa_setR, pa_cpR, fr_X3_add, fr_X5_forget, fr_X5_become, fr_X4_clear, fr_X4_addStuff, fr_X4_become_d, fr_X4_become_s, fr_X0_enter, fr_X0_remove, fr_X7_erase] : (ea_up M3 61 19 ((M3 61 19) + (M3 76 1))) 61 18 = (M3 61 18))) dX7_readsClause_111 ?_
                  refine e_put (ty := .int) C fd_X7_98 (by decide) rfl rfl (by decide +kernel) (vp_nar_int _) rfl (ea_set7_18 _ _ _) dX7_readsClause_114 ?_
                  refine e_iconst (v := 1) C dX7_readsClause_117 (by decide) ?_
                  exact e_iret C X rfl rfl dX7_readsClause_118 (h26 c2 c4 c7 c8 c9 c23 c24 c25)
                · refine e_aload_n (n := 1) C dX7_readsClause_101 rfl rfl ?_
                  refine e_get (v := .int (M3 61 18)) C fd_X7_98 (by decide) rfl (congrArg (fun z => some (Value.int z)) (by simp [ea_upR, ea_upS, ea_upK, pa_setR, pa_cpR, fr_X3_add, fr_X5_forget, fr_X5_become, fr_X4_clear, fr_X4_addStuff, fr_X4_become_d, fr_X4_become_s, fr_X0_enter, fr_X0_remove, fr_X7_erase] : (ea_up M3 61 19 ((M3 61 19) + (M3 76 1))) 61 18 = (M3 61 18))) dX7_readsClause_102 ?_
                  refine e_iconst (v := 1) C dX7_readsClause_105 (by decide) ?_
                  refine e_iadd C dX7_readsClause_106 ?_
                  refine e_goto (tgt := 114) C dX7_readsClause_107 (by decide) ?_
                  refine e_put (ty := .int) C fd_X7_98 (by decide) rfl rfl (by decide +kernel) (vp_nar_int _) rfl (ea_set7_18 _ _ _) dX7_readsClause_114 ?_
                  refine e_iconst (v := 1) C dX7_readsClause_117 (by decide) ?_
                  exact e_iret C X rfl rfl dX7_readsClause_118 (h27 c2 c4 c7 c8 c9 c23 c24 c25)
              · refine e_iconst (v := 0) C dX7_readsClause_92 (by decide) ?_
                refine e_goto (tgt := 114) C dX7_readsClause_93 (by decide) ?_
                refine e_put (ty := .int) C fd_X7_98 (by decide) rfl rfl (by decide +kernel) (vp_nar_int _) rfl (ea_set7_18 _ _ _) dX7_readsClause_114 ?_
                refine e_iconst (v := 1) C dX7_readsClause_117 (by decide) ?_
                exact e_iret C X rfl rfl dX7_readsClause_118 (h28 c2 c4 c7 c8 c9 c23 c24)
            · refine e_aload_n (n := 1) C dX7_readsClause_82 rfl rfl ?_
              refine e_iload_n (n := 0) C dX7_readsClause_83 rfl rfl ?_
              refine e_callV0 (as := [.int r1]) (rest := []) C lk_X7_139 (q29 c2 c4 c7 c8 c9 c23) (by decide) rfl (by decide) rfl (by decide) rfl rfl (Nat.le_of_ble_eq_true rfl) dX7_readsClause_84 ?_
              refine e_aload_n (n := 1) C dX7_readsClause_87 rfl rfl ?_
              refine e_iload_n (n := 0) C dX7_readsClause_88 rfl rfl ?_
              refine e_if_ne (tgt := 96) C dX7_readsClause_89 (by decide) (fun c30 => ?_) (fun c30 => ?_)
              · refine e_iload_n (n := 0) C dX7_readsClause_96 rfl rfl ?_
                refine e_iconst (v := 1) C dX7_readsClause_97 (by decide) ?_
                refine e_icmp_ne (tgt := 110) C dX7_readsClause_98 (by decide) (fun c31 => ?_) (fun c31 => ?_)
                · refine e_aload_n (n := 1) C dX7_readsClause_110 rfl rfl ?_
                  refine e_get (v := .int (M5 61 18)) C fd_X7_98 (by decide) rfl rfl dX7_readsClause_111 ?_
                  refine e_put (ty := .int) C fd_X7_98 (by decide) rfl rfl (by decide +kernel) (vp_nar_int _) rfl (ea_set7_18 _ _ _) dX7_readsClause_114 ?_
                  refine e_iconst (v := 1) C dX7_readsClause_117 (by decide) ?_
                  exact e_iret C X rfl rfl dX7_readsClause_118 (h32 c2 c4 c7 c8 c9 c23 c30 c31)
                · refine e_aload_n (n := 1) C dX7_readsClause_101 rfl rfl ?_
                  refine e_get (v := .int (M5 61 18)) C fd_X7_98 (by decide) rfl rfl dX7_readsClause_102 ?_
                  refine e_iconst (v := 1) C dX7_readsClause_105 (by decide) ?_
                  refine e_iadd C dX7_readsClause_106 ?_
                  refine e_goto (tgt := 114) C dX7_readsClause_107 (by decide) ?_
                  refine e_put (ty := .int) C fd_X7_98 (by decide) rfl rfl (by decide +kernel) (vp_nar_int _) rfl (ea_set7_18 _ _ _) dX7_readsClause_114 ?_
                  refine e_iconst (v := 1) C dX7_readsClause_117 (by decide) ?_
                  exact e_iret C X rfl rfl dX7_readsClause_118 (h33 c2 c4 c7 c8 c9 c23 c30 c31)
              · refine e_iconst (v := 0) C dX7_readsClause_92 (by decide) ?_
                refine e_goto (tgt := 114) C dX7_readsClause_93 (by decide) ?_
                refine e_put (ty := .int) C fd_X7_98 (by decide) rfl rfl (by decide +kernel) (vp_nar_int _) rfl (ea_set7_18 _ _ _) dX7_readsClause_114 ?_
                refine e_iconst (v := 1) C dX7_readsClause_117 (by decide) ?_
                exact e_iret C X rfl rfl dX7_readsClause_118 (h34 c2 c4 c7 c8 c9 c23 c30)
        · refine e_iconst (v := 0) C dX7_readsClause_45 (by decide) ?_
          refine e_goto (tgt := 72) C dX7_readsClause_46 (by decide) ?_
          refine e_put (ty := .int) C fd_X7_116 (by decide) rfl rfl (by decide +kernel) (vp_nar_int _) rfl (ea_set7_19 _ _ _) dX7_readsClause_72 ?_
          refine e_aload_n (n := 1) C dX7_readsClause_75 rfl rfl ?_
          refine e_get (v := .int (M3 61 23)) C fd_X7_135 (by decide) rfl (congrArg (fun z => some (Value.int z)) (by simp [ea_upR, ea_upS, ea_upK, pa_setR, pa_cpR, fr_X3_add, fr_X5_forget, fr_X5_become, fr_X4_clear, fr_X4_addStuff, fr_X4_become_d, fr_X4_become_s, fr_X0_enter, fr_X0_remove, fr_X7_erase] : (ea_up M3 61 19 (0 : Int32)) 61 23 = (M3 61 23))) dX7_readsClause_76 ?_
          refine e_if_eq (tgt := 87) C dX7_readsClause_79 (by decide) (fun c35 => ?_) (fun c35 => ?_)
          · refine e_aload_n (n := 1) C dX7_readsClause_87 rfl rfl ?_
            refine e_iload_n (n := 0) C dX7_readsClause_88 rfl rfl ?_
            refine e_if_ne (tgt := 96) C dX7_readsClause_89 (by decide) (fun c36 => ?_) (fun c36 => ?_)
            · refine e_iload_n (n := 0) C dX7_readsClause_96 rfl rfl ?_
              refine e_iconst (v := 1) C dX7_readsClause_97 (by decide) ?_
              refine e_icmp_ne (tgt := 110) C dX7_readsClause_98 (by decide) (fun c37 => ?_) (fun c37 => ?_)
              · refine e_aload_n (n := 1) C dX7_readsClause_110 rfl rfl ?_
                refine e_get (v := .int (M3 61 18)) C fd_X7_98 (by decide) rfl (congrArg (fun z => some (Value.int z)) (by simp [ea_upR, ea_upS, ea_upK, pa_setR, pa_cpR, fr_X3_add, fr_X5_forget, fr_X5_become, fr_X4_clear, fr_X4_addStuff, fr_X4_become_d, fr_X4_become_s, fr_X0_enter, fr_X0_remove, fr_X7_erase] : (ea_up M3 61 19 (0 : Int32)) 61 18 = (M3 61 18))) dX7_readsClause_111 ?_
                refine e_put (ty := .int) C fd_X7_98 (by decide) rfl rfl (by decide +kernel) (vp_nar_int _) rfl (ea_set7_18 _ _ _) dX7_readsClause_114 ?_
                refine e_iconst (v := 1) C dX7_readsClause_117 (by decide) ?_
                exact e_iret C X rfl rfl dX7_readsClause_118 (h38 c2 c4 c7 c8 c35 c36 c37)
              · refine e_aload_n (n := 1) C dX7_readsClause_101 rfl rfl ?_
                refine e_get (v := .int (M3 61 18)) C fd_X7_98 (by decide) rfl (congrArg (fun z => some (Value.int z)) (by simp [ea_upR, ea_upS, ea_upK, pa_setR, pa_cpR, fr_X3_add, fr_X5_forget, fr_X5_become, fr_X4_clear, fr_X4_addStuff, fr_X4_become_d, fr_X4_become_s, fr_X0_enter, fr_X0_remove, fr_X7_erase] : (ea_up M3 61 19 (0 : Int32)) 61 18 = (M3 61 18))) dX7_readsClause_102 ?_
                refine e_iconst (v := 1) C dX7_readsClause_105 (by decide) ?_
                refine e_iadd C dX7_readsClause_106 ?_
                refine e_goto (tgt := 114) C dX7_readsClause_107 (by decide) ?_
                refine e_put (ty := .int) C fd_X7_98 (by decide) rfl rfl (by decide +kernel) (vp_nar_int _) rfl (ea_set7_18 _ _ _) dX7_readsClause_114 ?_
                refine e_iconst (v := 1) C dX7_readsClause_117 (by decide) ?_
                exact e_iret C X rfl rfl dX7_readsClause_118 (h39 c2 c4 c7 c8 c35 c36 c37)
            · refine e_iconst (v := 0) C dX7_readsClause_92 (by decide) ?_
              refine e_goto (tgt := 114) C dX7_readsClause_93 (by decide) ?_
              refine e_put (ty := .int) C fd_X7_98 (by decide) rfl rfl (by decide +kernel) (vp_nar_int _) rfl (ea_set7_18 _ _ _) dX7_readsClause_114 ?_
              refine e_iconst (v := 1) C dX7_readsClause_117 (by decide) ?_
              exact e_iret C X rfl rfl dX7_readsClause_118 (h40 c2 c4 c7 c8 c35 c36)
          · refine e_aload_n (n := 1) C dX7_readsClause_82 rfl rfl ?_
            refine e_iload_n (n := 0) C dX7_readsClause_83 rfl rfl ?_
            refine e_callV0 (as := [.int r1]) (rest := []) C lk_X7_139 (q41 c2 c4 c7 c8 c35) (by decide) rfl (by decide) rfl (by decide) rfl rfl (Nat.le_of_ble_eq_true rfl) dX7_readsClause_84 ?_
            refine e_aload_n (n := 1) C dX7_readsClause_87 rfl rfl ?_
            refine e_iload_n (n := 0) C dX7_readsClause_88 rfl rfl ?_
            refine e_if_ne (tgt := 96) C dX7_readsClause_89 (by decide) (fun c42 => ?_) (fun c42 => ?_)
            · refine e_iload_n (n := 0) C dX7_readsClause_96 rfl rfl ?_
              refine e_iconst (v := 1) C dX7_readsClause_97 (by decide) ?_
              refine e_icmp_ne (tgt := 110) C dX7_readsClause_98 (by decide) (fun c43 => ?_) (fun c43 => ?_)
              · refine e_aload_n (n := 1) C dX7_readsClause_110 rfl rfl ?_
                refine e_get (v := .int (M6 61 18)) C fd_X7_98 (by decide) rfl rfl dX7_readsClause_111 ?_
                refine e_put (ty := .int) C fd_X7_98 (by decide) rfl rfl (by decide +kernel) (vp_nar_int _) rfl (ea_set7_18 _ _ _) dX7_readsClause_114 ?_
                refine e_iconst (v := 1) C dX7_readsClause_117 (by decide) ?_
                exact e_iret C X rfl rfl dX7_readsClause_118 (h44 c2 c4 c7 c8 c35 c42 c43)
              · refine e_aload_n (n := 1) C dX7_readsClause_101 rfl rfl ?_
                refine e_get (v := .int (M6 61 18)) C fd_X7_98 (by decide) rfl rfl dX7_readsClause_102 ?_
                refine e_iconst (v := 1) C dX7_readsClause_105 (by decide) ?_
                refine e_iadd C dX7_readsClause_106 ?_
                refine e_goto (tgt := 114) C dX7_readsClause_107 (by decide) ?_
                refine e_put (ty := .int) C fd_X7_98 (by decide) rfl rfl (by decide +kernel) (vp_nar_int _) rfl (ea_set7_18 _ _ _) dX7_readsClause_114 ?_
                refine e_iconst (v := 1) C dX7_readsClause_117 (by decide) ?_
                exact e_iret C X rfl rfl dX7_readsClause_118 (h45 c2 c4 c7 c8 c35 c42 c43)
            · refine e_iconst (v := 0) C dX7_readsClause_92 (by decide) ?_
              refine e_goto (tgt := 114) C dX7_readsClause_93 (by decide) ?_
              refine e_put (ty := .int) C fd_X7_98 (by decide) rfl rfl (by decide +kernel) (vp_nar_int _) rfl (ea_set7_18 _ _ _) dX7_readsClause_114 ?_
              refine e_iconst (v := 1) C dX7_readsClause_117 (by decide) ?_
              exact e_iret C X rfl rfl dX7_readsClause_118 (h46 c2 c4 c7 c8 c35 c42)
      · refine e_iconst (v := 0) C dX7_readsClause_38 (by decide) ?_
        exact e_iret C X rfl rfl dX7_readsClause_39 (h47 c2 c4 c7)
    · refine e_aload_n (n := 1) C dX7_readsClause_15 rfl rfl ?_
      refine e_get (v := .int (M 61 18)) C fd_X7_98 (by decide) rfl rfl dX7_readsClause_16 ?_
      refine e_bipush (v := 6) C dX7_readsClause_19 (by decide) ?_
      refine e_icmp_ne (tgt := 26) C dX7_readsClause_21 (by decide) (fun c48 => ?_) (fun c48 => ?_)
      · refine e_aload_n (n := 1) C dX7_readsClause_26 rfl rfl ?_
        refine e_callV0 (as := []) (rest := []) C lk_X7_95 (q49 c2 c4 c48) (by decide) rfl (by decide) rfl (by decide) rfl rfl (Nat.le_of_ble_eq_true rfl) dX7_readsClause_27 ?_
        refine e_aload_n (n := 1) C dX7_readsClause_30 rfl rfl ?_
        refine e_iload_n (n := 0) C dX7_readsClause_31 rfl rfl ?_
        refine e_callV1 (as := [.int r1]) (rest := []) C lk_X7_132 (q50 c2 c4 c48) (by decide) rfl (by decide) rfl (by decide) rfl rfl (Nat.le_of_ble_eq_true rfl) dX7_readsClause_32 ?_
        refine e_if_ne (tgt := 40) C dX7_readsClause_35 (by decide) (fun c51 => ?_) (fun c51 => ?_)
        · refine e_aload_n (n := 1) C dX7_readsClause_40 rfl rfl ?_
          refine e_iload_n (n := 0) C dX7_readsClause_41 rfl rfl ?_
          refine e_if_ne (tgt := 49) C dX7_readsClause_42 (by decide) (fun c52 => ?_) (fun c52 => ?_)
          · refine e_iload_n (n := 0) C dX7_readsClause_49 rfl rfl ?_
            refine e_iconst (v := 2) C dX7_readsClause_50 (by decide) ?_
            refine e_icmp_ne (tgt := 68) C dX7_readsClause_51 (by decide) (fun c53 => ?_) (fun c53 => ?_)
            · refine e_aload_n (n := 1) C dX7_readsClause_68 rfl rfl ?_
              refine e_get (v := .int (M8 61 19)) C fd_X7_116 (by decide) rfl rfl dX7_readsClause_69 ?_
              refine e_put (ty := .int) C fd_X7_116 (by decide) rfl rfl (by decide +kernel) (vp_nar_int _) rfl (ea_set7_19 _ _ _) dX7_readsClause_72 ?_
              refine e_aload_n (n := 1) C dX7_readsClause_75 rfl rfl ?_
              refine e_get (v := .int (M8 61 23)) C fd_X7_135 (by decide) rfl (congrArg (fun z => some (Value.int z)) (by simp [ea_upR, ea_upS, ea_upK, pa_setR, pa_cpR, fr_X3_add, fr_X5_forget, fr_X5_become, fr_X4_clear, fr_X4_addStuff, fr_X4_become_d, fr_X4_become_s, fr_X0_enter, fr_X0_remove, fr_X7_erase] : (ea_up M8 61 19 (M8 61 19)) 61 23 = (M8 61 23))) dX7_readsClause_76 ?_
              refine e_if_eq (tgt := 87) C dX7_readsClause_79 (by decide) (fun c54 => ?_) (fun c54 => ?_)
              · refine e_aload_n (n := 1) C dX7_readsClause_87 rfl rfl ?_
                refine e_iload_n (n := 0) C dX7_readsClause_88 rfl rfl ?_
                refine e_if_ne (tgt := 96) C dX7_readsClause_89 (by decide) (fun c55 => ?_) (fun c55 => ?_)
                · refine e_iload_n (n := 0) C dX7_readsClause_96 rfl rfl ?_
                  refine e_iconst (v := 1) C dX7_readsClause_97 (by decide) ?_
                  refine e_icmp_ne (tgt := 110) C dX7_readsClause_98 (by decide) (fun c56 => ?_) (fun c56 => ?_)
                  · refine e_aload_n (n := 1) C dX7_readsClause_110 rfl rfl ?_
                    refine e_get (v := .int (M8 61 18)) C fd_X7_98 (by decide) rfl (congrArg (fun z => some (Value.int z)) (by simp [ea_upR, ea_upS, ea_upK, pa_setR, pa_cpR, fr_X3_add, fr_X5_forget, fr_X5_become, fr_X4_clear, fr_X4_addStuff, fr_X4_become_d, fr_X4_become_s, fr_X0_enter, fr_X0_remove, fr_X7_erase] : (ea_up M8 61 19 (M8 61 19)) 61 18 = (M8 61 18))) dX7_readsClause_111 ?_
                    refine e_put (ty := .int) C fd_X7_98 (by decide) rfl rfl (by decide +kernel) (vp_nar_int _) rfl (ea_set7_18 _ _ _) dX7_readsClause_114 ?_
                    refine e_iconst (v := 1) C dX7_readsClause_117 (by decide) ?_
                    exact e_iret C X rfl rfl dX7_readsClause_118 (h57 c2 c4 c48 c51 c52 c53 c54 c55 c56)
                  · refine e_aload_n (n := 1) C dX7_readsClause_101 rfl rfl ?_
                    refine e_get (v := .int (M8 61 18)) C fd_X7_98 (by decide) rfl (congrArg (fun z => some (Value.int z)) (by simp [ea_upR, ea_upS, ea_upK, pa_setR, pa_cpR, fr_X3_add, fr_X5_forget, fr_X5_become, fr_X4_clear, fr_X4_addStuff, fr_X4_become_d, fr_X4_become_s, fr_X0_enter, fr_X0_remove, fr_X7_erase] : (ea_up M8 61 19 (M8 61 19)) 61 18 = (M8 61 18))) dX7_readsClause_102 ?_
                    refine e_iconst (v := 1) C dX7_readsClause_105 (by decide) ?_
                    refine e_iadd C dX7_readsClause_106 ?_
                    refine e_goto (tgt := 114) C dX7_readsClause_107 (by decide) ?_
                    refine e_put (ty := .int) C fd_X7_98 (by decide) rfl rfl (by decide +kernel) (vp_nar_int _) rfl (ea_set7_18 _ _ _) dX7_readsClause_114 ?_
                    refine e_iconst (v := 1) C dX7_readsClause_117 (by decide) ?_
                    exact e_iret C X rfl rfl dX7_readsClause_118 (h58 c2 c4 c48 c51 c52 c53 c54 c55 c56)
                · refine e_iconst (v := 0) C dX7_readsClause_92 (by decide) ?_
                  refine e_goto (tgt := 114) C dX7_readsClause_93 (by decide) ?_
                  refine e_put (ty := .int) C fd_X7_98 (by decide) rfl rfl (by decide +kernel) (vp_nar_int _) rfl (ea_set7_18 _ _ _) dX7_readsClause_114 ?_
                  refine e_iconst (v := 1) C dX7_readsClause_117 (by decide) ?_
                  exact e_iret C X rfl rfl dX7_readsClause_118 (h59 c2 c4 c48 c51 c52 c53 c54 c55)
              · refine e_aload_n (n := 1) C dX7_readsClause_82 rfl rfl ?_
                refine e_iload_n (n := 0) C dX7_readsClause_83 rfl rfl ?_
                refine e_callV0 (as := [.int r1]) (rest := []) C lk_X7_139 (q60 c2 c4 c48 c51 c52 c53 c54) (by decide) rfl (by decide) rfl (by decide) rfl rfl (Nat.le_of_ble_eq_true rfl) dX7_readsClause_84 ?_
                refine e_aload_n (n := 1) C dX7_readsClause_87 rfl rfl ?_
                refine e_iload_n (n := 0) C dX7_readsClause_88 rfl rfl ?_
                refine e_if_ne (tgt := 96) C dX7_readsClause_89 (by decide) (fun c61 => ?_) (fun c61 => ?_)
                · refine e_iload_n (n := 0) C dX7_readsClause_96 rfl rfl ?_
                  refine e_iconst (v := 1) C dX7_readsClause_97 (by decide) ?_
                  refine e_icmp_ne (tgt := 110) C dX7_readsClause_98 (by decide) (fun c62 => ?_) (fun c62 => ?_)
                  · refine e_aload_n (n := 1) C dX7_readsClause_110 rfl rfl ?_
                    refine e_get (v := .int (M9 61 18)) C fd_X7_98 (by decide) rfl rfl dX7_readsClause_111 ?_
                    refine e_put (ty := .int) C fd_X7_98 (by decide) rfl rfl (by decide +kernel) (vp_nar_int _) rfl (ea_set7_18 _ _ _) dX7_readsClause_114 ?_
                    refine e_iconst (v := 1) C dX7_readsClause_117 (by decide) ?_
                    exact e_iret C X rfl rfl dX7_readsClause_118 (h63 c2 c4 c48 c51 c52 c53 c54 c61 c62)
                  · refine e_aload_n (n := 1) C dX7_readsClause_101 rfl rfl ?_
                    refine e_get (v := .int (M9 61 18)) C fd_X7_98 (by decide) rfl rfl dX7_readsClause_102 ?_
                    refine e_iconst (v := 1) C dX7_readsClause_105 (by decide) ?_
                    refine e_iadd C dX7_readsClause_106 ?_
                    refine e_goto (tgt := 114) C dX7_readsClause_107 (by decide) ?_
                    refine e_put (ty := .int) C fd_X7_98 (by decide) rfl rfl (by decide +kernel) (vp_nar_int _) rfl (ea_set7_18 _ _ _) dX7_readsClause_114 ?_
                    refine e_iconst (v := 1) C dX7_readsClause_117 (by decide) ?_
                    exact e_iret C X rfl rfl dX7_readsClause_118 (h64 c2 c4 c48 c51 c52 c53 c54 c61 c62)
                · refine e_iconst (v := 0) C dX7_readsClause_92 (by decide) ?_
                  refine e_goto (tgt := 114) C dX7_readsClause_93 (by decide) ?_
                  refine e_put (ty := .int) C fd_X7_98 (by decide) rfl rfl (by decide +kernel) (vp_nar_int _) rfl (ea_set7_18 _ _ _) dX7_readsClause_114 ?_
                  refine e_iconst (v := 1) C dX7_readsClause_117 (by decide) ?_
                  exact e_iret C X rfl rfl dX7_readsClause_118 (h65 c2 c4 c48 c51 c52 c53 c54 c61)
            · refine e_aload_n (n := 1) C dX7_readsClause_54 rfl rfl ?_
              refine e_get (v := .int (M8 61 19)) C fd_X7_116 (by decide) rfl rfl dX7_readsClause_55 ?_
              refine e_aload_n (n := 1) C dX7_readsClause_58 rfl rfl ?_
              refine e_get (v := .ref 76) C fd_X7_53 (by decide) rfl rfl dX7_readsClause_59 ?_
              refine e_iconst (v := 1) C dX7_readsClause_62 (by decide) ?_
              refine e_iald (n := 3) C (by decide) rfl (by decide) (vp_in_nI (n := 1) (N := 3) (by decide) (by decide)) dX7_readsClause_63 ?_
              refine e_iadd C dX7_readsClause_64 ?_
              refine e_goto (tgt := 72) C dX7_readsClause_65 (by decide) ?_
              refine e_put (ty := .int) C fd_X7_116 (by decide) rfl rfl (by decide +kernel) (vp_nar_int _) rfl (ea_set7_19 _ _ _) dX7_readsClause_72 ?_
              refine e_aload_n (n := 1) C dX7_readsClause_75 rfl rfl ?_
              refine e_get (v := .int (M8 61 23)) C fd_X7_135 (by decide) rfl (congrArg (fun z => some (Value.int z)) (by simp [ea_upR, ea_upS, ea_upK, pa_setR, pa_cpR, fr_X3_add, fr_X5_forget, fr_X5_become, fr_X4_clear, fr_X4_addStuff, fr_X4_become_d, fr_X4_become_s, fr_X0_enter, fr_X0_remove, fr_X7_erase] : (ea_up M8 61 19 ((M8 61 19) + (M8 76 1))) 61 23 = (M8 61 23))) dX7_readsClause_76 ?_
              refine e_if_eq (tgt := 87) C dX7_readsClause_79 (by decide) (fun c67 => ?_) (fun c67 => ?_)
              · refine e_aload_n (n := 1) C dX7_readsClause_87 rfl rfl ?_
                refine e_iload_n (n := 0) C dX7_readsClause_88 rfl rfl ?_
                refine e_if_ne (tgt := 96) C dX7_readsClause_89 (by decide) (fun c68 => ?_) (fun c68 => ?_)
                · refine e_iload_n (n := 0) C dX7_readsClause_96 rfl rfl ?_
                  refine e_iconst (v := 1) C dX7_readsClause_97 (by decide) ?_
                  refine e_icmp_ne (tgt := 110) C dX7_readsClause_98 (by decide) (fun c69 => ?_) (fun c69 => ?_)
                  · refine e_aload_n (n := 1) C dX7_readsClause_110 rfl rfl ?_
                    refine e_get (v := .int (M8 61 18)) C fd_X7_98 (by decide) rfl (congrArg (fun z => some (Value.int z)) (by simp [ea_upR, ea_upS, ea_upK, pa_setR, pa_cpR, fr_X3_add, fr_X5_forget, fr_X5_become, fr_X4_clear, fr_X4_addStuff, fr_X4_become_d, fr_X4_become_s, fr_X0_enter, fr_X0_remove, fr_X7_erase] : (ea_up M8 61 19 ((M8 61 19) + (M8 76 1))) 61 18 = (M8 61 18))) dX7_readsClause_111 ?_
                    refine e_put (ty := .int) C fd_X7_98 (by decide) rfl rfl (by decide +kernel) (vp_nar_int _) rfl (ea_set7_18 _ _ _) dX7_readsClause_114 ?_
                    refine e_iconst (v := 1) C dX7_readsClause_117 (by decide) ?_
                    exact e_iret C X rfl rfl dX7_readsClause_118 (h70 c2 c4 c48 c51 c52 c53 c67 c68 c69)
                  · refine e_aload_n (n := 1) C dX7_readsClause_101 rfl rfl ?_
                    refine e_get (v := .int (M8 61 18)) C fd_X7_98 (by decide) rfl (congrArg (fun z => some (Value.int z)) (by simp [ea_upR, ea_upS, ea_upK, pa_setR, pa_cpR, fr_X3_add, fr_X5_forget, fr_X5_become, fr_X4_clear, fr_X4_addStuff, fr_X4_become_d, fr_X4_become_s, fr_X0_enter, fr_X0_remove, fr_X7_erase] : (ea_up M8 61 19 ((M8 61 19) + (M8 76 1))) 61 18 = (M8 61 18))) dX7_readsClause_102 ?_
                    refine e_iconst (v := 1) C dX7_readsClause_105 (by decide) ?_
                    refine e_iadd C dX7_readsClause_106 ?_
                    refine e_goto (tgt := 114) C dX7_readsClause_107 (by decide) ?_
                    refine e_put (ty := .int) C fd_X7_98 (by decide) rfl rfl (by decide +kernel) (vp_nar_int _) rfl (ea_set7_18 _ _ _) dX7_readsClause_114 ?_
                    refine e_iconst (v := 1) C dX7_readsClause_117 (by decide) ?_
                    exact e_iret C X rfl rfl dX7_readsClause_118 (h71 c2 c4 c48 c51 c52 c53 c67 c68 c69)
                · refine e_iconst (v := 0) C dX7_readsClause_92 (by decide) ?_
                  refine e_goto (tgt := 114) C dX7_readsClause_93 (by decide) ?_
                  refine e_put (ty := .int) C fd_X7_98 (by decide) rfl rfl (by decide +kernel) (vp_nar_int _) rfl (ea_set7_18 _ _ _) dX7_readsClause_114 ?_
                  refine e_iconst (v := 1) C dX7_readsClause_117 (by decide) ?_
                  exact e_iret C X rfl rfl dX7_readsClause_118 (h72 c2 c4 c48 c51 c52 c53 c67 c68)
              · refine e_aload_n (n := 1) C dX7_readsClause_82 rfl rfl ?_
                refine e_iload_n (n := 0) C dX7_readsClause_83 rfl rfl ?_
                refine e_callV0 (as := [.int r1]) (rest := []) C lk_X7_139 (q73 c2 c4 c48 c51 c52 c53 c67) (by decide) rfl (by decide) rfl (by decide) rfl rfl (Nat.le_of_ble_eq_true rfl) dX7_readsClause_84 ?_
                refine e_aload_n (n := 1) C dX7_readsClause_87 rfl rfl ?_
                refine e_iload_n (n := 0) C dX7_readsClause_88 rfl rfl ?_
                refine e_if_ne (tgt := 96) C dX7_readsClause_89 (by decide) (fun c74 => ?_) (fun c74 => ?_)
                · refine e_iload_n (n := 0) C dX7_readsClause_96 rfl rfl ?_
                  refine e_iconst (v := 1) C dX7_readsClause_97 (by decide) ?_
                  refine e_icmp_ne (tgt := 110) C dX7_readsClause_98 (by decide) (fun c75 => ?_) (fun c75 => ?_)
                  · refine e_aload_n (n := 1) C dX7_readsClause_110 rfl rfl ?_
                    refine e_get (v := .int (M10 61 18)) C fd_X7_98 (by decide) rfl rfl dX7_readsClause_111 ?_
                    refine e_put (ty := .int) C fd_X7_98 (by decide) rfl rfl (by decide +kernel) (vp_nar_int _) rfl (ea_set7_18 _ _ _) dX7_readsClause_114 ?_
                    refine e_iconst (v := 1) C dX7_readsClause_117 (by decide) ?_
                    exact e_iret C X rfl rfl dX7_readsClause_118 (h76 c2 c4 c48 c51 c52 c53 c67 c74 c75)
                  · refine e_aload_n (n := 1) C dX7_readsClause_101 rfl rfl ?_
                    refine e_get (v := .int (M10 61 18)) C fd_X7_98 (by decide) rfl rfl dX7_readsClause_102 ?_
                    refine e_iconst (v := 1) C dX7_readsClause_105 (by decide) ?_
                    refine e_iadd C dX7_readsClause_106 ?_
                    refine e_goto (tgt := 114) C dX7_readsClause_107 (by decide) ?_
                    refine e_put (ty := .int) C fd_X7_98 (by decide) rfl rfl (by decide +kernel) (vp_nar_int _) rfl (ea_set7_18 _ _ _) dX7_readsClause_114 ?_
                    refine e_iconst (v := 1) C dX7_readsClause_117 (by decide) ?_
                    exact e_iret C X rfl rfl dX7_readsClause_118 (h77 c2 c4 c48 c51 c52 c53 c67 c74 c75)
                · refine e_iconst (v := 0) C dX7_readsClause_92 (by decide) ?_
                  refine e_goto (tgt := 114) C dX7_readsClause_93 (by decide) ?_
                  refine e_put (ty := .int) C fd_X7_98 (by decide) rfl rfl (by decide +kernel) (vp_nar_int _) rfl (ea_set7_18 _ _ _) dX7_readsClause_114 ?_
                  refine e_iconst (v := 1) C dX7_readsClause_117 (by decide) ?_
                  exact e_iret C X rfl rfl dX7_readsClause_118 (h78 c2 c4 c48 c51 c52 c53 c67 c74)
          · refine e_iconst (v := 0) C dX7_readsClause_45 (by decide) ?_
            refine e_goto (tgt := 72) C dX7_readsClause_46 (by decide) ?_
            refine e_put (ty := .int) C fd_X7_116 (by decide) rfl rfl (by decide +kernel) (vp_nar_int _) rfl (ea_set7_19 _ _ _) dX7_readsClause_72 ?_
            refine e_aload_n (n := 1) C dX7_readsClause_75 rfl rfl ?_
            refine e_get (v := .int (M8 61 23)) C fd_X7_135 (by decide) rfl (congrArg (fun z => some (Value.int z)) (by simp [ea_upR, ea_upS, ea_upK, pa_setR, pa_cpR, fr_X3_add, fr_X5_forget, fr_X5_become, fr_X4_clear, fr_X4_addStuff, fr_X4_become_d, fr_X4_become_s, fr_X0_enter, fr_X0_remove, fr_X7_erase] : (ea_up M8 61 19 (0 : Int32)) 61 23 = (M8 61 23))) dX7_readsClause_76 ?_
            refine e_if_eq (tgt := 87) C dX7_readsClause_79 (by decide) (fun c79 => ?_) (fun c79 => ?_)
            · refine e_aload_n (n := 1) C dX7_readsClause_87 rfl rfl ?_
              refine e_iload_n (n := 0) C dX7_readsClause_88 rfl rfl ?_
              refine e_if_ne (tgt := 96) C dX7_readsClause_89 (by decide) (fun c80 => ?_) (fun c80 => ?_)
              · refine e_iload_n (n := 0) C dX7_readsClause_96 rfl rfl ?_
                refine e_iconst (v := 1) C dX7_readsClause_97 (by decide) ?_
                refine e_icmp_ne (tgt := 110) C dX7_readsClause_98 (by decide) (fun c81 => ?_) (fun c81 => ?_)
                · refine e_aload_n (n := 1) C dX7_readsClause_110 rfl rfl ?_
                  refine e_get (v := .int (M8 61 18)) C fd_X7_98 (by decide) rfl (congrArg (fun z => some (Value.int z)) (by simp [ea_upR, ea_upS, ea_upK, pa_setR, pa_cpR, fr_X3_add, fr_X5_forget, fr_X5_become, fr_X4_clear, fr_X4_addStuff, fr_X4_become_d, fr_X4_become_s, fr_X0_enter, fr_X0_remove, fr_X7_erase] : (ea_up M8 61 19 (0 : Int32)) 61 18 = (M8 61 18))) dX7_readsClause_111 ?_
                  refine e_put (ty := .int) C fd_X7_98 (by decide) rfl rfl (by decide +kernel) (vp_nar_int _) rfl (ea_set7_18 _ _ _) dX7_readsClause_114 ?_
                  refine e_iconst (v := 1) C dX7_readsClause_117 (by decide) ?_
                  exact e_iret C X rfl rfl dX7_readsClause_118 (h82 c2 c4 c48 c51 c52 c79 c80 c81)
                · refine e_aload_n (n := 1) C dX7_readsClause_101 rfl rfl ?_
                  refine e_get (v := .int (M8 61 18)) C fd_X7_98 (by decide) rfl (congrArg (fun z => some (Value.int z)) (by simp [ea_upR, ea_upS, ea_upK, pa_setR, pa_cpR, fr_X3_add, fr_X5_forget, fr_X5_become, fr_X4_clear, fr_X4_addStuff, fr_X4_become_d, fr_X4_become_s, fr_X0_enter, fr_X0_remove, fr_X7_erase] : (ea_up M8 61 19 (0 : Int32)) 61 18 = (M8 61 18))) dX7_readsClause_102 ?_
                  refine e_iconst (v := 1) C dX7_readsClause_105 (by decide) ?_
                  refine e_iadd C dX7_readsClause_106 ?_
                  refine e_goto (tgt := 114) C dX7_readsClause_107 (by decide) ?_
                  refine e_put (ty := .int) C fd_X7_98 (by decide) rfl rfl (by decide +kernel) (vp_nar_int _) rfl (ea_set7_18 _ _ _) dX7_readsClause_114 ?_
                  refine e_iconst (v := 1) C dX7_readsClause_117 (by decide) ?_
                  exact e_iret C X rfl rfl dX7_readsClause_118 (h83 c2 c4 c48 c51 c52 c79 c80 c81)
              · refine e_iconst (v := 0) C dX7_readsClause_92 (by decide) ?_
                refine e_goto (tgt := 114) C dX7_readsClause_93 (by decide) ?_
                refine e_put (ty := .int) C fd_X7_98 (by decide) rfl rfl (by decide +kernel) (vp_nar_int _) rfl (ea_set7_18 _ _ _) dX7_readsClause_114 ?_
                refine e_iconst (v := 1) C dX7_readsClause_117 (by decide) ?_
                exact e_iret C X rfl rfl dX7_readsClause_118 (h84 c2 c4 c48 c51 c52 c79 c80)
            · refine e_aload_n (n := 1) C dX7_readsClause_82 rfl rfl ?_
              refine e_iload_n (n := 0) C dX7_readsClause_83 rfl rfl ?_
              refine e_callV0 (as := [.int r1]) (rest := []) C lk_X7_139 (q85 c2 c4 c48 c51 c52 c79) (by decide) rfl (by decide) rfl (by decide) rfl rfl (Nat.le_of_ble_eq_true rfl) dX7_readsClause_84 ?_
              refine e_aload_n (n := 1) C dX7_readsClause_87 rfl rfl ?_
              refine e_iload_n (n := 0) C dX7_readsClause_88 rfl rfl ?_
              refine e_if_ne (tgt := 96) C dX7_readsClause_89 (by decide) (fun c86 => ?_) (fun c86 => ?_)
              · refine e_iload_n (n := 0) C dX7_readsClause_96 rfl rfl ?_
                refine e_iconst (v := 1) C dX7_readsClause_97 (by decide) ?_
                refine e_icmp_ne (tgt := 110) C dX7_readsClause_98 (by decide) (fun c87 => ?_) (fun c87 => ?_)
                · refine e_aload_n (n := 1) C dX7_readsClause_110 rfl rfl ?_
                  refine e_get (v := .int (M11 61 18)) C fd_X7_98 (by decide) rfl rfl dX7_readsClause_111 ?_
                  refine e_put (ty := .int) C fd_X7_98 (by decide) rfl rfl (by decide +kernel) (vp_nar_int _) rfl (ea_set7_18 _ _ _) dX7_readsClause_114 ?_
                  refine e_iconst (v := 1) C dX7_readsClause_117 (by decide) ?_
                  exact e_iret C X rfl rfl dX7_readsClause_118 (h88 c2 c4 c48 c51 c52 c79 c86 c87)
                · refine e_aload_n (n := 1) C dX7_readsClause_101 rfl rfl ?_
                  refine e_get (v := .int (M11 61 18)) C fd_X7_98 (by decide) rfl rfl dX7_readsClause_102 ?_
                  refine e_iconst (v := 1) C dX7_readsClause_105 (by decide) ?_
                  refine e_iadd C dX7_readsClause_106 ?_
                  refine e_goto (tgt := 114) C dX7_readsClause_107 (by decide) ?_
                  refine e_put (ty := .int) C fd_X7_98 (by decide) rfl rfl (by decide +kernel) (vp_nar_int _) rfl (ea_set7_18 _ _ _) dX7_readsClause_114 ?_
                  refine e_iconst (v := 1) C dX7_readsClause_117 (by decide) ?_
                  exact e_iret C X rfl rfl dX7_readsClause_118 (h89 c2 c4 c48 c51 c52 c79 c86 c87)
              · refine e_iconst (v := 0) C dX7_readsClause_92 (by decide) ?_
                refine e_goto (tgt := 114) C dX7_readsClause_93 (by decide) ?_
                refine e_put (ty := .int) C fd_X7_98 (by decide) rfl rfl (by decide +kernel) (vp_nar_int _) rfl (ea_set7_18 _ _ _) dX7_readsClause_114 ?_
                refine e_iconst (v := 1) C dX7_readsClause_117 (by decide) ?_
                exact e_iret C X rfl rfl dX7_readsClause_118 (h90 c2 c4 c48 c51 c52 c79 c86)
        · refine e_iconst (v := 0) C dX7_readsClause_38 (by decide) ?_
          exact e_iret C X rfl rfl dX7_readsClause_39 (h91 c2 c4 c48 c51)
      · refine e_iconst (v := 0) C dX7_readsClause_24 (by decide) ?_
        exact e_iret C X rfl rfl dX7_readsClause_25 (h92 c2 c4 c48)
set_option maxRecDepth 100000 in
set_option maxHeartbeats 4000000 in
theorem km_fault {k : ea_K} {o : Option Value} {M' : ea_M} (C : ea_C k RX7 cX7_fault 1 7) (X : ea_X k (some .int) o M') {M : ea_M} {M1 : ea_M} {r1 : Int32}   (q1 : ea_Sp 6 yX7_reads cX7_reads 3 (some .boolean) [.ref 61, .int (0 : Int32)] M (some (.int r1)) M1) (h3 : r1 = 0 → o = some (.int (M1 61 16)) ∧ M' = M1) (h4 : ¬ r1 = 0 → o = some (.int (-1 : Int32)) ∧ M' = M1) : ea_E k 0 [(0, .ref 61)] [] M := by
  refine e_aload_n (n := 0) C dX7_fault_0 rfl rfl ?_
  refine e_iconst (v := 0) C dX7_fault_1 (by decide) ?_
  refine e_callV1 (as := [.int (0 : Int32)]) (rest := []) C lk_X7_152 q1 (by decide) rfl (by decide) rfl (by decide) rfl rfl (Nat.le_of_ble_eq_true rfl) dX7_fault_2 ?_
  refine e_if_eq (tgt := 12) C dX7_fault_5 (by decide) (fun c2 => ?_) (fun c2 => ?_)
  · refine e_aload_n (n := 0) C dX7_fault_12 rfl rfl ?_
    refine e_get (v := .int (M1 61 16)) C fd_X7_85 (by decide) rfl rfl dX7_fault_13 ?_
    exact e_iret C X rfl (vp_nar_int _) dX7_fault_16 (h3 c2)
  · refine e_iconst (v := -1) C dX7_fault_8 (by decide) ?_
    refine e_goto (tgt := 16) C dX7_fault_9 (by decide) ?_
    exact e_iret C X rfl (vp_nar_int _) dX7_fault_16 (h4 c2)
set_option maxRecDepth 100000 in
set_option maxHeartbeats 4000000 in
theorem km_divisor {k : ea_K} {o : Option Value} {M' : ea_M} (C : ea_C k RX7 cX7_divisor 10 0) (X : ea_X k (some .long) o M') {M : ea_M} {a b : Int64}   (h2 : (0 : Int64) ≤ a → ea_E k 17 [(4, .long a), (6, .long b)] [] M) (h3 : ¬ (0 : Int64) ≤ a → ea_E k 17 [(4, .long (-a)), (6, .long b)] [] M) : ea_E k 0 [(0, .long a), (2, .long b)] [] M := by
  refine e_lload_n (n := 0) C dX7_divisor_0 rfl rfl ?_
  refine e_lconst (v := 0) C dX7_divisor_1 (by decide) ?_
  refine e_lc_ge (tgt := 11) C dX7_divisor_2 dX7_divisor_3 (by decide) (fun c1 => ?_) (fun c1 => ?_)
  · refine e_lload_n (n := 0) C dX7_divisor_11 rfl rfl ?_
    refine e_lstore C dX7_divisor_12 (by decide) rfl ?_
    refine e_lload_n (n := 2) C dX7_divisor_14 rfl rfl ?_
    refine e_lstore C dX7_divisor_15 (by decide) rfl ?_
    refine e_perm C [1, 0] rfl ?_
    exact (h2 c1)
  · refine e_lload_n (n := 0) C dX7_divisor_6 rfl rfl ?_
    refine e_lneg C dX7_divisor_7 ?_
    refine e_goto (tgt := 12) C dX7_divisor_8 (by decide) ?_
    refine e_lstore C dX7_divisor_12 (by decide) rfl ?_
    refine e_lload_n (n := 2) C dX7_divisor_14 rfl rfl ?_
    refine e_lstore C dX7_divisor_15 (by decide) rfl ?_
    refine e_perm C [1, 0] rfl ?_
    exact (h3 c1)
set_option maxRecDepth 100000 in
set_option maxHeartbeats 4000000 in
theorem km_divisor_17 {k : ea_K} {o : Option Value} {M' : ea_M} (C : ea_C k RX7 cX7_divisor 10 0) (X : ea_X k (some .long) o M') {M : ea_M} {a b : Int64}   (h2 : b = (0 : Int64) → o = some (.long a) ∧ M' = M) (h3 : ¬ b = (0 : Int64) → ea_E k 17 [(4, .long b), (6, .long (a - a / b * b))] [] M) : ea_E k 17 [(4, .long a), (6, .long b)] [] M := by
  refine e_lload (n := 1) C dX7_divisor_17 rfl ?_
  refine e_lconst (v := 0) C dX7_divisor_19 (by decide) ?_
  refine e_lc_eq (tgt := 42) C dX7_divisor_20 dX7_divisor_21 (by decide) (fun c1 => ?_) (fun c1 => ?_)
  · refine e_lload (n := 0) C dX7_divisor_42 rfl ?_
    exact e_lret C X dX7_divisor_44 (h2 c1)
  · refine e_lload (n := 0) C dX7_divisor_24 rfl ?_
    refine e_lload (n := 1) C dX7_divisor_26 rfl ?_
    refine e_lrem C dX7_divisor_28 c1 ?_
    refine e_lstore C dX7_divisor_29 (by decide) rfl ?_
    refine e_lload (n := 2) C dX7_divisor_31 rfl ?_
    refine e_lstore C dX7_divisor_33 (by decide) rfl ?_
    refine e_lload (n := 1) C dX7_divisor_35 rfl ?_
    refine e_lstore C dX7_divisor_37 (by decide) rfl ?_
    refine e_goto (tgt := 17) C dX7_divisor_39 (by decide) ?_
    refine e_perm C [1, 0] rfl ?_
    exact (h3 c1)
set_option maxRecDepth 100000 in
set_option maxHeartbeats 4000000 in
theorem km_told {k : ea_K} {o : Option Value} {M' : ea_M} (C : ea_C k RX7 cX7_told 7 1) (X : ea_X k (some .long) o M') {M : ea_M} {part : Int32} {a b : Int64} {r1 : Int64}   (q1 : ea_Sp 0 yX7_divisor cX7_divisor 10 (some .long) [.long a, .long b] M (some (.long r1)) M) (z3 : ¬ part = 0 → ¬ r1 = 0) (h4 : ¬ part = 0 → o = some (.long (b / r1)) ∧ M' = M) (z5 : part = 0 → ¬ r1 = 0) (h6 : part = 0 → o = some (.long (a / r1)) ∧ M' = M) : ea_E k 0 [(0, .long a), (2, .long b), (4, .int part)] [] M := by
  refine e_lload_n (n := 0) C dX7_told_0 rfl rfl ?_
  refine e_lload_n (n := 1) C dX7_told_1 rfl rfl ?_
  refine e_callS1 (as := [.long a, .long b]) (rest := []) C lk_X7_160 q1 (by decide) rfl rfl (Nat.le_of_ble_eq_true rfl) dX7_told_2 ?_
  refine e_lstore C dX7_told_5 (by decide) rfl ?_
  refine e_iload (n := 3) C dX7_told_7 rfl ?_
  refine e_if_ne (tgt := 19) C dX7_told_9 (by decide) (fun c2 => ?_) (fun c2 => ?_)
  · refine e_lload_n (n := 2) C dX7_told_19 rfl rfl ?_
    refine e_lload (n := 0) C dX7_told_20 rfl ?_
    refine e_ldiv C dX7_told_22 (z3 c2) ?_
    exact e_lret C X dX7_told_23 (h4 c2)
  · refine e_lload_n (n := 1) C dX7_told_12 rfl rfl ?_
    refine e_lload (n := 0) C dX7_told_13 rfl ?_
    refine e_ldiv C dX7_told_15 (z5 c2) ?_
    refine e_goto (tgt := 23) C dX7_told_16 (by decide) ?_
    exact e_lret C X dX7_told_23 (h6 c2)
set_option maxRecDepth 100000 in
set_option maxHeartbeats 4000000 in
theorem km_stuff {k : ea_K} {o : Option Value} {M' : ea_M} (C : ea_C k RX7 cX7_stuff 3 2) (X : ea_X k (some .int) o M') {M : ea_M} {s w : Int32} {r1 : Int32}   (s3 : p_X7_isStuff M s → w = 0 → vp_in s 6) (h4 : p_X7_isStuff M s → w = 0 → o = some (.int (M 63 s.toNatClampNeg)) ∧ M' = M) (s6 : p_X7_isStuff M s → ¬ w = 0 → w = 1 → vp_in s 6) (h7 : p_X7_isStuff M s → ¬ w = 0 → w = 1 → o = some (.int (M 64 s.toNatClampNeg)) ∧ M' = M) (s9 : p_X7_isStuff M s → ¬ w = 0 → ¬ w = 1 → w = 2 → vp_in s 6) (h10 : p_X7_isStuff M s → ¬ w = 0 → ¬ w = 1 → w = 2 → o = some (.int (M 66 s.toNatClampNeg)) ∧ M' = M) (q12 : p_X7_isStuff M s → ¬ w = 0 → ¬ w = 1 → ¬ w = 2 → w = 3 → ea_Sp 0 yX7_cellsOf cX7_cellsOf 4 (some .int) [.ref 61, .int s] M (some (.int r1)) M) (h13 : p_X7_isStuff M s → ¬ w = 0 → ¬ w = 1 → ¬ w = 2 → w = 3 → o = some (.int r1) ∧ M' = M) (h14 : p_X7_isStuff M s → ¬ w = 0 → ¬ w = 1 → ¬ w = 2 → ¬ w = 3 → o = some (.int (-2000000002 : Int32)) ∧ M' = M) (h15 : ¬ p_X7_isStuff M s → o = some (.int (-2000000001 : Int32)) ∧ M' = M) : ea_E k 0 [(0, .ref 61), (1, .int s), (2, .int w)] [] M := by
  refine e_aload_n (n := 0) C dX7_stuff_0 rfl rfl ?_
  refine e_iload_n (n := 1) C dX7_stuff_1 rfl rfl ?_
  refine e_callV1 (as := [.int s]) (rest := []) C lk_X7_164 (sp_X7_isStuff (M := M) (i := s) ) (by decide) rfl (by decide) rfl (by decide) rfl rfl (Nat.le_of_ble_eq_true rfl) dX7_stuff_2 ?_
  refine e_ifb_ne (tgt := 11) C dX7_stuff_5 (by decide) (fun c1 => ?_) (fun c1 => ?_)
  · refine e_iload_n (n := 2) C dX7_stuff_11 rfl rfl ?_
    by_cases c2 : w = 0
    · refine e_tabIn (tgt := 44) (off := 32) C dX7_stuff_12 (by rw [c2]; decide) (by rw [c2]; decide) (by rw [c2]; decide) (by decide) ?_
      refine e_aload_n (n := 0) C dX7_stuff_44 rfl rfl ?_
      refine e_get (v := .ref 63) C fd_X7_13 (by decide) rfl rfl dX7_stuff_45 ?_
      refine e_iload_n (n := 1) C dX7_stuff_48 rfl rfl ?_
      refine e_iald (n := 6) C (by decide) rfl (by decide) (s3 c1 c2) dX7_stuff_49 ?_
      exact e_iret C X rfl (vp_nar_int _) dX7_stuff_50 (h4 c1 c2)
    by_cases c5 : w = 1
    · refine e_tabIn (tgt := 51) (off := 39) C dX7_stuff_12 (by rw [c5]; decide) (by rw [c5]; decide) (by rw [c5]; decide) (by decide) ?_
      refine e_aload_n (n := 0) C dX7_stuff_51 rfl rfl ?_
      refine e_get (v := .ref 64) C fd_X7_16 (by decide) rfl rfl dX7_stuff_52 ?_
      refine e_iload_n (n := 1) C dX7_stuff_55 rfl rfl ?_
      refine e_iald (n := 6) C (by decide) rfl (by decide) (s6 c1 c2 c5) dX7_stuff_56 ?_
      exact e_iret C X rfl (vp_nar_int _) dX7_stuff_57 (h7 c1 c2 c5)
    by_cases c8 : w = 2
    · refine e_tabIn (tgt := 58) (off := 46) C dX7_stuff_12 (by rw [c8]; decide) (by rw [c8]; decide) (by rw [c8]; decide) (by decide) ?_
      refine e_aload_n (n := 0) C dX7_stuff_58 rfl rfl ?_
      refine e_get (v := .ref 66) C fd_X7_22 (by decide) rfl rfl dX7_stuff_59 ?_
      refine e_iload_n (n := 1) C dX7_stuff_62 rfl rfl ?_
      refine e_iald (n := 6) C (by decide) rfl (by decide) (s9 c1 c2 c5 c8) dX7_stuff_63 ?_
      exact e_iret C X rfl (vp_nar_int _) dX7_stuff_64 (h10 c1 c2 c5 c8)
    by_cases c11 : w = 3
    · refine e_tabIn (tgt := 65) (off := 53) C dX7_stuff_12 (by rw [c11]; decide) (by rw [c11]; decide) (by rw [c11]; decide) (by decide) ?_
      refine e_aload_n (n := 0) C dX7_stuff_65 rfl rfl ?_
      refine e_iload_n (n := 1) C dX7_stuff_66 rfl rfl ?_
      refine e_callV1 (as := [.int s]) (rest := []) C lk_X7_168 (q12 c1 c2 c5 c8 c11) (by decide) rfl (by decide) rfl (by decide) rfl rfl (Nat.le_of_ble_eq_true rfl) dX7_stuff_67 ?_
      exact e_iret C X rfl (vp_nar_int _) dX7_stuff_70 (h13 c1 c2 c5 c8 c11)
    refine e_tabOut (tgt := 71) C dX7_stuff_12 (ea_tab3 c2 c5 c8 c11) (by decide) ?_
    refine e_ldc C kc_X7_68 dX7_stuff_71 ?_
    exact e_iret C X rfl (vp_nar_int _) dX7_stuff_73 (h14 c1 c2 c5 c8 c11)
  · refine e_ldc C kc_X7_167 dX7_stuff_8 ?_
    exact e_iret C X rfl (vp_nar_int _) dX7_stuff_10 (h15 c1)
set_option maxRecDepth 100000 in
set_option maxHeartbeats 4000000 in
theorem km_cell {k : ea_K} {o : Option Value} {M' : ea_M} (C : ea_C k RX7 cX7_cell 3 2) (X : ea_X k (some .int) o M') {M : ea_M} {c w : Int32} {r1 r3 : Int32} {r2 r4 : Int64}   (s3 : p_X7_isCell M c → w = 0 → vp_in c 10) (h4 : p_X7_isCell M c → w = 0 → o = some (.int (M 67 c.toNatClampNeg)) ∧ M' = M) (s6 : p_X7_isCell M c → ¬ w = 0 → w = 1 → vp_in ((0 : Int32) + c) 192) (h7 : p_X7_isCell M c → ¬ w = 0 → w = 1 → o = some (.int (M 62 ((0 : Int32) + c).toNatClampNeg)) ∧ M' = M) (s9 : p_X7_isCell M c → ¬ w = 0 → ¬ w = 1 → w = 2 → vp_in ((0 : Int32) + c) 192) (q10 : p_X7_isCell M c → ¬ w = 0 → ¬ w = 1 → w = 2 → ea_Sp 0 yX7_holdsOf cX7_holdsOf 2 (some .int) [.ref 61, .int c] M (some (.int r1)) M) (q11 : p_X7_isCell M c → ¬ w = 0 → ¬ w = 1 → w = 2 → ea_Sp 1 yX7_told cX7_told 7 (some .long) [.long (((M 62 ((0 : Int32) + c).toNatClampNeg)).toInt64), .long ((r1).toInt64), .int (w - (2 : Int32))] M (some (.long r2)) M) (h12 : p_X7_isCell M c → ¬ w = 0 → ¬ w = 1 → w = 2 → o = some (.int ((r2).toInt32)) ∧ M' = M) (s14 : p_X7_isCell M c → ¬ w = 0 → ¬ w = 1 → ¬ w = 2 → w = 3 → vp_in ((0 : Int32) + c) 192) (q15 : p_X7_isCell M c → ¬ w = 0 → ¬ w = 1 → ¬ w = 2 → w = 3 → ea_Sp 0 yX7_holdsOf cX7_holdsOf 2 (some .int) [.ref 61, .int c] M (some (.int r3)) M) (q16 : p_X7_isCell M c → ¬ w = 0 → ¬ w = 1 → ¬ w = 2 → w = 3 → ea_Sp 1 yX7_told cX7_told 7 (some .long) [.long (((M 62 ((0 : Int32) + c).toNatClampNeg)).toInt64), .long ((r3).toInt64), .int (w - (2 : Int32))] M (some (.long r4)) M) (h17 : p_X7_isCell M c → ¬ w = 0 → ¬ w = 1 → ¬ w = 2 → w = 3 → o = some (.int ((r4).toInt32)) ∧ M' = M) (h18 : p_X7_isCell M c → ¬ w = 0 → ¬ w = 1 → ¬ w = 2 → ¬ w = 3 → o = some (.int (-2000000002 : Int32)) ∧ M' = M) (h19 : ¬ p_X7_isCell M c → o = some (.int (-2000000001 : Int32)) ∧ M' = M) : ea_E k 0 [(0, .ref 61), (1, .int c), (2, .int w)] [] M := by
  refine e_aload_n (n := 0) C dX7_cell_0 rfl rfl ?_
  refine e_iload_n (n := 1) C dX7_cell_1 rfl rfl ?_
  refine e_callV1 (as := [.int c]) (rest := []) C lk_X7_172 (sp_X7_isCell (M := M) (i := c) ) (by decide) rfl (by decide) rfl (by decide) rfl rfl (Nat.le_of_ble_eq_true rfl) dX7_cell_2 ?_
  refine e_ifb_ne (tgt := 11) C dX7_cell_5 (by decide) (fun c1 => ?_) (fun c1 => ?_)
  · refine e_iload_n (n := 2) C dX7_cell_11 rfl rfl ?_
    by_cases c2 : w = 0
    · refine e_tabIn (tgt := 44) (off := 32) C dX7_cell_12 (by rw [c2]; decide) (by rw [c2]; decide) (by rw [c2]; decide) (by decide) ?_
      refine e_aload_n (n := 0) C dX7_cell_44 rfl rfl ?_
      refine e_get (v := .ref 67) C fd_X7_25 (by decide) rfl rfl dX7_cell_45 ?_
      refine e_iload_n (n := 1) C dX7_cell_48 rfl rfl ?_
      refine e_iald (n := 10) C (by decide) rfl (by decide) (s3 c1 c2) dX7_cell_49 ?_
      exact e_iret C X rfl (vp_nar_int _) dX7_cell_50 (h4 c1 c2)
    by_cases c5 : w = 1
    · refine e_tabIn (tgt := 51) (off := 39) C dX7_cell_12 (by rw [c5]; decide) (by rw [c5]; decide) (by rw [c5]; decide) (by decide) ?_
      refine e_aload_n (n := 0) C dX7_cell_51 rfl rfl ?_
      refine e_get (v := .ref 62) C fd_X7_7 (by decide) rfl rfl dX7_cell_52 ?_
      refine e_iconst (v := 0) C dX7_cell_55 (by decide) ?_
      refine e_iload_n (n := 1) C dX7_cell_56 rfl rfl ?_
      refine e_iadd C dX7_cell_57 ?_
      refine e_iald (n := 192) C (by decide) rfl (by decide) (s6 c1 c2 c5) dX7_cell_58 ?_
      exact e_iret C X rfl (vp_nar_int _) dX7_cell_59 (h7 c1 c2 c5)
    by_cases c8 : w = 2
    · refine e_tabIn (tgt := 60) (off := 48) C dX7_cell_12 (by rw [c8]; decide) (by rw [c8]; decide) (by rw [c8]; decide) (by decide) ?_
      refine e_aload_n (n := 0) C dX7_cell_60 rfl rfl ?_
      refine e_get (v := .ref 62) C fd_X7_7 (by decide) rfl rfl dX7_cell_61 ?_
      refine e_iconst (v := 0) C dX7_cell_64 (by decide) ?_
      refine e_iload_n (n := 1) C dX7_cell_65 rfl rfl ?_
      refine e_iadd C dX7_cell_66 ?_
      refine e_iald (n := 192) C (by decide) rfl (by decide) (s9 c1 c2 c5 c8) dX7_cell_67 ?_
      refine e_i2l C dX7_cell_68 ?_
      refine e_aload_n (n := 0) C dX7_cell_69 rfl rfl ?_
      refine e_iload_n (n := 1) C dX7_cell_70 rfl rfl ?_
      refine e_callV1 (as := [.int c]) (rest := [.long (((M 62 ((0 : Int32) + c).toNatClampNeg)).toInt64)]) C lk_X7_175 (q10 c1 c2 c5 c8) (by decide) rfl (by decide) rfl (by decide) rfl rfl (Nat.le_of_ble_eq_true rfl) dX7_cell_71 ?_
      refine e_i2l C dX7_cell_74 ?_
      refine e_iload_n (n := 2) C dX7_cell_75 rfl rfl ?_
      refine e_iconst (v := 2) C dX7_cell_76 (by decide) ?_
      refine e_isub C dX7_cell_77 ?_
      refine e_callS1 (as := [.long (((M 62 ((0 : Int32) + c).toNatClampNeg)).toInt64), .long ((r1).toInt64), .int (w - (2 : Int32))]) (rest := []) C lk_X7_178 (q11 c1 c2 c5 c8) (by decide) rfl rfl (Nat.le_of_ble_eq_true rfl) dX7_cell_78 ?_
      refine e_l2i C dX7_cell_81 ?_
      exact e_iret C X rfl (vp_nar_int _) dX7_cell_82 (h12 c1 c2 c5 c8)
    by_cases c13 : w = 3
    · refine e_tabIn (tgt := 60) (off := 48) C dX7_cell_12 (by rw [c13]; decide) (by rw [c13]; decide) (by rw [c13]; decide) (by decide) ?_
      refine e_aload_n (n := 0) C dX7_cell_60 rfl rfl ?_
      refine e_get (v := .ref 62) C fd_X7_7 (by decide) rfl rfl dX7_cell_61 ?_
      refine e_iconst (v := 0) C dX7_cell_64 (by decide) ?_
      refine e_iload_n (n := 1) C dX7_cell_65 rfl rfl ?_
      refine e_iadd C dX7_cell_66 ?_
      refine e_iald (n := 192) C (by decide) rfl (by decide) (s14 c1 c2 c5 c8 c13) dX7_cell_67 ?_
      refine e_i2l C dX7_cell_68 ?_
      refine e_aload_n (n := 0) C dX7_cell_69 rfl rfl ?_
      refine e_iload_n (n := 1) C dX7_cell_70 rfl rfl ?_
      refine e_callV1 (as := [.int c]) (rest := [.long (((M 62 ((0 : Int32) + c).toNatClampNeg)).toInt64)]) C lk_X7_175 (q15 c1 c2 c5 c8 c13) (by decide) rfl (by decide) rfl (by decide) rfl rfl (Nat.le_of_ble_eq_true rfl) dX7_cell_71 ?_
      refine e_i2l C dX7_cell_74 ?_
      refine e_iload_n (n := 2) C dX7_cell_75 rfl rfl ?_
      refine e_iconst (v := 2) C dX7_cell_76 (by decide) ?_
      refine e_isub C dX7_cell_77 ?_
      refine e_callS1 (as := [.long (((M 62 ((0 : Int32) + c).toNatClampNeg)).toInt64), .long ((r3).toInt64), .int (w - (2 : Int32))]) (rest := []) C lk_X7_178 (q16 c1 c2 c5 c8 c13) (by decide) rfl rfl (Nat.le_of_ble_eq_true rfl) dX7_cell_78 ?_
      refine e_l2i C dX7_cell_81 ?_
      exact e_iret C X rfl (vp_nar_int _) dX7_cell_82 (h17 c1 c2 c5 c8 c13)
    refine e_tabOut (tgt := 83) C dX7_cell_12 (ea_tab3 c2 c5 c8 c13) (by decide) ?_
    refine e_ldc C kc_X7_68 dX7_cell_83 ?_
    exact e_iret C X rfl (vp_nar_int _) dX7_cell_85 (h18 c1 c2 c5 c8 c13)
  · refine e_ldc C kc_X7_167 dX7_cell_8 ?_
    exact e_iret C X rfl (vp_nar_int _) dX7_cell_10 (h19 c1)
set_option maxRecDepth 100000 in
set_option maxHeartbeats 4000000 in
theorem km_flowAt {k : ea_K} {o : Option Value} {M' : ea_M} (C : ea_C k RX7 cX7_flowAt 8 1) (X : ea_X k (some .int) o M') {M : ea_M} {base i : Int32} {r1 r2 r3 r4 r5 r6 : Int32}   (q2 : ¬ i = 0 → ea_Sp 0 yX7_passesOf cX7_passesOf 2 (some .int) [.ref 61, .int (i - (1 : Int32))] M (some (.int r1)) M) (q3 : ¬ i = 0 → ea_Sp 0 yX7_holdsOf cX7_holdsOf 2 (some .int) [.ref 61, .int (i - (1 : Int32))] M (some (.int r2)) M) (s4 : ¬ i = 0 → vp_in (((base + (0 : Int32)) + i) - (1 : Int32)) 192) (q6 : ¬ i = 0 → ¬ i = (M 61 6) → ea_Sp 0 yX7_passesOf cX7_passesOf 2 (some .int) [.ref 61, .int i] M (some (.int r3)) M) (q7 : ¬ i = 0 → ¬ i = (M 61 6) → ea_Sp 0 yX7_holdsOf cX7_holdsOf 2 (some .int) [.ref 61, .int i] M (some (.int r4)) M) (s8 : ¬ i = 0 → ¬ i = (M 61 6) → vp_in ((base + (0 : Int32)) + i) 192) (s9 : ¬ i = 0 → ¬ i = (M 61 6) → vp_in (base + (12 : Int32)) 192) (z10 : ¬ i = 0 → ¬ i = (M 61 6) → ¬ (((r2 * r4) * (r1 + r3)) * (M 62 (base + (12 : Int32)).toNatClampNeg)) = 0) (h11 : ¬ i = 0 → ¬ i = (M 61 6) → o = some (.int (((((((M 62 (((base + (0 : Int32)) + i) - (1 : Int32)).toNatClampNeg) * r4) - ((M 62 ((base + (0 : Int32)) + i).toNatClampNeg) * r2)) * (2 : Int32)) * r1) * r3) / (((r2 * r4) * (r1 + r3)) * (M 62 (base + (12 : Int32)).toNatClampNeg)))) ∧ M' = M) (s12 : ¬ i = 0 → i = (M 61 6) → vp_in ((base + (10 : Int32)) + (1 : Int32)) 192) (s13 : ¬ i = 0 → i = (M 61 6) → vp_in (base + (12 : Int32)) 192) (z14 : ¬ i = 0 → i = (M 61 6) → ¬ (r2 * (M 62 (base + (12 : Int32)).toNatClampNeg)) = 0) (h15 : ¬ i = 0 → i = (M 61 6) → o = some (.int (((((M 62 (((base + (0 : Int32)) + i) - (1 : Int32)).toNatClampNeg) - ((M 62 ((base + (10 : Int32)) + (1 : Int32)).toNatClampNeg) * r2)) * (2 : Int32)) * r1) / (r2 * (M 62 (base + (12 : Int32)).toNatClampNeg)))) ∧ M' = M) (q16 : i = 0 → ea_Sp 0 yX7_holdsOf cX7_holdsOf 2 (some .int) [.ref 61, .int (0 : Int32)] M (some (.int r5)) M) (s17 : i = 0 → vp_in (base + (10 : Int32)) 192) (s18 : i = 0 → vp_in (base + (0 : Int32)) 192) (q19 : i = 0 → ea_Sp 0 yX7_passesOf cX7_passesOf 2 (some .int) [.ref 61, .int (0 : Int32)] M (some (.int r6)) M) (s20 : i = 0 → vp_in (base + (12 : Int32)) 192) (z21 : i = 0 → ¬ (r5 * (M 62 (base + (12 : Int32)).toNatClampNeg)) = 0) (h22 : i = 0 → o = some (.int ((((((M 62 (base + (10 : Int32)).toNatClampNeg) * r5) - (M 62 (base + (0 : Int32)).toNatClampNeg)) * (2 : Int32)) * r6) / (r5 * (M 62 (base + (12 : Int32)).toNatClampNeg)))) ∧ M' = M) : ea_E k 0 [(0, .ref 61), (1, .int base), (2, .int i)] [] M := by
  refine e_iload_n (n := 2) C dX7_flowAt_0 rfl rfl ?_
  refine e_if_ne (tgt := 51) C dX7_flowAt_1 (by decide) (fun c1 => ?_) (fun c1 => ?_)
  · refine e_aload_n (n := 0) C dX7_flowAt_51 rfl rfl ?_
    refine e_iload_n (n := 2) C dX7_flowAt_52 rfl rfl ?_
    refine e_iconst (v := 1) C dX7_flowAt_53 (by decide) ?_
    refine e_isub C dX7_flowAt_54 ?_
    refine e_callV1 (as := [.int (i - (1 : Int32))]) (rest := []) C lk_X7_188 (q2 c1) (by decide) rfl (by decide) rfl (by decide) rfl rfl (Nat.le_of_ble_eq_true rfl) dX7_flowAt_55 ?_
    refine e_istore_n C dX7_flowAt_58 rfl (by decide) rfl ?_
    refine e_aload_n (n := 1) C dX7_flowAt_59 rfl rfl ?_
    refine e_iload_n (n := 3) C dX7_flowAt_60 rfl rfl ?_
    refine e_iconst (v := 1) C dX7_flowAt_61 (by decide) ?_
    refine e_isub C dX7_flowAt_62 ?_
    refine e_callV1 (as := [.int (i - (1 : Int32))]) (rest := []) C lk_X7_175 (q3 c1) (by decide) rfl (by decide) rfl (by decide) rfl rfl (Nat.le_of_ble_eq_true rfl) dX7_flowAt_63 ?_
    refine e_istore C dX7_flowAt_66 (by decide) rfl ?_
    refine e_aload_n (n := 2) C dX7_flowAt_68 rfl rfl ?_
    refine e_get (v := .ref 62) C fd_X7_7 (by decide) rfl rfl dX7_flowAt_69 ?_
    refine e_iload_n (n := 3) C dX7_flowAt_72 rfl rfl ?_
    refine e_iconst (v := 0) C dX7_flowAt_73 (by decide) ?_
    refine e_iadd C dX7_flowAt_74 ?_
    refine e_iload_n (n := 4) C dX7_flowAt_75 rfl rfl ?_
    refine e_iadd C dX7_flowAt_76 ?_
    refine e_iconst (v := 1) C dX7_flowAt_77 (by decide) ?_
    refine e_isub C dX7_flowAt_78 ?_
    refine e_iald (n := 192) C (by decide) rfl (by decide) (s4 c1) dX7_flowAt_79 ?_
    refine e_istore C dX7_flowAt_80 (by decide) rfl ?_
    refine e_iload_n (n := 5) C dX7_flowAt_82 rfl rfl ?_
    refine e_aload_n (n := 3) C dX7_flowAt_83 rfl rfl ?_
    refine e_get (v := .int (M 61 6)) C fd_X7_126 (by decide) rfl rfl dX7_flowAt_84 ?_
    refine e_icmp_ne (tgt := 125) C dX7_flowAt_87 (by decide) (fun c5 => ?_) (fun c5 => ?_)
    · refine e_aload_n (n := 3) C dX7_flowAt_125 rfl rfl ?_
      refine e_iload_n (n := 5) C dX7_flowAt_126 rfl rfl ?_
      refine e_callV1 (as := [.int i]) (rest := []) C lk_X7_188 (q6 c1 c5) (by decide) rfl (by decide) rfl (by decide) rfl rfl (Nat.le_of_ble_eq_true rfl) dX7_flowAt_127 ?_
      refine e_istore C dX7_flowAt_130 (by decide) rfl ?_
      refine e_aload_n (n := 4) C dX7_flowAt_132 rfl rfl ?_
      refine e_iload_n (n := 6) C dX7_flowAt_133 rfl rfl ?_
      refine e_callV1 (as := [.int i]) (rest := []) C lk_X7_175 (q7 c1 c5) (by decide) rfl (by decide) rfl (by decide) rfl rfl (Nat.le_of_ble_eq_true rfl) dX7_flowAt_134 ?_
      refine e_istore C dX7_flowAt_137 (by decide) rfl ?_
      refine e_iload (n := 2) C dX7_flowAt_139 rfl ?_
      refine e_iload (n := 0) C dX7_flowAt_141 rfl ?_
      refine e_imul C dX7_flowAt_143 ?_
      refine e_aload_n (n := 5) C dX7_flowAt_144 rfl rfl ?_
      refine e_get (v := .ref 62) C fd_X7_7 (by decide) rfl rfl dX7_flowAt_145 ?_
      refine e_iload_n (n := 6) C dX7_flowAt_148 rfl rfl ?_
      refine e_iconst (v := 0) C dX7_flowAt_149 (by decide) ?_
      refine e_iadd C dX7_flowAt_150 ?_
      refine e_iload_n (n := 7) C dX7_flowAt_151 rfl rfl ?_
      refine e_iadd C dX7_flowAt_152 ?_
      refine e_iald (n := 192) C (by decide) rfl (by decide) (s8 c1 c5) dX7_flowAt_153 ?_
      refine e_iload (n := 3) C dX7_flowAt_154 rfl ?_
      refine e_imul C dX7_flowAt_156 ?_
      refine e_isub C dX7_flowAt_157 ?_
      refine e_iconst (v := 2) C dX7_flowAt_158 (by decide) ?_
      refine e_imul C dX7_flowAt_159 ?_
      refine e_iload_n (n := 4) C dX7_flowAt_160 rfl rfl ?_
      refine e_imul C dX7_flowAt_161 ?_
      refine e_iload (n := 1) C dX7_flowAt_162 rfl ?_
      refine e_imul C dX7_flowAt_164 ?_
      refine e_iload (n := 3) C dX7_flowAt_165 rfl ?_
      refine e_iload (n := 0) C dX7_flowAt_167 rfl ?_
      refine e_imul C dX7_flowAt_169 ?_
      refine e_iload_n (n := 4) C dX7_flowAt_170 rfl rfl ?_
      refine e_iload (n := 1) C dX7_flowAt_171 rfl ?_
      refine e_iadd C dX7_flowAt_173 ?_
      refine e_imul C dX7_flowAt_174 ?_
      refine e_aload_n (n := 5) C dX7_flowAt_175 rfl rfl ?_
      refine e_get (v := .ref 62) C fd_X7_7 (by decide) rfl rfl dX7_flowAt_176 ?_
      refine e_iload_n (n := 6) C dX7_flowAt_179 rfl rfl ?_
      refine e_bipush (v := 12) C dX7_flowAt_180 (by decide) ?_
      refine e_iadd C dX7_flowAt_182 ?_
      refine e_iald (n := 192) C (by decide) rfl (by decide) (s9 c1 c5) dX7_flowAt_183 ?_
      refine e_imul C dX7_flowAt_184 ?_
      refine e_idiv C dX7_flowAt_185 (z10 c1 c5) ?_
      exact e_iret C X rfl (vp_nar_int _) dX7_flowAt_186 (h11 c1 c5)
    · refine e_iload (n := 0) C dX7_flowAt_90 rfl ?_
      refine e_aload_n (n := 3) C dX7_flowAt_92 rfl rfl ?_
      refine e_get (v := .ref 62) C fd_X7_7 (by decide) rfl rfl dX7_flowAt_93 ?_
      refine e_iload_n (n := 4) C dX7_flowAt_96 rfl rfl ?_
      refine e_bipush (v := 10) C dX7_flowAt_97 (by decide) ?_
      refine e_iadd C dX7_flowAt_99 ?_
      refine e_iconst (v := 1) C dX7_flowAt_100 (by decide) ?_
      refine e_iadd C dX7_flowAt_101 ?_
      refine e_iald (n := 192) C (by decide) rfl (by decide) (s12 c1 c5) dX7_flowAt_102 ?_
      refine e_iload (n := 1) C dX7_flowAt_103 rfl ?_
      refine e_imul C dX7_flowAt_105 ?_
      refine e_isub C dX7_flowAt_106 ?_
      refine e_iconst (v := 2) C dX7_flowAt_107 (by decide) ?_
      refine e_imul C dX7_flowAt_108 ?_
      refine e_iload_n (n := 2) C dX7_flowAt_109 rfl rfl ?_
      refine e_imul C dX7_flowAt_110 ?_
      refine e_iload (n := 1) C dX7_flowAt_111 rfl ?_
      refine e_aload_n (n := 3) C dX7_flowAt_113 rfl rfl ?_
      refine e_get (v := .ref 62) C fd_X7_7 (by decide) rfl rfl dX7_flowAt_114 ?_
      refine e_iload_n (n := 4) C dX7_flowAt_117 rfl rfl ?_
      refine e_bipush (v := 12) C dX7_flowAt_118 (by decide) ?_
      refine e_iadd C dX7_flowAt_120 ?_
      refine e_iald (n := 192) C (by decide) rfl (by decide) (s13 c1 c5) dX7_flowAt_121 ?_
      refine e_imul C dX7_flowAt_122 ?_
      refine e_idiv C dX7_flowAt_123 (z14 c1 c5) ?_
      exact e_iret C X rfl (vp_nar_int _) dX7_flowAt_124 (h15 c1 c5)
  · refine e_aload_n (n := 0) C dX7_flowAt_4 rfl rfl ?_
    refine e_iconst (v := 0) C dX7_flowAt_5 (by decide) ?_
    refine e_callV1 (as := [.int (0 : Int32)]) (rest := []) C lk_X7_175 (q16 c1) (by decide) rfl (by decide) rfl (by decide) rfl rfl (Nat.le_of_ble_eq_true rfl) dX7_flowAt_6 ?_
    refine e_istore_n C dX7_flowAt_9 rfl (by decide) rfl ?_
    refine e_aload_n (n := 1) C dX7_flowAt_10 rfl rfl ?_
    refine e_get (v := .ref 62) C fd_X7_7 (by decide) rfl rfl dX7_flowAt_11 ?_
    refine e_iload_n (n := 2) C dX7_flowAt_14 rfl rfl ?_
    refine e_bipush (v := 10) C dX7_flowAt_15 (by decide) ?_
    refine e_iadd C dX7_flowAt_17 ?_
    refine e_iald (n := 192) C (by decide) rfl (by decide) (s17 c1) dX7_flowAt_18 ?_
    refine e_iload_n (n := 0) C dX7_flowAt_19 rfl rfl ?_
    refine e_imul C dX7_flowAt_20 ?_
    refine e_aload_n (n := 1) C dX7_flowAt_21 rfl rfl ?_
    refine e_get (v := .ref 62) C fd_X7_7 (by decide) rfl rfl dX7_flowAt_22 ?_
    refine e_iload_n (n := 2) C dX7_flowAt_25 rfl rfl ?_
    refine e_iconst (v := 0) C dX7_flowAt_26 (by decide) ?_
    refine e_iadd C dX7_flowAt_27 ?_
    refine e_iald (n := 192) C (by decide) rfl (by decide) (s18 c1) dX7_flowAt_28 ?_
    refine e_isub C dX7_flowAt_29 ?_
    refine e_iconst (v := 2) C dX7_flowAt_30 (by decide) ?_
    refine e_imul C dX7_flowAt_31 ?_
    refine e_aload_n (n := 1) C dX7_flowAt_32 rfl rfl ?_
    refine e_iconst (v := 0) C dX7_flowAt_33 (by decide) ?_
    refine e_callV1 (as := [.int (0 : Int32)]) (rest := [.int ((((M 62 (base + (10 : Int32)).toNatClampNeg) * r5) - (M 62 (base + (0 : Int32)).toNatClampNeg)) * (2 : Int32))]) C lk_X7_188 (q19 c1) (by decide) rfl (by decide) rfl (by decide) rfl rfl (Nat.le_of_ble_eq_true rfl) dX7_flowAt_34 ?_
    refine e_imul C dX7_flowAt_37 ?_
    refine e_iload_n (n := 0) C dX7_flowAt_38 rfl rfl ?_
    refine e_aload_n (n := 1) C dX7_flowAt_39 rfl rfl ?_
    refine e_get (v := .ref 62) C fd_X7_7 (by decide) rfl rfl dX7_flowAt_40 ?_
    refine e_iload_n (n := 2) C dX7_flowAt_43 rfl rfl ?_
    refine e_bipush (v := 12) C dX7_flowAt_44 (by decide) ?_
    refine e_iadd C dX7_flowAt_46 ?_
    refine e_iald (n := 192) C (by decide) rfl (by decide) (s20 c1) dX7_flowAt_47 ?_
    refine e_imul C dX7_flowAt_48 ?_
    refine e_idiv C dX7_flowAt_49 (z21 c1) ?_
    exact e_iret C X rfl (vp_nar_int _) dX7_flowAt_50 (h22 c1)
set_option maxRecDepth 100000 in
set_option maxHeartbeats 4000000 in
theorem km_allHeat {k : ea_K} {o : Option Value} {M' : ea_M} (C : ea_C k RX7 cX7_allHeat 3 0) (X : ea_X k (some .int) o M') {M : ea_M}   (h1 : ea_E k 4 [(0, .ref 61), (1, .int (0 : Int32)), (2, .int (0 : Int32))] [] M) : ea_E k 0 [(0, .ref 61)] [] M := by
  refine e_iconst (v := 0) C dX7_allHeat_0 (by decide) ?_
  refine e_istore_n C dX7_allHeat_1 rfl (by decide) rfl ?_
  refine e_iconst (v := 0) C dX7_allHeat_2 (by decide) ?_
  refine e_istore_n C dX7_allHeat_3 rfl (by decide) rfl ?_
  refine e_perm C [2, 1, 0] rfl ?_
  exact h1
set_option maxRecDepth 100000 in
set_option maxHeartbeats 4000000 in
theorem km_allHeat_4 {k : ea_K} {o : Option Value} {M' : ea_M} (C : ea_C k RX7 cX7_allHeat 3 0) (X : ea_X k (some .int) o M') {M : ea_M} {a i : Int32}   (h2 : (M 61 6) ≤ i → o = some (.int a) ∧ M' = M) (s3 : ¬ (M 61 6) ≤ i → vp_in ((0 : Int32) + i) 192) (h4 : ¬ (M 61 6) ≤ i → ea_E k 4 [(0, .ref 61), (1, .int (a + (M 62 ((0 : Int32) + i).toNatClampNeg))), (2, .int (i + 1))] [] M) : ea_E k 4 [(0, .ref 61), (1, .int a), (2, .int i)] [] M := by
  refine e_iload_n (n := 2) C dX7_allHeat_4 rfl rfl ?_
  refine e_aload_n (n := 0) C dX7_allHeat_5 rfl rfl ?_
  refine e_get (v := .int (M 61 6)) C fd_X7_126 (by decide) rfl rfl dX7_allHeat_6 ?_
  refine e_icmp_ge (tgt := 29) C dX7_allHeat_9 (by decide) (fun c1 => ?_) (fun c1 => ?_)
  · refine e_iload_n (n := 1) C dX7_allHeat_29 rfl rfl ?_
    exact e_iret C X rfl (vp_nar_int _) dX7_allHeat_30 (h2 c1)
  · refine e_iload_n (n := 1) C dX7_allHeat_12 rfl rfl ?_
    refine e_aload_n (n := 0) C dX7_allHeat_13 rfl rfl ?_
    refine e_get (v := .ref 62) C fd_X7_7 (by decide) rfl rfl dX7_allHeat_14 ?_
    refine e_iconst (v := 0) C dX7_allHeat_17 (by decide) ?_
    refine e_iload_n (n := 2) C dX7_allHeat_18 rfl rfl ?_
    refine e_iadd C dX7_allHeat_19 ?_
    refine e_iald (n := 192) C (by decide) rfl (by decide) (s3 c1) dX7_allHeat_20 ?_
    refine e_iadd C dX7_allHeat_21 ?_
    refine e_istore_n C dX7_allHeat_22 rfl (by decide) rfl ?_
    refine e_iinc (n := 2) (v := (i + 1)) C dX7_allHeat_23 rfl rfl (by decide) rfl ?_
    refine e_goto (tgt := 4) C dX7_allHeat_26 (by decide) ?_
    refine e_perm C [2, 1, 0] rfl ?_
    exact (h4 c1)
set_option maxRecDepth 100000 in
set_option maxHeartbeats 4000000 in
theorem km_safe {k : ea_K} {o : Option Value} {M' : ea_M} (C : ea_C k RX7 cX7_safe 3 2) (X : ea_X k (some .int) o M') {M : ea_M}   (h1 : ea_E k 4 [(0, .ref 61), (1, .int (1 : Int32)), (2, .int (0 : Int32))] [] M) : ea_E k 0 [(0, .ref 61)] [] M := by
  refine e_iconst (v := 1) C dX7_safe_0 (by decide) ?_
  refine e_istore_n C dX7_safe_1 rfl (by decide) rfl ?_
  refine e_iconst (v := 0) C dX7_safe_2 (by decide) ?_
  refine e_istore_n C dX7_safe_3 rfl (by decide) rfl ?_
  refine e_perm C [2, 1, 0] rfl ?_
  exact h1
set_option maxRecDepth 100000 in
set_option maxHeartbeats 4000000 in
theorem km_step {k : ea_K} {o : Option Value} {M' : ea_M} (C : ea_C k RX7 cX7_step 3 3) (X : ea_X k (some .int) o M') {M : ea_M} {n : Int32} {M1 : ea_M}   (q3 : p_X7_in ((n).toInt64) (1 : Int64) (50 : Int64) → ¬ (M 61 6) = 0 → ea_Sp 1 yX7_keepPast cX7_keepPast 2 none [.ref 61] M none M1) (h4 : p_X7_in ((n).toInt64) (1 : Int64) (50 : Int64) → ¬ (M 61 6) = 0 → ea_E k 31 [(0, .ref 61), (1, .int n), (2, .int (0 : Int32))] [] M1) (h5 : p_X7_in ((n).toInt64) (1 : Int64) (50 : Int64) → (M 61 6) = 0 → o = some (.int (-2000000003 : Int32)) ∧ M' = M) (h6 : ¬ p_X7_in ((n).toInt64) (1 : Int64) (50 : Int64) → o = some (.int (-2000000002 : Int32)) ∧ M' = M) : ea_E k 0 [(0, .ref 61), (1, .int n)] [] M := by
  refine e_iload_n (n := 1) C dX7_step_0 rfl rfl ?_
  refine e_i2l C dX7_step_1 ?_
  refine e_lconst (v := 1) C dX7_step_2 (by decide) ?_
  refine e_ldc2 C kc_X7_205 dX7_step_3 ?_
  refine e_callS1 (as := [.long ((n).toInt64), .long (1 : Int64), .long (50 : Int64)]) (rest := []) C lk_X7_64 (sp_X7_in (M := M) (v := ((n).toInt64)) (a := (1 : Int64)) (b := (50 : Int64)) ) (by decide) rfl rfl (Nat.le_of_ble_eq_true rfl) dX7_step_6 ?_
  refine e_ifb_ne (tgt := 15) C dX7_step_9 (by decide) (fun c1 => ?_) (fun c1 => ?_)
  · refine e_aload_n (n := 0) C dX7_step_15 rfl rfl ?_
    refine e_get (v := .int (M 61 6)) C fd_X7_126 (by decide) rfl rfl dX7_step_16 ?_
    refine e_if_ne (tgt := 25) C dX7_step_19 (by decide) (fun c2 => ?_) (fun c2 => ?_)
    · refine e_aload_n (n := 0) C dX7_step_25 rfl rfl ?_
      refine e_callV0 (as := []) (rest := []) C lk_X7_207 (q3 c1 c2) (by decide) rfl (by decide) rfl (by decide) rfl rfl (Nat.le_of_ble_eq_true rfl) dX7_step_26 ?_
      refine e_iconst (v := 0) C dX7_step_29 (by decide) ?_
      refine e_istore_n C dX7_step_30 rfl (by decide) rfl ?_
      refine e_perm C [1, 2, 0] rfl ?_
      exact (h4 c1 c2)
    · refine e_ldc C kc_X7_156 dX7_step_22 ?_
      exact e_iret C X rfl (vp_nar_int _) dX7_step_24 (h5 c1 c2)
  · refine e_ldc C kc_X7_68 dX7_step_12 ?_
    exact e_iret C X rfl (vp_nar_int _) dX7_step_14 (h6 c1)
set_option maxRecDepth 100000 in
set_option maxHeartbeats 4000000 in
theorem km_step_31 {k : ea_K} {o : Option Value} {M' : ea_M} (C : ea_C k RX7 cX7_step 3 3) (X : ea_X k (some .int) o M') {M : ea_M} {n j : Int32} {M1 : ea_M} {r1 : Int32}   (h2 : n ≤ j → o = some (.int j) ∧ M' = M) (q3 : ¬ n ≤ j → ea_Sp 2 yX7_steps cX7_steps 4 (some .boolean) [.ref 61, .int (0 : Int32)] M (some (.int r1)) M1) (h5 : ¬ n ≤ j → r1 = 0 → o = some (.int j) ∧ M' = M1) (h6 : ¬ n ≤ j → ¬ r1 = 0 → ea_E k 31 [(0, .ref 61), (1, .int n), (2, .int (j + 1))] [] M1) : ea_E k 31 [(0, .ref 61), (1, .int n), (2, .int j)] [] M := by
  refine e_iload_n (n := 2) C dX7_step_31 rfl rfl ?_
  refine e_iload_n (n := 1) C dX7_step_32 rfl rfl ?_
  refine e_icmp_ge (tgt := 50) C dX7_step_33 (by decide) (fun c1 => ?_) (fun c1 => ?_)
  · refine e_iload_n (n := 2) C dX7_step_50 rfl rfl ?_
    exact e_iret C X rfl (vp_nar_int _) dX7_step_51 (h2 c1)
  · refine e_aload_n (n := 0) C dX7_step_36 rfl rfl ?_
    refine e_iconst (v := 0) C dX7_step_37 (by decide) ?_
    refine e_callV1 (as := [.int (0 : Int32)]) (rest := []) C lk_X7_210 (q3 c1) (by decide) rfl (by decide) rfl (by decide) rfl rfl (Nat.le_of_ble_eq_true rfl) dX7_step_38 ?_
    refine e_if_eq (tgt := 50) C dX7_step_41 (by decide) (fun c4 => ?_) (fun c4 => ?_)
    · refine e_iload_n (n := 2) C dX7_step_50 rfl rfl ?_
      exact e_iret C X rfl (vp_nar_int _) dX7_step_51 (h5 c1 c4)
    · refine e_iinc (n := 2) (v := (j + 1)) C dX7_step_44 rfl rfl (by decide) rfl ?_
      refine e_goto (tgt := 31) C dX7_step_47 (by decide) ?_
      refine e_perm C [1, 2, 0] rfl ?_
      exact (h6 c1 c4)
set_option maxRecDepth 100000 in
set_option maxHeartbeats 4000000 in
theorem km_heat {k : ea_K} {o : Option Value} {M' : ea_M} (C : ea_C k RX7 cX7_heat 4 2) (X : ea_X k (some .int) o M') {M : ea_M} {c v : Int32} {M1 : ea_M}   (s3 : p_X7_isCell M c → p_X7_in ((v).toInt64) (-9999 : Int64) (9999 : Int64) → vp_in ((0 : Int32) + c) 192) (q5 : p_X7_isCell M c → p_X7_in ((v).toInt64) (-9999 : Int64) (9999 : Int64) → p_X7_in ((((M 62 ((0 : Int32) + c).toNatClampNeg) + v)).toInt64) (0 : Int64) (20000 : Int64) → ea_Sp 1 yX7_keepPast cX7_keepPast 2 none [.ref 61] M none M1) (s6 : p_X7_isCell M c → p_X7_in ((v).toInt64) (-9999 : Int64) (9999 : Int64) → p_X7_in ((((M 62 ((0 : Int32) + c).toNatClampNeg) + v)).toInt64) (0 : Int64) (20000 : Int64) → vp_in ((0 : Int32) + c) 192) (h7 : p_X7_isCell M c → p_X7_in ((v).toInt64) (-9999 : Int64) (9999 : Int64) → p_X7_in ((((M 62 ((0 : Int32) + c).toNatClampNeg) + v)).toInt64) (0 : Int64) (20000 : Int64) → o = some (.int ((M 62 ((0 : Int32) + c).toNatClampNeg) + v)) ∧ M' = (ea_up M1 62 ((0 : Int32) + c).toNatClampNeg ((M 62 ((0 : Int32) + c).toNatClampNeg) + v))) (h8 : p_X7_isCell M c → p_X7_in ((v).toInt64) (-9999 : Int64) (9999 : Int64) → ¬ p_X7_in ((((M 62 ((0 : Int32) + c).toNatClampNeg) + v)).toInt64) (0 : Int64) (20000 : Int64) → o = some (.int (-2000000003 : Int32)) ∧ M' = M) (h9 : p_X7_isCell M c → ¬ p_X7_in ((v).toInt64) (-9999 : Int64) (9999 : Int64) → o = some (.int (-2000000002 : Int32)) ∧ M' = M) (h10 : ¬ p_X7_isCell M c → o = some (.int (-2000000001 : Int32)) ∧ M' = M) : ea_E k 0 [(0, .ref 61), (1, .int c), (2, .int v)] [] M := by
  refine e_aload_n (n := 0) C dX7_heat_0 rfl rfl ?_
  refine e_iload_n (n := 1) C dX7_heat_1 rfl rfl ?_
  refine e_callV1 (as := [.int c]) (rest := []) C lk_X7_172 (sp_X7_isCell (M := M) (i := c) ) (by decide) rfl (by decide) rfl (by decide) rfl rfl (Nat.le_of_ble_eq_true rfl) dX7_heat_2 ?_
  refine e_ifb_ne (tgt := 11) C dX7_heat_5 (by decide) (fun c1 => ?_) (fun c1 => ?_)
  · refine e_iload_n (n := 2) C dX7_heat_11 rfl rfl ?_
    refine e_i2l C dX7_heat_12 ?_
    refine e_ldc2 C kc_X7_213 dX7_heat_13 ?_
    refine e_ldc2 C kc_X7_215 dX7_heat_16 ?_
    refine e_callS1 (as := [.long ((v).toInt64), .long (-9999 : Int64), .long (9999 : Int64)]) (rest := []) C lk_X7_64 (sp_X7_in (M := M) (v := ((v).toInt64)) (a := (-9999 : Int64)) (b := (9999 : Int64)) ) (by decide) rfl rfl (Nat.le_of_ble_eq_true rfl) dX7_heat_19 ?_
    refine e_ifb_ne (tgt := 28) C dX7_heat_22 (by decide) (fun c2 => ?_) (fun c2 => ?_)
    · refine e_aload_n (n := 0) C dX7_heat_28 rfl rfl ?_
      refine e_get (v := .ref 62) C fd_X7_7 (by decide) rfl rfl dX7_heat_29 ?_
      refine e_iconst (v := 0) C dX7_heat_32 (by decide) ?_
      refine e_iload_n (n := 1) C dX7_heat_33 rfl rfl ?_
      refine e_iadd C dX7_heat_34 ?_
      refine e_iald (n := 192) C (by decide) rfl (by decide) (s3 c1 c2) dX7_heat_35 ?_
      refine e_iload_n (n := 2) C dX7_heat_36 rfl rfl ?_
      refine e_iadd C dX7_heat_37 ?_
      refine e_istore_n C dX7_heat_38 rfl (by decide) rfl ?_
      refine e_iload_n (n := 0) C dX7_heat_39 rfl rfl ?_
      refine e_i2l C dX7_heat_40 ?_
      refine e_lconst (v := 0) C dX7_heat_41 (by decide) ?_
      refine e_ldc2 C kc_X7_196 dX7_heat_42 ?_
      refine e_callS1 (as := [.long ((((M 62 ((0 : Int32) + c).toNatClampNeg) + v)).toInt64), .long (0 : Int64), .long (20000 : Int64)]) (rest := []) C lk_X7_64 (sp_X7_in (M := M) (v := ((((M 62 ((0 : Int32) + c).toNatClampNeg) + v)).toInt64)) (a := (0 : Int64)) (b := (20000 : Int64)) ) (by decide) rfl rfl (Nat.le_of_ble_eq_true rfl) dX7_heat_45 ?_
      refine e_ifb_ne (tgt := 54) C dX7_heat_48 (by decide) (fun c4 => ?_) (fun c4 => ?_)
      · refine e_aload_n (n := 1) C dX7_heat_54 rfl rfl ?_
        refine e_callV0 (as := []) (rest := []) C lk_X7_207 (q5 c1 c2 c4) (by decide) rfl (by decide) rfl (by decide) rfl rfl (Nat.le_of_ble_eq_true rfl) dX7_heat_55 ?_
        refine e_aload_n (n := 1) C dX7_heat_58 rfl rfl ?_
        refine e_get (v := .ref 62) C fd_X7_7 (by decide) rfl rfl dX7_heat_59 ?_
        refine e_iconst (v := 0) C dX7_heat_62 (by decide) ?_
        refine e_iload_n (n := 2) C dX7_heat_63 rfl rfl ?_
        refine e_iadd C dX7_heat_64 ?_
        refine e_iload_n (n := 0) C dX7_heat_65 rfl rfl ?_
        refine e_iast (n := 192) C (by decide) rfl (by decide) (s6 c1 c2 c4) dX7_heat_66 ?_
        refine e_iload_n (n := 0) C dX7_heat_67 rfl rfl ?_
        exact e_iret C X rfl (vp_nar_int _) dX7_heat_68 (h7 c1 c2 c4)
      · refine e_ldc C kc_X7_156 dX7_heat_51 ?_
        exact e_iret C X rfl (vp_nar_int _) dX7_heat_53 (h8 c1 c2 c4)
    · refine e_ldc C kc_X7_68 dX7_heat_25 ?_
      exact e_iret C X rfl (vp_nar_int _) dX7_heat_27 (h9 c1 c2)
  · refine e_ldc C kc_X7_167 dX7_heat_8 ?_
    exact e_iret C X rfl (vp_nar_int _) dX7_heat_10 (h10 c1)
set_option maxRecDepth 100000 in
set_option maxHeartbeats 4000000 in
theorem km_air {k : ea_K} {o : Option Value} {M' : ea_M} (C : ea_C k RX7 cX7_air 4 2) (X : ea_X k (some .int) o M') {M : ea_M} {side g : Int32} {M1 : ea_M}   (h2 : ¬ p_X7_in ((side).toInt64) (0 : Int64) (1 : Int64) → o = some (.int (-2000000002 : Int32)) ∧ M' = M) (q4 : p_X7_in ((side).toInt64) (0 : Int64) (1 : Int64) → p_X7_in ((g).toInt64) (0 : Int64) (999 : Int64) → ea_Sp 1 yX7_keepPast cX7_keepPast 2 none [.ref 61] M none M1) (s5 : p_X7_in ((side).toInt64) (0 : Int64) (1 : Int64) → p_X7_in ((g).toInt64) (0 : Int64) (999 : Int64) → vp_in ((10 : Int32) + side) 192) (s6 : p_X7_in ((side).toInt64) (0 : Int64) (1 : Int64) → p_X7_in ((g).toInt64) (0 : Int64) (999 : Int64) → vp_in ((10 : Int32) + side) 192) (h7 : p_X7_in ((side).toInt64) (0 : Int64) (1 : Int64) → p_X7_in ((g).toInt64) (0 : Int64) (999 : Int64) → o = some (.int (M1 62 ((10 : Int32) + side).toNatClampNeg)) ∧ M' = (ea_up M1 62 ((10 : Int32) + side).toNatClampNeg g)) (h8 : p_X7_in ((side).toInt64) (0 : Int64) (1 : Int64) → ¬ p_X7_in ((g).toInt64) (0 : Int64) (999 : Int64) → o = some (.int (-2000000002 : Int32)) ∧ M' = M) : ea_E k 0 [(0, .ref 61), (1, .int side), (2, .int g)] [] M := by
  refine e_iload_n (n := 1) C dX7_air_0 rfl rfl ?_
  refine e_i2l C dX7_air_1 ?_
  refine e_lconst (v := 0) C dX7_air_2 (by decide) ?_
  refine e_lconst (v := 1) C dX7_air_3 (by decide) ?_
  refine e_callS1 (as := [.long ((side).toInt64), .long (0 : Int64), .long (1 : Int64)]) (rest := []) C lk_X7_64 (sp_X7_in (M := M) (v := ((side).toInt64)) (a := (0 : Int64)) (b := (1 : Int64)) ) (by decide) rfl rfl (Nat.le_of_ble_eq_true rfl) dX7_air_4 ?_
  refine e_ifb_eq (tgt := 22) C dX7_air_7 (by decide) (fun c1 => ?_) (fun c1 => ?_)
  · refine e_ldc C kc_X7_68 dX7_air_22 ?_
    exact e_iret C X rfl (vp_nar_int _) dX7_air_24 (h2 c1)
  · refine e_iload_n (n := 2) C dX7_air_10 rfl rfl ?_
    refine e_i2l C dX7_air_11 ?_
    refine e_lconst (v := 0) C dX7_air_12 (by decide) ?_
    refine e_ldc2 C kc_X7_217 dX7_air_13 ?_
    refine e_callS1 (as := [.long ((g).toInt64), .long (0 : Int64), .long (999 : Int64)]) (rest := []) C lk_X7_64 (sp_X7_in (M := M) (v := ((g).toInt64)) (a := (0 : Int64)) (b := (999 : Int64)) ) (by decide) rfl rfl (Nat.le_of_ble_eq_true rfl) dX7_air_16 ?_
    refine e_ifb_ne (tgt := 25) C dX7_air_19 (by decide) (fun c3 => ?_) (fun c3 => ?_)
    · refine e_aload_n (n := 0) C dX7_air_25 rfl rfl ?_
      refine e_callV0 (as := []) (rest := []) C lk_X7_207 (q4 c1 c3) (by decide) rfl (by decide) rfl (by decide) rfl rfl (Nat.le_of_ble_eq_true rfl) dX7_air_26 ?_
      refine e_aload_n (n := 0) C dX7_air_29 rfl rfl ?_
      refine e_get (v := .ref 62) C fd_X7_7 (by decide) rfl rfl dX7_air_30 ?_
      refine e_bipush (v := 10) C dX7_air_33 (by decide) ?_
      refine e_iload_n (n := 1) C dX7_air_35 rfl rfl ?_
      refine e_iadd C dX7_air_36 ?_
      refine e_iald (n := 192) C (by decide) rfl (by decide) (s5 c1 c3) dX7_air_37 ?_
      refine e_istore_n C dX7_air_38 rfl (by decide) rfl ?_
      refine e_aload_n (n := 1) C dX7_air_39 rfl rfl ?_
      refine e_get (v := .ref 62) C fd_X7_7 (by decide) rfl rfl dX7_air_40 ?_
      refine e_bipush (v := 10) C dX7_air_43 (by decide) ?_
      refine e_iload_n (n := 2) C dX7_air_45 rfl rfl ?_
      refine e_iadd C dX7_air_46 ?_
      refine e_iload_n (n := 3) C dX7_air_47 rfl rfl ?_
      refine e_iast (n := 192) C (by decide) rfl (by decide) (s6 c1 c3) dX7_air_48 ?_
      refine e_iload_n (n := 0) C dX7_air_49 rfl rfl ?_
      exact e_iret C X rfl (vp_nar_int _) dX7_air_50 (h7 c1 c3)
    · refine e_ldc C kc_X7_68 dX7_air_22 ?_
      exact e_iret C X rfl (vp_nar_int _) dX7_air_24 (h8 c1 c3)
set_option maxRecDepth 100000 in
set_option maxHeartbeats 4000000 in
theorem km_pace {k : ea_K} {o : Option Value} {M' : ea_M} (C : ea_C k RX7 cX7_pace 2 3) (X : ea_X k (some .int) o M') {M : ea_M} {t : Int32} {M1 : ea_M} {r2 : Int32}   (q2 : p_X7_in ((t).toInt64) (1 : Int64) (999 : Int64) → ea_Sp 1 yX7_keepPast cX7_keepPast 2 none [.ref 61] M none M1) (q4 : p_X7_in ((t).toInt64) (1 : Int64) (999 : Int64) → ea_Sp 2 yX7_safe cX7_safe 3 (some .int) [.ref 61] (ea_up M1 62 12 t) (some (.int r2)) (ea_up M1 62 12 t)) (h5 : p_X7_in ((t).toInt64) (1 : Int64) (999 : Int64) → o = some (.int r2) ∧ M' = (ea_up M1 62 12 t)) (h6 : ¬ p_X7_in ((t).toInt64) (1 : Int64) (999 : Int64) → o = some (.int (-2000000002 : Int32)) ∧ M' = M) : ea_E k 0 [(0, .ref 61), (1, .int t)] [] M := by
  refine e_iload_n (n := 1) C dX7_pace_0 rfl rfl ?_
  refine e_i2l C dX7_pace_1 ?_
  refine e_lconst (v := 1) C dX7_pace_2 (by decide) ?_
  refine e_ldc2 C kc_X7_217 dX7_pace_3 ?_
  refine e_callS1 (as := [.long ((t).toInt64), .long (1 : Int64), .long (999 : Int64)]) (rest := []) C lk_X7_64 (sp_X7_in (M := M) (v := ((t).toInt64)) (a := (1 : Int64)) (b := (999 : Int64)) ) (by decide) rfl rfl (Nat.le_of_ble_eq_true rfl) dX7_pace_6 ?_
  refine e_ifb_ne (tgt := 15) C dX7_pace_9 (by decide) (fun c1 => ?_) (fun c1 => ?_)
  · refine e_aload_n (n := 0) C dX7_pace_15 rfl rfl ?_
    refine e_callV0 (as := []) (rest := []) C lk_X7_207 (q2 c1) (by decide) rfl (by decide) rfl (by decide) rfl rfl (Nat.le_of_ble_eq_true rfl) dX7_pace_16 ?_
    refine e_aload_n (n := 0) C dX7_pace_19 rfl rfl ?_
    refine e_get (v := .ref 62) C fd_X7_7 (by decide) rfl rfl dX7_pace_20 ?_
    refine e_bipush (v := 12) C dX7_pace_23 (by decide) ?_
    refine e_iload_n (n := 1) C dX7_pace_25 rfl rfl ?_
    refine e_iast (n := 192) C (by decide) rfl (by decide) (vp_in_nI (n := 12) (N := 192) (by decide) (by decide)) dX7_pace_26 ?_
    refine e_aload_n (n := 0) C dX7_pace_27 rfl rfl ?_
    refine e_callV1 (as := []) (rest := []) C lk_X7_219 (q4 c1) (by decide) rfl (by decide) rfl (by decide) rfl rfl (Nat.le_of_ble_eq_true rfl) dX7_pace_28 ?_
    exact e_iret C X rfl (vp_nar_int _) dX7_pace_31 (h5 c1)
  · refine e_ldc C kc_X7_68 dX7_pace_12 ?_
    exact e_iret C X rfl (vp_nar_int _) dX7_pace_14 (h6 c1)
set_option maxRecDepth 100000 in
set_option maxHeartbeats 4000000 in
theorem km_undo {k : ea_K} {o : Option Value} {M' : ea_M} (C : ea_C k RX7 cX7_undo 1 1) (X : ea_X k (some .int) o M') {M : ea_M} {M1 : ea_M}   (q2 : ¬ (M 61 8) = 0 → ea_Sp 0 yX7_copyRow cX7_copyRow 4 none [.ref 61, .int ((16 : Int32) + ((16 : Int32) * ((M 61 8) - (1 : Int32)))), .int (0 : Int32)] (ea_up M 61 8 ((M 61 8) - (1 : Int32))) none M1) (h3 : ¬ (M 61 8) = 0 → o = some (.int (M1 61 8)) ∧ M' = M1) (h4 : (M 61 8) = 0 → o = some (.int (-2000000003 : Int32)) ∧ M' = M) : ea_E k 0 [(0, .ref 61)] [] M := by
  refine e_aload_n (n := 0) C dX7_undo_0 rfl rfl ?_
  refine e_get (v := .int (M 61 8)) C fd_X7_157 (by decide) rfl rfl dX7_undo_1 ?_
  refine e_if_ne (tgt := 10) C dX7_undo_4 (by decide) (fun c1 => ?_) (fun c1 => ?_)
  · refine e_aload_n (n := 0) C dX7_undo_10 rfl rfl ?_
    refine e_dup C dX7_undo_11 rfl ?_
    refine e_get (v := .int (M 61 8)) C fd_X7_157 (by decide) rfl rfl dX7_undo_12 ?_
    refine e_iconst (v := 1) C dX7_undo_15 (by decide) ?_
    refine e_isub C dX7_undo_16 ?_
    refine e_put (ty := .int) C fd_X7_157 (by decide) rfl rfl (by decide +kernel) (vp_nar_int _) rfl (ea_set7_8 _ _ _) dX7_undo_17 ?_
    refine e_aload_n (n := 0) C dX7_undo_20 rfl rfl ?_
    refine e_bipush (v := 16) C dX7_undo_21 (by decide) ?_
    refine e_bipush (v := 16) C dX7_undo_23 (by decide) ?_
    refine e_aload_n (n := 0) C dX7_undo_25 rfl rfl ?_
    refine e_get (v := .int ((M 61 8) - (1 : Int32))) C fd_X7_157 (by decide) rfl (congrArg (fun z => some (Value.int z)) (by simp [ea_upR, ea_upS, ea_upK, pa_setR, pa_cpR, fr_X3_add, fr_X5_forget, fr_X5_become, fr_X4_clear, fr_X4_addStuff, fr_X4_become_d, fr_X4_become_s, fr_X0_enter, fr_X0_remove, fr_X7_erase] : (ea_up M 61 8 ((M 61 8) - (1 : Int32))) 61 8 = ((M 61 8) - (1 : Int32)))) dX7_undo_26 ?_
    refine e_imul C dX7_undo_29 ?_
    refine e_iadd C dX7_undo_30 ?_
    refine e_iconst (v := 0) C dX7_undo_31 (by decide) ?_
    refine e_callV0 (as := [.int ((16 : Int32) + ((16 : Int32) * ((M 61 8) - (1 : Int32)))), .int (0 : Int32)]) (rest := []) C lk_X7_201 (q2 c1) (by decide) rfl (by decide) rfl (by decide) rfl rfl (Nat.le_of_ble_eq_true rfl) dX7_undo_32 ?_
    refine e_aload_n (n := 0) C dX7_undo_35 rfl rfl ?_
    refine e_get (v := .int (M1 61 8)) C fd_X7_157 (by decide) rfl rfl dX7_undo_36 ?_
    exact e_iret C X rfl (vp_nar_int _) dX7_undo_39 (h3 c1)
  · refine e_ldc C kc_X7_156 dX7_undo_7 ?_
    exact e_iret C X rfl (vp_nar_int _) dX7_undo_9 (h4 c1)
set_option maxRecDepth 100000 in
set_option maxHeartbeats 4000000 in
theorem km_keep {k : ea_K} {o : Option Value} {M' : ea_M} (C : ea_C k RX7 cX7_keep 2 1) (X : ea_X k (some .int) o M') {M : ea_M} {k0 : Int32} {M1 : ea_M} {r2 : Int32}   (q2 : p_X7_in ((k0).toInt64) (0 : Int64) (1 : Int64) → ea_Sp 0 yX7_copyRow cX7_copyRow 4 none [.ref 61, .int (0 : Int32), .int ((144 : Int32) + ((16 : Int32) * k0))] M none M1) (s3 : p_X7_in ((k0).toInt64) (0 : Int64) (1 : Int64) → vp_in k0 2) (q4 : p_X7_in ((k0).toInt64) (0 : Int64) (1 : Int64) → ea_Sp 0 yX7_allHeat cX7_allHeat 3 (some .int) [.ref 61] (ea_up M1 68 k0.toNatClampNeg (1 : Int32)) (some (.int r2)) (ea_up M1 68 k0.toNatClampNeg (1 : Int32))) (h5 : p_X7_in ((k0).toInt64) (0 : Int64) (1 : Int64) → o = some (.int r2) ∧ M' = (ea_up M1 68 k0.toNatClampNeg (1 : Int32))) (h6 : ¬ p_X7_in ((k0).toInt64) (0 : Int64) (1 : Int64) → o = some (.int (-2000000001 : Int32)) ∧ M' = M) : ea_E k 0 [(0, .ref 61), (1, .int k0)] [] M := by
  refine e_iload_n (n := 1) C dX7_keep_0 rfl rfl ?_
  refine e_i2l C dX7_keep_1 ?_
  refine e_lconst (v := 0) C dX7_keep_2 (by decide) ?_
  refine e_lconst (v := 1) C dX7_keep_3 (by decide) ?_
  refine e_callS1 (as := [.long ((k0).toInt64), .long (0 : Int64), .long (1 : Int64)]) (rest := []) C lk_X7_64 (sp_X7_in (M := M) (v := ((k0).toInt64)) (a := (0 : Int64)) (b := (1 : Int64)) ) (by decide) rfl rfl (Nat.le_of_ble_eq_true rfl) dX7_keep_4 ?_
  refine e_ifb_ne (tgt := 13) C dX7_keep_7 (by decide) (fun c1 => ?_) (fun c1 => ?_)
  · refine e_aload_n (n := 0) C dX7_keep_13 rfl rfl ?_
    refine e_iconst (v := 0) C dX7_keep_14 (by decide) ?_
    refine e_sipush (v := 144) C dX7_keep_15 (by decide) ?_
    refine e_bipush (v := 16) C dX7_keep_18 (by decide) ?_
    refine e_iload_n (n := 1) C dX7_keep_20 rfl rfl ?_
    refine e_imul C dX7_keep_21 ?_
    refine e_iadd C dX7_keep_22 ?_
    refine e_callV0 (as := [.int (0 : Int32), .int ((144 : Int32) + ((16 : Int32) * k0))]) (rest := []) C lk_X7_201 (q2 c1) (by decide) rfl (by decide) rfl (by decide) rfl rfl (Nat.le_of_ble_eq_true rfl) dX7_keep_23 ?_
    refine e_aload_n (n := 0) C dX7_keep_26 rfl rfl ?_
    refine e_get (v := .ref 68) C fd_X7_28 (by decide) rfl rfl dX7_keep_27 ?_
    refine e_iload_n (n := 1) C dX7_keep_30 rfl rfl ?_
    refine e_iconst (v := 1) C dX7_keep_31 (by decide) ?_
    refine e_zast (n := 2) C (by decide) rfl (by decide) (s3 c1) rfl dX7_keep_32 ?_
    refine e_aload_n (n := 0) C dX7_keep_33 rfl rfl ?_
    refine e_callV1 (as := []) (rest := []) C lk_X7_222 (q4 c1) (by decide) rfl (by decide) rfl (by decide) rfl rfl (Nat.le_of_ble_eq_true rfl) dX7_keep_34 ?_
    exact e_iret C X rfl (vp_nar_int _) dX7_keep_37 (h5 c1)
  · refine e_ldc C kc_X7_167 dX7_keep_10 ?_
    exact e_iret C X rfl (vp_nar_int _) dX7_keep_12 (h6 c1)
set_option maxRecDepth 100000 in
set_option maxHeartbeats 4000000 in
theorem km_back {k : ea_K} {o : Option Value} {M' : ea_M} (C : ea_C k RX7 cX7_back 2 1) (X : ea_X k (some .int) o M') {M : ea_M} {k0 : Int32} {M1 : ea_M} {r2 : Int32}   (s2 : p_X7_in ((k0).toInt64) (0 : Int64) (1 : Int64) → vp_in k0 2) (q4 : p_X7_in ((k0).toInt64) (0 : Int64) (1 : Int64) → ¬ (M 68 k0.toNatClampNeg) = 0 → ea_Sp 0 yX7_copyRow cX7_copyRow 4 none [.ref 61, .int ((144 : Int32) + ((16 : Int32) * k0)), .int (0 : Int32)] M none M1) (q5 : p_X7_in ((k0).toInt64) (0 : Int64) (1 : Int64) → ¬ (M 68 k0.toNatClampNeg) = 0 → ea_Sp 0 yX7_allHeat cX7_allHeat 3 (some .int) [.ref 61] (ea_up M1 61 8 (0 : Int32)) (some (.int r2)) (ea_up M1 61 8 (0 : Int32))) (h6 : p_X7_in ((k0).toInt64) (0 : Int64) (1 : Int64) → ¬ (M 68 k0.toNatClampNeg) = 0 → o = some (.int r2) ∧ M' = (ea_up M1 61 8 (0 : Int32))) (h7 : p_X7_in ((k0).toInt64) (0 : Int64) (1 : Int64) → (M 68 k0.toNatClampNeg) = 0 → o = some (.int (-2000000003 : Int32)) ∧ M' = M) (h8 : ¬ p_X7_in ((k0).toInt64) (0 : Int64) (1 : Int64) → o = some (.int (-2000000001 : Int32)) ∧ M' = M) : ea_E k 0 [(0, .ref 61), (1, .int k0)] [] M := by
  refine e_iload_n (n := 1) C dX7_back_0 rfl rfl ?_
  refine e_i2l C dX7_back_1 ?_
  refine e_lconst (v := 0) C dX7_back_2 (by decide) ?_
  refine e_lconst (v := 1) C dX7_back_3 (by decide) ?_
  refine e_callS1 (as := [.long ((k0).toInt64), .long (0 : Int64), .long (1 : Int64)]) (rest := []) C lk_X7_64 (sp_X7_in (M := M) (v := ((k0).toInt64)) (a := (0 : Int64)) (b := (1 : Int64)) ) (by decide) rfl rfl (Nat.le_of_ble_eq_true rfl) dX7_back_4 ?_
  refine e_ifb_ne (tgt := 13) C dX7_back_7 (by decide) (fun c1 => ?_) (fun c1 => ?_)
  · refine e_aload_n (n := 0) C dX7_back_13 rfl rfl ?_
    refine e_get (v := .ref 68) C fd_X7_28 (by decide) rfl rfl dX7_back_14 ?_
    refine e_iload_n (n := 1) C dX7_back_17 rfl rfl ?_
    refine e_zald (n := 2) C (by decide) rfl (by decide) (s2 c1) dX7_back_18 ?_
    refine e_if_ne (tgt := 25) C dX7_back_19 (by decide) (fun c3 => ?_) (fun c3 => ?_)
    · refine e_aload_n (n := 0) C dX7_back_25 rfl rfl ?_
      refine e_sipush (v := 144) C dX7_back_26 (by decide) ?_
      refine e_bipush (v := 16) C dX7_back_29 (by decide) ?_
      refine e_iload_n (n := 1) C dX7_back_31 rfl rfl ?_
      refine e_imul C dX7_back_32 ?_
      refine e_iadd C dX7_back_33 ?_
      refine e_iconst (v := 0) C dX7_back_34 (by decide) ?_
      refine e_callV0 (as := [.int ((144 : Int32) + ((16 : Int32) * k0)), .int (0 : Int32)]) (rest := []) C lk_X7_201 (q4 c1 c3) (by decide) rfl (by decide) rfl (by decide) rfl rfl (Nat.le_of_ble_eq_true rfl) dX7_back_35 ?_
      refine e_aload_n (n := 0) C dX7_back_38 rfl rfl ?_
      refine e_iconst (v := 0) C dX7_back_39 (by decide) ?_
      refine e_put (ty := .int) C fd_X7_157 (by decide) rfl rfl (by decide +kernel) (vp_nar_int _) rfl (ea_set7_8 _ _ _) dX7_back_40 ?_
      refine e_aload_n (n := 0) C dX7_back_43 rfl rfl ?_
      refine e_callV1 (as := []) (rest := []) C lk_X7_222 (q5 c1 c3) (by decide) rfl (by decide) rfl (by decide) rfl rfl (Nat.le_of_ble_eq_true rfl) dX7_back_44 ?_
      exact e_iret C X rfl (vp_nar_int _) dX7_back_47 (h6 c1 c3)
    · refine e_ldc C kc_X7_156 dX7_back_22 ?_
      exact e_iret C X rfl (vp_nar_int _) dX7_back_24 (h7 c1 c3)
  · refine e_ldc C kc_X7_167 dX7_back_10 ?_
    exact e_iret C X rfl (vp_nar_int _) dX7_back_12 (h8 c1)
set_option maxRecDepth 100000 in
set_option maxHeartbeats 4000000 in
theorem km_flow {k : ea_K} {o : Option Value} {M' : ea_M} (C : ea_C k RX7 cX7_flow 2 2) (X : ea_X k (some .int) o M') {M : ea_M} {i : Int32} {r1 : Int32}   (q3 : p_X7_in ((i).toInt64) (0 : Int64) (((M 61 6)).toInt64) → ¬ (M 61 6) = 0 → ea_Sp 1 yX7_flowAt cX7_flowAt 8 (some .int) [.ref 61, .int (0 : Int32), .int i] M (some (.int r1)) M) (h4 : p_X7_in ((i).toInt64) (0 : Int64) (((M 61 6)).toInt64) → ¬ (M 61 6) = 0 → o = some (.int r1) ∧ M' = M) (h5 : p_X7_in ((i).toInt64) (0 : Int64) (((M 61 6)).toInt64) → (M 61 6) = 0 → o = some (.int (-2000000003 : Int32)) ∧ M' = M) (h6 : ¬ p_X7_in ((i).toInt64) (0 : Int64) (((M 61 6)).toInt64) → o = some (.int (-2000000002 : Int32)) ∧ M' = M) : ea_E k 0 [(0, .ref 61), (1, .int i)] [] M := by
  refine e_iload_n (n := 1) C dX7_flow_0 rfl rfl ?_
  refine e_i2l C dX7_flow_1 ?_
  refine e_lconst (v := 0) C dX7_flow_2 (by decide) ?_
  refine e_aload_n (n := 0) C dX7_flow_3 rfl rfl ?_
  refine e_get (v := .int (M 61 6)) C fd_X7_126 (by decide) rfl rfl dX7_flow_4 ?_
  refine e_i2l C dX7_flow_7 ?_
  refine e_callS1 (as := [.long ((i).toInt64), .long (0 : Int64), .long (((M 61 6)).toInt64)]) (rest := []) C lk_X7_64 (sp_X7_in (M := M) (v := ((i).toInt64)) (a := (0 : Int64)) (b := (((M 61 6)).toInt64)) ) (by decide) rfl rfl (Nat.le_of_ble_eq_true rfl) dX7_flow_8 ?_
  refine e_ifb_ne (tgt := 19) C dX7_flow_11 (by decide) (fun c1 => ?_) (fun c1 => ?_)
  · refine e_aload_n (n := 0) C dX7_flow_19 rfl rfl ?_
    refine e_get (v := .int (M 61 6)) C fd_X7_126 (by decide) rfl rfl dX7_flow_20 ?_
    refine e_if_ne (tgt := 31) C dX7_flow_23 (by decide) (fun c2 => ?_) (fun c2 => ?_)
    · refine e_aload_n (n := 0) C dX7_flow_31 rfl rfl ?_
      refine e_iconst (v := 0) C dX7_flow_32 (by decide) ?_
      refine e_iload_n (n := 1) C dX7_flow_33 rfl rfl ?_
      refine e_callV1 (as := [.int (0 : Int32), .int i]) (rest := []) C lk_X7_193 (q3 c1 c2) (by decide) rfl (by decide) rfl (by decide) rfl rfl (Nat.le_of_ble_eq_true rfl) dX7_flow_34 ?_
      exact e_iret C X rfl (vp_nar_int _) dX7_flow_37 (h4 c1 c2)
    · refine e_ldc C kc_X7_156 dX7_flow_26 ?_
      refine e_goto (tgt := 37) C dX7_flow_28 (by decide) ?_
      exact e_iret C X rfl (vp_nar_int _) dX7_flow_37 (h5 c1 c2)
  · refine e_ldc C kc_X7_68 dX7_flow_14 ?_
    refine e_goto (tgt := 37) C dX7_flow_16 (by decide) ?_
    exact e_iret C X rfl (vp_nar_int _) dX7_flow_37 (h6 c1)
set_option maxRecDepth 100000 in
set_option maxHeartbeats 4000000 in
theorem km_resists {k : ea_K} {o : Option Value} {M' : ea_M} (C : ea_C k RX7 cX7_resists 2 2) (X : ea_X k (some .int) o M') {M : ea_M} {part : Int32} {r1 r2 : Int64}   (q3 : p_X7_in ((part).toInt64) (0 : Int64) (1 : Int64) → ¬ (M 61 6) = 0 → ea_Sp 0 yX7_resistance cX7_resistance 6 (some .long) [.ref 61, .int (-1 : Int32), .int (0 : Int32)] M (some (.long r1)) M) (q4 : p_X7_in ((part).toInt64) (0 : Int64) (1 : Int64) → ¬ (M 61 6) = 0 → ea_Sp 1 yX7_told cX7_told 7 (some .long) [.long r1, .long (232792560 : Int64), .int part] M (some (.long r2)) M) (h5 : p_X7_in ((part).toInt64) (0 : Int64) (1 : Int64) → ¬ (M 61 6) = 0 → o = some (.int ((r2).toInt32)) ∧ M' = M) (h6 : p_X7_in ((part).toInt64) (0 : Int64) (1 : Int64) → (M 61 6) = 0 → o = some (.int (-2000000003 : Int32)) ∧ M' = M) (h7 : ¬ p_X7_in ((part).toInt64) (0 : Int64) (1 : Int64) → o = some (.int (-2000000002 : Int32)) ∧ M' = M) : ea_E k 0 [(0, .ref 61), (1, .int part)] [] M := by
  refine e_iload_n (n := 1) C dX7_resists_0 rfl rfl ?_
  refine e_i2l C dX7_resists_1 ?_
  refine e_lconst (v := 0) C dX7_resists_2 (by decide) ?_
  refine e_lconst (v := 1) C dX7_resists_3 (by decide) ?_
  refine e_callS1 (as := [.long ((part).toInt64), .long (0 : Int64), .long (1 : Int64)]) (rest := []) C lk_X7_64 (sp_X7_in (M := M) (v := ((part).toInt64)) (a := (0 : Int64)) (b := (1 : Int64)) ) (by decide) rfl rfl (Nat.le_of_ble_eq_true rfl) dX7_resists_4 ?_
  refine e_ifb_ne (tgt := 13) C dX7_resists_7 (by decide) (fun c1 => ?_) (fun c1 => ?_)
  · refine e_aload_n (n := 0) C dX7_resists_13 rfl rfl ?_
    refine e_get (v := .int (M 61 6)) C fd_X7_126 (by decide) rfl rfl dX7_resists_14 ?_
    refine e_if_ne (tgt := 25) C dX7_resists_17 (by decide) (fun c2 => ?_) (fun c2 => ?_)
    · refine e_aload_n (n := 0) C dX7_resists_25 rfl rfl ?_
      refine e_iconst (v := -1) C dX7_resists_26 (by decide) ?_
      refine e_iconst (v := 0) C dX7_resists_27 (by decide) ?_
      refine e_callV1 (as := [.int (-1 : Int32), .int (0 : Int32)]) (rest := []) C lk_X7_227 (q3 c1 c2) (by decide) rfl (by decide) rfl (by decide) rfl rfl (Nat.le_of_ble_eq_true rfl) dX7_resists_28 ?_
      refine e_ldc2 C kc_X7_225 dX7_resists_31 ?_
      refine e_iload_n (n := 1) C dX7_resists_34 rfl rfl ?_
      refine e_callS1 (as := [.long r1, .long (232792560 : Int64), .int part]) (rest := []) C lk_X7_178 (q4 c1 c2) (by decide) rfl rfl (Nat.le_of_ble_eq_true rfl) dX7_resists_35 ?_
      refine e_l2i C dX7_resists_38 ?_
      exact e_iret C X rfl (vp_nar_int _) dX7_resists_39 (h5 c1 c2)
    · refine e_ldc C kc_X7_156 dX7_resists_20 ?_
      refine e_goto (tgt := 39) C dX7_resists_22 (by decide) ?_
      exact e_iret C X rfl (vp_nar_int _) dX7_resists_39 (h6 c1 c2)
  · refine e_ldc C kc_X7_68 dX7_resists_10 ?_
    exact e_iret C X rfl (vp_nar_int _) dX7_resists_12 (h7 c1)
set_option maxRecDepth 100000 in
set_option maxHeartbeats 4000000 in
theorem km_swapped {k : ea_K} {o : Option Value} {M' : ea_M} (C : ea_C k RX7 cX7_swapped 4 2) (X : ea_X k (some .int) o M') {M : ea_M} {c s part : Int32} {r1 r2 : Int64}   (h2 : ¬ p_X7_isCell M c → o = some (.int (-2000000001 : Int32)) ∧ M' = M) (h5 : p_X7_isCell M c → p_X7_isStuff M s → ¬ p_X7_in ((part).toInt64) (0 : Int64) (1 : Int64) → o = some (.int (-2000000002 : Int32)) ∧ M' = M) (q6 : p_X7_isCell M c → p_X7_isStuff M s → p_X7_in ((part).toInt64) (0 : Int64) (1 : Int64) → ea_Sp 0 yX7_resistance cX7_resistance 6 (some .long) [.ref 61, .int c, .int s] M (some (.long r1)) M) (q7 : p_X7_isCell M c → p_X7_isStuff M s → p_X7_in ((part).toInt64) (0 : Int64) (1 : Int64) → ea_Sp 1 yX7_told cX7_told 7 (some .long) [.long r1, .long (232792560 : Int64), .int part] M (some (.long r2)) M) (h8 : p_X7_isCell M c → p_X7_isStuff M s → p_X7_in ((part).toInt64) (0 : Int64) (1 : Int64) → o = some (.int ((r2).toInt32)) ∧ M' = M) (h9 : p_X7_isCell M c → ¬ p_X7_isStuff M s → o = some (.int (-2000000001 : Int32)) ∧ M' = M) : ea_E k 0 [(0, .ref 61), (1, .int c), (2, .int s), (3, .int part)] [] M := by
  refine e_aload_n (n := 0) C dX7_swapped_0 rfl rfl ?_
  refine e_iload_n (n := 1) C dX7_swapped_1 rfl rfl ?_
  refine e_callV1 (as := [.int c]) (rest := []) C lk_X7_172 (sp_X7_isCell (M := M) (i := c) ) (by decide) rfl (by decide) rfl (by decide) rfl rfl (Nat.le_of_ble_eq_true rfl) dX7_swapped_2 ?_
  refine e_ifb_eq (tgt := 16) C dX7_swapped_5 (by decide) (fun c1 => ?_) (fun c1 => ?_)
  · refine e_ldc C kc_X7_167 dX7_swapped_16 ?_
    exact e_iret C X rfl (vp_nar_int _) dX7_swapped_18 (h2 c1)
  · refine e_aload_n (n := 0) C dX7_swapped_8 rfl rfl ?_
    refine e_iload_n (n := 2) C dX7_swapped_9 rfl rfl ?_
    refine e_callV1 (as := [.int s]) (rest := []) C lk_X7_164 (sp_X7_isStuff (M := M) (i := s) ) (by decide) rfl (by decide) rfl (by decide) rfl rfl (Nat.le_of_ble_eq_true rfl) dX7_swapped_10 ?_
    refine e_ifb_ne (tgt := 19) C dX7_swapped_13 (by decide) (fun c3 => ?_) (fun c3 => ?_)
    · refine e_iload_n (n := 3) C dX7_swapped_19 rfl rfl ?_
      refine e_i2l C dX7_swapped_20 ?_
      refine e_lconst (v := 0) C dX7_swapped_21 (by decide) ?_
      refine e_lconst (v := 1) C dX7_swapped_22 (by decide) ?_
      refine e_callS1 (as := [.long ((part).toInt64), .long (0 : Int64), .long (1 : Int64)]) (rest := []) C lk_X7_64 (sp_X7_in (M := M) (v := ((part).toInt64)) (a := (0 : Int64)) (b := (1 : Int64)) ) (by decide) rfl rfl (Nat.le_of_ble_eq_true rfl) dX7_swapped_23 ?_
      refine e_ifb_eq (tgt := 46) C dX7_swapped_26 (by decide) (fun c4 => ?_) (fun c4 => ?_)
      · refine e_ldc C kc_X7_68 dX7_swapped_46 ?_
        exact e_iret C X rfl (vp_nar_int _) dX7_swapped_48 (h5 c1 c3 c4)
      · refine e_aload_n (n := 0) C dX7_swapped_29 rfl rfl ?_
        refine e_iload_n (n := 1) C dX7_swapped_30 rfl rfl ?_
        refine e_iload_n (n := 2) C dX7_swapped_31 rfl rfl ?_
        refine e_callV1 (as := [.int c, .int s]) (rest := []) C lk_X7_227 (q6 c1 c3 c4) (by decide) rfl (by decide) rfl (by decide) rfl rfl (Nat.le_of_ble_eq_true rfl) dX7_swapped_32 ?_
        refine e_ldc2 C kc_X7_225 dX7_swapped_35 ?_
        refine e_iload_n (n := 3) C dX7_swapped_38 rfl rfl ?_
        refine e_callS1 (as := [.long r1, .long (232792560 : Int64), .int part]) (rest := []) C lk_X7_178 (q7 c1 c3 c4) (by decide) rfl rfl (Nat.le_of_ble_eq_true rfl) dX7_swapped_39 ?_
        refine e_l2i C dX7_swapped_42 ?_
        refine e_goto (tgt := 48) C dX7_swapped_43 (by decide) ?_
        exact e_iret C X rfl (vp_nar_int _) dX7_swapped_48 (h8 c1 c3 c4)
    · refine e_ldc C kc_X7_167 dX7_swapped_16 ?_
      exact e_iret C X rfl (vp_nar_int _) dX7_swapped_18 (h9 c1 c3)
set_option maxRecDepth 100000 in
set_option maxHeartbeats 4000000 in
theorem km_gain {k : ea_K} {o : Option Value} {M' : ea_M} (C : ea_C k RX7 cX7_gain 2 3) (X : ea_X k (some .int) o M') {M : ea_M} {c : Int32} {M1 M2 : ea_M} {r2 : Int32}   (q2 : p_X7_isCell M c → ea_Sp 0 yX7_copyRow cX7_copyRow 4 none [.ref 61, .int (0 : Int32), .int (176 : Int32)] M none M1) (q3 : p_X7_isCell M c → ea_Sp 2 yX7_steps cX7_steps 4 (some .boolean) [.ref 61, .int (176 : Int32)] M1 (some (.int r2)) M2) (h5 : p_X7_isCell M c → r2 = 0 → o = some (.int (-2000000003 : Int32)) ∧ M' = M2) (s6 : p_X7_isCell M c → ¬ r2 = 0 → vp_in ((176 : Int32) + c) 192) (s7 : p_X7_isCell M c → ¬ r2 = 0 → vp_in ((0 : Int32) + c) 192) (h8 : p_X7_isCell M c → ¬ r2 = 0 → o = some (.int ((M2 62 ((176 : Int32) + c).toNatClampNeg) - (M2 62 ((0 : Int32) + c).toNatClampNeg))) ∧ M' = M2) (h9 : ¬ p_X7_isCell M c → o = some (.int (-2000000001 : Int32)) ∧ M' = M) : ea_E k 0 [(0, .ref 61), (1, .int c)] [] M := by
  refine e_aload_n (n := 0) C dX7_gain_0 rfl rfl ?_
  refine e_iload_n (n := 1) C dX7_gain_1 rfl rfl ?_
  refine e_callV1 (as := [.int c]) (rest := []) C lk_X7_172 (sp_X7_isCell (M := M) (i := c) ) (by decide) rfl (by decide) rfl (by decide) rfl rfl (Nat.le_of_ble_eq_true rfl) dX7_gain_2 ?_
  refine e_ifb_ne (tgt := 11) C dX7_gain_5 (by decide) (fun c1 => ?_) (fun c1 => ?_)
  · refine e_aload_n (n := 0) C dX7_gain_11 rfl rfl ?_
    refine e_iconst (v := 0) C dX7_gain_12 (by decide) ?_
    refine e_sipush (v := 176) C dX7_gain_13 (by decide) ?_
    refine e_callV0 (as := [.int (0 : Int32), .int (176 : Int32)]) (rest := []) C lk_X7_201 (q2 c1) (by decide) rfl (by decide) rfl (by decide) rfl rfl (Nat.le_of_ble_eq_true rfl) dX7_gain_16 ?_
    refine e_aload_n (n := 0) C dX7_gain_19 rfl rfl ?_
    refine e_sipush (v := 176) C dX7_gain_20 (by decide) ?_
    refine e_callV1 (as := [.int (176 : Int32)]) (rest := []) C lk_X7_210 (q3 c1) (by decide) rfl (by decide) rfl (by decide) rfl rfl (Nat.le_of_ble_eq_true rfl) dX7_gain_23 ?_
    refine e_if_eq (tgt := 51) C dX7_gain_26 (by decide) (fun c4 => ?_) (fun c4 => ?_)
    · refine e_ldc C kc_X7_156 dX7_gain_51 ?_
      exact e_iret C X rfl (vp_nar_int _) dX7_gain_53 (h5 c1 c4)
    · refine e_aload_n (n := 0) C dX7_gain_29 rfl rfl ?_
      refine e_get (v := .ref 62) C fd_X7_7 (by decide) rfl rfl dX7_gain_30 ?_
      refine e_sipush (v := 176) C dX7_gain_33 (by decide) ?_
      refine e_iload_n (n := 1) C dX7_gain_36 rfl rfl ?_
      refine e_iadd C dX7_gain_37 ?_
      refine e_iald (n := 192) C (by decide) rfl (by decide) (s6 c1 c4) dX7_gain_38 ?_
      refine e_aload_n (n := 0) C dX7_gain_39 rfl rfl ?_
      refine e_get (v := .ref 62) C fd_X7_7 (by decide) rfl rfl dX7_gain_40 ?_
      refine e_iconst (v := 0) C dX7_gain_43 (by decide) ?_
      refine e_iload_n (n := 1) C dX7_gain_44 rfl rfl ?_
      refine e_iadd C dX7_gain_45 ?_
      refine e_iald (n := 192) C (by decide) rfl (by decide) (s7 c1 c4) dX7_gain_46 ?_
      refine e_isub C dX7_gain_47 ?_
      refine e_goto (tgt := 53) C dX7_gain_48 (by decide) ?_
      exact e_iret C X rfl (vp_nar_int _) dX7_gain_53 (h8 c1 c4)
  · refine e_ldc C kc_X7_167 dX7_gain_8 ?_
    exact e_iret C X rfl (vp_nar_int _) dX7_gain_10 (h9 c1)
set_option maxRecDepth 100000 in
set_option maxHeartbeats 4000000 in
theorem km_page {k : ea_K} {o : Option Value} {M' : ea_M} (C : ea_C k RX7 cX7_page 2 2) (X : ea_X k (some .int) o M') {M : ea_M} {p : Int32}   (s2 : p_X7_isPage p → vp_in p 3) (h3 : p_X7_isPage p → o = some (.int (0 : Int32)) ∧ M' = (ea_up M 70 p.toNatClampNeg (0 : Int32))) (h4 : ¬ p_X7_isPage p → o = some (.int (-2000000001 : Int32)) ∧ M' = M) : ea_E k 0 [(0, .ref 61), (1, .int p)] [] M := by
  refine e_iload_n (n := 1) C dX7_page_0 rfl rfl ?_
  refine e_callS1 (as := [.int p]) (rest := []) C lk_X7_237 (sp_X7_isPage (M := M) (i := p) ) (by decide) rfl rfl (Nat.le_of_ble_eq_true rfl) dX7_page_1 ?_
  refine e_ifb_ne (tgt := 10) C dX7_page_4 (by decide) (fun c1 => ?_) (fun c1 => ?_)
  · refine e_aload_n (n := 0) C dX7_page_10 rfl rfl ?_
    refine e_get (v := .ref 70) C fd_X7_35 (by decide) rfl rfl dX7_page_11 ?_
    refine e_iload_n (n := 1) C dX7_page_14 rfl rfl ?_
    refine e_iconst (v := 0) C dX7_page_15 (by decide) ?_
    refine e_iast (n := 3) C (by decide) rfl (by decide) (s2 c1) dX7_page_16 ?_
    refine e_iconst (v := 0) C dX7_page_17 (by decide) ?_
    exact e_iret C X rfl (vp_nar_int _) dX7_page_18 (h3 c1)
  · refine e_ldc C kc_X7_167 dX7_page_7 ?_
    exact e_iret C X rfl (vp_nar_int _) dX7_page_9 (h4 c1)
set_option maxRecDepth 100000 in
set_option maxHeartbeats 4000000 in
theorem km_drop {k : ea_K} {o : Option Value} {M' : ea_M} (C : ea_C k RX7 cX7_drop 3 2) (X : ea_X k (some .int) o M') {M : ea_M} {p : Int32}   (s2 : p_X7_isPage p → vp_in p 3) (s3 : p_X7_isPage p → vp_in p 3) (h5 : p_X7_isPage p → 0 ≤ (M 70 p.toNatClampNeg) → o = some (.int (M 70 p.toNatClampNeg)) ∧ M' = (ea_up M 70 p.toNatClampNeg (-1 : Int32))) (h6 : p_X7_isPage p → ¬ 0 ≤ (M 70 p.toNatClampNeg) → o = some (.int (-2000000011 : Int32)) ∧ M' = (ea_up M 70 p.toNatClampNeg (-1 : Int32))) (h7 : ¬ p_X7_isPage p → o = some (.int (-2000000001 : Int32)) ∧ M' = M) : ea_E k 0 [(0, .ref 61), (1, .int p)] [] M := by
  refine e_iload_n (n := 1) C dX7_drop_0 rfl rfl ?_
  refine e_callS1 (as := [.int p]) (rest := []) C lk_X7_237 (sp_X7_isPage (M := M) (i := p) ) (by decide) rfl rfl (Nat.le_of_ble_eq_true rfl) dX7_drop_1 ?_
  refine e_ifb_ne (tgt := 10) C dX7_drop_4 (by decide) (fun c1 => ?_) (fun c1 => ?_)
  · refine e_aload_n (n := 0) C dX7_drop_10 rfl rfl ?_
    refine e_get (v := .ref 70) C fd_X7_35 (by decide) rfl rfl dX7_drop_11 ?_
    refine e_iload_n (n := 1) C dX7_drop_14 rfl rfl ?_
    refine e_iald (n := 3) C (by decide) rfl (by decide) (s2 c1) dX7_drop_15 ?_
    refine e_istore_n C dX7_drop_16 rfl (by decide) rfl ?_
    refine e_aload_n (n := 1) C dX7_drop_17 rfl rfl ?_
    refine e_get (v := .ref 70) C fd_X7_35 (by decide) rfl rfl dX7_drop_18 ?_
    refine e_iload_n (n := 2) C dX7_drop_21 rfl rfl ?_
    refine e_iconst (v := -1) C dX7_drop_22 (by decide) ?_
    refine e_iast (n := 3) C (by decide) rfl (by decide) (s3 c1) dX7_drop_23 ?_
    refine e_iload_n (n := 0) C dX7_drop_24 rfl rfl ?_
    refine e_if_ge (tgt := 33) C dX7_drop_25 (by decide) (fun c4 => ?_) (fun c4 => ?_)
    · refine e_iload_n (n := 0) C dX7_drop_33 rfl rfl ?_
      exact e_iret C X rfl (vp_nar_int _) dX7_drop_34 (h5 c1 c4)
    · refine e_ldc C kc_X7_246 dX7_drop_28 ?_
      refine e_goto (tgt := 34) C dX7_drop_30 (by decide) ?_
      exact e_iret C X rfl (vp_nar_int _) dX7_drop_34 (h6 c1 c4)
  · refine e_ldc C kc_X7_167 dX7_drop_7 ?_
    exact e_iret C X rfl (vp_nar_int _) dX7_drop_9 (h7 c1)
set_option maxRecDepth 100000 in
set_option maxHeartbeats 4000000 in
theorem km_get {k : ea_K} {o : Option Value} {M' : ea_M} (C : ea_C k RX7 cX7_get 5 2) (X : ea_X k (some .int) o M') {M : ea_M} {p a b : Int32} {r1 : Int32}   (s3 : p_X7_isPage p → p_X7_isKey a b → vp_in p 3) (q5 : p_X7_isPage p → p_X7_isKey a b → 0 ≤ (M 70 p.toNatClampNeg) → ea_Sp 0 yX7_placeOf cX7_placeOf 5 (some .int) [.ref 61, .int p, .int a, .int b] M (some (.int r1)) M) (s7 : p_X7_isPage p → p_X7_isKey a b → 0 ≤ (M 70 p.toNatClampNeg) → ¬ r1 = (-1 : Int32) → vp_in r1 24) (h8 : p_X7_isPage p → p_X7_isKey a b → 0 ≤ (M 70 p.toNatClampNeg) → ¬ r1 = (-1 : Int32) → o = some (.int (M 73 r1.toNatClampNeg)) ∧ M' = M) (h9 : p_X7_isPage p → p_X7_isKey a b → 0 ≤ (M 70 p.toNatClampNeg) → r1 = (-1 : Int32) → o = some (.int (-2000000012 : Int32)) ∧ M' = M) (h10 : p_X7_isPage p → p_X7_isKey a b → ¬ 0 ≤ (M 70 p.toNatClampNeg) → o = some (.int (-2000000011 : Int32)) ∧ M' = M) (h11 : p_X7_isPage p → ¬ p_X7_isKey a b → o = some (.int (-2000000002 : Int32)) ∧ M' = M) (h12 : ¬ p_X7_isPage p → o = some (.int (-2000000001 : Int32)) ∧ M' = M) : ea_E k 0 [(0, .ref 61), (1, .int p), (2, .int a), (3, .int b)] [] M := by
  refine e_iload_n (n := 1) C dX7_get_0 rfl rfl ?_
  refine e_callS1 (as := [.int p]) (rest := []) C lk_X7_237 (sp_X7_isPage (M := M) (i := p) ) (by decide) rfl rfl (Nat.le_of_ble_eq_true rfl) dX7_get_1 ?_
  refine e_ifb_ne (tgt := 10) C dX7_get_4 (by decide) (fun c1 => ?_) (fun c1 => ?_)
  · refine e_iload_n (n := 2) C dX7_get_10 rfl rfl ?_
    refine e_iload_n (n := 3) C dX7_get_11 rfl rfl ?_
    refine e_callS1 (as := [.int a, .int b]) (rest := []) C lk_X7_240 (sp_X7_isKey (M := M) (i := a) (j := b) ) (by decide) rfl rfl (Nat.le_of_ble_eq_true rfl) dX7_get_12 ?_
    refine e_ifb_ne (tgt := 21) C dX7_get_15 (by decide) (fun c2 => ?_) (fun c2 => ?_)
    · refine e_aload_n (n := 0) C dX7_get_21 rfl rfl ?_
      refine e_get (v := .ref 70) C fd_X7_35 (by decide) rfl rfl dX7_get_22 ?_
      refine e_iload_n (n := 1) C dX7_get_25 rfl rfl ?_
      refine e_iald (n := 3) C (by decide) rfl (by decide) (s3 c1 c2) dX7_get_26 ?_
      refine e_if_ge (tgt := 33) C dX7_get_27 (by decide) (fun c4 => ?_) (fun c4 => ?_)
      · refine e_aload_n (n := 0) C dX7_get_33 rfl rfl ?_
        refine e_iload_n (n := 1) C dX7_get_34 rfl rfl ?_
        refine e_iload_n (n := 2) C dX7_get_35 rfl rfl ?_
        refine e_iload_n (n := 3) C dX7_get_36 rfl rfl ?_
        refine e_callV1 (as := [.int p, .int a, .int b]) (rest := []) C lk_X7_247 (q5 c1 c2 c4) (by decide) rfl (by decide) rfl (by decide) rfl rfl (Nat.le_of_ble_eq_true rfl) dX7_get_37 ?_
        refine e_istore C dX7_get_40 (by decide) rfl ?_
        refine e_iload (n := 0) C dX7_get_42 rfl ?_
        refine e_iconst (v := -1) C dX7_get_44 (by decide) ?_
        refine e_icmp_ne (tgt := 53) C dX7_get_45 (by decide) (fun c6 => ?_) (fun c6 => ?_)
        · refine e_aload_n (n := 1) C dX7_get_53 rfl rfl ?_
          refine e_get (v := .ref 73) C fd_X7_44 (by decide) rfl rfl dX7_get_54 ?_
          refine e_iload (n := 0) C dX7_get_57 rfl ?_
          refine e_iald (n := 24) C (by decide) rfl (by decide) (s7 c1 c2 c4 c6) dX7_get_59 ?_
          exact e_iret C X rfl (vp_nar_int _) dX7_get_60 (h8 c1 c2 c4 c6)
        · refine e_ldc C kc_X7_252 dX7_get_48 ?_
          refine e_goto (tgt := 60) C dX7_get_50 (by decide) ?_
          exact e_iret C X rfl (vp_nar_int _) dX7_get_60 (h9 c1 c2 c4 c6)
      · refine e_ldc C kc_X7_246 dX7_get_30 ?_
        exact e_iret C X rfl (vp_nar_int _) dX7_get_32 (h10 c1 c2 c4)
    · refine e_ldc C kc_X7_68 dX7_get_18 ?_
      exact e_iret C X rfl (vp_nar_int _) dX7_get_20 (h11 c1 c2)
  · refine e_ldc C kc_X7_167 dX7_get_7 ?_
    exact e_iret C X rfl (vp_nar_int _) dX7_get_9 (h12 c1)
set_option maxRecDepth 100000 in
set_option maxHeartbeats 4000000 in
theorem km_count {k : ea_K} {o : Option Value} {M' : ea_M} (C : ea_C k RX7 cX7_count 2 3) (X : ea_X k (some .int) o M') {M : ea_M} {w : Int32} {r1 r2 r3 r4 r5 r6 : Int32}   (h2 : w = 0 → o = some (.int (M 61 1)) ∧ M' = M) (h4 : ¬ w = 0 → w = 1 → o = some (.int (M 61 6)) ∧ M' = M) (h7 : ¬ w = 0 → ¬ w = 1 → w = 2 → o = some (.int (M 62 10)) ∧ M' = M) (h10 : ¬ w = 0 → ¬ w = 1 → ¬ w = 2 → w = 3 → o = some (.int (M 62 11)) ∧ M' = M) (h13 : ¬ w = 0 → ¬ w = 1 → ¬ w = 2 → ¬ w = 3 → w = 4 → o = some (.int (M 62 12)) ∧ M' = M) (q15 : ¬ w = 0 → ¬ w = 1 → ¬ w = 2 → ¬ w = 3 → ¬ w = 4 → w = 5 → ea_Sp 2 yX7_safe cX7_safe 3 (some .int) [.ref 61] M (some (.int r1)) M) (h16 : ¬ w = 0 → ¬ w = 1 → ¬ w = 2 → ¬ w = 3 → ¬ w = 4 → w = 5 → o = some (.int r1) ∧ M' = M) (q18 : ¬ w = 0 → ¬ w = 1 → ¬ w = 2 → ¬ w = 3 → ¬ w = 4 → ¬ w = 5 → w = 6 → ea_Sp 0 yX7_allHeat cX7_allHeat 3 (some .int) [.ref 61] M (some (.int r2)) M) (h19 : ¬ w = 0 → ¬ w = 1 → ¬ w = 2 → ¬ w = 3 → ¬ w = 4 → ¬ w = 5 → w = 6 → o = some (.int r2) ∧ M' = M) (h22 : ¬ w = 0 → ¬ w = 1 → ¬ w = 2 → ¬ w = 3 → ¬ w = 4 → ¬ w = 5 → ¬ w = 6 → w = 7 → o = some (.int (M 62 13)) ∧ M' = M) (h25 : ¬ w = 0 → ¬ w = 1 → ¬ w = 2 → ¬ w = 3 → ¬ w = 4 → ¬ w = 5 → ¬ w = 6 → ¬ w = 7 → w = 8 → o = some (.int (M 62 14)) ∧ M' = M) (q27 : ¬ w = 0 → ¬ w = 1 → ¬ w = 2 → ¬ w = 3 → ¬ w = 4 → ¬ w = 5 → ¬ w = 6 → ¬ w = 7 → ¬ w = 8 → w = 9 → ea_Sp 1 yX7_extreme cX7_extreme 6 (some .int) [.ref 61, .int (1 : Int32)] M (some (.int r3)) M) (h28 : ¬ w = 0 → ¬ w = 1 → ¬ w = 2 → ¬ w = 3 → ¬ w = 4 → ¬ w = 5 → ¬ w = 6 → ¬ w = 7 → ¬ w = 8 → w = 9 → o = some (.int r3) ∧ M' = M) (q30 : ¬ w = 0 → ¬ w = 1 → ¬ w = 2 → ¬ w = 3 → ¬ w = 4 → ¬ w = 5 → ¬ w = 6 → ¬ w = 7 → ¬ w = 8 → ¬ w = 9 → w = 10 → ea_Sp 1 yX7_extreme cX7_extreme 6 (some .int) [.ref 61, .int (0 : Int32)] M (some (.int r4)) M) (h31 : ¬ w = 0 → ¬ w = 1 → ¬ w = 2 → ¬ w = 3 → ¬ w = 4 → ¬ w = 5 → ¬ w = 6 → ¬ w = 7 → ¬ w = 8 → ¬ w = 9 → w = 10 → o = some (.int r4) ∧ M' = M) (q33 : ¬ w = 0 → ¬ w = 1 → ¬ w = 2 → ¬ w = 3 → ¬ w = 4 → ¬ w = 5 → ¬ w = 6 → ¬ w = 7 → ¬ w = 8 → ¬ w = 9 → ¬ w = 10 → w = 11 → ea_Sp 0 yX7_alike cX7_alike 4 (some .int) [.ref 61] M (some (.int r5)) M) (h34 : ¬ w = 0 → ¬ w = 1 → ¬ w = 2 → ¬ w = 3 → ¬ w = 4 → ¬ w = 5 → ¬ w = 6 → ¬ w = 7 → ¬ w = 8 → ¬ w = 9 → ¬ w = 10 → w = 11 → o = some (.int r5) ∧ M' = M) (h37 : ¬ w = 0 → ¬ w = 1 → ¬ w = 2 → ¬ w = 3 → ¬ w = 4 → ¬ w = 5 → ¬ w = 6 → ¬ w = 7 → ¬ w = 8 → ¬ w = 9 → ¬ w = 10 → ¬ w = 11 → w = 12 → o = some (.int (M 62 15)) ∧ M' = M) (q39 : ¬ w = 0 → ¬ w = 1 → ¬ w = 2 → ¬ w = 3 → ¬ w = 4 → ¬ w = 5 → ¬ w = 6 → ¬ w = 7 → ¬ w = 8 → ¬ w = 9 → ¬ w = 10 → ¬ w = 11 → ¬ w = 12 → w = 13 → ea_Sp 0 yX7_allKeys cX7_allKeys 3 (some .int) [.ref 61] M (some (.int r6)) M) (h40 : ¬ w = 0 → ¬ w = 1 → ¬ w = 2 → ¬ w = 3 → ¬ w = 4 → ¬ w = 5 → ¬ w = 6 → ¬ w = 7 → ¬ w = 8 → ¬ w = 9 → ¬ w = 10 → ¬ w = 11 → ¬ w = 12 → w = 13 → o = some (.int r6) ∧ M' = M) (h42 : ¬ w = 0 → ¬ w = 1 → ¬ w = 2 → ¬ w = 3 → ¬ w = 4 → ¬ w = 5 → ¬ w = 6 → ¬ w = 7 → ¬ w = 8 → ¬ w = 9 → ¬ w = 10 → ¬ w = 11 → ¬ w = 12 → ¬ w = 13 → w = 14 → o = some (.int (M 61 8)) ∧ M' = M) (h44 : ¬ w = 0 → ¬ w = 1 → ¬ w = 2 → ¬ w = 3 → ¬ w = 4 → ¬ w = 5 → ¬ w = 6 → ¬ w = 7 → ¬ w = 8 → ¬ w = 9 → ¬ w = 10 → ¬ w = 11 → ¬ w = 12 → ¬ w = 13 → ¬ w = 14 → w = 15 → o = some (.int (M 61 11)) ∧ M' = M) (h45 : ¬ w = 0 → ¬ w = 1 → ¬ w = 2 → ¬ w = 3 → ¬ w = 4 → ¬ w = 5 → ¬ w = 6 → ¬ w = 7 → ¬ w = 8 → ¬ w = 9 → ¬ w = 10 → ¬ w = 11 → ¬ w = 12 → ¬ w = 13 → ¬ w = 14 → ¬ w = 15 → o = some (.int (-2000000002 : Int32)) ∧ M' = M) : ea_E k 0 [(0, .ref 61), (1, .int w)] [] M := by
  refine e_iload_n (n := 1) C dX7_count_0 rfl rfl ?_
  by_cases c1 : w = 0
  · refine e_tabIn (tgt := 80) (off := 79) C dX7_count_1 (by rw [c1]; decide) (by rw [c1]; decide) (by rw [c1]; decide) (by decide) ?_
    refine e_aload_n (n := 0) C dX7_count_80 rfl rfl ?_
    refine e_get (v := .int (M 61 1)) C fd_X7_123 (by decide) rfl rfl dX7_count_81 ?_
    exact e_iret C X rfl (vp_nar_int _) dX7_count_84 (h2 c1)
  by_cases c3 : w = 1
  · refine e_tabIn (tgt := 85) (off := 84) C dX7_count_1 (by rw [c3]; decide) (by rw [c3]; decide) (by rw [c3]; decide) (by decide) ?_
    refine e_aload_n (n := 0) C dX7_count_85 rfl rfl ?_
    refine e_get (v := .int (M 61 6)) C fd_X7_126 (by decide) rfl rfl dX7_count_86 ?_
    exact e_iret C X rfl (vp_nar_int _) dX7_count_89 (h4 c1 c3)
  by_cases c5 : w = 2
  · refine e_tabIn (tgt := 90) (off := 89) C dX7_count_1 (by rw [c5]; decide) (by rw [c5]; decide) (by rw [c5]; decide) (by decide) ?_
    refine e_aload_n (n := 0) C dX7_count_90 rfl rfl ?_
    refine e_get (v := .ref 62) C fd_X7_7 (by decide) rfl rfl dX7_count_91 ?_
    refine e_bipush (v := 10) C dX7_count_94 (by decide) ?_
    refine e_iald (n := 192) C (by decide) rfl (by decide) (vp_in_nI (n := 10) (N := 192) (by decide) (by decide)) dX7_count_96 ?_
    exact e_iret C X rfl (vp_nar_int _) dX7_count_97 (h7 c1 c3 c5)
  by_cases c8 : w = 3
  · refine e_tabIn (tgt := 98) (off := 97) C dX7_count_1 (by rw [c8]; decide) (by rw [c8]; decide) (by rw [c8]; decide) (by decide) ?_
    refine e_aload_n (n := 0) C dX7_count_98 rfl rfl ?_
    refine e_get (v := .ref 62) C fd_X7_7 (by decide) rfl rfl dX7_count_99 ?_
    refine e_bipush (v := 11) C dX7_count_102 (by decide) ?_
    refine e_iald (n := 192) C (by decide) rfl (by decide) (vp_in_nI (n := 11) (N := 192) (by decide) (by decide)) dX7_count_104 ?_
    exact e_iret C X rfl (vp_nar_int _) dX7_count_105 (h10 c1 c3 c5 c8)
  by_cases c11 : w = 4
  · refine e_tabIn (tgt := 106) (off := 105) C dX7_count_1 (by rw [c11]; decide) (by rw [c11]; decide) (by rw [c11]; decide) (by decide) ?_
    refine e_aload_n (n := 0) C dX7_count_106 rfl rfl ?_
    refine e_get (v := .ref 62) C fd_X7_7 (by decide) rfl rfl dX7_count_107 ?_
    refine e_bipush (v := 12) C dX7_count_110 (by decide) ?_
    refine e_iald (n := 192) C (by decide) rfl (by decide) (vp_in_nI (n := 12) (N := 192) (by decide) (by decide)) dX7_count_112 ?_
    exact e_iret C X rfl (vp_nar_int _) dX7_count_113 (h13 c1 c3 c5 c8 c11)
  by_cases c14 : w = 5
  · refine e_tabIn (tgt := 114) (off := 113) C dX7_count_1 (by rw [c14]; decide) (by rw [c14]; decide) (by rw [c14]; decide) (by decide) ?_
    refine e_aload_n (n := 0) C dX7_count_114 rfl rfl ?_
    refine e_callV1 (as := []) (rest := []) C lk_X7_219 (q15 c1 c3 c5 c8 c11 c14) (by decide) rfl (by decide) rfl (by decide) rfl rfl (Nat.le_of_ble_eq_true rfl) dX7_count_115 ?_
    exact e_iret C X rfl (vp_nar_int _) dX7_count_118 (h16 c1 c3 c5 c8 c11 c14)
  by_cases c17 : w = 6
  · refine e_tabIn (tgt := 119) (off := 118) C dX7_count_1 (by rw [c17]; decide) (by rw [c17]; decide) (by rw [c17]; decide) (by decide) ?_
    refine e_aload_n (n := 0) C dX7_count_119 rfl rfl ?_
    refine e_callV1 (as := []) (rest := []) C lk_X7_222 (q18 c1 c3 c5 c8 c11 c14 c17) (by decide) rfl (by decide) rfl (by decide) rfl rfl (Nat.le_of_ble_eq_true rfl) dX7_count_120 ?_
    exact e_iret C X rfl (vp_nar_int _) dX7_count_123 (h19 c1 c3 c5 c8 c11 c14 c17)
  by_cases c20 : w = 7
  · refine e_tabIn (tgt := 124) (off := 123) C dX7_count_1 (by rw [c20]; decide) (by rw [c20]; decide) (by rw [c20]; decide) (by decide) ?_
    refine e_aload_n (n := 0) C dX7_count_124 rfl rfl ?_
    refine e_get (v := .ref 62) C fd_X7_7 (by decide) rfl rfl dX7_count_125 ?_
    refine e_bipush (v := 13) C dX7_count_128 (by decide) ?_
    refine e_iald (n := 192) C (by decide) rfl (by decide) (vp_in_nI (n := 13) (N := 192) (by decide) (by decide)) dX7_count_130 ?_
    exact e_iret C X rfl (vp_nar_int _) dX7_count_131 (h22 c1 c3 c5 c8 c11 c14 c17 c20)
  by_cases c23 : w = 8
  · refine e_tabIn (tgt := 132) (off := 131) C dX7_count_1 (by rw [c23]; decide) (by rw [c23]; decide) (by rw [c23]; decide) (by decide) ?_
    refine e_aload_n (n := 0) C dX7_count_132 rfl rfl ?_
    refine e_get (v := .ref 62) C fd_X7_7 (by decide) rfl rfl dX7_count_133 ?_
    refine e_bipush (v := 14) C dX7_count_136 (by decide) ?_
    refine e_iald (n := 192) C (by decide) rfl (by decide) (vp_in_nI (n := 14) (N := 192) (by decide) (by decide)) dX7_count_138 ?_
    exact e_iret C X rfl (vp_nar_int _) dX7_count_139 (h25 c1 c3 c5 c8 c11 c14 c17 c20 c23)
  by_cases c26 : w = 9
  · refine e_tabIn (tgt := 140) (off := 139) C dX7_count_1 (by rw [c26]; decide) (by rw [c26]; decide) (by rw [c26]; decide) (by decide) ?_
    refine e_aload_n (n := 0) C dX7_count_140 rfl rfl ?_
    refine e_iconst (v := 1) C dX7_count_141 (by decide) ?_
    refine e_callV1 (as := [.int (1 : Int32)]) (rest := []) C lk_X7_256 (q27 c1 c3 c5 c8 c11 c14 c17 c20 c23 c26) (by decide) rfl (by decide) rfl (by decide) rfl rfl (Nat.le_of_ble_eq_true rfl) dX7_count_142 ?_
    exact e_iret C X rfl (vp_nar_int _) dX7_count_145 (h28 c1 c3 c5 c8 c11 c14 c17 c20 c23 c26)
  by_cases c29 : w = 10
  · refine e_tabIn (tgt := 146) (off := 145) C dX7_count_1 (by rw [c29]; decide) (by rw [c29]; decide) (by rw [c29]; decide) (by decide) ?_
    refine e_aload_n (n := 0) C dX7_count_146 rfl rfl ?_
    refine e_iconst (v := 0) C dX7_count_147 (by decide) ?_
    refine e_callV1 (as := [.int (0 : Int32)]) (rest := []) C lk_X7_256 (q30 c1 c3 c5 c8 c11 c14 c17 c20 c23 c26 c29) (by decide) rfl (by decide) rfl (by decide) rfl rfl (Nat.le_of_ble_eq_true rfl) dX7_count_148 ?_
    exact e_iret C X rfl (vp_nar_int _) dX7_count_151 (h31 c1 c3 c5 c8 c11 c14 c17 c20 c23 c26 c29)
  by_cases c32 : w = 11
  · refine e_tabIn (tgt := 152) (off := 151) C dX7_count_1 (by rw [c32]; decide) (by rw [c32]; decide) (by rw [c32]; decide) (by decide) ?_
    refine e_aload_n (n := 0) C dX7_count_152 rfl rfl ?_
    refine e_callV1 (as := []) (rest := []) C lk_X7_260 (q33 c1 c3 c5 c8 c11 c14 c17 c20 c23 c26 c29 c32) (by decide) rfl (by decide) rfl (by decide) rfl rfl (Nat.le_of_ble_eq_true rfl) dX7_count_153 ?_
    exact e_iret C X rfl (vp_nar_int _) dX7_count_156 (h34 c1 c3 c5 c8 c11 c14 c17 c20 c23 c26 c29 c32)
  by_cases c35 : w = 12
  · refine e_tabIn (tgt := 157) (off := 156) C dX7_count_1 (by rw [c35]; decide) (by rw [c35]; decide) (by rw [c35]; decide) (by decide) ?_
    refine e_aload_n (n := 0) C dX7_count_157 rfl rfl ?_
    refine e_get (v := .ref 62) C fd_X7_7 (by decide) rfl rfl dX7_count_158 ?_
    refine e_bipush (v := 15) C dX7_count_161 (by decide) ?_
    refine e_iald (n := 192) C (by decide) rfl (by decide) (vp_in_nI (n := 15) (N := 192) (by decide) (by decide)) dX7_count_163 ?_
    exact e_iret C X rfl (vp_nar_int _) dX7_count_164 (h37 c1 c3 c5 c8 c11 c14 c17 c20 c23 c26 c29 c32 c35)
  by_cases c38 : w = 13
  · refine e_tabIn (tgt := 165) (off := 164) C dX7_count_1 (by rw [c38]; decide) (by rw [c38]; decide) (by rw [c38]; decide) (by decide) ?_
    refine e_aload_n (n := 0) C dX7_count_165 rfl rfl ?_
    refine e_callV1 (as := []) (rest := []) C lk_X7_263 (q39 c1 c3 c5 c8 c11 c14 c17 c20 c23 c26 c29 c32 c35 c38) (by decide) rfl (by decide) rfl (by decide) rfl rfl (Nat.le_of_ble_eq_true rfl) dX7_count_166 ?_
    exact e_iret C X rfl (vp_nar_int _) dX7_count_169 (h40 c1 c3 c5 c8 c11 c14 c17 c20 c23 c26 c29 c32 c35 c38)
  by_cases c41 : w = 14
  · refine e_tabIn (tgt := 170) (off := 169) C dX7_count_1 (by rw [c41]; decide) (by rw [c41]; decide) (by rw [c41]; decide) (by decide) ?_
    refine e_aload_n (n := 0) C dX7_count_170 rfl rfl ?_
    refine e_get (v := .int (M 61 8)) C fd_X7_157 (by decide) rfl rfl dX7_count_171 ?_
    exact e_iret C X rfl (vp_nar_int _) dX7_count_174 (h42 c1 c3 c5 c8 c11 c14 c17 c20 c23 c26 c29 c32 c35 c38 c41)
  by_cases c43 : w = 15
  · refine e_tabIn (tgt := 175) (off := 174) C dX7_count_1 (by rw [c43]; decide) (by rw [c43]; decide) (by rw [c43]; decide) (by decide) ?_
    refine e_aload_n (n := 0) C dX7_count_175 rfl rfl ?_
    refine e_get (v := .int (M 61 11)) C fd_X7_69 (by decide) rfl rfl dX7_count_176 ?_
    exact e_iret C X rfl (vp_nar_int _) dX7_count_179 (h44 c1 c3 c5 c8 c11 c14 c17 c20 c23 c26 c29 c32 c35 c38 c41 c43)
  refine e_tabOut (tgt := 180) C dX7_count_1 (ea_tab15 c1 c3 c5 c8 c11 c14 c17 c20 c23 c26 c29 c32 c35 c38 c41 c43) (by decide) ?_
  refine e_ldc C kc_X7_68 dX7_count_180 ?_
  exact e_iret C X rfl (vp_nar_int _) dX7_count_182 (h45 c1 c3 c5 c8 c11 c14 c17 c20 c23 c26 c29 c32 c35 c38 c41 c43)
