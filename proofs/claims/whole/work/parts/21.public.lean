set_option maxRecDepth 100000 in
set_option maxHeartbeats 4000000 in
theorem kb_X6_write {k : ea_K} {o : Option Value} {M' : ea_M} (C : ea_C k RX6 cX6_write 2 2) (X : ea_X k (some .int) o M') {M : ea_M} {c : Int32} {M1 : ea_M}   (h2 : c < 0 → o = some (.int (-2000000002 : Int32)) ∧ M' = M) (q5 : ¬ c < 0 → c ≤ (255 : Int32) → (M 2 1) < (200 : Int32) → ea_Sp 1 yX3_add cX3_add 2 none [.ref 2, .int c] M none M1) (h6 : ¬ c < 0 → c ≤ (255 : Int32) → (M 2 1) < (200 : Int32) → o = some (.int (M1 2 1)) ∧ M' = M1) (h7 : ¬ c < 0 → c ≤ (255 : Int32) → ¬ (M 2 1) < (200 : Int32) → o = some (.int (-2000000004 : Int32)) ∧ M' = M) (h8 : ¬ c < 0 → ¬ c ≤ (255 : Int32) → o = some (.int (-2000000002 : Int32)) ∧ M' = M) : ea_E k 0 [(0, .ref 0), (1, .int c)] [] M := by
  refine e_iload_n (n := 1) C dX6_write_0 rfl rfl ?_
  refine e_if_lt (tgt := 11) C dX6_write_1 (by decide) (fun c1 => ?_) (fun c1 => ?_)
  · refine e_ldc C kc_X6_44 dX6_write_11 ?_
    exact e_iret C X rfl (vp_nar_int _) dX6_write_13 (h2 c1)
  · refine e_iload_n (n := 1) C dX6_write_4 rfl rfl ?_
    refine e_sipush (v := 255) C dX6_write_5 (by decide) ?_
    refine e_icmp_le (tgt := 14) C dX6_write_8 (by decide) (fun c3 => ?_) (fun c3 => ?_)
    · refine e_aload_n (n := 0) C dX6_write_14 rfl rfl ?_
      refine e_get (v := .ref 1) C fd_X6_10 (by decide) rfl rfl dX6_write_15 ?_
      refine e_get (v := .ref 2) C fd_X6_45 (by decide) rfl rfl dX6_write_18 ?_
      refine e_get (v := .int (M 2 1)) C fd_X6_49 (by decide) rfl rfl dX6_write_21 ?_
      refine e_sipush (v := 200) C dX6_write_24 (by decide) ?_
      refine e_icmp_lt (tgt := 33) C dX6_write_27 (by decide) (fun c4 => ?_) (fun c4 => ?_)
      · refine e_aload_n (n := 0) C dX6_write_33 rfl rfl ?_
        refine e_get (v := .ref 1) C fd_X6_10 (by decide) rfl rfl dX6_write_34 ?_
        refine e_get (v := .ref 2) C fd_X6_45 (by decide) rfl rfl dX6_write_37 ?_
        refine e_iload_n (n := 1) C dX6_write_40 rfl rfl ?_
        refine e_callV0 (as := [.int c]) (rest := []) C lk_X6_56 (q5 c1 c3 c4) (by decide) rfl (by decide) rfl (by decide) rfl rfl (Nat.le_of_ble_eq_true rfl) dX6_write_41 ?_
        refine e_aload_n (n := 0) C dX6_write_44 rfl rfl ?_
        refine e_get (v := .ref 1) C fd_X6_10 (by decide) rfl rfl dX6_write_45 ?_
        refine e_get (v := .ref 2) C fd_X6_45 (by decide) rfl rfl dX6_write_48 ?_
        refine e_get (v := .int (M1 2 1)) C fd_X6_49 (by decide) rfl rfl dX6_write_51 ?_
        exact e_iret C X rfl (vp_nar_int _) dX6_write_54 (h6 c1 c3 c4)
      · refine e_ldc C kc_X6_55 dX6_write_30 ?_
        exact e_iret C X rfl (vp_nar_int _) dX6_write_32 (h7 c1 c3 c4)
    · refine e_ldc C kc_X6_44 dX6_write_11 ?_
      exact e_iret C X rfl (vp_nar_int _) dX6_write_13 (h8 c1 c3)
def f_X6_erase (M : ea_M) : Int32 := (M 2 1)
def g_X6_erase (M : ea_M) : ea_M := (ea_up M 2 1 (0 : Int32))
set_option maxRecDepth 100000 in
set_option maxHeartbeats 4000000 in
theorem sp_X6_erase {M : ea_M}    : ea_Sp 0 yX6_erase cX6_erase 2 (some .int) [.ref 0] M (some (.int (f_X6_erase M))) (g_X6_erase M) := by
  refine ea_intro (own := RX6) (by decide +kernel) rfl (fun g => Nat.le_of_ble_eq_true rfl) (fun k C X => ?_)
  obtain ⟨o, ho⟩ : ∃ z : Option Value, z = (some (.int (f_X6_erase M))) := ⟨_, rfl⟩
  obtain ⟨M', hM'⟩ : ∃ z : ea_M, z = (g_X6_erase M) := ⟨_, rfl⟩
  rw [← ho, ← hM'] at X
  have h1 : o = some (.int (M 2 1)) ∧ M' = (ea_up M 2 1 (0 : Int32)) := by
    subst ho hM'
    exact ⟨by simp only [f_X6_erase], by simp only [g_X6_erase]⟩
  refine e_aload_n (n := 0) C dX6_erase_0 rfl rfl ?_
  refine e_get (v := .ref 1) C fd_X6_10 (by decide) rfl rfl dX6_erase_1 ?_
  refine e_get (v := .ref 2) C fd_X6_45 (by decide) rfl rfl dX6_erase_4 ?_
  refine e_get (v := .int (M 2 1)) C fd_X6_49 (by decide) rfl rfl dX6_erase_7 ?_
  refine e_istore_n C dX6_erase_10 rfl (by decide) rfl ?_
  refine e_aload_n (n := 1) C dX6_erase_11 rfl rfl ?_
  refine e_get (v := .ref 1) C fd_X6_10 (by decide) rfl rfl dX6_erase_12 ?_
  refine e_get (v := .ref 2) C fd_X6_45 (by decide) rfl rfl dX6_erase_15 ?_
  refine e_iconst (v := 0) C dX6_erase_18 (by decide) ?_
  refine e_put (ty := .int) C fd_X6_49 (by decide) rfl rfl (by decide +kernel) (vp_nar_int _) rfl (ea_set3_1 _ _ _) dX6_erase_19 ?_
  refine e_iload_n (n := 0) C dX6_erase_22 rfl rfl ?_
  exact e_iret C X rfl (vp_nar_int _) dX6_erase_23 h1
theorem fr_X6_erase {M : ea_M} {zz : Nat} (e0 : zz ≠ 2) : g_X6_erase M zz = M zz := by
  simp only [g_X6_erase]
  repeat' split
  all_goals simp [ea_upR, ea_upS, ea_upK, pa_setR, pa_cpR, fr_X3_add, fr_X5_forget, fr_X5_become, fr_X4_clear, fr_X4_addStuff, fr_X4_become_d, fr_X4_become_s, fr_X0_enter, fr_X0_remove, e0]
set_option maxRecDepth 100000 in
set_option maxHeartbeats 4000000 in
theorem kb_X6_fault {k : ea_K} {o : Option Value} {M' : ea_M} (C : ea_C k RX6 cX6_fault 1 9) (X : ea_X k (some .int) o M') {M : ea_M} {M1 : ea_M} {r1 : Int32}   (q1 : ea_Sp 8 yX2_firstFault cX2_firstFault 2 (some .int) [.ref 1, .ref 13] M (some (.int r1)) M1) (h2 : o = some (.int r1) ∧ M' = M1) : ea_E k 0 [(0, .ref 0)] [] M := by
  refine e_aload_n (n := 0) C dX6_fault_0 rfl rfl ?_
  refine e_get (v := .ref 1) C fd_X6_10 (by decide) rfl rfl dX6_fault_1 ?_
  refine e_aload_n (n := 0) C dX6_fault_4 rfl rfl ?_
  refine e_get (v := .ref 13) C fd_X6_19 (by decide) rfl rfl dX6_fault_5 ?_
  refine e_callV1 (as := [.ref 13]) (rest := []) C lk_X6_60 q1 (by decide) rfl (by decide) rfl (by decide) rfl rfl (Nat.le_of_ble_eq_true rfl) dX6_fault_8 ?_
  exact e_iret C X rfl (vp_nar_int _) dX6_fault_11 h2
set_option maxRecDepth 100000 in
set_option maxHeartbeats 4000000 in
theorem kb_X6_find {k : ea_K} {o : Option Value} {M' : ea_M} (C : ea_C k RX6 cX6_find 1 3) (X : ea_X k (some .int) o M') {M : ea_M} {r1 : Int32}   (q1 : ea_Sp 2 yX4_stuffNamed cX4_stuffNamed 5 (some .int) [.ref 13, .ref 2, .int (0 : Int32), .int (M 2 1)] M (some (.int r1)) M) (h2 : o = some (.int r1) ∧ M' = M) : ea_E k 0 [(0, .ref 0)] [] M := by
  refine e_aload_n (n := 0) C dX6_find_0 rfl rfl ?_
  refine e_get (v := .ref 13) C fd_X6_19 (by decide) rfl rfl dX6_find_1 ?_
  refine e_aload_n (n := 0) C dX6_find_4 rfl rfl ?_
  refine e_get (v := .ref 1) C fd_X6_10 (by decide) rfl rfl dX6_find_5 ?_
  refine e_get (v := .ref 2) C fd_X6_45 (by decide) rfl rfl dX6_find_8 ?_
  refine e_iconst (v := 0) C dX6_find_11 (by decide) ?_
  refine e_aload_n (n := 0) C dX6_find_12 rfl rfl ?_
  refine e_get (v := .ref 1) C fd_X6_10 (by decide) rfl rfl dX6_find_13 ?_
  refine e_get (v := .ref 2) C fd_X6_45 (by decide) rfl rfl dX6_find_16 ?_
  refine e_get (v := .int (M 2 1)) C fd_X6_49 (by decide) rfl rfl dX6_find_19 ?_
  refine e_callV1 (as := [.ref 2, .int (0 : Int32), .int (M 2 1)]) (rest := []) C lk_X6_85 q1 (by decide) rfl (by decide) rfl (by decide) rfl rfl (Nat.le_of_ble_eq_true rfl) dX6_find_22 ?_
  exact e_iret C X rfl (vp_nar_int _) dX6_find_25 h2
set_option maxRecDepth 100000 in
set_option maxHeartbeats 4000000 in
theorem kb_X6_wall {k : ea_K} {o : Option Value} {M' : ea_M} (C : ea_C k RX6 cX6_wall 2 9) (X : ea_X k (some .int) o M') {M : ea_M} {M1 M2 : ea_M} {r1 : Int32}   (q1 : ea_Sp 8 yX2_firstFault cX2_firstFault 2 (some .int) [.ref 1, .ref 13] M (some (.int r1)) M1) (q3 : r1 = (-1 : Int32) → ea_Sp 1 yX1_forget cX1_forget 2 none [.ref 24] (g_X5_forget (g_X4_become_s M1) 20) none M2) (h4 : r1 = (-1 : Int32) → ea_E k 51 [(0, .ref 0), (1, .int (0 : Int32))] [] M2) (h5 : ¬ r1 = (-1 : Int32) → o = some (.int (-2000000003 : Int32)) ∧ M' = M1) : ea_E k 0 [(0, .ref 0)] [] M := by
  refine e_aload_n (n := 0) C dX6_wall_0 rfl rfl ?_
  refine e_get (v := .ref 1) C fd_X6_10 (by decide) rfl rfl dX6_wall_1 ?_
  refine e_aload_n (n := 0) C dX6_wall_4 rfl rfl ?_
  refine e_get (v := .ref 13) C fd_X6_19 (by decide) rfl rfl dX6_wall_5 ?_
  refine e_callV1 (as := [.ref 13]) (rest := []) C lk_X6_60 q1 (by decide) rfl (by decide) rfl (by decide) rfl rfl (Nat.le_of_ble_eq_true rfl) dX6_wall_8 ?_
  refine e_iconst (v := -1) C dX6_wall_11 (by decide) ?_
  refine e_icmp_eq (tgt := 18) C dX6_wall_12 (by decide) (fun c2 => ?_) (fun c2 => ?_)
  · refine e_aload_n (n := 0) C dX6_wall_18 rfl rfl ?_
    refine e_get (v := .ref 13) C fd_X6_19 (by decide) rfl rfl dX6_wall_19 ?_
    refine e_aload_n (n := 0) C dX6_wall_22 rfl rfl ?_
    refine e_get (v := .ref 1) C fd_X6_10 (by decide) rfl rfl dX6_wall_23 ?_
    refine e_get (v := .ref 4) C fd_X6_65 (by decide) rfl rfl dX6_wall_26 ?_
    refine e_callV0 (as := [.ref 4]) (rest := []) C lk_X6_68 (sp_X4_become_s (M := M1)  ) (by decide) rfl (by decide) rfl (by decide) rfl rfl (Nat.le_of_ble_eq_true rfl) dX6_wall_29 ?_
    refine e_aload_n (n := 0) C dX6_wall_32 rfl rfl ?_
    refine e_get (v := .ref 13) C fd_X6_19 (by decide) rfl rfl dX6_wall_33 ?_
    refine e_get (v := .ref 20) C fd_X6_72 (by decide) rfl rfl dX6_wall_36 ?_
    refine e_callV0 (as := []) (rest := []) C lk_X6_75 (sp_X5_forget (M := (g_X4_become_s M1)) (x := 20) rfl ) (by decide) rfl (by decide) rfl (by decide) rfl rfl (Nat.le_of_ble_eq_true rfl) dX6_wall_39 ?_
    refine e_aload_n (n := 0) C dX6_wall_42 rfl rfl ?_
    refine e_get (v := .ref 24) C fd_X6_33 (by decide) rfl rfl dX6_wall_43 ?_
    refine e_callV0 (as := []) (rest := []) C lk_X6_78 (q3 c2) (by decide) rfl (by decide) rfl (by decide) rfl rfl (Nat.le_of_ble_eq_true rfl) dX6_wall_46 ?_
    refine e_iconst (v := 0) C dX6_wall_49 (by decide) ?_
    refine e_istore_n C dX6_wall_50 rfl (by decide) rfl ?_
    refine e_perm C [1, 0] rfl ?_
    exact (h4 c2)
  · refine e_ldc C kc_X6_64 dX6_wall_15 ?_
    exact e_iret C X rfl (vp_nar_int _) dX6_wall_17 (h5 c2)
set_option maxRecDepth 100000 in
set_option maxHeartbeats 4000000 in
theorem kb_X6_wall_51 {k : ea_K} {o : Option Value} {M' : ea_M} (C : ea_C k RX6 cX6_wall 2 9) (X : ea_X k (some .int) o M') {M : ea_M} {i : Int32} {M1 : ea_M}   (h2 : (3 : Int32) ≤ i → o = some (.int (M 1 2)) ∧ M' = (ea_up M 2 1 (0 : Int32))) (q3 : ¬ (3 : Int32) ≤ i → ea_Sp 1 yX6_missPage cX6_missPage 3 none [.ref 0, .int i] M none M1) (h4 : ¬ (3 : Int32) ≤ i → ea_E k 51 [(0, .ref 0), (1, .int (i + 1))] [] M1) : ea_E k 51 [(0, .ref 0), (1, .int i)] [] M := by
  refine e_iload_n (n := 1) C dX6_wall_51 rfl rfl ?_
  refine e_iconst (v := 3) C dX6_wall_52 (by decide) ?_
  refine e_icmp_ge (tgt := 67) C dX6_wall_53 (by decide) (fun c1 => ?_) (fun c1 => ?_)
  · refine e_aload_n (n := 0) C dX6_wall_67 rfl rfl ?_
    refine e_get (v := .ref 1) C fd_X6_10 (by decide) rfl rfl dX6_wall_68 ?_
    refine e_get (v := .ref 2) C fd_X6_45 (by decide) rfl rfl dX6_wall_71 ?_
    refine e_iconst (v := 0) C dX6_wall_74 (by decide) ?_
    refine e_put (ty := .int) C fd_X6_49 (by decide) rfl rfl (by decide +kernel) (vp_nar_int _) rfl (ea_set3_1 _ _ _) dX6_wall_75 ?_
    refine e_aload_n (n := 0) C dX6_wall_78 rfl rfl ?_
    refine e_get (v := .ref 1) C fd_X6_10 (by decide) rfl rfl dX6_wall_79 ?_
    refine e_get (v := .int (M 1 2)) C fd_X6_82 (by decide) rfl (congrArg (fun z => some (Value.int z)) (by simp [ea_upR, ea_upS, ea_upK, pa_setR, pa_cpR, fr_X3_add, fr_X5_forget, fr_X5_become, fr_X4_clear, fr_X4_addStuff, fr_X4_become_d, fr_X4_become_s, fr_X0_enter, fr_X0_remove, fr_X6_erase] : (ea_up M 2 1 (0 : Int32)) 1 2 = (M 1 2))) dX6_wall_82 ?_
    exact e_iret C X rfl (vp_nar_int _) dX6_wall_85 (h2 c1)
  · refine e_aload_n (n := 0) C dX6_wall_56 rfl rfl ?_
    refine e_iload_n (n := 1) C dX6_wall_57 rfl rfl ?_
    refine e_callV0 (as := [.int i]) (rest := []) C lk_X6_79 (q3 c1) (by decide) rfl (by decide) rfl (by decide) rfl rfl (Nat.le_of_ble_eq_true rfl) dX6_wall_58 ?_
    refine e_iinc (n := 1) (v := (i + 1)) C dX6_wall_61 rfl rfl (by decide) rfl ?_
    refine e_goto (tgt := 51) C dX6_wall_64 (by decide) ?_
    refine e_perm C [1, 0] rfl ?_
    exact (h4 c1)
set_option maxRecDepth 100000 in
set_option maxHeartbeats 4000000 in
theorem kb_X6_stuff {k : ea_K} {o : Option Value} {M' : ea_M} (C : ea_C k RX6 cX6_stuff 3 2) (X : ea_X k (some .int) o M') {M : ea_M} {s w : Int32} {r1 : Int32}   (h3 : p_X4_isStuff M 13 s → w = 0 → o = some (.int (pa_at (M 16) 6 s)) ∧ M' = M) (h5 : p_X4_isStuff M 13 s → ¬ w = 0 → w = 1 → o = some (.int (pa_at (M 17) 6 s)) ∧ M' = M) (h7 : p_X4_isStuff M 13 s → ¬ w = 0 → ¬ w = 1 → w = 2 → o = some (.int (pa_at (M 15) 6 s)) ∧ M' = M) (q9 : p_X4_isStuff M 13 s → ¬ w = 0 → ¬ w = 1 → ¬ w = 2 → w = 3 → ea_Sp 1 yX4_cellsOf cX4_cellsOf 4 (some .int) [.ref 13, .int s] M (some (.int r1)) M) (h10 : p_X4_isStuff M 13 s → ¬ w = 0 → ¬ w = 1 → ¬ w = 2 → w = 3 → o = some (.int r1) ∧ M' = M) (h11 : p_X4_isStuff M 13 s → ¬ w = 0 → ¬ w = 1 → ¬ w = 2 → ¬ w = 3 → o = some (.int (-2000000002 : Int32)) ∧ M' = M) (h12 : ¬ p_X4_isStuff M 13 s → o = some (.int (-2000000001 : Int32)) ∧ M' = M) : ea_E k 0 [(0, .ref 0), (1, .int s), (2, .int w)] [] M := by
  refine e_aload_n (n := 0) C dX6_stuff_0 rfl rfl ?_
  refine e_get (v := .ref 13) C fd_X6_19 (by decide) rfl rfl dX6_stuff_1 ?_
  refine e_iload_n (n := 1) C dX6_stuff_4 rfl rfl ?_
  refine e_callV1 (as := [.int s]) (rest := []) C lk_X6_89 (sp_X4_isStuff (M := M) (x := 13) (i := s) rfl ) (by decide) rfl (by decide) rfl (by decide) rfl rfl (Nat.le_of_ble_eq_true rfl) dX6_stuff_5 ?_
  refine e_ifb_ne (tgt := 14) C dX6_stuff_8 (by decide) (fun c1 => ?_) (fun c1 => ?_)
  · refine e_iload_n (n := 2) C dX6_stuff_14 rfl rfl ?_
    by_cases c2 : w = 0
    · refine e_tabIn (tgt := 44) (off := 29) C dX6_stuff_15 (by rw [c2]; decide) (by rw [c2]; decide) (by rw [c2]; decide) (by decide) ?_
      refine e_aload_n (n := 0) C dX6_stuff_44 rfl rfl ?_
      refine e_get (v := .ref 13) C fd_X6_19 (by decide) rfl rfl dX6_stuff_45 ?_
      refine e_get (v := .ref 16) C fd_X6_94 (by decide) rfl rfl dX6_stuff_48 ?_
      refine e_iload_n (n := 1) C dX6_stuff_51 rfl rfl ?_
      refine e_callS1 (as := [.ref 16, .int s]) (rest := []) C lk_X6_98 (sp_X6_at M 16 6 s rfl (by decide) ) (by decide) rfl rfl (Nat.le_of_ble_eq_true rfl) dX6_stuff_52 ?_
      exact e_iret C X rfl (vp_nar_int _) dX6_stuff_55 (h3 c1 c2)
    by_cases c4 : w = 1
    · refine e_tabIn (tgt := 56) (off := 41) C dX6_stuff_15 (by rw [c4]; decide) (by rw [c4]; decide) (by rw [c4]; decide) (by decide) ?_
      refine e_aload_n (n := 0) C dX6_stuff_56 rfl rfl ?_
      refine e_get (v := .ref 13) C fd_X6_19 (by decide) rfl rfl dX6_stuff_57 ?_
      refine e_get (v := .ref 17) C fd_X6_102 (by decide) rfl rfl dX6_stuff_60 ?_
      refine e_iload_n (n := 1) C dX6_stuff_63 rfl rfl ?_
      refine e_callS1 (as := [.ref 17, .int s]) (rest := []) C lk_X6_98 (sp_X6_at M 17 6 s rfl (by decide) ) (by decide) rfl rfl (Nat.le_of_ble_eq_true rfl) dX6_stuff_64 ?_
      exact e_iret C X rfl (vp_nar_int _) dX6_stuff_67 (h5 c1 c2 c4)
    by_cases c6 : w = 2
    · refine e_tabIn (tgt := 68) (off := 53) C dX6_stuff_15 (by rw [c6]; decide) (by rw [c6]; decide) (by rw [c6]; decide) (by decide) ?_
      refine e_aload_n (n := 0) C dX6_stuff_68 rfl rfl ?_
      refine e_get (v := .ref 13) C fd_X6_19 (by decide) rfl rfl dX6_stuff_69 ?_
      refine e_get (v := .ref 15) C fd_X6_105 (by decide) rfl rfl dX6_stuff_72 ?_
      refine e_iload_n (n := 1) C dX6_stuff_75 rfl rfl ?_
      refine e_callS1 (as := [.ref 15, .int s]) (rest := []) C lk_X6_98 (sp_X6_at M 15 6 s rfl (by decide) ) (by decide) rfl rfl (Nat.le_of_ble_eq_true rfl) dX6_stuff_76 ?_
      exact e_iret C X rfl (vp_nar_int _) dX6_stuff_79 (h7 c1 c2 c4 c6)
    by_cases c8 : w = 3
    · refine e_tabIn (tgt := 80) (off := 65) C dX6_stuff_15 (by rw [c8]; decide) (by rw [c8]; decide) (by rw [c8]; decide) (by decide) ?_
      refine e_aload_n (n := 0) C dX6_stuff_80 rfl rfl ?_
      refine e_get (v := .ref 13) C fd_X6_19 (by decide) rfl rfl dX6_stuff_81 ?_
      refine e_iload_n (n := 1) C dX6_stuff_84 rfl rfl ?_
      refine e_callV1 (as := [.int s]) (rest := []) C lk_X6_108 (q9 c1 c2 c4 c6 c8) (by decide) rfl (by decide) rfl (by decide) rfl rfl (Nat.le_of_ble_eq_true rfl) dX6_stuff_85 ?_
      exact e_iret C X rfl (vp_nar_int _) dX6_stuff_88 (h10 c1 c2 c4 c6 c8)
    refine e_tabOut (tgt := 89) C dX6_stuff_15 (ea_tab3 c2 c4 c6 c8) (by decide) ?_
    refine e_ldc C kc_X6_44 dX6_stuff_89 ?_
    exact e_iret C X rfl (vp_nar_int _) dX6_stuff_91 (h11 c1 c2 c4 c6 c8)
  · refine e_ldc C kc_X6_93 dX6_stuff_11 ?_
    exact e_iret C X rfl (vp_nar_int _) dX6_stuff_13 (h12 c1)
set_option maxRecDepth 100000 in
set_option maxHeartbeats 4000000 in
theorem kb_X6_cell {k : ea_K} {o : Option Value} {M' : ea_M} (C : ea_C k RX6 cX6_cell 4 2) (X : ea_X k (some .int) o M') {M : ea_M} {c w : Int32} {r1 r2 : Int64}   (h3 : p_X4_isCell M 13 c → w = 0 → o = some (.int (pa_at (M 18) 10 c)) ∧ M' = M) (h5 : p_X4_isCell M 13 c → ¬ w = 0 → w = 1 → o = some (.int (pa_at (M 21) 10 c)) ∧ M' = M) (q7 : p_X4_isCell M 13 c → ¬ w = 0 → ¬ w = 1 → w = 2 → ea_Sp 1 yX6_lowest cX6_lowest 5 (some .long) [.long (((pa_at (M 21) 10 c)).toInt64), .long (((f_X4_holdsAt M 13 c)).toInt64), .int (0 : Int32)] M (some (.long r1)) M) (h8 : p_X4_isCell M 13 c → ¬ w = 0 → ¬ w = 1 → w = 2 → o = some (.int ((r1).toInt32)) ∧ M' = M) (q10 : p_X4_isCell M 13 c → ¬ w = 0 → ¬ w = 1 → ¬ w = 2 → w = 3 → ea_Sp 1 yX6_lowest cX6_lowest 5 (some .long) [.long (((pa_at (M 21) 10 c)).toInt64), .long (((f_X4_holdsAt M 13 c)).toInt64), .int (1 : Int32)] M (some (.long r2)) M) (h11 : p_X4_isCell M 13 c → ¬ w = 0 → ¬ w = 1 → ¬ w = 2 → w = 3 → o = some (.int ((r2).toInt32)) ∧ M' = M) (h12 : p_X4_isCell M 13 c → ¬ w = 0 → ¬ w = 1 → ¬ w = 2 → ¬ w = 3 → o = some (.int (-2000000002 : Int32)) ∧ M' = M) (h13 : ¬ p_X4_isCell M 13 c → o = some (.int (-2000000001 : Int32)) ∧ M' = M) : ea_E k 0 [(0, .ref 0), (1, .int c), (2, .int w)] [] M := by
  refine e_aload_n (n := 0) C dX6_cell_0 rfl rfl ?_
  refine e_get (v := .ref 13) C fd_X6_19 (by decide) rfl rfl dX6_cell_1 ?_
  refine e_iload_n (n := 1) C dX6_cell_4 rfl rfl ?_
  refine e_callV1 (as := [.int c]) (rest := []) C lk_X6_112 (sp_X4_isCell (M := M) (x := 13) (i := c) rfl ) (by decide) rfl (by decide) rfl (by decide) rfl rfl (Nat.le_of_ble_eq_true rfl) dX6_cell_5 ?_
  refine e_ifb_ne (tgt := 14) C dX6_cell_8 (by decide) (fun c1 => ?_) (fun c1 => ?_)
  · refine e_aload_n (n := 0) C dX6_cell_14 rfl rfl ?_
    refine e_get (v := .ref 13) C fd_X6_19 (by decide) rfl rfl dX6_cell_15 ?_
    refine e_get (v := .ref 20) C fd_X6_72 (by decide) rfl rfl dX6_cell_18 ?_
    refine e_get (v := .ref 21) C fd_X6_115 (by decide) rfl rfl dX6_cell_21 ?_
    refine e_iload_n (n := 1) C dX6_cell_24 rfl rfl ?_
    refine e_callS1 (as := [.ref 21, .int c]) (rest := []) C lk_X6_98 (sp_X6_at M 21 10 c rfl (by decide) ) (by decide) rfl rfl (Nat.le_of_ble_eq_true rfl) dX6_cell_25 ?_
    refine e_istore_n C dX6_cell_28 rfl (by decide) rfl ?_
    refine e_iload_n (n := 3) C dX6_cell_29 rfl rfl ?_
    by_cases c2 : w = 0
    · refine e_tabIn (tgt := 60) (off := 30) C dX6_cell_30 (by rw [c2]; decide) (by rw [c2]; decide) (by rw [c2]; decide) (by decide) ?_
      refine e_aload_n (n := 1) C dX6_cell_60 rfl rfl ?_
      refine e_get (v := .ref 13) C fd_X6_19 (by decide) rfl rfl dX6_cell_61 ?_
      refine e_get (v := .ref 18) C fd_X6_118 (by decide) rfl rfl dX6_cell_64 ?_
      refine e_iload_n (n := 2) C dX6_cell_67 rfl rfl ?_
      refine e_callS1 (as := [.ref 18, .int c]) (rest := []) C lk_X6_98 (sp_X6_at M 18 10 c rfl (by decide) ) (by decide) rfl rfl (Nat.le_of_ble_eq_true rfl) dX6_cell_68 ?_
      exact e_iret C X rfl (vp_nar_int _) dX6_cell_71 (h3 c1 c2)
    by_cases c4 : w = 1
    · refine e_tabIn (tgt := 72) (off := 42) C dX6_cell_30 (by rw [c4]; decide) (by rw [c4]; decide) (by rw [c4]; decide) (by decide) ?_
      refine e_iload_n (n := 0) C dX6_cell_72 rfl rfl ?_
      exact e_iret C X rfl (vp_nar_int _) dX6_cell_73 (h5 c1 c2 c4)
    by_cases c6 : w = 2
    · refine e_tabIn (tgt := 74) (off := 44) C dX6_cell_30 (by rw [c6]; decide) (by rw [c6]; decide) (by rw [c6]; decide) (by decide) ?_
      refine e_iload_n (n := 0) C dX6_cell_74 rfl rfl ?_
      refine e_i2l C dX6_cell_75 ?_
      refine e_aload_n (n := 1) C dX6_cell_76 rfl rfl ?_
      refine e_get (v := .ref 13) C fd_X6_19 (by decide) rfl rfl dX6_cell_77 ?_
      refine e_iload_n (n := 2) C dX6_cell_80 rfl rfl ?_
      refine e_callV1 (as := [.int c]) (rest := [.long (((pa_at (M 21) 10 c)).toInt64)]) C lk_X6_121 (sp_X4_holdsAt (M := M) (x := 13) (i := c) rfl ) (by decide) rfl (by decide) rfl (by decide) rfl rfl (Nat.le_of_ble_eq_true rfl) dX6_cell_81 ?_
      refine e_i2l C dX6_cell_84 ?_
      refine e_iconst (v := 0) C dX6_cell_85 (by decide) ?_
      refine e_callS1 (as := [.long (((pa_at (M 21) 10 c)).toInt64), .long (((f_X4_holdsAt M 13 c)).toInt64), .int (0 : Int32)]) (rest := []) C lk_X6_124 (q7 c1 c2 c4 c6) (by decide) rfl rfl (Nat.le_of_ble_eq_true rfl) dX6_cell_86 ?_
      refine e_l2i C dX6_cell_89 ?_
      exact e_iret C X rfl (vp_nar_int _) dX6_cell_90 (h8 c1 c2 c4 c6)
    by_cases c9 : w = 3
    · refine e_tabIn (tgt := 91) (off := 61) C dX6_cell_30 (by rw [c9]; decide) (by rw [c9]; decide) (by rw [c9]; decide) (by decide) ?_
      refine e_iload_n (n := 0) C dX6_cell_91 rfl rfl ?_
      refine e_i2l C dX6_cell_92 ?_
      refine e_aload_n (n := 1) C dX6_cell_93 rfl rfl ?_
      refine e_get (v := .ref 13) C fd_X6_19 (by decide) rfl rfl dX6_cell_94 ?_
      refine e_iload_n (n := 2) C dX6_cell_97 rfl rfl ?_
      refine e_callV1 (as := [.int c]) (rest := [.long (((pa_at (M 21) 10 c)).toInt64)]) C lk_X6_121 (sp_X4_holdsAt (M := M) (x := 13) (i := c) rfl ) (by decide) rfl (by decide) rfl (by decide) rfl rfl (Nat.le_of_ble_eq_true rfl) dX6_cell_98 ?_
      refine e_i2l C dX6_cell_101 ?_
      refine e_iconst (v := 1) C dX6_cell_102 (by decide) ?_
      refine e_callS1 (as := [.long (((pa_at (M 21) 10 c)).toInt64), .long (((f_X4_holdsAt M 13 c)).toInt64), .int (1 : Int32)]) (rest := []) C lk_X6_124 (q10 c1 c2 c4 c6 c9) (by decide) rfl rfl (Nat.le_of_ble_eq_true rfl) dX6_cell_103 ?_
      refine e_l2i C dX6_cell_106 ?_
      exact e_iret C X rfl (vp_nar_int _) dX6_cell_107 (h11 c1 c2 c4 c6 c9)
    refine e_tabOut (tgt := 108) C dX6_cell_30 (ea_tab3 c2 c4 c6 c9) (by decide) ?_
    refine e_ldc C kc_X6_44 dX6_cell_108 ?_
    exact e_iret C X rfl (vp_nar_int _) dX6_cell_110 (h12 c1 c2 c4 c6 c9)
  · refine e_ldc C kc_X6_93 dX6_cell_11 ?_
    exact e_iret C X rfl (vp_nar_int _) dX6_cell_13 (h13 c1)
set_option maxRecDepth 100000 in
set_option maxHeartbeats 4000000 in
theorem kb_X6_rest {k : ea_K} {o : Option Value} {M' : ea_M} (C : ea_C k RX6 cX6_rest 9 3) (X : ea_X k (some .long) o M') {M : ea_M} {c part : Int32} {r1 r2 r3 : Int64}   (q3 : p_X4_isCell M 13 c → p_X6_isPart part → ea_Sp 2 yX4_resistsRightOf cX4_resistsRightOf 5 (some .long) [.ref 13, .int c] M (some (.long r1)) M) (q4 : p_X4_isCell M 13 c → p_X6_isPart part → ea_Sp 2 yX4_resistsInAll cX4_resistsInAll 4 (some .long) [.ref 13] M (some (.long r2)) M) (q5 : p_X4_isCell M 13 c → p_X6_isPart part → ea_Sp 1 yX6_lowest cX6_lowest 5 (some .long) [.long (((((M 20 2)).toInt64) * (r2 - r1)) + ((((M 20 1)).toInt64) * r1)), .long r2, .int part] M (some (.long r3)) M) (h6 : p_X4_isCell M 13 c → p_X6_isPart part → o = some (.long r3) ∧ M' = M) (h7 : p_X4_isCell M 13 c → ¬ p_X6_isPart part → o = some (.long (-2000000002 : Int64)) ∧ M' = M) (h8 : ¬ p_X4_isCell M 13 c → o = some (.long (-2000000001 : Int64)) ∧ M' = M) : ea_E k 0 [(0, .ref 0), (1, .int c), (2, .int part)] [] M := by
  refine e_aload_n (n := 0) C dX6_rest_0 rfl rfl ?_
  refine e_get (v := .ref 13) C fd_X6_19 (by decide) rfl rfl dX6_rest_1 ?_
  refine e_iload_n (n := 1) C dX6_rest_4 rfl rfl ?_
  refine e_callV1 (as := [.int c]) (rest := []) C lk_X6_112 (sp_X4_isCell (M := M) (x := 13) (i := c) rfl ) (by decide) rfl (by decide) rfl (by decide) rfl rfl (Nat.le_of_ble_eq_true rfl) dX6_rest_5 ?_
  refine e_ifb_ne (tgt := 15) C dX6_rest_8 (by decide) (fun c1 => ?_) (fun c1 => ?_)
  · refine e_iload_n (n := 2) C dX6_rest_15 rfl rfl ?_
    refine e_callS1 (as := [.int part]) (rest := []) C lk_X6_130 (sp_X6_isPart (M := M) (i := part) ) (by decide) rfl rfl (Nat.le_of_ble_eq_true rfl) dX6_rest_16 ?_
    refine e_ifb_ne (tgt := 26) C dX6_rest_19 (by decide) (fun c2 => ?_) (fun c2 => ?_)
    · refine e_aload_n (n := 0) C dX6_rest_26 rfl rfl ?_
      refine e_get (v := .ref 13) C fd_X6_19 (by decide) rfl rfl dX6_rest_27 ?_
      refine e_iload_n (n := 1) C dX6_rest_30 rfl rfl ?_
      refine e_callV1 (as := [.int c]) (rest := []) C lk_X6_135 (q3 c1 c2) (by decide) rfl (by decide) rfl (by decide) rfl rfl (Nat.le_of_ble_eq_true rfl) dX6_rest_31 ?_
      refine e_lstore_n C dX6_rest_34 rfl (by decide) rfl ?_
      refine e_aload_n (n := 1) C dX6_rest_35 rfl rfl ?_
      refine e_get (v := .ref 13) C fd_X6_19 (by decide) rfl rfl dX6_rest_36 ?_
      refine e_callV1 (as := []) (rest := []) C lk_X6_139 (q4 c1 c2) (by decide) rfl (by decide) rfl (by decide) rfl rfl (Nat.le_of_ble_eq_true rfl) dX6_rest_39 ?_
      refine e_lstore C dX6_rest_42 (by decide) rfl ?_
      refine e_aload_n (n := 2) C dX6_rest_44 rfl rfl ?_
      refine e_get (v := .ref 13) C fd_X6_19 (by decide) rfl rfl dX6_rest_45 ?_
      refine e_get (v := .ref 20) C fd_X6_72 (by decide) rfl rfl dX6_rest_48 ?_
      refine e_get (v := .int (M 20 2)) C fd_X6_143 (by decide) rfl rfl dX6_rest_51 ?_
      refine e_i2l C dX6_rest_54 ?_
      refine e_lload (n := 0) C dX6_rest_55 rfl ?_
      refine e_lload_n (n := 1) C dX6_rest_57 rfl rfl ?_
      refine e_lsub C dX6_rest_58 ?_
      refine e_lmul C dX6_rest_59 ?_
      refine e_aload_n (n := 2) C dX6_rest_60 rfl rfl ?_
      refine e_get (v := .ref 13) C fd_X6_19 (by decide) rfl rfl dX6_rest_61 ?_
      refine e_get (v := .ref 20) C fd_X6_72 (by decide) rfl rfl dX6_rest_64 ?_
      refine e_get (v := .int (M 20 1)) C fd_X6_146 (by decide) rfl rfl dX6_rest_67 ?_
      refine e_i2l C dX6_rest_70 ?_
      refine e_lload_n (n := 1) C dX6_rest_71 rfl rfl ?_
      refine e_lmul C dX6_rest_72 ?_
      refine e_ladd C dX6_rest_73 ?_
      refine e_lstore C dX6_rest_74 (by decide) rfl ?_
      refine e_lload (n := 0) C dX6_rest_76 rfl ?_
      refine e_lload (n := 1) C dX6_rest_78 rfl ?_
      refine e_iload_n (n := 5) C dX6_rest_80 rfl rfl ?_
      refine e_callS1 (as := [.long (((((M 20 2)).toInt64) * (r2 - r1)) + ((((M 20 1)).toInt64) * r1)), .long r2, .int part]) (rest := []) C lk_X6_124 (q5 c1 c2) (by decide) rfl rfl (Nat.le_of_ble_eq_true rfl) dX6_rest_81 ?_
      exact e_lret C X dX6_rest_84 (h6 c1 c2)
    · refine e_ldc2 C kc_X6_133 dX6_rest_22 ?_
      exact e_lret C X dX6_rest_25 (h7 c1 c2)
  · refine e_ldc2 C kc_X6_128 dX6_rest_11 ?_
    exact e_lret C X dX6_rest_14 (h8 c1)
set_option maxRecDepth 100000 in
set_option maxHeartbeats 4000000 in
theorem kb_X6_step {k : ea_K} {o : Option Value} {M' : ea_M} (C : ea_C k RX6 cX6_step 3 5) (X : ea_X k (some .int) o M') {M : ea_M} {n : Int32} {M1 : ea_M}   (h2 : n < (1 : Int32) → o = some (.int (-2000000002 : Int32)) ∧ M' = M) (q5 : ¬ n < (1 : Int32) → n ≤ (50 : Int32) → ¬ (M 13 5) = 0 → ea_Sp 3 yX1_remember cX1_remember 3 none [.ref 24, .ref 20] M none M1) (h6 : ¬ n < (1 : Int32) → n ≤ (50 : Int32) → ¬ (M 13 5) = 0 → ea_E k 43 [(0, .ref 0), (1, .int n), (2, .int (0 : Int32))] [] M1) (h7 : ¬ n < (1 : Int32) → n ≤ (50 : Int32) → (M 13 5) = 0 → o = some (.int (-2000000003 : Int32)) ∧ M' = M) (h8 : ¬ n < (1 : Int32) → ¬ n ≤ (50 : Int32) → o = some (.int (-2000000002 : Int32)) ∧ M' = M) : ea_E k 0 [(0, .ref 0), (1, .int n)] [] M := by
  refine e_iload_n (n := 1) C dX6_step_0 rfl rfl ?_
  refine e_iconst (v := 1) C dX6_step_1 (by decide) ?_
  refine e_icmp_lt (tgt := 11) C dX6_step_2 (by decide) (fun c1 => ?_) (fun c1 => ?_)
  · refine e_ldc C kc_X6_44 dX6_step_11 ?_
    exact e_iret C X rfl (vp_nar_int _) dX6_step_13 (h2 c1)
  · refine e_iload_n (n := 1) C dX6_step_5 rfl rfl ?_
    refine e_bipush (v := 50) C dX6_step_6 (by decide) ?_
    refine e_icmp_le (tgt := 14) C dX6_step_8 (by decide) (fun c3 => ?_) (fun c3 => ?_)
    · refine e_aload_n (n := 0) C dX6_step_14 rfl rfl ?_
      refine e_get (v := .ref 13) C fd_X6_19 (by decide) rfl rfl dX6_step_15 ?_
      refine e_get (v := .int (M 13 5)) C fd_X6_149 (by decide) rfl rfl dX6_step_18 ?_
      refine e_if_ne (tgt := 27) C dX6_step_21 (by decide) (fun c4 => ?_) (fun c4 => ?_)
      · refine e_aload_n (n := 0) C dX6_step_27 rfl rfl ?_
        refine e_get (v := .ref 24) C fd_X6_33 (by decide) rfl rfl dX6_step_28 ?_
        refine e_aload_n (n := 0) C dX6_step_31 rfl rfl ?_
        refine e_get (v := .ref 13) C fd_X6_19 (by decide) rfl rfl dX6_step_32 ?_
        refine e_get (v := .ref 20) C fd_X6_72 (by decide) rfl rfl dX6_step_35 ?_
        refine e_callV0 (as := [.ref 20]) (rest := []) C lk_X6_152 (q5 c1 c3 c4) (by decide) rfl (by decide) rfl (by decide) rfl rfl (Nat.le_of_ble_eq_true rfl) dX6_step_38 ?_
        refine e_iconst (v := 0) C dX6_step_41 (by decide) ?_
        refine e_istore_n C dX6_step_42 rfl (by decide) rfl ?_
        refine e_perm C [1, 2, 0] rfl ?_
        exact (h6 c1 c3 c4)
      · refine e_ldc C kc_X6_64 dX6_step_24 ?_
        exact e_iret C X rfl (vp_nar_int _) dX6_step_26 (h7 c1 c3 c4)
    · refine e_ldc C kc_X6_44 dX6_step_11 ?_
      exact e_iret C X rfl (vp_nar_int _) dX6_step_13 (h8 c1 c3)
set_option maxRecDepth 100000 in
set_option maxHeartbeats 4000000 in
theorem kb_X6_step_43 {k : ea_K} {o : Option Value} {M' : ea_M} (C : ea_C k RX6 cX6_step 3 5) (X : ea_X k (some .int) o M') {M : ea_M} {n j : Int32} {M1 : ea_M} {r1 : Int32}   (h2 : n ≤ j → o = some (.int j) ∧ M' = M) (q3 : ¬ n ≤ j → ea_Sp 4 yX4_advance cX4_advance 3 (some .boolean) [.ref 13, .ref 20] M (some (.int r1)) M1) (h5 : ¬ n ≤ j → r1 = 0 → o = some (.int j) ∧ M' = M1) (h6 : ¬ n ≤ j → ¬ r1 = 0 → ea_E k 43 [(0, .ref 0), (1, .int n), (2, .int (j + 1))] [] M1) : ea_E k 43 [(0, .ref 0), (1, .int n), (2, .int j)] [] M := by
  refine e_iload_n (n := 2) C dX6_step_43 rfl rfl ?_
  refine e_iload_n (n := 1) C dX6_step_44 rfl rfl ?_
  refine e_icmp_ge (tgt := 71) C dX6_step_45 (by decide) (fun c1 => ?_) (fun c1 => ?_)
  · refine e_iload_n (n := 2) C dX6_step_71 rfl rfl ?_
    exact e_iret C X rfl (vp_nar_int _) dX6_step_72 (h2 c1)
  · refine e_aload_n (n := 0) C dX6_step_48 rfl rfl ?_
    refine e_get (v := .ref 13) C fd_X6_19 (by decide) rfl rfl dX6_step_49 ?_
    refine e_aload_n (n := 0) C dX6_step_52 rfl rfl ?_
    refine e_get (v := .ref 13) C fd_X6_19 (by decide) rfl rfl dX6_step_53 ?_
    refine e_get (v := .ref 20) C fd_X6_72 (by decide) rfl rfl dX6_step_56 ?_
    refine e_callV1 (as := [.ref 20]) (rest := []) C lk_X6_156 (q3 c1) (by decide) rfl (by decide) rfl (by decide) rfl rfl (Nat.le_of_ble_eq_true rfl) dX6_step_59 ?_
    refine e_if_eq (tgt := 71) C dX6_step_62 (by decide) (fun c4 => ?_) (fun c4 => ?_)
    · refine e_iload_n (n := 2) C dX6_step_71 rfl rfl ?_
      exact e_iret C X rfl (vp_nar_int _) dX6_step_72 (h5 c1 c4)
    · refine e_iinc (n := 2) (v := (j + 1)) C dX6_step_65 rfl rfl (by decide) rfl ?_
      refine e_goto (tgt := 43) C dX6_step_68 (by decide) ?_
      refine e_perm C [1, 2, 0] rfl ?_
      exact (h6 c1 c4)
set_option maxRecDepth 100000 in
set_option maxHeartbeats 4000000 in
theorem kb_X6_heat {k : ea_K} {o : Option Value} {M' : ea_M} (C : ea_C k RX6 cX6_heat 4 4) (X : ea_X k (some .int) o M') {M : ea_M} {c v : Int32} {M1 : ea_M}   (h3 : p_X4_isCell M 13 c → v < (-9999 : Int32) → o = some (.int (-2000000002 : Int32)) ∧ M' = M) (q6 : p_X4_isCell M 13 c → ¬ v < (-9999 : Int32) → v ≤ (9999 : Int32) → p_X6_isHeat ((pa_at (M 21) 10 c) + v) → ea_Sp 3 yX1_remember cX1_remember 3 none [.ref 24, .ref 20] M none M1) (h7 : p_X4_isCell M 13 c → ¬ v < (-9999 : Int32) → v ≤ (9999 : Int32) → p_X6_isHeat ((pa_at (M 21) 10 c) + v) → o = some (.int ((pa_at (M 21) 10 c) + v)) ∧ M' = (pa_set M1 21 10 c ((pa_at (M 21) 10 c) + v))) (h8 : p_X4_isCell M 13 c → ¬ v < (-9999 : Int32) → v ≤ (9999 : Int32) → ¬ p_X6_isHeat ((pa_at (M 21) 10 c) + v) → o = some (.int (-2000000003 : Int32)) ∧ M' = M) (h9 : p_X4_isCell M 13 c → ¬ v < (-9999 : Int32) → ¬ v ≤ (9999 : Int32) → o = some (.int (-2000000002 : Int32)) ∧ M' = M) (h10 : ¬ p_X4_isCell M 13 c → o = some (.int (-2000000001 : Int32)) ∧ M' = M) : ea_E k 0 [(0, .ref 0), (1, .int c), (2, .int v)] [] M := by
  refine e_aload_n (n := 0) C dX6_heat_0 rfl rfl ?_
  refine e_get (v := .ref 13) C fd_X6_19 (by decide) rfl rfl dX6_heat_1 ?_
  refine e_iload_n (n := 1) C dX6_heat_4 rfl rfl ?_
  refine e_callV1 (as := [.int c]) (rest := []) C lk_X6_112 (sp_X4_isCell (M := M) (x := 13) (i := c) rfl ) (by decide) rfl (by decide) rfl (by decide) rfl rfl (Nat.le_of_ble_eq_true rfl) dX6_heat_5 ?_
  refine e_ifb_ne (tgt := 14) C dX6_heat_8 (by decide) (fun c1 => ?_) (fun c1 => ?_)
  · refine e_iload_n (n := 2) C dX6_heat_14 rfl rfl ?_
    refine e_sipush (v := -9999) C dX6_heat_15 (by decide) ?_
    refine e_icmp_lt (tgt := 28) C dX6_heat_18 (by decide) (fun c2 => ?_) (fun c2 => ?_)
    · refine e_ldc C kc_X6_44 dX6_heat_28 ?_
      exact e_iret C X rfl (vp_nar_int _) dX6_heat_30 (h3 c1 c2)
    · refine e_iload_n (n := 2) C dX6_heat_21 rfl rfl ?_
      refine e_sipush (v := 9999) C dX6_heat_22 (by decide) ?_
      refine e_icmp_le (tgt := 31) C dX6_heat_25 (by decide) (fun c4 => ?_) (fun c4 => ?_)
      · refine e_aload_n (n := 0) C dX6_heat_31 rfl rfl ?_
        refine e_get (v := .ref 13) C fd_X6_19 (by decide) rfl rfl dX6_heat_32 ?_
        refine e_get (v := .ref 20) C fd_X6_72 (by decide) rfl rfl dX6_heat_35 ?_
        refine e_get (v := .ref 21) C fd_X6_115 (by decide) rfl rfl dX6_heat_38 ?_
        refine e_iload_n (n := 1) C dX6_heat_41 rfl rfl ?_
        refine e_callS1 (as := [.ref 21, .int c]) (rest := []) C lk_X6_98 (sp_X6_at M 21 10 c rfl (by decide) ) (by decide) rfl rfl (Nat.le_of_ble_eq_true rfl) dX6_heat_42 ?_
        refine e_iload_n (n := 2) C dX6_heat_45 rfl rfl ?_
        refine e_iadd C dX6_heat_46 ?_
        refine e_istore_n C dX6_heat_47 rfl (by decide) rfl ?_
        refine e_iload_n (n := 0) C dX6_heat_48 rfl rfl ?_
        refine e_callS1 (as := [.int ((pa_at (M 21) 10 c) + v)]) (rest := []) C lk_X6_160 (sp_X6_isHeat (M := M) (i := ((pa_at (M 21) 10 c) + v)) ) (by decide) rfl rfl (Nat.le_of_ble_eq_true rfl) dX6_heat_49 ?_
        refine e_ifb_ne (tgt := 58) C dX6_heat_52 (by decide) (fun c5 => ?_) (fun c5 => ?_)
        · refine e_aload_n (n := 1) C dX6_heat_58 rfl rfl ?_
          refine e_get (v := .ref 24) C fd_X6_33 (by decide) rfl rfl dX6_heat_59 ?_
          refine e_aload_n (n := 1) C dX6_heat_62 rfl rfl ?_
          refine e_get (v := .ref 13) C fd_X6_19 (by decide) rfl rfl dX6_heat_63 ?_
          refine e_get (v := .ref 20) C fd_X6_72 (by decide) rfl rfl dX6_heat_66 ?_
          refine e_callV0 (as := [.ref 20]) (rest := []) C lk_X6_152 (q6 c1 c2 c4 c5) (by decide) rfl (by decide) rfl (by decide) rfl rfl (Nat.le_of_ble_eq_true rfl) dX6_heat_69 ?_
          refine e_aload_n (n := 1) C dX6_heat_72 rfl rfl ?_
          refine e_get (v := .ref 13) C fd_X6_19 (by decide) rfl rfl dX6_heat_73 ?_
          refine e_get (v := .ref 20) C fd_X6_72 (by decide) rfl rfl dX6_heat_76 ?_
          refine e_get (v := .ref 21) C fd_X6_115 (by decide) rfl rfl dX6_heat_79 ?_
          refine e_iload_n (n := 2) C dX6_heat_82 rfl rfl ?_
          refine e_iload_n (n := 0) C dX6_heat_83 rfl rfl ?_
          refine e_callS0 (as := [.ref 21, .int c, .int ((pa_at (M 21) 10 c) + v)]) (rest := []) C lk_X6_163 (sp_X6_set M1 21 10 c ((pa_at (M 21) 10 c) + v) rfl (by decide) ) (by decide) rfl rfl (Nat.le_of_ble_eq_true rfl) dX6_heat_84 ?_
          refine e_iload_n (n := 0) C dX6_heat_87 rfl rfl ?_
          exact e_iret C X rfl (vp_nar_int _) dX6_heat_88 (h7 c1 c2 c4 c5)
        · refine e_ldc C kc_X6_64 dX6_heat_55 ?_
          exact e_iret C X rfl (vp_nar_int _) dX6_heat_57 (h8 c1 c2 c4 c5)
      · refine e_ldc C kc_X6_44 dX6_heat_28 ?_
        exact e_iret C X rfl (vp_nar_int _) dX6_heat_30 (h9 c1 c2 c4)
  · refine e_ldc C kc_X6_93 dX6_heat_11 ?_
    exact e_iret C X rfl (vp_nar_int _) dX6_heat_13 (h10 c1)
set_option maxRecDepth 100000 in
set_option maxHeartbeats 4000000 in
theorem kb_X6_air {k : ea_K} {o : Option Value} {M' : ea_M} (C : ea_C k RX6 cX6_air 4 4) (X : ea_X k (some .int) o M') {M : ea_M} {side g : Int32} {M1 : ea_M}   (h2 : side < 0 → o = some (.int (-2000000002 : Int32)) ∧ M' = M) (h4 : ¬ side < 0 → (1 : Int32) < side → o = some (.int (-2000000002 : Int32)) ∧ M' = M) (q6 : ¬ side < 0 → ¬ (1 : Int32) < side → p_X6_isDegrees g → ea_Sp 3 yX1_remember cX1_remember 3 none [.ref 24, .ref 20] M none M1) (h9 : ¬ side < 0 → ¬ (1 : Int32) < side → p_X6_isDegrees g → ¬ side = 0 → ¬ side = 0 → o = some (.int (M1 20 2)) ∧ M' = (ea_up M1 20 2 g)) (h10 : ¬ side < 0 → ¬ (1 : Int32) < side → p_X6_isDegrees g → ¬ side = 0 → side = 0 → o = some (.int (M1 20 2)) ∧ M' = (ea_up M1 20 1 g)) (h12 : ¬ side < 0 → ¬ (1 : Int32) < side → p_X6_isDegrees g → side = 0 → ¬ side = 0 → o = some (.int (M1 20 1)) ∧ M' = (ea_up M1 20 2 g)) (h13 : ¬ side < 0 → ¬ (1 : Int32) < side → p_X6_isDegrees g → side = 0 → side = 0 → o = some (.int (M1 20 1)) ∧ M' = (ea_up M1 20 1 g)) (h14 : ¬ side < 0 → ¬ (1 : Int32) < side → ¬ p_X6_isDegrees g → o = some (.int (-2000000002 : Int32)) ∧ M' = M) : ea_E k 0 [(0, .ref 0), (1, .int side), (2, .int g)] [] M := by
  refine e_iload_n (n := 1) C dX6_air_0 rfl rfl ?_
  refine e_if_lt (tgt := 16) C dX6_air_1 (by decide) (fun c1 => ?_) (fun c1 => ?_)
  · refine e_ldc C kc_X6_44 dX6_air_16 ?_
    exact e_iret C X rfl (vp_nar_int _) dX6_air_18 (h2 c1)
  · refine e_iload_n (n := 1) C dX6_air_4 rfl rfl ?_
    refine e_iconst (v := 1) C dX6_air_5 (by decide) ?_
    refine e_icmp_gt (tgt := 16) C dX6_air_6 (by decide) (fun c3 => ?_) (fun c3 => ?_)
    · refine e_ldc C kc_X6_44 dX6_air_16 ?_
      exact e_iret C X rfl (vp_nar_int _) dX6_air_18 (h4 c1 c3)
    · refine e_iload_n (n := 2) C dX6_air_9 rfl rfl ?_
      refine e_callS1 (as := [.int g]) (rest := []) C lk_X6_167 (sp_X6_isDegrees (M := M) (i := g) ) (by decide) rfl rfl (Nat.le_of_ble_eq_true rfl) dX6_air_10 ?_
      refine e_ifb_ne (tgt := 19) C dX6_air_13 (by decide) (fun c5 => ?_) (fun c5 => ?_)
      · refine e_aload_n (n := 0) C dX6_air_19 rfl rfl ?_
        refine e_get (v := .ref 24) C fd_X6_33 (by decide) rfl rfl dX6_air_20 ?_
        refine e_aload_n (n := 0) C dX6_air_23 rfl rfl ?_
        refine e_get (v := .ref 13) C fd_X6_19 (by decide) rfl rfl dX6_air_24 ?_
        refine e_get (v := .ref 20) C fd_X6_72 (by decide) rfl rfl dX6_air_27 ?_
        refine e_callV0 (as := [.ref 20]) (rest := []) C lk_X6_152 (q6 c1 c3 c5) (by decide) rfl (by decide) rfl (by decide) rfl rfl (Nat.le_of_ble_eq_true rfl) dX6_air_30 ?_
        refine e_iload_n (n := 1) C dX6_air_33 rfl rfl ?_
        refine e_if_ne (tgt := 50) C dX6_air_34 (by decide) (fun c7 => ?_) (fun c7 => ?_)
        · refine e_aload_n (n := 0) C dX6_air_50 rfl rfl ?_
          refine e_get (v := .ref 13) C fd_X6_19 (by decide) rfl rfl dX6_air_51 ?_
          refine e_get (v := .ref 20) C fd_X6_72 (by decide) rfl rfl dX6_air_54 ?_
          refine e_get (v := .int (M1 20 2)) C fd_X6_143 (by decide) rfl rfl dX6_air_57 ?_
          refine e_istore_n C dX6_air_60 rfl (by decide) rfl ?_
          refine e_iload_n (n := 2) C dX6_air_61 rfl rfl ?_
          refine e_if_ne (tgt := 79) C dX6_air_62 (by decide) (fun c8 => ?_) (fun c8 => ?_)
          · refine e_aload_n (n := 1) C dX6_air_79 rfl rfl ?_
            refine e_get (v := .ref 13) C fd_X6_19 (by decide) rfl rfl dX6_air_80 ?_
            refine e_get (v := .ref 20) C fd_X6_72 (by decide) rfl rfl dX6_air_83 ?_
            refine e_iload_n (n := 3) C dX6_air_86 rfl rfl ?_
            refine e_put (ty := .int) C fd_X6_143 (by decide) rfl rfl (by decide +kernel) (vp_nar_int _) rfl (ea_set5_2 _ _ _) dX6_air_87 ?_
            refine e_iload_n (n := 0) C dX6_air_90 rfl rfl ?_
            exact e_iret C X rfl (vp_nar_int _) dX6_air_91 (h9 c1 c3 c5 c7 c8)
          · refine e_aload_n (n := 1) C dX6_air_65 rfl rfl ?_
            refine e_get (v := .ref 13) C fd_X6_19 (by decide) rfl rfl dX6_air_66 ?_
            refine e_get (v := .ref 20) C fd_X6_72 (by decide) rfl rfl dX6_air_69 ?_
            refine e_iload_n (n := 3) C dX6_air_72 rfl rfl ?_
            refine e_put (ty := .int) C fd_X6_146 (by decide) rfl rfl (by decide +kernel) (vp_nar_int _) rfl (ea_set5_1 _ _ _) dX6_air_73 ?_
            refine e_goto (tgt := 90) C dX6_air_76 (by decide) ?_
            refine e_iload_n (n := 0) C dX6_air_90 rfl rfl ?_
            exact e_iret C X rfl (vp_nar_int _) dX6_air_91 (h10 c1 c3 c5 c7 c8)
        · refine e_aload_n (n := 0) C dX6_air_37 rfl rfl ?_
          refine e_get (v := .ref 13) C fd_X6_19 (by decide) rfl rfl dX6_air_38 ?_
          refine e_get (v := .ref 20) C fd_X6_72 (by decide) rfl rfl dX6_air_41 ?_
          refine e_get (v := .int (M1 20 1)) C fd_X6_146 (by decide) rfl rfl dX6_air_44 ?_
          refine e_goto (tgt := 60) C dX6_air_47 (by decide) ?_
          refine e_istore_n C dX6_air_60 rfl (by decide) rfl ?_
          refine e_iload_n (n := 2) C dX6_air_61 rfl rfl ?_
          refine e_if_ne (tgt := 79) C dX6_air_62 (by decide) (fun c11 => ?_) (fun c11 => ?_)
          · refine e_aload_n (n := 1) C dX6_air_79 rfl rfl ?_
            refine e_get (v := .ref 13) C fd_X6_19 (by decide) rfl rfl dX6_air_80 ?_
            refine e_get (v := .ref 20) C fd_X6_72 (by decide) rfl rfl dX6_air_83 ?_
            refine e_iload_n (n := 3) C dX6_air_86 rfl rfl ?_
            refine e_put (ty := .int) C fd_X6_143 (by decide) rfl rfl (by decide +kernel) (vp_nar_int _) rfl (ea_set5_2 _ _ _) dX6_air_87 ?_
            refine e_iload_n (n := 0) C dX6_air_90 rfl rfl ?_
            exact e_iret C X rfl (vp_nar_int _) dX6_air_91 (h12 c1 c3 c5 c7 c11)
          · refine e_aload_n (n := 1) C dX6_air_65 rfl rfl ?_
            refine e_get (v := .ref 13) C fd_X6_19 (by decide) rfl rfl dX6_air_66 ?_
            refine e_get (v := .ref 20) C fd_X6_72 (by decide) rfl rfl dX6_air_69 ?_
            refine e_iload_n (n := 3) C dX6_air_72 rfl rfl ?_
            refine e_put (ty := .int) C fd_X6_146 (by decide) rfl rfl (by decide +kernel) (vp_nar_int _) rfl (ea_set5_1 _ _ _) dX6_air_73 ?_
            refine e_goto (tgt := 90) C dX6_air_76 (by decide) ?_
            refine e_iload_n (n := 0) C dX6_air_90 rfl rfl ?_
            exact e_iret C X rfl (vp_nar_int _) dX6_air_91 (h13 c1 c3 c5 c7 c11)
      · refine e_ldc C kc_X6_44 dX6_air_16 ?_
        exact e_iret C X rfl (vp_nar_int _) dX6_air_18 (h14 c1 c3 c5)
set_option maxRecDepth 100000 in
set_option maxHeartbeats 4000000 in
theorem kb_X6_pace {k : ea_K} {o : Option Value} {M' : ea_M} (C : ea_C k RX6 cX6_pace 2 4) (X : ea_X k (some .int) o M') {M : ea_M} {t : Int32} {M1 : ea_M} {r2 : Int32}   (h2 : t < (1 : Int32) → o = some (.int (-2000000002 : Int32)) ∧ M' = M) (q4 : ¬ t < (1 : Int32) → t ≤ (999 : Int32) → ea_Sp 3 yX1_remember cX1_remember 3 none [.ref 24, .ref 20] M none M1) (q5 : ¬ t < (1 : Int32) → t ≤ (999 : Int32) → ea_Sp 3 yX4_safe cX4_safe 8 (some .int) [.ref 13] (ea_up M1 20 3 t) (some (.int r2)) (ea_up M1 20 3 t)) (h6 : ¬ t < (1 : Int32) → t ≤ (999 : Int32) → o = some (.int r2) ∧ M' = (ea_up M1 20 3 t)) (h7 : ¬ t < (1 : Int32) → ¬ t ≤ (999 : Int32) → o = some (.int (-2000000002 : Int32)) ∧ M' = M) : ea_E k 0 [(0, .ref 0), (1, .int t)] [] M := by
  refine e_iload_n (n := 1) C dX6_pace_0 rfl rfl ?_
  refine e_iconst (v := 1) C dX6_pace_1 (by decide) ?_
  refine e_icmp_lt (tgt := 12) C dX6_pace_2 (by decide) (fun c1 => ?_) (fun c1 => ?_)
  · refine e_ldc C kc_X6_44 dX6_pace_12 ?_
    exact e_iret C X rfl (vp_nar_int _) dX6_pace_14 (h2 c1)
  · refine e_iload_n (n := 1) C dX6_pace_5 rfl rfl ?_
    refine e_sipush (v := 999) C dX6_pace_6 (by decide) ?_
    refine e_icmp_le (tgt := 15) C dX6_pace_9 (by decide) (fun c3 => ?_) (fun c3 => ?_)
    · refine e_aload_n (n := 0) C dX6_pace_15 rfl rfl ?_
      refine e_get (v := .ref 24) C fd_X6_33 (by decide) rfl rfl dX6_pace_16 ?_
      refine e_aload_n (n := 0) C dX6_pace_19 rfl rfl ?_
      refine e_get (v := .ref 13) C fd_X6_19 (by decide) rfl rfl dX6_pace_20 ?_
      refine e_get (v := .ref 20) C fd_X6_72 (by decide) rfl rfl dX6_pace_23 ?_
      refine e_callV0 (as := [.ref 20]) (rest := []) C lk_X6_152 (q4 c1 c3) (by decide) rfl (by decide) rfl (by decide) rfl rfl (Nat.le_of_ble_eq_true rfl) dX6_pace_26 ?_
      refine e_aload_n (n := 0) C dX6_pace_29 rfl rfl ?_
      refine e_get (v := .ref 13) C fd_X6_19 (by decide) rfl rfl dX6_pace_30 ?_
      refine e_get (v := .ref 20) C fd_X6_72 (by decide) rfl rfl dX6_pace_33 ?_
      refine e_iload_n (n := 1) C dX6_pace_36 rfl rfl ?_
      refine e_put (ty := .int) C fd_X6_170 (by decide) rfl rfl (by decide +kernel) (vp_nar_int _) rfl (ea_set5_3 _ _ _) dX6_pace_37 ?_
      refine e_aload_n (n := 0) C dX6_pace_40 rfl rfl ?_
      refine e_get (v := .ref 13) C fd_X6_19 (by decide) rfl rfl dX6_pace_41 ?_
      refine e_callV1 (as := []) (rest := []) C lk_X6_173 (q5 c1 c3) (by decide) rfl (by decide) rfl (by decide) rfl rfl (Nat.le_of_ble_eq_true rfl) dX6_pace_44 ?_
      exact e_iret C X rfl (vp_nar_int _) dX6_pace_47 (h6 c1 c3)
    · refine e_ldc C kc_X6_44 dX6_pace_12 ?_
      exact e_iret C X rfl (vp_nar_int _) dX6_pace_14 (h7 c1 c3)
set_option maxRecDepth 100000 in
set_option maxHeartbeats 4000000 in
theorem kb_X6_undo {k : ea_K} {o : Option Value} {M' : ea_M} (C : ea_C k RX6 cX6_undo 1 4) (X : ea_X k (some .int) o M') {M : ea_M} {M1 : ea_M}   (q2 : ¬ (M 24 4) = 0 → ea_Sp 3 yX1_takeBack cX1_takeBack 4 none [.ref 24, .ref 20] M none M1) (h3 : ¬ (M 24 4) = 0 → o = some (.int (M1 24 4)) ∧ M' = M1) (h4 : (M 24 4) = 0 → o = some (.int (-2000000003 : Int32)) ∧ M' = M) : ea_E k 0 [(0, .ref 0)] [] M := by
  refine e_aload_n (n := 0) C dX6_undo_0 rfl rfl ?_
  refine e_get (v := .ref 24) C fd_X6_33 (by decide) rfl rfl dX6_undo_1 ?_
  refine e_get (v := .int (M 24 4)) C fd_X6_177 (by decide) rfl rfl dX6_undo_4 ?_
  refine e_if_ne (tgt := 13) C dX6_undo_7 (by decide) (fun c1 => ?_) (fun c1 => ?_)
  · refine e_aload_n (n := 0) C dX6_undo_13 rfl rfl ?_
    refine e_get (v := .ref 24) C fd_X6_33 (by decide) rfl rfl dX6_undo_14 ?_
    refine e_aload_n (n := 0) C dX6_undo_17 rfl rfl ?_
    refine e_get (v := .ref 13) C fd_X6_19 (by decide) rfl rfl dX6_undo_18 ?_
    refine e_get (v := .ref 20) C fd_X6_72 (by decide) rfl rfl dX6_undo_21 ?_
    refine e_callV0 (as := [.ref 20]) (rest := []) C lk_X6_180 (q2 c1) (by decide) rfl (by decide) rfl (by decide) rfl rfl (Nat.le_of_ble_eq_true rfl) dX6_undo_24 ?_
    refine e_aload_n (n := 0) C dX6_undo_27 rfl rfl ?_
    refine e_get (v := .ref 24) C fd_X6_33 (by decide) rfl rfl dX6_undo_28 ?_
    refine e_get (v := .int (M1 24 4)) C fd_X6_177 (by decide) rfl rfl dX6_undo_31 ?_
    exact e_iret C X rfl (vp_nar_int _) dX6_undo_34 (h3 c1)
  · refine e_ldc C kc_X6_64 dX6_undo_10 ?_
    exact e_iret C X rfl (vp_nar_int _) dX6_undo_12 (h4 c1)
set_option maxRecDepth 100000 in
set_option maxHeartbeats 4000000 in
theorem kb_X6_keep {k : ea_K} {o : Option Value} {M' : ea_M} (C : ea_C k RX6 cX6_keep 2 4) (X : ea_X k (some .int) o M') {M : ea_M} {k0 : Int32} {M1 : ea_M} {r2 : Int32}   (h2 : k0 < 0 → o = some (.int (-2000000001 : Int32)) ∧ M' = M) (q4 : ¬ k0 < 0 → k0 < (2 : Int32) → ea_Sp 3 yX1_store cX1_store 4 none [.ref 24, .int k0, .ref 20] M none M1) (q5 : ¬ k0 < 0 → k0 < (2 : Int32) → ea_Sp 2 yX5_allHeat cX5_allHeat 2 (some .int) [.ref 20, .int (M1 13 5)] M1 (some (.int r2)) M1) (h6 : ¬ k0 < 0 → k0 < (2 : Int32) → o = some (.int r2) ∧ M' = M1) (h7 : ¬ k0 < 0 → ¬ k0 < (2 : Int32) → o = some (.int (-2000000001 : Int32)) ∧ M' = M) : ea_E k 0 [(0, .ref 0), (1, .int k0)] [] M := by
  refine e_iload_n (n := 1) C dX6_keep_0 rfl rfl ?_
  refine e_if_lt (tgt := 9) C dX6_keep_1 (by decide) (fun c1 => ?_) (fun c1 => ?_)
  · refine e_ldc C kc_X6_93 dX6_keep_9 ?_
    exact e_iret C X rfl (vp_nar_int _) dX6_keep_11 (h2 c1)
  · refine e_iload_n (n := 1) C dX6_keep_4 rfl rfl ?_
    refine e_iconst (v := 2) C dX6_keep_5 (by decide) ?_
    refine e_icmp_lt (tgt := 12) C dX6_keep_6 (by decide) (fun c3 => ?_) (fun c3 => ?_)
    · refine e_aload_n (n := 0) C dX6_keep_12 rfl rfl ?_
      refine e_get (v := .ref 24) C fd_X6_33 (by decide) rfl rfl dX6_keep_13 ?_
      refine e_iload_n (n := 1) C dX6_keep_16 rfl rfl ?_
      refine e_aload_n (n := 0) C dX6_keep_17 rfl rfl ?_
      refine e_get (v := .ref 13) C fd_X6_19 (by decide) rfl rfl dX6_keep_18 ?_
      refine e_get (v := .ref 20) C fd_X6_72 (by decide) rfl rfl dX6_keep_21 ?_
      refine e_callV0 (as := [.int k0, .ref 20]) (rest := []) C lk_X6_183 (q4 c1 c3) (by decide) rfl (by decide) rfl (by decide) rfl rfl (Nat.le_of_ble_eq_true rfl) dX6_keep_24 ?_
      refine e_aload_n (n := 0) C dX6_keep_27 rfl rfl ?_
      refine e_get (v := .ref 13) C fd_X6_19 (by decide) rfl rfl dX6_keep_28 ?_
      refine e_get (v := .ref 20) C fd_X6_72 (by decide) rfl rfl dX6_keep_31 ?_
      refine e_aload_n (n := 0) C dX6_keep_34 rfl rfl ?_
      refine e_get (v := .ref 13) C fd_X6_19 (by decide) rfl rfl dX6_keep_35 ?_
      refine e_get (v := .int (M1 13 5)) C fd_X6_149 (by decide) rfl rfl dX6_keep_38 ?_
      refine e_callV1 (as := [.int (M1 13 5)]) (rest := []) C lk_X6_187 (q5 c1 c3) (by decide) rfl (by decide) rfl (by decide) rfl rfl (Nat.le_of_ble_eq_true rfl) dX6_keep_41 ?_
      exact e_iret C X rfl (vp_nar_int _) dX6_keep_44 (h6 c1 c3)
    · refine e_ldc C kc_X6_93 dX6_keep_9 ?_
      exact e_iret C X rfl (vp_nar_int _) dX6_keep_11 (h7 c1 c3)
set_option maxRecDepth 100000 in
set_option maxHeartbeats 4000000 in
theorem kb_X6_back {k : ea_K} {o : Option Value} {M' : ea_M} (C : ea_C k RX6 cX6_back 2 4) (X : ea_X k (some .int) o M') {M : ea_M} {k0 : Int32} {M1 : ea_M} {r2 : Int32}   (h2 : k0 < 0 → o = some (.int (-2000000001 : Int32)) ∧ M' = M) (q5 : ¬ k0 < 0 → k0 < (2 : Int32) → p_X1_isStored M k0 → ea_Sp 3 yX1_restore cX1_restore 4 none [.ref 24, .int k0, .ref 20] M none M1) (q6 : ¬ k0 < 0 → k0 < (2 : Int32) → p_X1_isStored M k0 → ea_Sp 2 yX5_allHeat cX5_allHeat 2 (some .int) [.ref 20, .int (M1 13 5)] M1 (some (.int r2)) M1) (h7 : ¬ k0 < 0 → k0 < (2 : Int32) → p_X1_isStored M k0 → o = some (.int r2) ∧ M' = M1) (h8 : ¬ k0 < 0 → k0 < (2 : Int32) → ¬ p_X1_isStored M k0 → o = some (.int (-2000000003 : Int32)) ∧ M' = M) (h9 : ¬ k0 < 0 → ¬ k0 < (2 : Int32) → o = some (.int (-2000000001 : Int32)) ∧ M' = M) : ea_E k 0 [(0, .ref 0), (1, .int k0)] [] M := by
  refine e_iload_n (n := 1) C dX6_back_0 rfl rfl ?_
  refine e_if_lt (tgt := 9) C dX6_back_1 (by decide) (fun c1 => ?_) (fun c1 => ?_)
  · refine e_ldc C kc_X6_93 dX6_back_9 ?_
    exact e_iret C X rfl (vp_nar_int _) dX6_back_11 (h2 c1)
  · refine e_iload_n (n := 1) C dX6_back_4 rfl rfl ?_
    refine e_iconst (v := 2) C dX6_back_5 (by decide) ?_
    refine e_icmp_lt (tgt := 12) C dX6_back_6 (by decide) (fun c3 => ?_) (fun c3 => ?_)
    · refine e_aload_n (n := 0) C dX6_back_12 rfl rfl ?_
      refine e_get (v := .ref 24) C fd_X6_33 (by decide) rfl rfl dX6_back_13 ?_
      refine e_iload_n (n := 1) C dX6_back_16 rfl rfl ?_
      refine e_callV1 (as := [.int k0]) (rest := []) C lk_X6_190 (sp_X1_isStored (M := M) (i := k0) ) (by decide) rfl (by decide) rfl (by decide) rfl rfl (Nat.le_of_ble_eq_true rfl) dX6_back_17 ?_
      refine e_ifb_ne (tgt := 26) C dX6_back_20 (by decide) (fun c4 => ?_) (fun c4 => ?_)
      · refine e_aload_n (n := 0) C dX6_back_26 rfl rfl ?_
        refine e_get (v := .ref 24) C fd_X6_33 (by decide) rfl rfl dX6_back_27 ?_
        refine e_iload_n (n := 1) C dX6_back_30 rfl rfl ?_
        refine e_aload_n (n := 0) C dX6_back_31 rfl rfl ?_
        refine e_get (v := .ref 13) C fd_X6_19 (by decide) rfl rfl dX6_back_32 ?_
        refine e_get (v := .ref 20) C fd_X6_72 (by decide) rfl rfl dX6_back_35 ?_
        refine e_callV0 (as := [.int k0, .ref 20]) (rest := []) C lk_X6_193 (q5 c1 c3 c4) (by decide) rfl (by decide) rfl (by decide) rfl rfl (Nat.le_of_ble_eq_true rfl) dX6_back_38 ?_
        refine e_aload_n (n := 0) C dX6_back_41 rfl rfl ?_
        refine e_get (v := .ref 13) C fd_X6_19 (by decide) rfl rfl dX6_back_42 ?_
        refine e_get (v := .ref 20) C fd_X6_72 (by decide) rfl rfl dX6_back_45 ?_
        refine e_aload_n (n := 0) C dX6_back_48 rfl rfl ?_
        refine e_get (v := .ref 13) C fd_X6_19 (by decide) rfl rfl dX6_back_49 ?_
        refine e_get (v := .int (M1 13 5)) C fd_X6_149 (by decide) rfl rfl dX6_back_52 ?_
        refine e_callV1 (as := [.int (M1 13 5)]) (rest := []) C lk_X6_187 (q6 c1 c3 c4) (by decide) rfl (by decide) rfl (by decide) rfl rfl (Nat.le_of_ble_eq_true rfl) dX6_back_55 ?_
        exact e_iret C X rfl (vp_nar_int _) dX6_back_58 (h7 c1 c3 c4)
      · refine e_ldc C kc_X6_64 dX6_back_23 ?_
        exact e_iret C X rfl (vp_nar_int _) dX6_back_25 (h8 c1 c3 c4)
    · refine e_ldc C kc_X6_93 dX6_back_9 ?_
      exact e_iret C X rfl (vp_nar_int _) dX6_back_11 (h9 c1 c3)
set_option maxRecDepth 100000 in
set_option maxHeartbeats 4000000 in
theorem kb_X6_flow {k : ea_K} {o : Option Value} {M' : ea_M} (C : ea_C k RX6 cX6_flow 2 4) (X : ea_X k (some .int) o M') {M : ea_M} {i : Int32}   (h2 : i < 0 → o = some (.int (-2000000002 : Int32)) ∧ M' = M) (h5 : ¬ i < 0 → i ≤ (M 13 5) → ¬ (M 13 5) = 0 → o = some (.int (f_X4_flowAt M 13 20 i)) ∧ M' = M) (h6 : ¬ i < 0 → i ≤ (M 13 5) → (M 13 5) = 0 → o = some (.int (-2000000003 : Int32)) ∧ M' = M) (h7 : ¬ i < 0 → ¬ i ≤ (M 13 5) → o = some (.int (-2000000002 : Int32)) ∧ M' = M) : ea_E k 0 [(0, .ref 0), (1, .int i)] [] M := by
  refine e_iload_n (n := 1) C dX6_flow_0 rfl rfl ?_
  refine e_if_lt (tgt := 15) C dX6_flow_1 (by decide) (fun c1 => ?_) (fun c1 => ?_)
  · refine e_ldc C kc_X6_44 dX6_flow_15 ?_
    exact e_iret C X rfl (vp_nar_int _) dX6_flow_17 (h2 c1)
  · refine e_iload_n (n := 1) C dX6_flow_4 rfl rfl ?_
    refine e_aload_n (n := 0) C dX6_flow_5 rfl rfl ?_
    refine e_get (v := .ref 13) C fd_X6_19 (by decide) rfl rfl dX6_flow_6 ?_
    refine e_get (v := .int (M 13 5)) C fd_X6_149 (by decide) rfl rfl dX6_flow_9 ?_
    refine e_icmp_le (tgt := 18) C dX6_flow_12 (by decide) (fun c3 => ?_) (fun c3 => ?_)
    · refine e_aload_n (n := 0) C dX6_flow_18 rfl rfl ?_
      refine e_get (v := .ref 13) C fd_X6_19 (by decide) rfl rfl dX6_flow_19 ?_
      refine e_get (v := .int (M 13 5)) C fd_X6_149 (by decide) rfl rfl dX6_flow_22 ?_
      refine e_if_ne (tgt := 31) C dX6_flow_25 (by decide) (fun c4 => ?_) (fun c4 => ?_)
      · refine e_aload_n (n := 0) C dX6_flow_31 rfl rfl ?_
        refine e_get (v := .ref 13) C fd_X6_19 (by decide) rfl rfl dX6_flow_32 ?_
        refine e_aload_n (n := 0) C dX6_flow_35 rfl rfl ?_
        refine e_get (v := .ref 13) C fd_X6_19 (by decide) rfl rfl dX6_flow_36 ?_
        refine e_get (v := .ref 20) C fd_X6_72 (by decide) rfl rfl dX6_flow_39 ?_
        refine e_iload_n (n := 1) C dX6_flow_42 rfl rfl ?_
        refine e_callV1 (as := [.ref 20, .int i]) (rest := []) C lk_X6_196 (sp_X4_flowAt (M := M) (x := 13) (w := 20) (i := i) rfl rfl ) (by decide) rfl (by decide) rfl (by decide) rfl rfl (Nat.le_of_ble_eq_true rfl) dX6_flow_43 ?_
        exact e_iret C X rfl (vp_nar_int _) dX6_flow_46 (h5 c1 c3 c4)
      · refine e_ldc C kc_X6_64 dX6_flow_28 ?_
        exact e_iret C X rfl (vp_nar_int _) dX6_flow_30 (h6 c1 c3 c4)
    · refine e_ldc C kc_X6_44 dX6_flow_15 ?_
      exact e_iret C X rfl (vp_nar_int _) dX6_flow_17 (h7 c1 c3)
set_option maxRecDepth 100000 in
set_option maxHeartbeats 4000000 in
theorem kb_X6_until {k : ea_K} {o : Option Value} {M' : ea_M} (C : ea_C k RX6 cX6_until 5 5) (X : ea_X k (some .int) o M') {M : ea_M} {c g : Int32}   (h3 : p_X4_isCell M 13 c → p_X6_isDegrees g → ea_E k 52 [(0, .ref 0), (1, .int c), (3, .int (g * (f_X4_holdsAt M 13 c))), (4, .int (0 : Int32))] [] (g_X5_become M 22 20)) (h4 : p_X4_isCell M 13 c → ¬ p_X6_isDegrees g → o = some (.int (-2000000002 : Int32)) ∧ M' = M) (h5 : ¬ p_X4_isCell M 13 c → o = some (.int (-2000000001 : Int32)) ∧ M' = M) : ea_E k 0 [(0, .ref 0), (1, .int c), (2, .int g)] [] M := by
  refine e_aload_n (n := 0) C dX6_until_0 rfl rfl ?_
  refine e_get (v := .ref 13) C fd_X6_19 (by decide) rfl rfl dX6_until_1 ?_
  refine e_iload_n (n := 1) C dX6_until_4 rfl rfl ?_
  refine e_callV1 (as := [.int c]) (rest := []) C lk_X6_112 (sp_X4_isCell (M := M) (x := 13) (i := c) rfl ) (by decide) rfl (by decide) rfl (by decide) rfl rfl (Nat.le_of_ble_eq_true rfl) dX6_until_5 ?_
  refine e_ifb_ne (tgt := 14) C dX6_until_8 (by decide) (fun c1 => ?_) (fun c1 => ?_)
  · refine e_iload_n (n := 2) C dX6_until_14 rfl rfl ?_
    refine e_callS1 (as := [.int g]) (rest := []) C lk_X6_167 (sp_X6_isDegrees (M := M) (i := g) ) (by decide) rfl rfl (Nat.le_of_ble_eq_true rfl) dX6_until_15 ?_
    refine e_ifb_ne (tgt := 24) C dX6_until_18 (by decide) (fun c2 => ?_) (fun c2 => ?_)
    · refine e_iload_n (n := 2) C dX6_until_24 rfl rfl ?_
      refine e_aload_n (n := 0) C dX6_until_25 rfl rfl ?_
      refine e_get (v := .ref 13) C fd_X6_19 (by decide) rfl rfl dX6_until_26 ?_
      refine e_iload_n (n := 1) C dX6_until_29 rfl rfl ?_
      refine e_callV1 (as := [.int c]) (rest := [.int g]) C lk_X6_121 (sp_X4_holdsAt (M := M) (x := 13) (i := c) rfl ) (by decide) rfl (by decide) rfl (by decide) rfl rfl (Nat.le_of_ble_eq_true rfl) dX6_until_30 ?_
      refine e_imul C dX6_until_33 ?_
      refine e_istore_n C dX6_until_34 rfl (by decide) rfl ?_
      refine e_aload_n (n := 1) C dX6_until_35 rfl rfl ?_
      refine e_get (v := .ref 22) C fd_X6_26 (by decide) rfl rfl dX6_until_36 ?_
      refine e_aload_n (n := 1) C dX6_until_39 rfl rfl ?_
      refine e_get (v := .ref 13) C fd_X6_19 (by decide) rfl rfl dX6_until_40 ?_
      refine e_get (v := .ref 20) C fd_X6_72 (by decide) rfl rfl dX6_until_43 ?_
      refine e_callV0 (as := [.ref 20]) (rest := []) C lk_X6_200 (sp_X5_become (M := M) (x := 22) (y := 20) rfl rfl (by decide) (by decide) (by decide) (by decide) (by decide) ) (by decide) rfl (by decide) rfl (by decide) rfl rfl (Nat.le_of_ble_eq_true rfl) dX6_until_46 ?_
      refine e_iconst (v := 0) C dX6_until_49 (by decide) ?_
      refine e_istore C dX6_until_50 (by decide) rfl ?_
      refine e_perm C [2, 3, 1, 0] rfl ?_
      exact (h3 c1 c2)
    · refine e_ldc C kc_X6_44 dX6_until_21 ?_
      exact e_iret C X rfl (vp_nar_int _) dX6_until_23 (h4 c1 c2)
  · refine e_ldc C kc_X6_93 dX6_until_11 ?_
    exact e_iret C X rfl (vp_nar_int _) dX6_until_13 (h5 c1)
set_option maxRecDepth 100000 in
set_option maxHeartbeats 4000000 in
theorem kb_X6_until_52 {k : ea_K} {o : Option Value} {M' : ea_M} (C : ea_C k RX6 cX6_until 5 5) (X : ea_X k (some .int) o M') {M : ea_M} {c wt j : Int32} {M1 : ea_M} {r1 : Int32}   (h2 : (200 : Int32) < j → o = some (.int (-1 : Int32)) ∧ M' = M) (q4 : ¬ (200 : Int32) < j → (pa_at (M 23) 10 c) < wt → ea_Sp 4 yX4_advance cX4_advance 3 (some .boolean) [.ref 13, .ref 22] M (some (.int r1)) M1) (h6 : ¬ (200 : Int32) < j → (pa_at (M 23) 10 c) < wt → ¬ r1 = 0 → ea_E k 52 [(0, .ref 0), (1, .int c), (3, .int wt), (4, .int (j + 1))] [] M1) (h7 : ¬ (200 : Int32) < j → (pa_at (M 23) 10 c) < wt → r1 = 0 → o = some (.int (-1 : Int32)) ∧ M' = M1) (h8 : ¬ (200 : Int32) < j → ¬ (pa_at (M 23) 10 c) < wt → o = some (.int j) ∧ M' = M) : ea_E k 52 [(0, .ref 0), (1, .int c), (3, .int wt), (4, .int j)] [] M := by
  refine e_iload (n := 3) C dX6_until_52 rfl ?_
  refine e_sipush (v := 200) C dX6_until_54 (by decide) ?_
  refine e_icmp_gt (tgt := 100) C dX6_until_57 (by decide) (fun c1 => ?_) (fun c1 => ?_)
  · refine e_iconst (v := -1) C dX6_until_100 (by decide) ?_
    exact e_iret C X rfl (vp_nar_int _) dX6_until_101 (h2 c1)
  · refine e_aload_n (n := 0) C dX6_until_60 rfl rfl ?_
    refine e_get (v := .ref 22) C fd_X6_26 (by decide) rfl rfl dX6_until_61 ?_
    refine e_get (v := .ref 23) C fd_X6_115 (by decide) rfl rfl dX6_until_64 ?_
    refine e_iload_n (n := 1) C dX6_until_67 rfl rfl ?_
    refine e_callS1 (as := [.ref 23, .int c]) (rest := []) C lk_X6_98 (sp_X6_at M 23 10 c rfl (by decide) ) (by decide) rfl rfl (Nat.le_of_ble_eq_true rfl) dX6_until_68 ?_
    refine e_iload_n (n := 2) C dX6_until_71 rfl rfl ?_
    refine e_icmp_lt (tgt := 78) C dX6_until_72 (by decide) (fun c3 => ?_) (fun c3 => ?_)
    · refine e_aload_n (n := 0) C dX6_until_78 rfl rfl ?_
      refine e_get (v := .ref 13) C fd_X6_19 (by decide) rfl rfl dX6_until_79 ?_
      refine e_aload_n (n := 0) C dX6_until_82 rfl rfl ?_
      refine e_get (v := .ref 22) C fd_X6_26 (by decide) rfl rfl dX6_until_83 ?_
      refine e_callV1 (as := [.ref 22]) (rest := []) C lk_X6_156 (q4 c1 c3) (by decide) rfl (by decide) rfl (by decide) rfl rfl (Nat.le_of_ble_eq_true rfl) dX6_until_86 ?_
      refine e_if_ne (tgt := 94) C dX6_until_89 (by decide) (fun c5 => ?_) (fun c5 => ?_)
      · refine e_iinc (n := 3) (v := (j + 1)) C dX6_until_94 rfl rfl (by decide) rfl ?_
        refine e_goto (tgt := 52) C dX6_until_97 (by decide) ?_
        refine e_perm C [1, 2, 3, 0] rfl ?_
        exact (h6 c1 c3 c5)
      · refine e_iconst (v := -1) C dX6_until_92 (by decide) ?_
        exact e_iret C X rfl (vp_nar_int _) dX6_until_93 (h7 c1 c3 c5)
    · refine e_iload (n := 3) C dX6_until_75 rfl ?_
      exact e_iret C X rfl (vp_nar_int _) dX6_until_77 (h8 c1 c3)
set_option maxRecDepth 100000 in
set_option maxHeartbeats 4000000 in
theorem kb_X6_resists {k : ea_K} {o : Option Value} {M' : ea_M} (C : ea_C k RX6 cX6_resists 2 3) (X : ea_X k (some .int) o M') {M : ea_M} {part : Int32} {r1 r2 : Int64}   (q3 : p_X6_isPart part → ¬ (M 13 5) = 0 → ea_Sp 2 yX4_resistsInAll cX4_resistsInAll 4 (some .long) [.ref 13] M (some (.long r1)) M) (q4 : p_X6_isPart part → ¬ (M 13 5) = 0 → ea_Sp 1 yX6_lowest cX6_lowest 5 (some .long) [.long r1, .long (465585120 : Int64), .int part] M (some (.long r2)) M) (h5 : p_X6_isPart part → ¬ (M 13 5) = 0 → o = some (.int ((r2).toInt32)) ∧ M' = M) (h6 : p_X6_isPart part → (M 13 5) = 0 → o = some (.int (-2000000003 : Int32)) ∧ M' = M) (h7 : ¬ p_X6_isPart part → o = some (.int (-2000000002 : Int32)) ∧ M' = M) : ea_E k 0 [(0, .ref 0), (1, .int part)] [] M := by
  refine e_iload_n (n := 1) C dX6_resists_0 rfl rfl ?_
  refine e_callS1 (as := [.int part]) (rest := []) C lk_X6_130 (sp_X6_isPart (M := M) (i := part) ) (by decide) rfl rfl (Nat.le_of_ble_eq_true rfl) dX6_resists_1 ?_
  refine e_ifb_ne (tgt := 10) C dX6_resists_4 (by decide) (fun c1 => ?_) (fun c1 => ?_)
  · refine e_aload_n (n := 0) C dX6_resists_10 rfl rfl ?_
    refine e_get (v := .ref 13) C fd_X6_19 (by decide) rfl rfl dX6_resists_11 ?_
    refine e_get (v := .int (M 13 5)) C fd_X6_149 (by decide) rfl rfl dX6_resists_14 ?_
    refine e_if_ne (tgt := 23) C dX6_resists_17 (by decide) (fun c2 => ?_) (fun c2 => ?_)
    · refine e_aload_n (n := 0) C dX6_resists_23 rfl rfl ?_
      refine e_get (v := .ref 13) C fd_X6_19 (by decide) rfl rfl dX6_resists_24 ?_
      refine e_callV1 (as := []) (rest := []) C lk_X6_139 (q3 c1 c2) (by decide) rfl (by decide) rfl (by decide) rfl rfl (Nat.le_of_ble_eq_true rfl) dX6_resists_27 ?_
      refine e_ldc2 C kc_X6_202 dX6_resists_30 ?_
      refine e_iload_n (n := 1) C dX6_resists_33 rfl rfl ?_
      refine e_callS1 (as := [.long r1, .long (465585120 : Int64), .int part]) (rest := []) C lk_X6_124 (q4 c1 c2) (by decide) rfl rfl (Nat.le_of_ble_eq_true rfl) dX6_resists_34 ?_
      refine e_l2i C dX6_resists_37 ?_
      exact e_iret C X rfl (vp_nar_int _) dX6_resists_38 (h5 c1 c2)
    · refine e_ldc C kc_X6_64 dX6_resists_20 ?_
      exact e_iret C X rfl (vp_nar_int _) dX6_resists_22 (h6 c1 c2)
  · refine e_ldc C kc_X6_44 dX6_resists_7 ?_
    exact e_iret C X rfl (vp_nar_int _) dX6_resists_9 (h7 c1)
set_option maxRecDepth 100000 in
set_option maxHeartbeats 4000000 in
theorem kb_X6_swapped {k : ea_K} {o : Option Value} {M' : ea_M} (C : ea_C k RX6 cX6_swapped 8 3) (X : ea_X k (some .int) o M') {M : ea_M} {c s part : Int32} {r1 r2 : Int64}   (h2 : ¬ p_X4_isCell M 13 c → o = some (.int (-2000000001 : Int32)) ∧ M' = M) (q5 : p_X4_isCell M 13 c → p_X4_isStuff M 13 s → p_X6_isPart part → ea_Sp 2 yX4_resistsInAll cX4_resistsInAll 4 (some .long) [.ref 13] M (some (.long r1)) M) (q6 : p_X4_isCell M 13 c → p_X4_isStuff M 13 s → p_X6_isPart part → ea_Sp 1 yX6_lowest cX6_lowest 5 (some .long) [.long ((r1 - ((2 : Int64) * (f_X6_halfResists (f_X4_passesAt M 13 c)))) + ((2 : Int64) * (f_X6_halfResists (pa_at (M 16) 6 s)))), .long (465585120 : Int64), .int part] M (some (.long r2)) M) (h7 : p_X4_isCell M 13 c → p_X4_isStuff M 13 s → p_X6_isPart part → o = some (.int ((r2).toInt32)) ∧ M' = M) (h8 : p_X4_isCell M 13 c → p_X4_isStuff M 13 s → ¬ p_X6_isPart part → o = some (.int (-2000000002 : Int32)) ∧ M' = M) (h9 : p_X4_isCell M 13 c → ¬ p_X4_isStuff M 13 s → o = some (.int (-2000000001 : Int32)) ∧ M' = M) : ea_E k 0 [(0, .ref 0), (1, .int c), (2, .int s), (3, .int part)] [] M := by
  refine e_aload_n (n := 0) C dX6_swapped_0 rfl rfl ?_
  refine e_get (v := .ref 13) C fd_X6_19 (by decide) rfl rfl dX6_swapped_1 ?_
  refine e_iload_n (n := 1) C dX6_swapped_4 rfl rfl ?_
  refine e_callV1 (as := [.int c]) (rest := []) C lk_X6_112 (sp_X4_isCell (M := M) (x := 13) (i := c) rfl ) (by decide) rfl (by decide) rfl (by decide) rfl rfl (Nat.le_of_ble_eq_true rfl) dX6_swapped_5 ?_
  refine e_ifb_eq (tgt := 22) C dX6_swapped_8 (by decide) (fun c1 => ?_) (fun c1 => ?_)
  · refine e_ldc C kc_X6_93 dX6_swapped_22 ?_
    exact e_iret C X rfl (vp_nar_int _) dX6_swapped_24 (h2 c1)
  · refine e_aload_n (n := 0) C dX6_swapped_11 rfl rfl ?_
    refine e_get (v := .ref 13) C fd_X6_19 (by decide) rfl rfl dX6_swapped_12 ?_
    refine e_iload_n (n := 2) C dX6_swapped_15 rfl rfl ?_
    refine e_callV1 (as := [.int s]) (rest := []) C lk_X6_89 (sp_X4_isStuff (M := M) (x := 13) (i := s) rfl ) (by decide) rfl (by decide) rfl (by decide) rfl rfl (Nat.le_of_ble_eq_true rfl) dX6_swapped_16 ?_
    refine e_ifb_ne (tgt := 25) C dX6_swapped_19 (by decide) (fun c3 => ?_) (fun c3 => ?_)
    · refine e_iload_n (n := 3) C dX6_swapped_25 rfl rfl ?_
      refine e_callS1 (as := [.int part]) (rest := []) C lk_X6_130 (sp_X6_isPart (M := M) (i := part) ) (by decide) rfl rfl (Nat.le_of_ble_eq_true rfl) dX6_swapped_26 ?_
      refine e_ifb_ne (tgt := 35) C dX6_swapped_29 (by decide) (fun c4 => ?_) (fun c4 => ?_)
      · refine e_ldc2 C kc_X6_204 dX6_swapped_35 ?_
        refine e_aload_n (n := 0) C dX6_swapped_38 rfl rfl ?_
        refine e_get (v := .ref 13) C fd_X6_19 (by decide) rfl rfl dX6_swapped_39 ?_
        refine e_iload_n (n := 1) C dX6_swapped_42 rfl rfl ?_
        refine e_callV1 (as := [.int c]) (rest := [.long (2 : Int64)]) C lk_X6_206 (sp_X4_passesAt (M := M) (x := 13) (i := c) rfl ) (by decide) rfl (by decide) rfl (by decide) rfl rfl (Nat.le_of_ble_eq_true rfl) dX6_swapped_43 ?_
        refine e_callS1 (as := [.int (f_X4_passesAt M 13 c)]) (rest := [.long (2 : Int64)]) C lk_X6_209 (sp_X6_halfResists (M := M) (i := (f_X4_passesAt M 13 c)) ) (by decide) rfl rfl (Nat.le_of_ble_eq_true rfl) dX6_swapped_46 ?_
        refine e_lmul C dX6_swapped_49 ?_
        refine e_lstore C dX6_swapped_50 (by decide) rfl ?_
        refine e_ldc2 C kc_X6_204 dX6_swapped_52 ?_
        refine e_aload_n (n := 1) C dX6_swapped_55 rfl rfl ?_
        refine e_get (v := .ref 13) C fd_X6_19 (by decide) rfl rfl dX6_swapped_56 ?_
        refine e_get (v := .ref 16) C fd_X6_94 (by decide) rfl rfl dX6_swapped_59 ?_
        refine e_iload_n (n := 3) C dX6_swapped_62 rfl rfl ?_
        refine e_callS1 (as := [.ref 16, .int s]) (rest := [.long (2 : Int64)]) C lk_X6_98 (sp_X6_at M 16 6 s rfl (by decide) ) (by decide) rfl rfl (Nat.le_of_ble_eq_true rfl) dX6_swapped_63 ?_
        refine e_callS1 (as := [.int (pa_at (M 16) 6 s)]) (rest := [.long (2 : Int64)]) C lk_X6_209 (sp_X6_halfResists (M := M) (i := (pa_at (M 16) 6 s)) ) (by decide) rfl rfl (Nat.le_of_ble_eq_true rfl) dX6_swapped_66 ?_
        refine e_lmul C dX6_swapped_69 ?_
        refine e_lstore C dX6_swapped_70 (by decide) rfl ?_
        refine e_aload_n (n := 2) C dX6_swapped_72 rfl rfl ?_
        refine e_get (v := .ref 13) C fd_X6_19 (by decide) rfl rfl dX6_swapped_73 ?_
        refine e_callV1 (as := []) (rest := []) C lk_X6_139 (q5 c1 c3 c4) (by decide) rfl (by decide) rfl (by decide) rfl rfl (Nat.le_of_ble_eq_true rfl) dX6_swapped_76 ?_
        refine e_lload (n := 1) C dX6_swapped_79 rfl ?_
        refine e_lsub C dX6_swapped_81 ?_
        refine e_lload (n := 0) C dX6_swapped_82 rfl ?_
        refine e_ladd C dX6_swapped_84 ?_
        refine e_ldc2 C kc_X6_202 dX6_swapped_85 ?_
        refine e_iload_n (n := 5) C dX6_swapped_88 rfl rfl ?_
        refine e_callS1 (as := [.long ((r1 - ((2 : Int64) * (f_X6_halfResists (f_X4_passesAt M 13 c)))) + ((2 : Int64) * (f_X6_halfResists (pa_at (M 16) 6 s)))), .long (465585120 : Int64), .int part]) (rest := []) C lk_X6_124 (q6 c1 c3 c4) (by decide) rfl rfl (Nat.le_of_ble_eq_true rfl) dX6_swapped_89 ?_
        refine e_l2i C dX6_swapped_92 ?_
        exact e_iret C X rfl (vp_nar_int _) dX6_swapped_93 (h7 c1 c3 c4)
      · refine e_ldc C kc_X6_44 dX6_swapped_32 ?_
        exact e_iret C X rfl (vp_nar_int _) dX6_swapped_34 (h8 c1 c3 c4)
    · refine e_ldc C kc_X6_93 dX6_swapped_22 ?_
      exact e_iret C X rfl (vp_nar_int _) dX6_swapped_24 (h9 c1 c3)
set_option maxRecDepth 100000 in
set_option maxHeartbeats 4000000 in
theorem kb_X6_gain {k : ea_K} {o : Option Value} {M' : ea_M} (C : ea_C k RX6 cX6_gain 2 5) (X : ea_X k (some .int) o M') {M : ea_M} {c : Int32} {M1 : ea_M} {r1 : Int32}   (q2 : p_X4_isCell M 13 c → ea_Sp 4 yX4_advance cX4_advance 3 (some .boolean) [.ref 13, .ref 22] (g_X5_become M 22 20) (some (.int r1)) M1) (h4 : p_X4_isCell M 13 c → ¬ r1 = 0 → o = some (.int ((pa_at (M1 23) 10 c) - (pa_at (M1 21) 10 c))) ∧ M' = M1) (h5 : p_X4_isCell M 13 c → r1 = 0 → o = some (.int (-2000000003 : Int32)) ∧ M' = M1) (h6 : ¬ p_X4_isCell M 13 c → o = some (.int (-2000000001 : Int32)) ∧ M' = M) : ea_E k 0 [(0, .ref 0), (1, .int c)] [] M := by
  refine e_aload_n (n := 0) C dX6_gain_0 rfl rfl ?_
  refine e_get (v := .ref 13) C fd_X6_19 (by decide) rfl rfl dX6_gain_1 ?_
  refine e_iload_n (n := 1) C dX6_gain_4 rfl rfl ?_
  refine e_callV1 (as := [.int c]) (rest := []) C lk_X6_112 (sp_X4_isCell (M := M) (x := 13) (i := c) rfl ) (by decide) rfl (by decide) rfl (by decide) rfl rfl (Nat.le_of_ble_eq_true rfl) dX6_gain_5 ?_
  refine e_ifb_ne (tgt := 14) C dX6_gain_8 (by decide) (fun c1 => ?_) (fun c1 => ?_)
  · refine e_aload_n (n := 0) C dX6_gain_14 rfl rfl ?_
    refine e_get (v := .ref 22) C fd_X6_26 (by decide) rfl rfl dX6_gain_15 ?_
    refine e_aload_n (n := 0) C dX6_gain_18 rfl rfl ?_
    refine e_get (v := .ref 13) C fd_X6_19 (by decide) rfl rfl dX6_gain_19 ?_
    refine e_get (v := .ref 20) C fd_X6_72 (by decide) rfl rfl dX6_gain_22 ?_
    refine e_callV0 (as := [.ref 20]) (rest := []) C lk_X6_200 (sp_X5_become (M := M) (x := 22) (y := 20) rfl rfl (by decide) (by decide) (by decide) (by decide) (by decide) ) (by decide) rfl (by decide) rfl (by decide) rfl rfl (Nat.le_of_ble_eq_true rfl) dX6_gain_25 ?_
    refine e_aload_n (n := 0) C dX6_gain_28 rfl rfl ?_
    refine e_get (v := .ref 13) C fd_X6_19 (by decide) rfl rfl dX6_gain_29 ?_
    refine e_aload_n (n := 0) C dX6_gain_32 rfl rfl ?_
    refine e_get (v := .ref 22) C fd_X6_26 (by decide) rfl rfl dX6_gain_33 ?_
    refine e_callV1 (as := [.ref 22]) (rest := []) C lk_X6_156 (q2 c1) (by decide) rfl (by decide) rfl (by decide) rfl rfl (Nat.le_of_ble_eq_true rfl) dX6_gain_36 ?_
    refine e_if_ne (tgt := 45) C dX6_gain_39 (by decide) (fun c3 => ?_) (fun c3 => ?_)
    · refine e_aload_n (n := 0) C dX6_gain_45 rfl rfl ?_
      refine e_get (v := .ref 22) C fd_X6_26 (by decide) rfl rfl dX6_gain_46 ?_
      refine e_get (v := .ref 23) C fd_X6_115 (by decide) rfl rfl dX6_gain_49 ?_
      refine e_iload_n (n := 1) C dX6_gain_52 rfl rfl ?_
      refine e_callS1 (as := [.ref 23, .int c]) (rest := []) C lk_X6_98 (sp_X6_at M1 23 10 c rfl (by decide) ) (by decide) rfl rfl (Nat.le_of_ble_eq_true rfl) dX6_gain_53 ?_
      refine e_aload_n (n := 0) C dX6_gain_56 rfl rfl ?_
      refine e_get (v := .ref 13) C fd_X6_19 (by decide) rfl rfl dX6_gain_57 ?_
      refine e_get (v := .ref 20) C fd_X6_72 (by decide) rfl rfl dX6_gain_60 ?_
      refine e_get (v := .ref 21) C fd_X6_115 (by decide) rfl rfl dX6_gain_63 ?_
      refine e_iload_n (n := 1) C dX6_gain_66 rfl rfl ?_
      refine e_callS1 (as := [.ref 21, .int c]) (rest := [.int (pa_at (M1 23) 10 c)]) C lk_X6_98 (sp_X6_at M1 21 10 c rfl (by decide) ) (by decide) rfl rfl (Nat.le_of_ble_eq_true rfl) dX6_gain_67 ?_
      refine e_isub C dX6_gain_70 ?_
      exact e_iret C X rfl (vp_nar_int _) dX6_gain_71 (h4 c1 c3)
    · refine e_ldc C kc_X6_64 dX6_gain_42 ?_
      exact e_iret C X rfl (vp_nar_int _) dX6_gain_44 (h5 c1 c3)
  · refine e_ldc C kc_X6_93 dX6_gain_11 ?_
    exact e_iret C X rfl (vp_nar_int _) dX6_gain_13 (h6 c1)
set_option maxRecDepth 100000 in
set_option maxHeartbeats 4000000 in
theorem kb_X6_page_b {k : ea_K} {o : Option Value} {M' : ea_M} (C : ea_C k RX6 cX6_page 3 1) (X : ea_X k (some .int) o M') {M : ea_M} {z : Nat} {p : Int32} (hz : ea_kd z = 0)  (q1 : ea_Sp 0 yX6_bookAt cX6_bookAt 2 (some (.object "WallHeat$Book")) [.ref 0, .int p] M (some (.ref z)) M) (h2 : o = some (.int (0 : Int32)) ∧ M' = (ea_up (ea_up M z 0 (1 : Int32)) z 1 (0 : Int32))) : ea_E k 0 [(0, .ref 0), (1, .int p)] [] M := by
  refine e_aload_n (n := 0) C dX6_page_0 rfl rfl ?_
  refine e_iload_n (n := 1) C dX6_page_1 rfl rfl ?_
  refine e_callV1 (as := [.int p]) (rest := []) C lk_X6_212 q1 (by decide) rfl (by decide) rfl (by decide) rfl rfl (Nat.le_of_ble_eq_true rfl) dX6_page_2 ?_
  refine e_astore_n C dX6_page_5 rfl (by decide) rfl ?_
  refine e_aload_n (n := 0) C dX6_page_6 rfl rfl ?_
  refine e_ifnonnull (tgt := 13) C dX6_page_7 (by decide) ?_
  refine e_aload_n (n := 0) C dX6_page_13 rfl rfl ?_
  refine e_iconst (v := 1) C dX6_page_14 (by decide) ?_
  refine e_put (ty := .boolean) C fd_X6_216 (ea_ltO (by decide) hz) hz rfl (by decide +kernel) rfl rfl (ea_set0_0 _ _ _) dX6_page_15 ?_
  refine e_aload_n (n := 0) C dX6_page_18 rfl rfl ?_
  refine e_iconst (v := 0) C dX6_page_19 (by decide) ?_
  refine e_put (ty := .int) C fd_X6_220 (ea_ltO (by decide) hz) hz rfl (by decide +kernel) (vp_nar_int _) rfl (ea_set0_1 _ _ _) dX6_page_20 ?_
  refine e_iconst (v := 0) C dX6_page_23 (by decide) ?_
  exact e_iret C X rfl (vp_nar_int _) dX6_page_24 h2
set_option maxRecDepth 100000 in
set_option maxHeartbeats 4000000 in
theorem kb_X6_put_b {k : ea_K} {o : Option Value} {M' : ea_M} (C : ea_C k RX6 cX6_put 8 2) (X : ea_X k (some .int) o M') {M : ea_M} {z : Nat} {p a b v : Int32} {r1 : Int32} (hz : ea_kd z = 0)  (q1 : ea_Sp 0 yX6_bookAt cX6_bookAt 2 (some (.object "WallHeat$Book")) [.ref 0, .int p] M (some (.ref z)) M) (h3 : ¬ p_X6_isKey a b → o = some (.int (-2000000002 : Int32)) ∧ M' = M) (h5 : p_X6_isKey a b → v < (-999 : Int32) → o = some (.int (-2000000002 : Int32)) ∧ M' = M) (q8 : p_X6_isKey a b → ¬ v < (-999 : Int32) → v ≤ (999 : Int32) → ¬ (M z 0) = 0 → ea_Sp 1 yX0_placeOf cX0_placeOf 4 (some .int) [.ref z, .int a, .int b] M (some (.int r1)) M) (h11 : p_X6_isKey a b → ¬ v < (-999 : Int32) → v ≤ (999 : Int32) → ¬ (M z 0) = 0 → ¬ r1 = (-1 : Int32) → ¬ r1 = (-1 : Int32) → o = some (.int (pa_at (M (z + 3)) 8 r1)) ∧ M' = (pa_set M (z + 3) 8 r1 v)) (h12 : p_X6_isKey a b → ¬ v < (-999 : Int32) → v ≤ (999 : Int32) → ¬ (M z 0) = 0 → ¬ r1 = (-1 : Int32) → r1 = (-1 : Int32) → o = some (.int (f_X0_enter z a b v)) ∧ M' = (g_X0_enter M z a b v)) (h15 : p_X6_isKey a b → ¬ v < (-999 : Int32) → v ≤ (999 : Int32) → ¬ (M z 0) = 0 → r1 = (-1 : Int32) → (M z 1) < (8 : Int32) → ¬ r1 = (-1 : Int32) → o = some (.int (pa_at (M (z + 3)) 8 r1)) ∧ M' = (pa_set M (z + 3) 8 r1 v)) (h16 : p_X6_isKey a b → ¬ v < (-999 : Int32) → v ≤ (999 : Int32) → ¬ (M z 0) = 0 → r1 = (-1 : Int32) → (M z 1) < (8 : Int32) → r1 = (-1 : Int32) → o = some (.int (f_X0_enter z a b v)) ∧ M' = (g_X0_enter M z a b v)) (h17 : p_X6_isKey a b → ¬ v < (-999 : Int32) → v ≤ (999 : Int32) → ¬ (M z 0) = 0 → r1 = (-1 : Int32) → ¬ (M z 1) < (8 : Int32) → o = some (.int (-2000000013 : Int32)) ∧ M' = M) (h18 : p_X6_isKey a b → ¬ v < (-999 : Int32) → v ≤ (999 : Int32) → (M z 0) = 0 → o = some (.int (-2000000011 : Int32)) ∧ M' = M) (h19 : p_X6_isKey a b → ¬ v < (-999 : Int32) → ¬ v ≤ (999 : Int32) → o = some (.int (-2000000002 : Int32)) ∧ M' = M) : ea_E k 0 [(0, .ref 0), (1, .int p), (2, .int a), (3, .int b), (4, .int v)] [] M := by
  refine e_aload_n (n := 0) C dX6_put_0 rfl rfl ?_
  refine e_iload_n (n := 1) C dX6_put_1 rfl rfl ?_
  refine e_callV1 (as := [.int p]) (rest := []) C lk_X6_212 q1 (by decide) rfl (by decide) rfl (by decide) rfl rfl (Nat.le_of_ble_eq_true rfl) dX6_put_2 ?_
  refine e_astore C dX6_put_5 (by decide) rfl ?_
  refine e_aload (n := 0) C dX6_put_7 rfl ?_
  refine e_ifnonnull (tgt := 15) C dX6_put_9 (by decide) ?_
  refine e_iload_n (n := 3) C dX6_put_15 rfl rfl ?_
  refine e_iload_n (n := 4) C dX6_put_16 rfl rfl ?_
  refine e_callS1 (as := [.int a, .int b]) (rest := []) C lk_X6_223 (sp_X6_isKey (M := M) (i := a) (j := b) ) (by decide) rfl rfl (Nat.le_of_ble_eq_true rfl) dX6_put_17 ?_
  refine e_ifb_eq (tgt := 39) C dX6_put_20 (by decide) (fun c2 => ?_) (fun c2 => ?_)
  · refine e_ldc C kc_X6_44 dX6_put_39 ?_
    exact e_iret C X rfl (vp_nar_int _) dX6_put_41 (h3 c2)
  · refine e_iload (n := 5) C dX6_put_23 rfl ?_
    refine e_sipush (v := -999) C dX6_put_25 (by decide) ?_
    refine e_icmp_lt (tgt := 39) C dX6_put_28 (by decide) (fun c4 => ?_) (fun c4 => ?_)
    · refine e_ldc C kc_X6_44 dX6_put_39 ?_
      exact e_iret C X rfl (vp_nar_int _) dX6_put_41 (h5 c2 c4)
    · refine e_iload (n := 5) C dX6_put_31 rfl ?_
      refine e_sipush (v := 999) C dX6_put_33 (by decide) ?_
      refine e_icmp_le (tgt := 42) C dX6_put_36 (by decide) (fun c6 => ?_) (fun c6 => ?_)
      · refine e_aload (n := 0) C dX6_put_42 rfl ?_
        refine e_get (v := .int (M z 0)) C fd_X6_216 (ea_ltO (by decide) hz) hz rfl dX6_put_44 ?_
        refine e_if_ne (tgt := 53) C dX6_put_47 (by decide) (fun c7 => ?_) (fun c7 => ?_)
        · refine e_aload (n := 0) C dX6_put_53 rfl ?_
          refine e_iload_n (n := 3) C dX6_put_55 rfl rfl ?_
          refine e_iload_n (n := 4) C dX6_put_56 rfl rfl ?_
          refine e_callV1 (as := [.int a, .int b]) (rest := []) C lk_X6_228 (q8 c2 c4 c6 c7) (by decide) rfl (ea_ltO (by decide) hz) hz (by decide) rfl rfl (Nat.le_of_ble_eq_true rfl) dX6_put_57 ?_
          refine e_istore C dX6_put_60 (by decide) rfl ?_
          refine e_iload (n := 0) C dX6_put_62 rfl ?_
          refine e_iconst (v := -1) C dX6_put_64 (by decide) ?_
          refine e_icmp_ne (tgt := 81) C dX6_put_65 (by decide) (fun c9 => ?_) (fun c9 => ?_)
          · refine e_iload (n := 0) C dX6_put_81 rfl ?_
            refine e_iconst (v := -1) C dX6_put_83 (by decide) ?_
            refine e_icmp_ne (tgt := 97) C dX6_put_84 (by decide) (fun c10 => ?_) (fun c10 => ?_)
            · refine e_aload (n := 1) C dX6_put_97 rfl ?_
              refine e_get (v := .ref (z + 3)) C fd_X6_237 (ea_ltO (by decide) hz) hz rfl dX6_put_99 ?_
              refine e_iload (n := 0) C dX6_put_102 rfl ?_
              refine e_callS1 (as := [.ref (z + 3), .int r1]) (rest := []) C lk_X6_98 (sp_X6_at M (z + 3) 8 r1 (kd0_3 hz) (by decide) ) (by decide) rfl rfl (Nat.le_of_ble_eq_true rfl) dX6_put_104 ?_
              refine e_istore C dX6_put_107 (by decide) rfl ?_
              refine e_aload (n := 2) C dX6_put_109 rfl ?_
              refine e_get (v := .ref (z + 3)) C fd_X6_237 (ea_ltO (by decide) hz) hz rfl dX6_put_111 ?_
              refine e_iload (n := 1) C dX6_put_114 rfl ?_
              refine e_iload (n := 7) C dX6_put_116 rfl ?_
              refine e_callS0 (as := [.ref (z + 3), .int r1, .int v]) (rest := []) C lk_X6_163 (sp_X6_set M (z + 3) 8 r1 v (kd0_3 hz) (by decide) ) (by decide) rfl rfl (Nat.le_of_ble_eq_true rfl) dX6_put_118 ?_
              refine e_iload (n := 0) C dX6_put_121 rfl ?_
              exact e_iret C X rfl (vp_nar_int _) dX6_put_123 (h11 c2 c4 c6 c7 c9 c10)
            · refine e_aload (n := 1) C dX6_put_87 rfl ?_
              refine e_iload_n (n := 4) C dX6_put_89 rfl rfl ?_
              refine e_iload_n (n := 5) C dX6_put_90 rfl rfl ?_
              refine e_iload (n := 6) C dX6_put_91 rfl ?_
              refine e_callV1 (as := [.int a, .int b, .int v]) (rest := []) C lk_X6_233 (sp_X0_enter (M := M) (x := z) (a := a) (b := b) (c := v) hz ) (by decide) rfl (ea_ltO (by decide) hz) hz (by decide) rfl rfl (Nat.le_of_ble_eq_true rfl) dX6_put_93 ?_
              exact e_iret C X rfl (vp_nar_int _) dX6_put_96 (h12 c2 c4 c6 c7 c9 c10)
          · refine e_aload (n := 1) C dX6_put_68 rfl ?_
            refine e_get (v := .int (M z 1)) C fd_X6_220 (ea_ltO (by decide) hz) hz rfl dX6_put_70 ?_
            refine e_bipush (v := 8) C dX6_put_73 (by decide) ?_
            refine e_icmp_lt (tgt := 81) C dX6_put_75 (by decide) (fun c13 => ?_) (fun c13 => ?_)
            · refine e_iload (n := 0) C dX6_put_81 rfl ?_
              refine e_iconst (v := -1) C dX6_put_83 (by decide) ?_
              refine e_icmp_ne (tgt := 97) C dX6_put_84 (by decide) (fun c14 => ?_) (fun c14 => ?_)
              · refine e_aload (n := 1) C dX6_put_97 rfl ?_
                refine e_get (v := .ref (z + 3)) C fd_X6_237 (ea_ltO (by decide) hz) hz rfl dX6_put_99 ?_
                refine e_iload (n := 0) C dX6_put_102 rfl ?_
                refine e_callS1 (as := [.ref (z + 3), .int r1]) (rest := []) C lk_X6_98 (sp_X6_at M (z + 3) 8 r1 (kd0_3 hz) (by decide) ) (by decide) rfl rfl (Nat.le_of_ble_eq_true rfl) dX6_put_104 ?_
                refine e_istore C dX6_put_107 (by decide) rfl ?_
                refine e_aload (n := 2) C dX6_put_109 rfl ?_
                refine e_get (v := .ref (z + 3)) C fd_X6_237 (ea_ltO (by decide) hz) hz rfl dX6_put_111 ?_
                refine e_iload (n := 1) C dX6_put_114 rfl ?_
                refine e_iload (n := 7) C dX6_put_116 rfl ?_
                refine e_callS0 (as := [.ref (z + 3), .int r1, .int v]) (rest := []) C lk_X6_163 (sp_X6_set M (z + 3) 8 r1 v (kd0_3 hz) (by decide) ) (by decide) rfl rfl (Nat.le_of_ble_eq_true rfl) dX6_put_118 ?_
                refine e_iload (n := 0) C dX6_put_121 rfl ?_
                exact e_iret C X rfl (vp_nar_int _) dX6_put_123 (h15 c2 c4 c6 c7 c9 c13 c14)
              · refine e_aload (n := 1) C dX6_put_87 rfl ?_
                refine e_iload_n (n := 4) C dX6_put_89 rfl rfl ?_
                refine e_iload_n (n := 5) C dX6_put_90 rfl rfl ?_
                refine e_iload (n := 6) C dX6_put_91 rfl ?_
                refine e_callV1 (as := [.int a, .int b, .int v]) (rest := []) C lk_X6_233 (sp_X0_enter (M := M) (x := z) (a := a) (b := b) (c := v) hz ) (by decide) rfl (ea_ltO (by decide) hz) hz (by decide) rfl rfl (Nat.le_of_ble_eq_true rfl) dX6_put_93 ?_
                exact e_iret C X rfl (vp_nar_int _) dX6_put_96 (h16 c2 c4 c6 c7 c9 c13 c14)
            · refine e_ldc C kc_X6_232 dX6_put_78 ?_
              exact e_iret C X rfl (vp_nar_int _) dX6_put_80 (h17 c2 c4 c6 c7 c9 c13)
        · refine e_ldc C kc_X6_227 dX6_put_50 ?_
          exact e_iret C X rfl (vp_nar_int _) dX6_put_52 (h18 c2 c4 c6 c7)
      · refine e_ldc C kc_X6_44 dX6_put_39 ?_
        exact e_iret C X rfl (vp_nar_int _) dX6_put_41 (h19 c2 c4 c6)
set_option maxRecDepth 100000 in
set_option maxHeartbeats 4000000 in
theorem kb_X6_get_b {k : ea_K} {o : Option Value} {M' : ea_M} (C : ea_C k RX6 cX6_get 6 2) (X : ea_X k (some .int) o M') {M : ea_M} {z : Nat} {p a b : Int32} {r1 : Int32} (hz : ea_kd z = 0)  (q1 : ea_Sp 0 yX6_bookAt cX6_bookAt 2 (some (.object "WallHeat$Book")) [.ref 0, .int p] M (some (.ref z)) M) (q4 : p_X6_isKey a b → ¬ (M z 0) = 0 → ea_Sp 1 yX0_placeOf cX0_placeOf 4 (some .int) [.ref z, .int a, .int b] M (some (.int r1)) M) (h6 : p_X6_isKey a b → ¬ (M z 0) = 0 → ¬ r1 = (-1 : Int32) → o = some (.int (pa_at (M (z + 3)) 8 r1)) ∧ M' = M) (h7 : p_X6_isKey a b → ¬ (M z 0) = 0 → r1 = (-1 : Int32) → o = some (.int (-2000000012 : Int32)) ∧ M' = M) (h8 : p_X6_isKey a b → (M z 0) = 0 → o = some (.int (-2000000011 : Int32)) ∧ M' = M) (h9 : ¬ p_X6_isKey a b → o = some (.int (-2000000002 : Int32)) ∧ M' = M) : ea_E k 0 [(0, .ref 0), (1, .int p), (2, .int a), (3, .int b)] [] M := by
  refine e_aload_n (n := 0) C dX6_get_0 rfl rfl ?_
  refine e_iload_n (n := 1) C dX6_get_1 rfl rfl ?_
  refine e_callV1 (as := [.int p]) (rest := []) C lk_X6_212 q1 (by decide) rfl (by decide) rfl (by decide) rfl rfl (Nat.le_of_ble_eq_true rfl) dX6_get_2 ?_
  refine e_astore C dX6_get_5 (by decide) rfl ?_
  refine e_aload (n := 0) C dX6_get_7 rfl ?_
  refine e_ifnonnull (tgt := 15) C dX6_get_9 (by decide) ?_
  refine e_iload_n (n := 3) C dX6_get_15 rfl rfl ?_
  refine e_iload_n (n := 4) C dX6_get_16 rfl rfl ?_
  refine e_callS1 (as := [.int a, .int b]) (rest := []) C lk_X6_223 (sp_X6_isKey (M := M) (i := a) (j := b) ) (by decide) rfl rfl (Nat.le_of_ble_eq_true rfl) dX6_get_17 ?_
  refine e_ifb_ne (tgt := 26) C dX6_get_20 (by decide) (fun c2 => ?_) (fun c2 => ?_)
  · refine e_aload (n := 0) C dX6_get_26 rfl ?_
    refine e_get (v := .int (M z 0)) C fd_X6_216 (ea_ltO (by decide) hz) hz rfl dX6_get_28 ?_
    refine e_if_ne (tgt := 37) C dX6_get_31 (by decide) (fun c3 => ?_) (fun c3 => ?_)
    · refine e_aload (n := 0) C dX6_get_37 rfl ?_
      refine e_iload_n (n := 3) C dX6_get_39 rfl rfl ?_
      refine e_iload_n (n := 4) C dX6_get_40 rfl rfl ?_
      refine e_callV1 (as := [.int a, .int b]) (rest := []) C lk_X6_228 (q4 c2 c3) (by decide) rfl (ea_ltO (by decide) hz) hz (by decide) rfl rfl (Nat.le_of_ble_eq_true rfl) dX6_get_41 ?_
      refine e_istore C dX6_get_44 (by decide) rfl ?_
      refine e_iload (n := 0) C dX6_get_46 rfl ?_
      refine e_iconst (v := -1) C dX6_get_48 (by decide) ?_
      refine e_icmp_ne (tgt := 57) C dX6_get_49 (by decide) (fun c5 => ?_) (fun c5 => ?_)
      · refine e_aload (n := 1) C dX6_get_57 rfl ?_
        refine e_get (v := .ref (z + 3)) C fd_X6_237 (ea_ltO (by decide) hz) hz rfl dX6_get_59 ?_
        refine e_iload (n := 0) C dX6_get_62 rfl ?_
        refine e_callS1 (as := [.ref (z + 3), .int r1]) (rest := []) C lk_X6_98 (sp_X6_at M (z + 3) 8 r1 (kd0_3 hz) (by decide) ) (by decide) rfl rfl (Nat.le_of_ble_eq_true rfl) dX6_get_64 ?_
        exact e_iret C X rfl (vp_nar_int _) dX6_get_67 (h6 c2 c3 c5)
      · refine e_ldc C kc_X6_240 dX6_get_52 ?_
        refine e_goto (tgt := 67) C dX6_get_54 (by decide) ?_
        exact e_iret C X rfl (vp_nar_int _) dX6_get_67 (h7 c2 c3 c5)
    · refine e_ldc C kc_X6_227 dX6_get_34 ?_
      exact e_iret C X rfl (vp_nar_int _) dX6_get_36 (h8 c2 c3)
  · refine e_ldc C kc_X6_44 dX6_get_23 ?_
    exact e_iret C X rfl (vp_nar_int _) dX6_get_25 (h9 c2)
set_option maxRecDepth 100000 in
set_option maxHeartbeats 4000000 in
theorem kb_X6_strike_b {k : ea_K} {o : Option Value} {M' : ea_M} (C : ea_C k RX6 cX6_strike 6 2) (X : ea_X k (some .int) o M') {M : ea_M} {z : Nat} {p a b : Int32} {r1 : Int32} (hz : ea_kd z = 0)  (q1 : ea_Sp 0 yX6_bookAt cX6_bookAt 2 (some (.object "WallHeat$Book")) [.ref 0, .int p] M (some (.ref z)) M) (q4 : p_X6_isKey a b → ¬ (M z 0) = 0 → ea_Sp 1 yX0_placeOf cX0_placeOf 4 (some .int) [.ref z, .int a, .int b] M (some (.int r1)) M) (h6 : p_X6_isKey a b → ¬ (M z 0) = 0 → ¬ r1 = (-1 : Int32) → o = some (.int (f_X0_remove M z r1)) ∧ M' = (g_X0_remove M z r1)) (h7 : p_X6_isKey a b → ¬ (M z 0) = 0 → r1 = (-1 : Int32) → o = some (.int (-2000000012 : Int32)) ∧ M' = M) (h8 : p_X6_isKey a b → (M z 0) = 0 → o = some (.int (-2000000011 : Int32)) ∧ M' = M) (h9 : ¬ p_X6_isKey a b → o = some (.int (-2000000002 : Int32)) ∧ M' = M) : ea_E k 0 [(0, .ref 0), (1, .int p), (2, .int a), (3, .int b)] [] M := by
  refine e_aload_n (n := 0) C dX6_strike_0 rfl rfl ?_
  refine e_iload_n (n := 1) C dX6_strike_1 rfl rfl ?_
  refine e_callV1 (as := [.int p]) (rest := []) C lk_X6_212 q1 (by decide) rfl (by decide) rfl (by decide) rfl rfl (Nat.le_of_ble_eq_true rfl) dX6_strike_2 ?_
  refine e_astore C dX6_strike_5 (by decide) rfl ?_
  refine e_aload (n := 0) C dX6_strike_7 rfl ?_
  refine e_ifnonnull (tgt := 15) C dX6_strike_9 (by decide) ?_
  refine e_iload_n (n := 3) C dX6_strike_15 rfl rfl ?_
  refine e_iload_n (n := 4) C dX6_strike_16 rfl rfl ?_
  refine e_callS1 (as := [.int a, .int b]) (rest := []) C lk_X6_223 (sp_X6_isKey (M := M) (i := a) (j := b) ) (by decide) rfl rfl (Nat.le_of_ble_eq_true rfl) dX6_strike_17 ?_
  refine e_ifb_ne (tgt := 26) C dX6_strike_20 (by decide) (fun c2 => ?_) (fun c2 => ?_)
  · refine e_aload (n := 0) C dX6_strike_26 rfl ?_
    refine e_get (v := .int (M z 0)) C fd_X6_216 (ea_ltO (by decide) hz) hz rfl dX6_strike_28 ?_
    refine e_if_ne (tgt := 37) C dX6_strike_31 (by decide) (fun c3 => ?_) (fun c3 => ?_)
    · refine e_aload (n := 0) C dX6_strike_37 rfl ?_
      refine e_iload_n (n := 3) C dX6_strike_39 rfl rfl ?_
      refine e_iload_n (n := 4) C dX6_strike_40 rfl rfl ?_
      refine e_callV1 (as := [.int a, .int b]) (rest := []) C lk_X6_228 (q4 c2 c3) (by decide) rfl (ea_ltO (by decide) hz) hz (by decide) rfl rfl (Nat.le_of_ble_eq_true rfl) dX6_strike_41 ?_
      refine e_istore C dX6_strike_44 (by decide) rfl ?_
      refine e_iload (n := 0) C dX6_strike_46 rfl ?_
      refine e_iconst (v := -1) C dX6_strike_48 (by decide) ?_
      refine e_icmp_ne (tgt := 57) C dX6_strike_49 (by decide) (fun c5 => ?_) (fun c5 => ?_)
      · refine e_aload (n := 1) C dX6_strike_57 rfl ?_
        refine e_iload (n := 0) C dX6_strike_59 rfl ?_
        refine e_callV1 (as := [.int r1]) (rest := []) C lk_X6_241 (sp_X0_remove (M := M) (x := z) (i := r1) hz ) (by decide) rfl (ea_ltO (by decide) hz) hz (by decide) rfl rfl (Nat.le_of_ble_eq_true rfl) dX6_strike_61 ?_
        exact e_iret C X rfl (vp_nar_int _) dX6_strike_64 (h6 c2 c3 c5)
      · refine e_ldc C kc_X6_240 dX6_strike_52 ?_
        refine e_goto (tgt := 64) C dX6_strike_54 (by decide) ?_
        exact e_iret C X rfl (vp_nar_int _) dX6_strike_64 (h7 c2 c3 c5)
    · refine e_ldc C kc_X6_227 dX6_strike_34 ?_
      exact e_iret C X rfl (vp_nar_int _) dX6_strike_36 (h8 c2 c3)
  · refine e_ldc C kc_X6_44 dX6_strike_23 ?_
    exact e_iret C X rfl (vp_nar_int _) dX6_strike_25 (h9 c2)
set_option maxRecDepth 100000 in
set_option maxHeartbeats 4000000 in
theorem kb_X6_sum_b {k : ea_K} {o : Option Value} {M' : ea_M} (C : ea_C k RX6 cX6_sum 4 2) (X : ea_X k (some .int) o M') {M : ea_M} {z : Nat} {p w : Int32} {r1 r2 : Int32} (hz : ea_kd z = 0)  (q1 : ea_Sp 0 yX6_bookAt cX6_bookAt 2 (some (.object "WallHeat$Book")) [.ref 0, .int p] M (some (.ref z)) M) (h3 : w < 0 → o = some (.int (-2000000002 : Int32)) ∧ M' = M) (q8 : ¬ w < 0 → w ≤ (2 : Int32) → ¬ (M z 0) = 0 → ¬ w = (1 : Int32) → ¬ w = 0 → ea_Sp 1 yX6_total cX6_total 4 (some .int) [.ref (z + 2), .int (M z 1)] M (some (.int r1)) M) (h9 : ¬ w < 0 → w ≤ (2 : Int32) → ¬ (M z 0) = 0 → ¬ w = (1 : Int32) → ¬ w = 0 → o = some (.int r1) ∧ M' = M) (q10 : ¬ w < 0 → w ≤ (2 : Int32) → ¬ (M z 0) = 0 → ¬ w = (1 : Int32) → w = 0 → ea_Sp 1 yX6_total cX6_total 4 (some .int) [.ref (z + 3), .int (M z 1)] M (some (.int r2)) M) (h11 : ¬ w < 0 → w ≤ (2 : Int32) → ¬ (M z 0) = 0 → ¬ w = (1 : Int32) → w = 0 → o = some (.int r2) ∧ M' = M) (h12 : ¬ w < 0 → w ≤ (2 : Int32) → ¬ (M z 0) = 0 → w = (1 : Int32) → o = some (.int (M z 1)) ∧ M' = M) (h13 : ¬ w < 0 → w ≤ (2 : Int32) → (M z 0) = 0 → o = some (.int (-2000000011 : Int32)) ∧ M' = M) (h14 : ¬ w < 0 → ¬ w ≤ (2 : Int32) → o = some (.int (-2000000002 : Int32)) ∧ M' = M) : ea_E k 0 [(0, .ref 0), (1, .int p), (2, .int w)] [] M := by
  refine e_aload_n (n := 0) C dX6_sum_0 rfl rfl ?_
  refine e_iload_n (n := 1) C dX6_sum_1 rfl rfl ?_
  refine e_callV1 (as := [.int p]) (rest := []) C lk_X6_212 q1 (by decide) rfl (by decide) rfl (by decide) rfl rfl (Nat.le_of_ble_eq_true rfl) dX6_sum_2 ?_
  refine e_astore_n C dX6_sum_5 rfl (by decide) rfl ?_
  refine e_aload_n (n := 0) C dX6_sum_6 rfl rfl ?_
  refine e_ifnonnull (tgt := 13) C dX6_sum_7 (by decide) ?_
  refine e_iload_n (n := 3) C dX6_sum_13 rfl rfl ?_
  refine e_if_lt (tgt := 22) C dX6_sum_14 (by decide) (fun c2 => ?_) (fun c2 => ?_)
  · refine e_ldc C kc_X6_44 dX6_sum_22 ?_
    exact e_iret C X rfl (vp_nar_int _) dX6_sum_24 (h3 c2)
  · refine e_iload_n (n := 3) C dX6_sum_17 rfl rfl ?_
    refine e_iconst (v := 2) C dX6_sum_18 (by decide) ?_
    refine e_icmp_le (tgt := 25) C dX6_sum_19 (by decide) (fun c4 => ?_) (fun c4 => ?_)
    · refine e_aload_n (n := 0) C dX6_sum_25 rfl rfl ?_
      refine e_get (v := .int (M z 0)) C fd_X6_216 (ea_ltO (by decide) hz) hz rfl dX6_sum_26 ?_
      refine e_if_ne (tgt := 35) C dX6_sum_29 (by decide) (fun c5 => ?_) (fun c5 => ?_)
      · refine e_iload_n (n := 3) C dX6_sum_35 rfl rfl ?_
        refine e_iconst (v := 1) C dX6_sum_36 (by decide) ?_
        refine e_icmp_ne (tgt := 45) C dX6_sum_37 (by decide) (fun c6 => ?_) (fun c6 => ?_)
        · refine e_iload_n (n := 3) C dX6_sum_45 rfl rfl ?_
          refine e_if_ne (tgt := 56) C dX6_sum_46 (by decide) (fun c7 => ?_) (fun c7 => ?_)
          · refine e_aload_n (n := 0) C dX6_sum_56 rfl rfl ?_
            refine e_get (v := .ref (z + 2)) C fd_X6_248 (ea_ltO (by decide) hz) hz rfl dX6_sum_57 ?_
            refine e_aload_n (n := 0) C dX6_sum_60 rfl rfl ?_
            refine e_get (v := .int (M z 1)) C fd_X6_220 (ea_ltO (by decide) hz) hz rfl dX6_sum_61 ?_
            refine e_callS1 (as := [.ref (z + 2), .int (M z 1)]) (rest := []) C lk_X6_251 (q8 c2 c4 c5 c6 c7) (by decide) rfl rfl (Nat.le_of_ble_eq_true rfl) dX6_sum_64 ?_
            exact e_iret C X rfl (vp_nar_int _) dX6_sum_67 (h9 c2 c4 c5 c6 c7)
          · refine e_aload_n (n := 0) C dX6_sum_49 rfl rfl ?_
            refine e_get (v := .ref (z + 3)) C fd_X6_237 (ea_ltO (by decide) hz) hz rfl dX6_sum_50 ?_
            refine e_goto (tgt := 60) C dX6_sum_53 (by decide) ?_
            refine e_aload_n (n := 0) C dX6_sum_60 rfl rfl ?_
            refine e_get (v := .int (M z 1)) C fd_X6_220 (ea_ltO (by decide) hz) hz rfl dX6_sum_61 ?_
            refine e_callS1 (as := [.ref (z + 3), .int (M z 1)]) (rest := []) C lk_X6_251 (q10 c2 c4 c5 c6 c7) (by decide) rfl rfl (Nat.le_of_ble_eq_true rfl) dX6_sum_64 ?_
            exact e_iret C X rfl (vp_nar_int _) dX6_sum_67 (h11 c2 c4 c5 c6 c7)
        · refine e_aload_n (n := 0) C dX6_sum_40 rfl rfl ?_
          refine e_get (v := .int (M z 1)) C fd_X6_220 (ea_ltO (by decide) hz) hz rfl dX6_sum_41 ?_
          exact e_iret C X rfl (vp_nar_int _) dX6_sum_44 (h12 c2 c4 c5 c6)
      · refine e_ldc C kc_X6_227 dX6_sum_32 ?_
        exact e_iret C X rfl (vp_nar_int _) dX6_sum_34 (h13 c2 c4 c5)
    · refine e_ldc C kc_X6_44 dX6_sum_22 ?_
      exact e_iret C X rfl (vp_nar_int _) dX6_sum_24 (h14 c2 c4)
set_option maxRecDepth 100000 in
set_option maxHeartbeats 4000000 in
theorem kb_X6_drop_b {k : ea_K} {o : Option Value} {M' : ea_M} (C : ea_C k RX6 cX6_drop 4 2) (X : ea_X k (some .int) o M') {M : ea_M} {z : Nat} {p : Int32} {M1 : ea_M} (hz : ea_kd z = 0)  (q1 : ea_Sp 0 yX6_bookAt cX6_bookAt 2 (some (.object "WallHeat$Book")) [.ref 0, .int p] M (some (.ref z)) M) (q3 : ¬ (M z 0) = 0 → ea_Sp 1 yX6_missPage cX6_missPage 3 none [.ref 0, .int p] M none M1) (h4 : ¬ (M z 0) = 0 → o = some (.int (M z 1)) ∧ M' = M1) (h5 : (M z 0) = 0 → o = some (.int (-2000000011 : Int32)) ∧ M' = M) : ea_E k 0 [(0, .ref 0), (1, .int p)] [] M := by
  refine e_aload_n (n := 0) C dX6_drop_0 rfl rfl ?_
  refine e_iload_n (n := 1) C dX6_drop_1 rfl rfl ?_
  refine e_callV1 (as := [.int p]) (rest := []) C lk_X6_212 q1 (by decide) rfl (by decide) rfl (by decide) rfl rfl (Nat.le_of_ble_eq_true rfl) dX6_drop_2 ?_
  refine e_astore_n C dX6_drop_5 rfl (by decide) rfl ?_
  refine e_aload_n (n := 0) C dX6_drop_6 rfl rfl ?_
  refine e_ifnonnull (tgt := 13) C dX6_drop_7 (by decide) ?_
  refine e_aload_n (n := 0) C dX6_drop_13 rfl rfl ?_
  refine e_get (v := .int (M z 0)) C fd_X6_216 (ea_ltO (by decide) hz) hz rfl dX6_drop_14 ?_
  refine e_if_ne (tgt := 23) C dX6_drop_17 (by decide) (fun c2 => ?_) (fun c2 => ?_)
  · refine e_aload_n (n := 0) C dX6_drop_23 rfl rfl ?_
    refine e_get (v := .int (M z 1)) C fd_X6_220 (ea_ltO (by decide) hz) hz rfl dX6_drop_24 ?_
    refine e_istore_n C dX6_drop_27 rfl (by decide) rfl ?_
    refine e_aload_n (n := 2) C dX6_drop_28 rfl rfl ?_
    refine e_iload_n (n := 3) C dX6_drop_29 rfl rfl ?_
    refine e_callV0 (as := [.int p]) (rest := []) C lk_X6_79 (q3 c2) (by decide) rfl (by decide) rfl (by decide) rfl rfl (Nat.le_of_ble_eq_true rfl) dX6_drop_30 ?_
    refine e_iload_n (n := 0) C dX6_drop_33 rfl rfl ?_
    exact e_iret C X rfl (vp_nar_int _) dX6_drop_34 (h4 c2)
  · refine e_ldc C kc_X6_227 dX6_drop_20 ?_
    exact e_iret C X rfl (vp_nar_int _) dX6_drop_22 (h5 c2)
set_option maxRecDepth 100000 in
set_option maxHeartbeats 4000000 in
theorem kb_X6_page_n {k : ea_K} {o : Option Value} {M' : ea_M} (C : ea_C k RX6 cX6_page 3 1) (X : ea_X k (some .int) o M') {M : ea_M} {p : Int32}   (q1 : ea_Sp 0 yX6_bookAt cX6_bookAt 2 (some (.object "WallHeat$Book")) [.ref 0, .int p] M (some (.null)) M) (h2 : o = some (.int (-2000000001 : Int32)) ∧ M' = M) : ea_E k 0 [(0, .ref 0), (1, .int p)] [] M := by
  refine e_aload_n (n := 0) C dX6_page_0 rfl rfl ?_
  refine e_iload_n (n := 1) C dX6_page_1 rfl rfl ?_
  refine e_callV1 (as := [.int p]) (rest := []) C lk_X6_212 q1 (by decide) rfl (by decide) rfl (by decide) rfl rfl (Nat.le_of_ble_eq_true rfl) dX6_page_2 ?_
  refine e_astoreN_n C dX6_page_5 rfl (by decide) rfl ?_
  refine e_aloadN_n (n := 0) C dX6_page_6 rfl rfl ?_
  refine e_ifnonnullN C dX6_page_7 ?_
  refine e_ldc C kc_X6_93 dX6_page_10 ?_
  exact e_iret C X rfl (vp_nar_int _) dX6_page_12 h2
set_option maxRecDepth 100000 in
set_option maxHeartbeats 4000000 in
theorem kb_X6_put_n {k : ea_K} {o : Option Value} {M' : ea_M} (C : ea_C k RX6 cX6_put 8 2) (X : ea_X k (some .int) o M') {M : ea_M} {p a b v : Int32}   (q1 : ea_Sp 0 yX6_bookAt cX6_bookAt 2 (some (.object "WallHeat$Book")) [.ref 0, .int p] M (some (.null)) M) (h2 : o = some (.int (-2000000001 : Int32)) ∧ M' = M) : ea_E k 0 [(0, .ref 0), (1, .int p), (2, .int a), (3, .int b), (4, .int v)] [] M := by
  refine e_aload_n (n := 0) C dX6_put_0 rfl rfl ?_
  refine e_iload_n (n := 1) C dX6_put_1 rfl rfl ?_
  refine e_callV1 (as := [.int p]) (rest := []) C lk_X6_212 q1 (by decide) rfl (by decide) rfl (by decide) rfl rfl (Nat.le_of_ble_eq_true rfl) dX6_put_2 ?_
  refine e_astoreN C dX6_put_5 (by decide) rfl ?_
  refine e_aloadN (n := 0) C dX6_put_7 rfl ?_
  refine e_ifnonnullN C dX6_put_9 ?_
  refine e_ldc C kc_X6_93 dX6_put_12 ?_
  exact e_iret C X rfl (vp_nar_int _) dX6_put_14 h2
set_option maxRecDepth 100000 in
set_option maxHeartbeats 4000000 in
theorem kb_X6_get_n {k : ea_K} {o : Option Value} {M' : ea_M} (C : ea_C k RX6 cX6_get 6 2) (X : ea_X k (some .int) o M') {M : ea_M} {p a b : Int32}   (q1 : ea_Sp 0 yX6_bookAt cX6_bookAt 2 (some (.object "WallHeat$Book")) [.ref 0, .int p] M (some (.null)) M) (h2 : o = some (.int (-2000000001 : Int32)) ∧ M' = M) : ea_E k 0 [(0, .ref 0), (1, .int p), (2, .int a), (3, .int b)] [] M := by
  refine e_aload_n (n := 0) C dX6_get_0 rfl rfl ?_
  refine e_iload_n (n := 1) C dX6_get_1 rfl rfl ?_
  refine e_callV1 (as := [.int p]) (rest := []) C lk_X6_212 q1 (by decide) rfl (by decide) rfl (by decide) rfl rfl (Nat.le_of_ble_eq_true rfl) dX6_get_2 ?_
  refine e_astoreN C dX6_get_5 (by decide) rfl ?_
  refine e_aloadN (n := 0) C dX6_get_7 rfl ?_
  refine e_ifnonnullN C dX6_get_9 ?_
  refine e_ldc C kc_X6_93 dX6_get_12 ?_
  exact e_iret C X rfl (vp_nar_int _) dX6_get_14 h2
set_option maxRecDepth 100000 in
set_option maxHeartbeats 4000000 in
theorem kb_X6_strike_n {k : ea_K} {o : Option Value} {M' : ea_M} (C : ea_C k RX6 cX6_strike 6 2) (X : ea_X k (some .int) o M') {M : ea_M} {p a b : Int32}   (q1 : ea_Sp 0 yX6_bookAt cX6_bookAt 2 (some (.object "WallHeat$Book")) [.ref 0, .int p] M (some (.null)) M) (h2 : o = some (.int (-2000000001 : Int32)) ∧ M' = M) : ea_E k 0 [(0, .ref 0), (1, .int p), (2, .int a), (3, .int b)] [] M := by
  refine e_aload_n (n := 0) C dX6_strike_0 rfl rfl ?_
  refine e_iload_n (n := 1) C dX6_strike_1 rfl rfl ?_
  refine e_callV1 (as := [.int p]) (rest := []) C lk_X6_212 q1 (by decide) rfl (by decide) rfl (by decide) rfl rfl (Nat.le_of_ble_eq_true rfl) dX6_strike_2 ?_
  refine e_astoreN C dX6_strike_5 (by decide) rfl ?_
  refine e_aloadN (n := 0) C dX6_strike_7 rfl ?_
  refine e_ifnonnullN C dX6_strike_9 ?_
  refine e_ldc C kc_X6_93 dX6_strike_12 ?_
  exact e_iret C X rfl (vp_nar_int _) dX6_strike_14 h2
set_option maxRecDepth 100000 in
set_option maxHeartbeats 4000000 in
theorem kb_X6_sum_n {k : ea_K} {o : Option Value} {M' : ea_M} (C : ea_C k RX6 cX6_sum 4 2) (X : ea_X k (some .int) o M') {M : ea_M} {p w : Int32}   (q1 : ea_Sp 0 yX6_bookAt cX6_bookAt 2 (some (.object "WallHeat$Book")) [.ref 0, .int p] M (some (.null)) M) (h2 : o = some (.int (-2000000001 : Int32)) ∧ M' = M) : ea_E k 0 [(0, .ref 0), (1, .int p), (2, .int w)] [] M := by
  refine e_aload_n (n := 0) C dX6_sum_0 rfl rfl ?_
  refine e_iload_n (n := 1) C dX6_sum_1 rfl rfl ?_
  refine e_callV1 (as := [.int p]) (rest := []) C lk_X6_212 q1 (by decide) rfl (by decide) rfl (by decide) rfl rfl (Nat.le_of_ble_eq_true rfl) dX6_sum_2 ?_
  refine e_astoreN_n C dX6_sum_5 rfl (by decide) rfl ?_
  refine e_aloadN_n (n := 0) C dX6_sum_6 rfl rfl ?_
  refine e_ifnonnullN C dX6_sum_7 ?_
  refine e_ldc C kc_X6_93 dX6_sum_10 ?_
  exact e_iret C X rfl (vp_nar_int _) dX6_sum_12 h2
set_option maxRecDepth 100000 in
set_option maxHeartbeats 4000000 in
theorem kb_X6_drop_n {k : ea_K} {o : Option Value} {M' : ea_M} (C : ea_C k RX6 cX6_drop 4 2) (X : ea_X k (some .int) o M') {M : ea_M} {p : Int32}   (q1 : ea_Sp 0 yX6_bookAt cX6_bookAt 2 (some (.object "WallHeat$Book")) [.ref 0, .int p] M (some (.null)) M) (h2 : o = some (.int (-2000000001 : Int32)) ∧ M' = M) : ea_E k 0 [(0, .ref 0), (1, .int p)] [] M := by
  refine e_aload_n (n := 0) C dX6_drop_0 rfl rfl ?_
  refine e_iload_n (n := 1) C dX6_drop_1 rfl rfl ?_
  refine e_callV1 (as := [.int p]) (rest := []) C lk_X6_212 q1 (by decide) rfl (by decide) rfl (by decide) rfl rfl (Nat.le_of_ble_eq_true rfl) dX6_drop_2 ?_
  refine e_astoreN_n C dX6_drop_5 rfl (by decide) rfl ?_
  refine e_aloadN_n (n := 0) C dX6_drop_6 rfl rfl ?_
  refine e_ifnonnullN C dX6_drop_7 ?_
  refine e_ldc C kc_X6_93 dX6_drop_10 ?_
  exact e_iret C X rfl (vp_nar_int _) dX6_drop_12 h2
set_option maxRecDepth 100000 in
set_option maxHeartbeats 4000000 in
theorem kb_X6_common_bb {k : ea_K} {o : Option Value} {M' : ea_M} (C : ea_C k RX6 cX6_common 5 3) (X : ea_X k (some .int) o M') {M : ea_M} {y z : Nat} {p q : Int32} {r1 : Int32} (hy : ea_kd y = 0) (hz : ea_kd z = 0)  (q1 : ea_Sp 0 yX6_bookAt cX6_bookAt 2 (some (.object "WallHeat$Book")) [.ref 0, .int p] M (some (.ref y)) M) (q2 : ea_Sp 0 yX6_bookAt cX6_bookAt 2 (some (.object "WallHeat$Book")) [.ref 0, .int q] M (some (.ref z)) M) (h4 : (M y 0) = 0 → o = some (.int (-2000000011 : Int32)) ∧ M' = M) (q6 : ¬ (M y 0) = 0 → ¬ (M z 0) = 0 → ea_Sp 2 yX0_alikeWith cX0_alikeWith 5 (some .int) [.ref y, .ref z] M (some (.int r1)) M) (h7 : ¬ (M y 0) = 0 → ¬ (M z 0) = 0 → o = some (.int r1) ∧ M' = M) (h8 : ¬ (M y 0) = 0 → (M z 0) = 0 → o = some (.int (-2000000011 : Int32)) ∧ M' = M) : ea_E k 0 [(0, .ref 0), (1, .int p), (2, .int q)] [] M := by
  refine e_aload_n (n := 0) C dX6_common_0 rfl rfl ?_
  refine e_iload_n (n := 1) C dX6_common_1 rfl rfl ?_
  refine e_callV1 (as := [.int p]) (rest := []) C lk_X6_212 q1 (by decide) rfl (by decide) rfl (by decide) rfl rfl (Nat.le_of_ble_eq_true rfl) dX6_common_2 ?_
  refine e_astore_n C dX6_common_5 rfl (by decide) rfl ?_
  refine e_aload_n (n := 1) C dX6_common_6 rfl rfl ?_
  refine e_iload_n (n := 3) C dX6_common_7 rfl rfl ?_
  refine e_callV1 (as := [.int q]) (rest := []) C lk_X6_212 q2 (by decide) rfl (by decide) rfl (by decide) rfl rfl (Nat.le_of_ble_eq_true rfl) dX6_common_8 ?_
  refine e_astore C dX6_common_11 (by decide) rfl ?_
  refine e_aload_n (n := 1) C dX6_common_13 rfl rfl ?_
  refine e_ifnull C dX6_common_14 ?_
  refine e_aload (n := 0) C dX6_common_17 rfl ?_
  refine e_ifnonnull (tgt := 25) C dX6_common_19 (by decide) ?_
  refine e_aload_n (n := 1) C dX6_common_25 rfl rfl ?_
  refine e_get (v := .int (M y 0)) C fd_X6_216 (ea_ltO (by decide) hy) hy rfl dX6_common_26 ?_
  refine e_if_eq (tgt := 40) C dX6_common_29 (by decide) (fun c3 => ?_) (fun c3 => ?_)
  · refine e_ldc C kc_X6_227 dX6_common_40 ?_
    exact e_iret C X rfl (vp_nar_int _) dX6_common_42 (h4 c3)
  · refine e_aload (n := 0) C dX6_common_32 rfl ?_
    refine e_get (v := .int (M z 0)) C fd_X6_216 (ea_ltO (by decide) hz) hz rfl dX6_common_34 ?_
    refine e_if_ne (tgt := 43) C dX6_common_37 (by decide) (fun c5 => ?_) (fun c5 => ?_)
    · refine e_aload_n (n := 1) C dX6_common_43 rfl rfl ?_
      refine e_aload (n := 0) C dX6_common_44 rfl ?_
      refine e_callV1 (as := [.ref z]) (rest := []) C lk_X6_244 (q6 c3 c5) (by decide) rfl (ea_ltO (by decide) hy) hy (by decide) rfl rfl (Nat.le_of_ble_eq_true rfl) dX6_common_46 ?_
      exact e_iret C X rfl (vp_nar_int _) dX6_common_49 (h7 c3 c5)
    · refine e_ldc C kc_X6_227 dX6_common_40 ?_
      exact e_iret C X rfl (vp_nar_int _) dX6_common_42 (h8 c3 c5)
set_option maxRecDepth 100000 in
set_option maxHeartbeats 4000000 in
theorem kb_X6_common_nb {k : ea_K} {o : Option Value} {M' : ea_M} (C : ea_C k RX6 cX6_common 5 3) (X : ea_X k (some .int) o M') {M : ea_M} {z : Nat} {p q : Int32} (hz : ea_kd z = 0)  (q1 : ea_Sp 0 yX6_bookAt cX6_bookAt 2 (some (.object "WallHeat$Book")) [.ref 0, .int p] M (some (.null)) M) (q2 : ea_Sp 0 yX6_bookAt cX6_bookAt 2 (some (.object "WallHeat$Book")) [.ref 0, .int q] M (some (.ref z)) M) (h3 : o = some (.int (-2000000001 : Int32)) ∧ M' = M) : ea_E k 0 [(0, .ref 0), (1, .int p), (2, .int q)] [] M := by
  refine e_aload_n (n := 0) C dX6_common_0 rfl rfl ?_
  refine e_iload_n (n := 1) C dX6_common_1 rfl rfl ?_
  refine e_callV1 (as := [.int p]) (rest := []) C lk_X6_212 q1 (by decide) rfl (by decide) rfl (by decide) rfl rfl (Nat.le_of_ble_eq_true rfl) dX6_common_2 ?_
  refine e_astoreN_n C dX6_common_5 rfl (by decide) rfl ?_
  refine e_aload_n (n := 1) C dX6_common_6 rfl rfl ?_
  refine e_iload_n (n := 3) C dX6_common_7 rfl rfl ?_
  refine e_callV1 (as := [.int q]) (rest := []) C lk_X6_212 q2 (by decide) rfl (by decide) rfl (by decide) rfl rfl (Nat.le_of_ble_eq_true rfl) dX6_common_8 ?_
  refine e_astore C dX6_common_11 (by decide) rfl ?_
  refine e_aloadN_n (n := 1) C dX6_common_13 rfl rfl ?_
  refine e_ifnullN (tgt := 22) C dX6_common_14 (by decide) ?_
  refine e_ldc C kc_X6_93 dX6_common_22 ?_
  exact e_iret C X rfl (vp_nar_int _) dX6_common_24 h3
set_option maxRecDepth 100000 in
set_option maxHeartbeats 4000000 in
theorem kb_X6_common_bn {k : ea_K} {o : Option Value} {M' : ea_M} (C : ea_C k RX6 cX6_common 5 3) (X : ea_X k (some .int) o M') {M : ea_M} {y : Nat} {p q : Int32} (hy : ea_kd y = 0)  (q1 : ea_Sp 0 yX6_bookAt cX6_bookAt 2 (some (.object "WallHeat$Book")) [.ref 0, .int p] M (some (.ref y)) M) (q2 : ea_Sp 0 yX6_bookAt cX6_bookAt 2 (some (.object "WallHeat$Book")) [.ref 0, .int q] M (some (.null)) M) (h3 : o = some (.int (-2000000001 : Int32)) ∧ M' = M) : ea_E k 0 [(0, .ref 0), (1, .int p), (2, .int q)] [] M := by
  refine e_aload_n (n := 0) C dX6_common_0 rfl rfl ?_
  refine e_iload_n (n := 1) C dX6_common_1 rfl rfl ?_
  refine e_callV1 (as := [.int p]) (rest := []) C lk_X6_212 q1 (by decide) rfl (by decide) rfl (by decide) rfl rfl (Nat.le_of_ble_eq_true rfl) dX6_common_2 ?_
  refine e_astore_n C dX6_common_5 rfl (by decide) rfl ?_
  refine e_aload_n (n := 1) C dX6_common_6 rfl rfl ?_
  refine e_iload_n (n := 3) C dX6_common_7 rfl rfl ?_
  refine e_callV1 (as := [.int q]) (rest := []) C lk_X6_212 q2 (by decide) rfl (by decide) rfl (by decide) rfl rfl (Nat.le_of_ble_eq_true rfl) dX6_common_8 ?_
  refine e_astoreN C dX6_common_11 (by decide) rfl ?_
  refine e_aload_n (n := 1) C dX6_common_13 rfl rfl ?_
  refine e_ifnull C dX6_common_14 ?_
  refine e_aloadN (n := 0) C dX6_common_17 rfl ?_
  refine e_ifnonnullN C dX6_common_19 ?_
  refine e_ldc C kc_X6_93 dX6_common_22 ?_
  exact e_iret C X rfl (vp_nar_int _) dX6_common_24 h3
set_option maxRecDepth 100000 in
set_option maxHeartbeats 4000000 in
theorem kb_X6_common_nn {k : ea_K} {o : Option Value} {M' : ea_M} (C : ea_C k RX6 cX6_common 5 3) (X : ea_X k (some .int) o M') {M : ea_M} {p q : Int32}   (q1 : ea_Sp 0 yX6_bookAt cX6_bookAt 2 (some (.object "WallHeat$Book")) [.ref 0, .int p] M (some (.null)) M) (q2 : ea_Sp 0 yX6_bookAt cX6_bookAt 2 (some (.object "WallHeat$Book")) [.ref 0, .int q] M (some (.null)) M) (h3 : o = some (.int (-2000000001 : Int32)) ∧ M' = M) : ea_E k 0 [(0, .ref 0), (1, .int p), (2, .int q)] [] M := by
  refine e_aload_n (n := 0) C dX6_common_0 rfl rfl ?_
  refine e_iload_n (n := 1) C dX6_common_1 rfl rfl ?_
  refine e_callV1 (as := [.int p]) (rest := []) C lk_X6_212 q1 (by decide) rfl (by decide) rfl (by decide) rfl rfl (Nat.le_of_ble_eq_true rfl) dX6_common_2 ?_
  refine e_astoreN_n C dX6_common_5 rfl (by decide) rfl ?_
  refine e_aload_n (n := 1) C dX6_common_6 rfl rfl ?_
  refine e_iload_n (n := 3) C dX6_common_7 rfl rfl ?_
  refine e_callV1 (as := [.int q]) (rest := []) C lk_X6_212 q2 (by decide) rfl (by decide) rfl (by decide) rfl rfl (Nat.le_of_ble_eq_true rfl) dX6_common_8 ?_
  refine e_astoreN C dX6_common_11 (by decide) rfl ?_
  refine e_aloadN_n (n := 1) C dX6_common_13 rfl rfl ?_
  refine e_ifnullN (tgt := 22) C dX6_common_14 (by decide) ?_
  refine e_ldc C kc_X6_93 dX6_common_22 ?_
  exact e_iret C X rfl (vp_nar_int _) dX6_common_24 h3
set_option maxRecDepth 100000 in
set_option maxHeartbeats 4000000 in
theorem kb_X6_count {k : ea_K} {o : Option Value} {M' : ea_M} (C : ea_C k RX6 cX6_count 2 4) (X : ea_X k (some .int) o M') {M : ea_M} {w : Int32} {r1 r2 r3 r4 r5 r6 : Int32}   (h2 : w = 0 → o = some (.int (M 13 0)) ∧ M' = M) (h4 : ¬ w = 0 → w = 1 → o = some (.int (M 13 5)) ∧ M' = M) (h6 : ¬ w = 0 → ¬ w = 1 → w = 2 → o = some (.int (M 20 1)) ∧ M' = M) (h8 : ¬ w = 0 → ¬ w = 1 → ¬ w = 2 → w = 3 → o = some (.int (M 20 2)) ∧ M' = M) (h10 : ¬ w = 0 → ¬ w = 1 → ¬ w = 2 → ¬ w = 3 → w = 4 → o = some (.int (M 20 3)) ∧ M' = M) (q12 : ¬ w = 0 → ¬ w = 1 → ¬ w = 2 → ¬ w = 3 → ¬ w = 4 → w = 5 → ea_Sp 3 yX4_safe cX4_safe 8 (some .int) [.ref 13] M (some (.int r1)) M) (h13 : ¬ w = 0 → ¬ w = 1 → ¬ w = 2 → ¬ w = 3 → ¬ w = 4 → w = 5 → o = some (.int r1) ∧ M' = M) (q15 : ¬ w = 0 → ¬ w = 1 → ¬ w = 2 → ¬ w = 3 → ¬ w = 4 → ¬ w = 5 → w = 6 → ea_Sp 2 yX5_allHeat cX5_allHeat 2 (some .int) [.ref 20, .int (M 13 5)] M (some (.int r2)) M) (h16 : ¬ w = 0 → ¬ w = 1 → ¬ w = 2 → ¬ w = 3 → ¬ w = 4 → ¬ w = 5 → w = 6 → o = some (.int r2) ∧ M' = M) (h18 : ¬ w = 0 → ¬ w = 1 → ¬ w = 2 → ¬ w = 3 → ¬ w = 4 → ¬ w = 5 → ¬ w = 6 → w = 7 → o = some (.int (M 20 4)) ∧ M' = M) (h20 : ¬ w = 0 → ¬ w = 1 → ¬ w = 2 → ¬ w = 3 → ¬ w = 4 → ¬ w = 5 → ¬ w = 6 → ¬ w = 7 → w = 8 → o = some (.int (M 20 5)) ∧ M' = M) (q22 : ¬ w = 0 → ¬ w = 1 → ¬ w = 2 → ¬ w = 3 → ¬ w = 4 → ¬ w = 5 → ¬ w = 6 → ¬ w = 7 → ¬ w = 8 → w = 9 → ea_Sp 3 yX4_mostOf cX4_mostOf 4 (some .int) [.ref 13, .int (1 : Int32)] M (some (.int r3)) M) (h23 : ¬ w = 0 → ¬ w = 1 → ¬ w = 2 → ¬ w = 3 → ¬ w = 4 → ¬ w = 5 → ¬ w = 6 → ¬ w = 7 → ¬ w = 8 → w = 9 → o = some (.int r3) ∧ M' = M) (q25 : ¬ w = 0 → ¬ w = 1 → ¬ w = 2 → ¬ w = 3 → ¬ w = 4 → ¬ w = 5 → ¬ w = 6 → ¬ w = 7 → ¬ w = 8 → ¬ w = 9 → w = 10 → ea_Sp 3 yX4_mostOf cX4_mostOf 4 (some .int) [.ref 13, .int (-1 : Int32)] M (some (.int r4)) M) (h26 : ¬ w = 0 → ¬ w = 1 → ¬ w = 2 → ¬ w = 3 → ¬ w = 4 → ¬ w = 5 → ¬ w = 6 → ¬ w = 7 → ¬ w = 8 → ¬ w = 9 → w = 10 → o = some (.int r4) ∧ M' = M) (q28 : ¬ w = 0 → ¬ w = 1 → ¬ w = 2 → ¬ w = 3 → ¬ w = 4 → ¬ w = 5 → ¬ w = 6 → ¬ w = 7 → ¬ w = 8 → ¬ w = 9 → ¬ w = 10 → w = 11 → ea_Sp 2 yX4_alikePairs cX4_alikePairs 4 (some .int) [.ref 13] M (some (.int r5)) M) (h29 : ¬ w = 0 → ¬ w = 1 → ¬ w = 2 → ¬ w = 3 → ¬ w = 4 → ¬ w = 5 → ¬ w = 6 → ¬ w = 7 → ¬ w = 8 → ¬ w = 9 → ¬ w = 10 → w = 11 → o = some (.int r5) ∧ M' = M) (h31 : ¬ w = 0 → ¬ w = 1 → ¬ w = 2 → ¬ w = 3 → ¬ w = 4 → ¬ w = 5 → ¬ w = 6 → ¬ w = 7 → ¬ w = 8 → ¬ w = 9 → ¬ w = 10 → ¬ w = 11 → w = 12 → o = some (.int (M 20 6)) ∧ M' = M) (q33 : ¬ w = 0 → ¬ w = 1 → ¬ w = 2 → ¬ w = 3 → ¬ w = 4 → ¬ w = 5 → ¬ w = 6 → ¬ w = 7 → ¬ w = 8 → ¬ w = 9 → ¬ w = 10 → ¬ w = 11 → ¬ w = 12 → w = 13 → ea_Sp 1 yX6_keysOfAllPages cX6_keysOfAllPages 4 (some .int) [.ref 0] M (some (.int r6)) M) (h34 : ¬ w = 0 → ¬ w = 1 → ¬ w = 2 → ¬ w = 3 → ¬ w = 4 → ¬ w = 5 → ¬ w = 6 → ¬ w = 7 → ¬ w = 8 → ¬ w = 9 → ¬ w = 10 → ¬ w = 11 → ¬ w = 12 → w = 13 → o = some (.int r6) ∧ M' = M) (h36 : ¬ w = 0 → ¬ w = 1 → ¬ w = 2 → ¬ w = 3 → ¬ w = 4 → ¬ w = 5 → ¬ w = 6 → ¬ w = 7 → ¬ w = 8 → ¬ w = 9 → ¬ w = 10 → ¬ w = 11 → ¬ w = 12 → ¬ w = 13 → w = 14 → o = some (.int (M 24 4)) ∧ M' = M) (h38 : ¬ w = 0 → ¬ w = 1 → ¬ w = 2 → ¬ w = 3 → ¬ w = 4 → ¬ w = 5 → ¬ w = 6 → ¬ w = 7 → ¬ w = 8 → ¬ w = 9 → ¬ w = 10 → ¬ w = 11 → ¬ w = 12 → ¬ w = 13 → ¬ w = 14 → w = 15 → o = some (.int (M 2 1)) ∧ M' = M) (h39 : ¬ w = 0 → ¬ w = 1 → ¬ w = 2 → ¬ w = 3 → ¬ w = 4 → ¬ w = 5 → ¬ w = 6 → ¬ w = 7 → ¬ w = 8 → ¬ w = 9 → ¬ w = 10 → ¬ w = 11 → ¬ w = 12 → ¬ w = 13 → ¬ w = 14 → ¬ w = 15 → o = some (.int (-2000000002 : Int32)) ∧ M' = M) : ea_E k 0 [(0, .ref 0), (1, .int w)] [] M := by
  refine e_iload_n (n := 1) C dX6_count_0 rfl rfl ?_
  by_cases c1 : w = 0
  · refine e_tabIn (tgt := 80) (off := 79) C dX6_count_1 (by rw [c1]; decide) (by rw [c1]; decide) (by rw [c1]; decide) (by decide) ?_
    refine e_aload_n (n := 0) C dX6_count_80 rfl rfl ?_
    refine e_get (v := .ref 13) C fd_X6_19 (by decide) rfl rfl dX6_count_81 ?_
    refine e_get (v := .int (M 13 0)) C fd_X6_254 (by decide) rfl rfl dX6_count_84 ?_
    exact e_iret C X rfl (vp_nar_int _) dX6_count_87 (h2 c1)
  by_cases c3 : w = 1
  · refine e_tabIn (tgt := 88) (off := 87) C dX6_count_1 (by rw [c3]; decide) (by rw [c3]; decide) (by rw [c3]; decide) (by decide) ?_
    refine e_aload_n (n := 0) C dX6_count_88 rfl rfl ?_
    refine e_get (v := .ref 13) C fd_X6_19 (by decide) rfl rfl dX6_count_89 ?_
    refine e_get (v := .int (M 13 5)) C fd_X6_149 (by decide) rfl rfl dX6_count_92 ?_
    exact e_iret C X rfl (vp_nar_int _) dX6_count_95 (h4 c1 c3)
  by_cases c5 : w = 2
  · refine e_tabIn (tgt := 96) (off := 95) C dX6_count_1 (by rw [c5]; decide) (by rw [c5]; decide) (by rw [c5]; decide) (by decide) ?_
    refine e_aload_n (n := 0) C dX6_count_96 rfl rfl ?_
    refine e_get (v := .ref 13) C fd_X6_19 (by decide) rfl rfl dX6_count_97 ?_
    refine e_get (v := .ref 20) C fd_X6_72 (by decide) rfl rfl dX6_count_100 ?_
    refine e_get (v := .int (M 20 1)) C fd_X6_146 (by decide) rfl rfl dX6_count_103 ?_
    exact e_iret C X rfl (vp_nar_int _) dX6_count_106 (h6 c1 c3 c5)
  by_cases c7 : w = 3
  · refine e_tabIn (tgt := 107) (off := 106) C dX6_count_1 (by rw [c7]; decide) (by rw [c7]; decide) (by rw [c7]; decide) (by decide) ?_
    refine e_aload_n (n := 0) C dX6_count_107 rfl rfl ?_
    refine e_get (v := .ref 13) C fd_X6_19 (by decide) rfl rfl dX6_count_108 ?_
    refine e_get (v := .ref 20) C fd_X6_72 (by decide) rfl rfl dX6_count_111 ?_
    refine e_get (v := .int (M 20 2)) C fd_X6_143 (by decide) rfl rfl dX6_count_114 ?_
    exact e_iret C X rfl (vp_nar_int _) dX6_count_117 (h8 c1 c3 c5 c7)
  by_cases c9 : w = 4
  · refine e_tabIn (tgt := 118) (off := 117) C dX6_count_1 (by rw [c9]; decide) (by rw [c9]; decide) (by rw [c9]; decide) (by decide) ?_
    refine e_aload_n (n := 0) C dX6_count_118 rfl rfl ?_
    refine e_get (v := .ref 13) C fd_X6_19 (by decide) rfl rfl dX6_count_119 ?_
    refine e_get (v := .ref 20) C fd_X6_72 (by decide) rfl rfl dX6_count_122 ?_
    refine e_get (v := .int (M 20 3)) C fd_X6_170 (by decide) rfl rfl dX6_count_125 ?_
    exact e_iret C X rfl (vp_nar_int _) dX6_count_128 (h10 c1 c3 c5 c7 c9)
  by_cases c11 : w = 5
  · refine e_tabIn (tgt := 129) (off := 128) C dX6_count_1 (by rw [c11]; decide) (by rw [c11]; decide) (by rw [c11]; decide) (by decide) ?_
    refine e_aload_n (n := 0) C dX6_count_129 rfl rfl ?_
    refine e_get (v := .ref 13) C fd_X6_19 (by decide) rfl rfl dX6_count_130 ?_
    refine e_callV1 (as := []) (rest := []) C lk_X6_173 (q12 c1 c3 c5 c7 c9 c11) (by decide) rfl (by decide) rfl (by decide) rfl rfl (Nat.le_of_ble_eq_true rfl) dX6_count_133 ?_
    exact e_iret C X rfl (vp_nar_int _) dX6_count_136 (h13 c1 c3 c5 c7 c9 c11)
  by_cases c14 : w = 6
  · refine e_tabIn (tgt := 137) (off := 136) C dX6_count_1 (by rw [c14]; decide) (by rw [c14]; decide) (by rw [c14]; decide) (by decide) ?_
    refine e_aload_n (n := 0) C dX6_count_137 rfl rfl ?_
    refine e_get (v := .ref 13) C fd_X6_19 (by decide) rfl rfl dX6_count_138 ?_
    refine e_get (v := .ref 20) C fd_X6_72 (by decide) rfl rfl dX6_count_141 ?_
    refine e_aload_n (n := 0) C dX6_count_144 rfl rfl ?_
    refine e_get (v := .ref 13) C fd_X6_19 (by decide) rfl rfl dX6_count_145 ?_
    refine e_get (v := .int (M 13 5)) C fd_X6_149 (by decide) rfl rfl dX6_count_148 ?_
    refine e_callV1 (as := [.int (M 13 5)]) (rest := []) C lk_X6_187 (q15 c1 c3 c5 c7 c9 c11 c14) (by decide) rfl (by decide) rfl (by decide) rfl rfl (Nat.le_of_ble_eq_true rfl) dX6_count_151 ?_
    exact e_iret C X rfl (vp_nar_int _) dX6_count_154 (h16 c1 c3 c5 c7 c9 c11 c14)
  by_cases c17 : w = 7
  · refine e_tabIn (tgt := 155) (off := 154) C dX6_count_1 (by rw [c17]; decide) (by rw [c17]; decide) (by rw [c17]; decide) (by decide) ?_
    refine e_aload_n (n := 0) C dX6_count_155 rfl rfl ?_
    refine e_get (v := .ref 13) C fd_X6_19 (by decide) rfl rfl dX6_count_156 ?_
    refine e_get (v := .ref 20) C fd_X6_72 (by decide) rfl rfl dX6_count_159 ?_
    refine e_get (v := .int (M 20 4)) C fd_X6_257 (by decide) rfl rfl dX6_count_162 ?_
    exact e_iret C X rfl (vp_nar_int _) dX6_count_165 (h18 c1 c3 c5 c7 c9 c11 c14 c17)
  by_cases c19 : w = 8
  · refine e_tabIn (tgt := 166) (off := 165) C dX6_count_1 (by rw [c19]; decide) (by rw [c19]; decide) (by rw [c19]; decide) (by decide) ?_
    refine e_aload_n (n := 0) C dX6_count_166 rfl rfl ?_
    refine e_get (v := .ref 13) C fd_X6_19 (by decide) rfl rfl dX6_count_167 ?_
    refine e_get (v := .ref 20) C fd_X6_72 (by decide) rfl rfl dX6_count_170 ?_
    refine e_get (v := .int (M 20 5)) C fd_X6_260 (by decide) rfl rfl dX6_count_173 ?_
    exact e_iret C X rfl (vp_nar_int _) dX6_count_176 (h20 c1 c3 c5 c7 c9 c11 c14 c17 c19)
  by_cases c21 : w = 9
  · refine e_tabIn (tgt := 177) (off := 176) C dX6_count_1 (by rw [c21]; decide) (by rw [c21]; decide) (by rw [c21]; decide) (by decide) ?_
    refine e_aload_n (n := 0) C dX6_count_177 rfl rfl ?_
    refine e_get (v := .ref 13) C fd_X6_19 (by decide) rfl rfl dX6_count_178 ?_
    refine e_iconst (v := 1) C dX6_count_181 (by decide) ?_
    refine e_callV1 (as := [.int (1 : Int32)]) (rest := []) C lk_X6_263 (q22 c1 c3 c5 c7 c9 c11 c14 c17 c19 c21) (by decide) rfl (by decide) rfl (by decide) rfl rfl (Nat.le_of_ble_eq_true rfl) dX6_count_182 ?_
    exact e_iret C X rfl (vp_nar_int _) dX6_count_185 (h23 c1 c3 c5 c7 c9 c11 c14 c17 c19 c21)
  by_cases c24 : w = 10
  · refine e_tabIn (tgt := 186) (off := 185) C dX6_count_1 (by rw [c24]; decide) (by rw [c24]; decide) (by rw [c24]; decide) (by decide) ?_
    refine e_aload_n (n := 0) C dX6_count_186 rfl rfl ?_
    refine e_get (v := .ref 13) C fd_X6_19 (by decide) rfl rfl dX6_count_187 ?_
    refine e_iconst (v := -1) C dX6_count_190 (by decide) ?_
    refine e_callV1 (as := [.int (-1 : Int32)]) (rest := []) C lk_X6_263 (q25 c1 c3 c5 c7 c9 c11 c14 c17 c19 c21 c24) (by decide) rfl (by decide) rfl (by decide) rfl rfl (Nat.le_of_ble_eq_true rfl) dX6_count_191 ?_
    exact e_iret C X rfl (vp_nar_int _) dX6_count_194 (h26 c1 c3 c5 c7 c9 c11 c14 c17 c19 c21 c24)
  by_cases c27 : w = 11
  · refine e_tabIn (tgt := 195) (off := 194) C dX6_count_1 (by rw [c27]; decide) (by rw [c27]; decide) (by rw [c27]; decide) (by decide) ?_
    refine e_aload_n (n := 0) C dX6_count_195 rfl rfl ?_
    refine e_get (v := .ref 13) C fd_X6_19 (by decide) rfl rfl dX6_count_196 ?_
    refine e_callV1 (as := []) (rest := []) C lk_X6_266 (q28 c1 c3 c5 c7 c9 c11 c14 c17 c19 c21 c24 c27) (by decide) rfl (by decide) rfl (by decide) rfl rfl (Nat.le_of_ble_eq_true rfl) dX6_count_199 ?_
    exact e_iret C X rfl (vp_nar_int _) dX6_count_202 (h29 c1 c3 c5 c7 c9 c11 c14 c17 c19 c21 c24 c27)
  by_cases c30 : w = 12
  · refine e_tabIn (tgt := 203) (off := 202) C dX6_count_1 (by rw [c30]; decide) (by rw [c30]; decide) (by rw [c30]; decide) (by decide) ?_
    refine e_aload_n (n := 0) C dX6_count_203 rfl rfl ?_
    refine e_get (v := .ref 13) C fd_X6_19 (by decide) rfl rfl dX6_count_204 ?_
    refine e_get (v := .ref 20) C fd_X6_72 (by decide) rfl rfl dX6_count_207 ?_
    refine e_get (v := .int (M 20 6)) C fd_X6_269 (by decide) rfl rfl dX6_count_210 ?_
    exact e_iret C X rfl (vp_nar_int _) dX6_count_213 (h31 c1 c3 c5 c7 c9 c11 c14 c17 c19 c21 c24 c27 c30)
  by_cases c32 : w = 13
  · refine e_tabIn (tgt := 214) (off := 213) C dX6_count_1 (by rw [c32]; decide) (by rw [c32]; decide) (by rw [c32]; decide) (by decide) ?_
    refine e_aload_n (n := 0) C dX6_count_214 rfl rfl ?_
    refine e_callV1 (as := []) (rest := []) C lk_X6_272 (q33 c1 c3 c5 c7 c9 c11 c14 c17 c19 c21 c24 c27 c30 c32) (by decide) rfl (by decide) rfl (by decide) rfl rfl (Nat.le_of_ble_eq_true rfl) dX6_count_215 ?_
    exact e_iret C X rfl (vp_nar_int _) dX6_count_218 (h34 c1 c3 c5 c7 c9 c11 c14 c17 c19 c21 c24 c27 c30 c32)
  by_cases c35 : w = 14
  · refine e_tabIn (tgt := 219) (off := 218) C dX6_count_1 (by rw [c35]; decide) (by rw [c35]; decide) (by rw [c35]; decide) (by decide) ?_
    refine e_aload_n (n := 0) C dX6_count_219 rfl rfl ?_
    refine e_get (v := .ref 24) C fd_X6_33 (by decide) rfl rfl dX6_count_220 ?_
    refine e_get (v := .int (M 24 4)) C fd_X6_177 (by decide) rfl rfl dX6_count_223 ?_
    exact e_iret C X rfl (vp_nar_int _) dX6_count_226 (h36 c1 c3 c5 c7 c9 c11 c14 c17 c19 c21 c24 c27 c30 c32 c35)
  by_cases c37 : w = 15
  · refine e_tabIn (tgt := 227) (off := 226) C dX6_count_1 (by rw [c37]; decide) (by rw [c37]; decide) (by rw [c37]; decide) (by decide) ?_
    refine e_aload_n (n := 0) C dX6_count_227 rfl rfl ?_
    refine e_get (v := .ref 1) C fd_X6_10 (by decide) rfl rfl dX6_count_228 ?_
    refine e_get (v := .ref 2) C fd_X6_45 (by decide) rfl rfl dX6_count_231 ?_
    refine e_get (v := .int (M 2 1)) C fd_X6_49 (by decide) rfl rfl dX6_count_234 ?_
    exact e_iret C X rfl (vp_nar_int _) dX6_count_237 (h38 c1 c3 c5 c7 c9 c11 c14 c17 c19 c21 c24 c27 c30 c32 c35 c37)
  refine e_tabOut (tgt := 238) C dX6_count_1 (ea_tab15 c1 c3 c5 c7 c9 c11 c14 c17 c19 c21 c24 c27 c30 c32 c35 c37) (by decide) ?_
  refine e_ldc C kc_X6_44 dX6_count_238 ?_
  exact e_iret C X rfl (vp_nar_int _) dX6_count_240 (h39 c1 c3 c5 c7 c9 c11 c14 c17 c19 c21 c24 c27 c30 c32 c35 c37)
