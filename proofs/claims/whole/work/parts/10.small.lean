def f_X3_tokenLength (M : ea_M) : Int32 := ((M 2 3) - (M 2 2))
set_option maxRecDepth 100000 in
set_option maxHeartbeats 4000000 in
theorem sp_X3_tokenLength {M : ea_M}    : ea_Sp 0 yX3_tokenLength cX3_tokenLength 1 (some .int) [.ref 2] M (some (.int (f_X3_tokenLength M))) M := by
  refine ea_intro (own := RX3) (by decide +kernel) rfl (fun g => Nat.le_of_ble_eq_true rfl) (fun k C X => ?_)
  obtain ⟨o, ho⟩ : ∃ z : Option Value, z = (some (.int (f_X3_tokenLength M))) := ⟨_, rfl⟩
  obtain ⟨M', hM'⟩ : ∃ z : ea_M, z = M := ⟨_, rfl⟩
  rw [← ho, ← hM'] at X
  have h1 : o = some (.int ((M 2 3) - (M 2 2))) ∧ M' = M := by
    subst ho hM'
    exact ⟨by simp only [f_X3_tokenLength], by rfl⟩
  refine e_aload_n (n := 0) C dX3_tokenLength_0 rfl rfl ?_
  refine e_get (v := .int (M 2 3)) C fd_X3_30 (by decide) rfl rfl dX3_tokenLength_1 ?_
  refine e_aload_n (n := 0) C dX3_tokenLength_4 rfl rfl ?_
  refine e_get (v := .int (M 2 2)) C fd_X3_23 (by decide) rfl rfl dX3_tokenLength_5 ?_
  refine e_isub C dX3_tokenLength_8 ?_
  exact e_iret C X rfl (vp_nar_int _) dX3_tokenLength_9 h1
def g_X3_add (M : ea_M) (c : Int32) : ea_M := (ea_up (pa_set M 3 200 (M 2 1) c) 2 1 ((M 2 1) + (1 : Int32)))
set_option maxRecDepth 100000 in
set_option maxHeartbeats 4000000 in
theorem sp_X3_add {M : ea_M} {c : Int32}    : ea_Sp 1 yX3_add cX3_add 2 none [.ref 2, .int c] M none (g_X3_add M c) := by
  refine ea_intro (own := RX3) (by decide +kernel) rfl (fun g => Nat.le_of_ble_eq_true rfl) (fun k C X => ?_)
  obtain ⟨o, ho⟩ : ∃ z : Option Value, z = none := ⟨_, rfl⟩
  obtain ⟨M', hM'⟩ : ∃ z : ea_M, z = (g_X3_add M c) := ⟨_, rfl⟩
  rw [← ho, ← hM'] at X
  have h1 : o = none ∧ M' = (ea_up (pa_set M 3 200 (M 2 1) c) 2 1 ((M 2 1) + (1 : Int32))) := by
    subst ho hM'
    exact ⟨rfl, by simp only [g_X3_add]⟩
  refine e_aload_n (n := 0) C dX3_add_0 rfl rfl ?_
  refine e_get (v := .ref 3) C fd_X3_9 (by decide) rfl rfl dX3_add_1 ?_
  refine e_aload_n (n := 0) C dX3_add_4 rfl rfl ?_
  refine e_get (v := .int (M 2 1)) C fd_X3_15 (by decide) rfl rfl dX3_add_5 ?_
  refine e_iload_n (n := 1) C dX3_add_8 rfl rfl ?_
  refine e_callN0 (as := [.ref 3, .int (M 2 1), .int c]) (rest := []) C lk_X3_19 (sp_X6_set M 3 200 (M 2 1) c rfl (by decide) ) (by decide) rfl rfl (Nat.le_of_ble_eq_true rfl) dX3_add_9 ?_
  refine e_aload_n (n := 0) C dX3_add_12 rfl rfl ?_
  refine e_dup C dX3_add_13 rfl ?_
  refine e_get (v := .int (M 2 1)) C fd_X3_15 (by decide) rfl (congrArg (fun z => some (Value.int z)) (by simp [ea_upR, ea_upS, ea_upK, pa_setR, pa_cpR] : (pa_set M 3 200 (M 2 1) c) 2 1 = (M 2 1))) dX3_add_14 ?_
  refine e_iconst (v := 1) C dX3_add_17 (by decide) ?_
  refine e_iadd C dX3_add_18 ?_
  refine e_put (ty := .int) C fd_X3_15 (by decide) rfl rfl (by decide +kernel) (vp_nar_int _) rfl (ea_set3_1 _ _ _) dX3_add_19 ?_
  exact e_vret C X dX3_add_22 h1
theorem fr_X3_add {M : ea_M} {c : Int32} {zz : Nat} (e0 : zz ≠ 3) (e1 : zz ≠ 2) : g_X3_add M c zz = M zz := by
  simp only [g_X3_add]
  repeat' split
  all_goals simp [ea_upR, ea_upS, ea_upK, pa_setR, pa_cpR, e0, e1]
abbrev p_X3_isSemicolon (M : ea_M) : Prop := (((M 2 4) = (3 : Int32)) ∧ (pa_at (M 3) 200 (M 2 2)) = (59 : Int32))
set_option maxRecDepth 100000 in
set_option maxHeartbeats 4000000 in
theorem sp_X3_isSemicolon {M : ea_M}    : ea_Sp 1 yX3_isSemicolon cX3_isSemicolon 1 (some .boolean) [.ref 2] M (some (.int (if p_X3_isSemicolon M then (1 : Int32) else 0))) M := by
  refine ea_intro (own := RX3) (by decide +kernel) rfl (fun g => Nat.le_of_ble_eq_true rfl) (fun k C X => ?_)
  obtain ⟨o, ho⟩ : ∃ z : Option Value, z = (some (.int (if p_X3_isSemicolon M then (1 : Int32) else 0))) := ⟨_, rfl⟩
  obtain ⟨M', hM'⟩ : ∃ z : ea_M, z = M := ⟨_, rfl⟩
  rw [← ho, ← hM'] at X
  have h2 : ¬ (M 2 4) = (3 : Int32) → o = some (.int (0 : Int32)) ∧ M' = M := by
    intro w0
    subst ho hM'
    exact ⟨congrArg (fun z => some (Value.int z)) (if_neg (fun h => absurd h.1 w0)), by rfl⟩
  have h4 : (M 2 4) = (3 : Int32) → ¬ (pa_at (M 3) 200 (M 2 2)) = (59 : Int32) → o = some (.int (0 : Int32)) ∧ M' = M := by
    intro w0 w1
    subst ho hM'
    exact ⟨congrArg (fun z => some (Value.int z)) (if_neg (fun h => w1 h.2)), by rfl⟩
  have h5 : (M 2 4) = (3 : Int32) → (pa_at (M 3) 200 (M 2 2)) = (59 : Int32) → o = some (.int (1 : Int32)) ∧ M' = M := by
    intro w0 w1
    subst ho hM'
    exact ⟨congrArg (fun z => some (Value.int z)) (if_pos (⟨w0, w1⟩)), by rfl⟩
  refine e_aload_n (n := 0) C dX3_isSemicolon_0 rfl rfl ?_
  refine e_get (v := .int (M 2 4)) C fd_X3_33 (by decide) rfl rfl dX3_isSemicolon_1 ?_
  refine e_iconst (v := 3) C dX3_isSemicolon_4 (by decide) ?_
  refine e_icmp_ne (tgt := 28) C dX3_isSemicolon_5 (by decide) (fun c1 => ?_) (fun c1 => ?_)
  · refine e_iconst (v := 0) C dX3_isSemicolon_28 (by decide) ?_
    exact e_iret C X rfl rfl dX3_isSemicolon_29 (h2 c1)
  · refine e_aload_n (n := 0) C dX3_isSemicolon_8 rfl rfl ?_
    refine e_get (v := .ref 3) C fd_X3_9 (by decide) rfl rfl dX3_isSemicolon_9 ?_
    refine e_aload_n (n := 0) C dX3_isSemicolon_12 rfl rfl ?_
    refine e_get (v := .int (M 2 2)) C fd_X3_23 (by decide) rfl rfl dX3_isSemicolon_13 ?_
    refine e_callN1 (as := [.ref 3, .int (M 2 2)]) (rest := []) C lk_X3_26 (sp_X6_at M 3 200 (M 2 2) rfl (by decide) ) (by decide) rfl rfl (Nat.le_of_ble_eq_true rfl) dX3_isSemicolon_16 ?_
    refine e_bipush (v := 59) C dX3_isSemicolon_19 (by decide) ?_
    refine e_icmp_ne (tgt := 28) C dX3_isSemicolon_21 (by decide) (fun c3 => ?_) (fun c3 => ?_)
    · refine e_iconst (v := 0) C dX3_isSemicolon_28 (by decide) ?_
      exact e_iret C X rfl rfl dX3_isSemicolon_29 (h4 c1 c3)
    · refine e_iconst (v := 1) C dX3_isSemicolon_24 (by decide) ?_
      refine e_goto (tgt := 29) C dX3_isSemicolon_25 (by decide) ?_
      exact e_iret C X rfl rfl dX3_isSemicolon_29 (h5 c1 c3)
abbrev p_X4_isStuff (M : ea_M) (x : Nat) (i : Int32) : Prop := (¬ (i < 0) ∧ ¬ ((M x 0) ≤ i))
set_option maxRecDepth 100000 in
set_option maxHeartbeats 4000000 in
theorem sp_X4_isStuff {M : ea_M} {x : Nat} {i : Int32} (hx : ea_kd x = 4)   : ea_Sp 0 yX4_isStuff cX4_isStuff 2 (some .boolean) [.ref x, .int i] M (some (.int (if p_X4_isStuff M x i then (1 : Int32) else 0))) M := by
  refine ea_intro (own := RX4) (by decide +kernel) rfl (fun g => Nat.le_of_ble_eq_true rfl) (fun k C X => ?_)
  obtain ⟨o, ho⟩ : ∃ z : Option Value, z = (some (.int (if p_X4_isStuff M x i then (1 : Int32) else 0))) := ⟨_, rfl⟩
  obtain ⟨M', hM'⟩ : ∃ z : ea_M, z = M := ⟨_, rfl⟩
  rw [← ho, ← hM'] at X
  have h2 : i < 0 → o = some (.int (0 : Int32)) ∧ M' = M := by
    intro w0
    subst ho hM'
    exact ⟨congrArg (fun z => some (Value.int z)) (if_neg (fun h => absurd w0 h.1)), by rfl⟩
  have h4 : ¬ i < 0 → (M x 0) ≤ i → o = some (.int (0 : Int32)) ∧ M' = M := by
    intro w0 w1
    subst ho hM'
    exact ⟨congrArg (fun z => some (Value.int z)) (if_neg (fun h => h.2 w1)), by rfl⟩
  have h5 : ¬ i < 0 → ¬ (M x 0) ≤ i → o = some (.int (1 : Int32)) ∧ M' = M := by
    intro w0 w1
    subst ho hM'
    exact ⟨congrArg (fun z => some (Value.int z)) (if_pos (⟨w0, w1⟩)), by rfl⟩
  refine e_iload_n (n := 1) C dX4_isStuff_0 rfl rfl ?_
  refine e_if_lt (tgt := 16) C dX4_isStuff_1 (by decide) (fun c1 => ?_) (fun c1 => ?_)
  · refine e_iconst (v := 0) C dX4_isStuff_16 (by decide) ?_
    exact e_iret C X rfl rfl dX4_isStuff_17 (h2 c1)
  · refine e_iload_n (n := 1) C dX4_isStuff_4 rfl rfl ?_
    refine e_aload_n (n := 0) C dX4_isStuff_5 rfl rfl ?_
    refine e_get (v := .int (M x 0)) C fd_X4_37 (ea_ltO (by decide) hx) hx rfl dX4_isStuff_6 ?_
    refine e_icmp_ge (tgt := 16) C dX4_isStuff_9 (by decide) (fun c3 => ?_) (fun c3 => ?_)
    · refine e_iconst (v := 0) C dX4_isStuff_16 (by decide) ?_
      exact e_iret C X rfl rfl dX4_isStuff_17 (h4 c1 c3)
    · refine e_iconst (v := 1) C dX4_isStuff_12 (by decide) ?_
      refine e_goto (tgt := 17) C dX4_isStuff_13 (by decide) ?_
      exact e_iret C X rfl rfl dX4_isStuff_17 (h5 c1 c3)
abbrev p_X4_isCell (M : ea_M) (x : Nat) (i : Int32) : Prop := (¬ (i < 0) ∧ ¬ ((M x 5) ≤ i))
set_option maxRecDepth 100000 in
set_option maxHeartbeats 4000000 in
theorem sp_X4_isCell {M : ea_M} {x : Nat} {i : Int32} (hx : ea_kd x = 4)   : ea_Sp 0 yX4_isCell cX4_isCell 2 (some .boolean) [.ref x, .int i] M (some (.int (if p_X4_isCell M x i then (1 : Int32) else 0))) M := by
  refine ea_intro (own := RX4) (by decide +kernel) rfl (fun g => Nat.le_of_ble_eq_true rfl) (fun k C X => ?_)
  obtain ⟨o, ho⟩ : ∃ z : Option Value, z = (some (.int (if p_X4_isCell M x i then (1 : Int32) else 0))) := ⟨_, rfl⟩
  obtain ⟨M', hM'⟩ : ∃ z : ea_M, z = M := ⟨_, rfl⟩
  rw [← ho, ← hM'] at X
  have h2 : i < 0 → o = some (.int (0 : Int32)) ∧ M' = M := by
    intro w0
    subst ho hM'
    exact ⟨congrArg (fun z => some (Value.int z)) (if_neg (fun h => absurd w0 h.1)), by rfl⟩
  have h4 : ¬ i < 0 → (M x 5) ≤ i → o = some (.int (0 : Int32)) ∧ M' = M := by
    intro w0 w1
    subst ho hM'
    exact ⟨congrArg (fun z => some (Value.int z)) (if_neg (fun h => h.2 w1)), by rfl⟩
  have h5 : ¬ i < 0 → ¬ (M x 5) ≤ i → o = some (.int (1 : Int32)) ∧ M' = M := by
    intro w0 w1
    subst ho hM'
    exact ⟨congrArg (fun z => some (Value.int z)) (if_pos (⟨w0, w1⟩)), by rfl⟩
  refine e_iload_n (n := 1) C dX4_isCell_0 rfl rfl ?_
  refine e_if_lt (tgt := 16) C dX4_isCell_1 (by decide) (fun c1 => ?_) (fun c1 => ?_)
  · refine e_iconst (v := 0) C dX4_isCell_16 (by decide) ?_
    exact e_iret C X rfl rfl dX4_isCell_17 (h2 c1)
  · refine e_iload_n (n := 1) C dX4_isCell_4 rfl rfl ?_
    refine e_aload_n (n := 0) C dX4_isCell_5 rfl rfl ?_
    refine e_get (v := .int (M x 5)) C fd_X4_45 (ea_ltO (by decide) hx) hx rfl dX4_isCell_6 ?_
    refine e_icmp_ge (tgt := 16) C dX4_isCell_9 (by decide) (fun c3 => ?_) (fun c3 => ?_)
    · refine e_iconst (v := 0) C dX4_isCell_16 (by decide) ?_
      exact e_iret C X rfl rfl dX4_isCell_17 (h4 c1 c3)
    · refine e_iconst (v := 1) C dX4_isCell_12 (by decide) ?_
      refine e_goto (tgt := 17) C dX4_isCell_13 (by decide) ?_
      exact e_iret C X rfl rfl dX4_isCell_17 (h5 c1 c3)
def f_X4_passesAt (M : ea_M) (x : Nat) (i : Int32) : Int32 := (pa_at (M (x + 3)) 6 (pa_at (M (x + 5)) 10 i))
set_option maxRecDepth 100000 in
set_option maxHeartbeats 4000000 in
theorem sp_X4_passesAt {M : ea_M} {x : Nat} {i : Int32} (hx : ea_kd x = 4)   : ea_Sp 1 yX4_passesAt cX4_passesAt 2 (some .int) [.ref x, .int i] M (some (.int (f_X4_passesAt M x i))) M := by
  refine ea_intro (own := RX4) (by decide +kernel) rfl (fun g => Nat.le_of_ble_eq_true rfl) (fun k C X => ?_)
  obtain ⟨o, ho⟩ : ∃ z : Option Value, z = (some (.int (f_X4_passesAt M x i))) := ⟨_, rfl⟩
  obtain ⟨M', hM'⟩ : ∃ z : ea_M, z = M := ⟨_, rfl⟩
  rw [← ho, ← hM'] at X
  have h1 : o = some (.int (pa_at (M (x + 3)) 6 (pa_at (M (x + 5)) 10 i))) ∧ M' = M := by
    subst ho hM'
    exact ⟨by simp only [f_X4_passesAt], by rfl⟩
  refine e_aload_n (n := 0) C dX4_passesAt_0 rfl rfl ?_
  refine e_get (v := .ref (x + 3)) C fd_X4_18 (ea_ltO (by decide) hx) hx rfl dX4_passesAt_1 ?_
  refine e_aload_n (n := 0) C dX4_passesAt_4 rfl rfl ?_
  refine e_get (v := .ref (x + 5)) C fd_X4_24 (ea_ltO (by decide) hx) hx rfl dX4_passesAt_5 ?_
  refine e_iload_n (n := 1) C dX4_passesAt_8 rfl rfl ?_
  refine e_callN1 (as := [.ref (x + 5), .int i]) (rest := [.ref (x + 3)]) C lk_X4_61 (sp_X6_at M (x + 5) 10 i (kd4_5 hx) (by decide) ) (by decide) rfl rfl (Nat.le_of_ble_eq_true rfl) dX4_passesAt_9 ?_
  refine e_callN1 (as := [.ref (x + 3), .int (pa_at (M (x + 5)) 10 i)]) (rest := []) C lk_X4_61 (sp_X6_at M (x + 3) 6 (pa_at (M (x + 5)) 10 i) (kd4_3 hx) (by decide) ) (by decide) rfl rfl (Nat.le_of_ble_eq_true rfl) dX4_passesAt_12 ?_
  exact e_iret C X rfl (vp_nar_int _) dX4_passesAt_15 h1
def f_X4_holdsAt (M : ea_M) (x : Nat) (i : Int32) : Int32 := (pa_at (M (x + 4)) 6 (pa_at (M (x + 5)) 10 i))
set_option maxRecDepth 100000 in
set_option maxHeartbeats 4000000 in
theorem sp_X4_holdsAt {M : ea_M} {x : Nat} {i : Int32} (hx : ea_kd x = 4)   : ea_Sp 1 yX4_holdsAt cX4_holdsAt 2 (some .int) [.ref x, .int i] M (some (.int (f_X4_holdsAt M x i))) M := by
  refine ea_intro (own := RX4) (by decide +kernel) rfl (fun g => Nat.le_of_ble_eq_true rfl) (fun k C X => ?_)
  obtain ⟨o, ho⟩ : ∃ z : Option Value, z = (some (.int (f_X4_holdsAt M x i))) := ⟨_, rfl⟩
  obtain ⟨M', hM'⟩ : ∃ z : ea_M, z = M := ⟨_, rfl⟩
  rw [← ho, ← hM'] at X
  have h1 : o = some (.int (pa_at (M (x + 4)) 6 (pa_at (M (x + 5)) 10 i))) ∧ M' = M := by
    subst ho hM'
    exact ⟨by simp only [f_X4_holdsAt], by rfl⟩
  refine e_aload_n (n := 0) C dX4_holdsAt_0 rfl rfl ?_
  refine e_get (v := .ref (x + 4)) C fd_X4_21 (ea_ltO (by decide) hx) hx rfl dX4_holdsAt_1 ?_
  refine e_aload_n (n := 0) C dX4_holdsAt_4 rfl rfl ?_
  refine e_get (v := .ref (x + 5)) C fd_X4_24 (ea_ltO (by decide) hx) hx rfl dX4_holdsAt_5 ?_
  refine e_iload_n (n := 1) C dX4_holdsAt_8 rfl rfl ?_
  refine e_callN1 (as := [.ref (x + 5), .int i]) (rest := [.ref (x + 4)]) C lk_X4_61 (sp_X6_at M (x + 5) 10 i (kd4_5 hx) (by decide) ) (by decide) rfl rfl (Nat.le_of_ble_eq_true rfl) dX4_holdsAt_9 ?_
  refine e_callN1 (as := [.ref (x + 4), .int (pa_at (M (x + 5)) 10 i)]) (rest := []) C lk_X4_61 (sp_X6_at M (x + 4) 6 (pa_at (M (x + 5)) 10 i) (kd4_4 hx) (by decide) ) (by decide) rfl rfl (Nat.le_of_ble_eq_true rfl) dX4_holdsAt_12 ?_
  exact e_iret C X rfl (vp_nar_int _) dX4_holdsAt_15 h1
def g_X5_forget (M : ea_M) (x : Nat) : ea_M := (ea_up (ea_up (ea_up M x 4 (0 : Int32)) x 5 (0 : Int32)) x 6 (0 : Int32))
set_option maxRecDepth 100000 in
set_option maxHeartbeats 4000000 in
theorem sp_X5_forget {M : ea_M} {x : Nat} (hx : ea_kd x = 5)   : ea_Sp 0 yX5_forget cX5_forget 1 none [.ref x] M none (g_X5_forget M x) := by
  refine ea_intro (own := RX5) (by decide +kernel) rfl (fun g => Nat.le_of_ble_eq_true rfl) (fun k C X => ?_)
  obtain ⟨o, ho⟩ : ∃ z : Option Value, z = none := ⟨_, rfl⟩
  obtain ⟨M', hM'⟩ : ∃ z : ea_M, z = (g_X5_forget M x) := ⟨_, rfl⟩
  rw [← ho, ← hM'] at X
  have h1 : o = none ∧ M' = (ea_up (ea_up (ea_up M x 4 (0 : Int32)) x 5 (0 : Int32)) x 6 (0 : Int32)) := by
    subst ho hM'
    exact ⟨rfl, by simp only [g_X5_forget]⟩
  refine e_aload_n (n := 0) C dX5_forget_0 rfl rfl ?_
  refine e_iconst (v := 0) C dX5_forget_1 (by decide) ?_
  refine e_put (ty := .int) C fd_X5_29 (ea_ltO (by decide) hx) hx rfl (by decide +kernel) (vp_nar_int _) rfl (ea_set5_4 _ _ _) dX5_forget_2 ?_
  refine e_aload_n (n := 0) C dX5_forget_5 rfl rfl ?_
  refine e_iconst (v := 0) C dX5_forget_6 (by decide) ?_
  refine e_put (ty := .int) C fd_X5_32 (ea_ltO (by decide) hx) hx rfl (by decide +kernel) (vp_nar_int _) rfl (ea_set5_5 _ _ _) dX5_forget_7 ?_
  refine e_aload_n (n := 0) C dX5_forget_10 rfl rfl ?_
  refine e_iconst (v := 0) C dX5_forget_11 (by decide) ?_
  refine e_put (ty := .int) C fd_X5_35 (ea_ltO (by decide) hx) hx rfl (by decide +kernel) (vp_nar_int _) rfl (ea_set5_6 _ _ _) dX5_forget_12 ?_
  exact e_vret C X dX5_forget_15 h1
theorem fr_X5_forget {M : ea_M} {x : Nat} {zz : Nat} (e0 : zz ≠ x) : g_X5_forget M x zz = M zz := by
  simp only [g_X5_forget]
  repeat' split
  all_goals simp [ea_upR, ea_upS, ea_upK, pa_setR, pa_cpR, fr_X3_add, e0]
theorem ap5 {x y : Nat} (hx : ea_kd x = 5) (hy : ea_kd y = 5) (h : y ≠ x) : y ≠ x + 1 ∧ y + 1 ≠ x ∧ y + 1 ≠ x + 1 := by
  have q : ∀ a, a < 79 → ea_kd a = 5 → ea_kd (a + 1) = 1010 := by decide +kernel
  refine ⟨fun e => ?_, fun e => ?_, by omega⟩
  · have := q x (ea_ltO (by decide) hx) hx
    rw [← e, hy] at this
    exact absurd this (by decide)
  · have := q y (ea_ltO (by decide) hy) hy
    rw [e, hx] at this
    exact absurd this (by decide)
def g_X5_become (M : ea_M) (x y : Nat) : ea_M := (ea_up (ea_up (ea_up (ea_up (ea_up (ea_up (pa_cp M (y + 1) (x + 1) 10) x 1 (M y 1)) x 2 (M y 2)) x 3 (M y 3)) x 4 (M y 4)) x 5 (M y 5)) x 6 (M y 6))
set_option maxRecDepth 100000 in
set_option maxHeartbeats 4000000 in
theorem sp_X5_become {M : ea_M} {x y : Nat} (hx : ea_kd x = 5) (hy : ea_kd y = 5) (a1 : y ≠ x) (a2 : y ≠ x + 1) (a3 : y + 1 ≠ x) (a4 : y + 1 ≠ x + 1) (n1 : y ≠ x) : ea_Sp 2 yX5_become cX5_become 2 none [.ref x, .ref y] M none (g_X5_become M x y) := by
  refine ea_intro (own := RX5) (by decide +kernel) rfl (fun g => Nat.le_of_ble_eq_true rfl) (fun k C X => ?_)
  obtain ⟨o, ho⟩ : ∃ z : Option Value, z = none := ⟨_, rfl⟩
  obtain ⟨M', hM'⟩ : ∃ z : ea_M, z = (g_X5_become M x y) := ⟨_, rfl⟩
  rw [← ho, ← hM'] at X
  have h2 : o = none ∧ M' = (ea_up (ea_up (ea_up (ea_up (ea_up (ea_up (pa_cp M (y + 1) (x + 1) 10) x 1 (M y 1)) x 2 (M y 2)) x 3 (M y 3)) x 4 (M y 4)) x 5 (M y 5)) x 6 (M y 6)) := by
    subst ho hM'
    exact ⟨rfl, by simp only [g_X5_become]⟩
  refine e_aload_n (n := 1) C dX5_become_0 rfl rfl ?_
  refine e_get (v := .ref (y + 1)) C fd_X5_9 (ea_ltO (by decide) hy) hy rfl dX5_become_1 ?_
  refine e_aload_n (n := 0) C dX5_become_4 rfl rfl ?_
  refine e_get (v := .ref (x + 1)) C fd_X5_9 (ea_ltO (by decide) hx) hx rfl dX5_become_5 ?_
  refine e_callN0 (as := [.ref (y + 1), .ref (x + 1)]) (rest := []) C lk_X5_19 (sp_X6_copyRow M (y + 1) (x + 1) 10 (by omega) (kd5_1 hy) (kd5_1 hx) (by decide) ) (by decide) rfl rfl (Nat.le_of_ble_eq_true rfl) dX5_become_8 ?_
  refine e_aload_n (n := 0) C dX5_become_11 rfl rfl ?_
  refine e_aload_n (n := 1) C dX5_become_12 rfl rfl ?_
  refine e_get (v := .int (M y 1)) C fd_X5_23 (ea_ltO (by decide) hy) hy (congrArg (fun z => some (Value.int z)) (by simp [ea_upR, ea_upS, ea_upK, pa_setR, pa_cpR, fr_X3_add, fr_X5_forget, a1, a2, a3, a4] : (pa_cp M (y + 1) (x + 1) 10) y 1 = (M y 1))) dX5_become_13 ?_
  refine e_put (ty := .int) C fd_X5_23 (ea_ltO (by decide) hx) hx rfl (by decide +kernel) (vp_nar_int _) rfl (ea_set5_1 _ _ _) dX5_become_16 ?_
  refine e_aload_n (n := 0) C dX5_become_19 rfl rfl ?_
  refine e_aload_n (n := 1) C dX5_become_20 rfl rfl ?_
  refine e_get (v := .int (M y 2)) C fd_X5_26 (ea_ltO (by decide) hy) hy (congrArg (fun z => some (Value.int z)) (by simp [ea_upR, ea_upS, ea_upK, pa_setR, pa_cpR, fr_X3_add, fr_X5_forget, a1, a2, a3, a4] : (ea_up (pa_cp M (y + 1) (x + 1) 10) x 1 (M y 1)) y 2 = (M y 2))) dX5_become_21 ?_
  refine e_put (ty := .int) C fd_X5_26 (ea_ltO (by decide) hx) hx rfl (by decide +kernel) (vp_nar_int _) rfl (ea_set5_2 _ _ _) dX5_become_24 ?_
  refine e_aload_n (n := 0) C dX5_become_27 rfl rfl ?_
  refine e_aload_n (n := 1) C dX5_become_28 rfl rfl ?_
  refine e_get (v := .int (M y 3)) C fd_X5_15 (ea_ltO (by decide) hy) hy (congrArg (fun z => some (Value.int z)) (by simp [ea_upR, ea_upS, ea_upK, pa_setR, pa_cpR, fr_X3_add, fr_X5_forget, a1, a2, a3, a4] : (ea_up (ea_up (pa_cp M (y + 1) (x + 1) 10) x 1 (M y 1)) x 2 (M y 2)) y 3 = (M y 3))) dX5_become_29 ?_
  refine e_put (ty := .int) C fd_X5_15 (ea_ltO (by decide) hx) hx rfl (by decide +kernel) (vp_nar_int _) rfl (ea_set5_3 _ _ _) dX5_become_32 ?_
  refine e_aload_n (n := 0) C dX5_become_35 rfl rfl ?_
  refine e_aload_n (n := 1) C dX5_become_36 rfl rfl ?_
  refine e_get (v := .int (M y 4)) C fd_X5_29 (ea_ltO (by decide) hy) hy (congrArg (fun z => some (Value.int z)) (by simp [ea_upR, ea_upS, ea_upK, pa_setR, pa_cpR, fr_X3_add, fr_X5_forget, a1, a2, a3, a4] : (ea_up (ea_up (ea_up (pa_cp M (y + 1) (x + 1) 10) x 1 (M y 1)) x 2 (M y 2)) x 3 (M y 3)) y 4 = (M y 4))) dX5_become_37 ?_
  refine e_put (ty := .int) C fd_X5_29 (ea_ltO (by decide) hx) hx rfl (by decide +kernel) (vp_nar_int _) rfl (ea_set5_4 _ _ _) dX5_become_40 ?_
  refine e_aload_n (n := 0) C dX5_become_43 rfl rfl ?_
  refine e_aload_n (n := 1) C dX5_become_44 rfl rfl ?_
  refine e_get (v := .int (M y 5)) C fd_X5_32 (ea_ltO (by decide) hy) hy (congrArg (fun z => some (Value.int z)) (by simp [ea_upR, ea_upS, ea_upK, pa_setR, pa_cpR, fr_X3_add, fr_X5_forget, a1, a2, a3, a4] : (ea_up (ea_up (ea_up (ea_up (pa_cp M (y + 1) (x + 1) 10) x 1 (M y 1)) x 2 (M y 2)) x 3 (M y 3)) x 4 (M y 4)) y 5 = (M y 5))) dX5_become_45 ?_
  refine e_put (ty := .int) C fd_X5_32 (ea_ltO (by decide) hx) hx rfl (by decide +kernel) (vp_nar_int _) rfl (ea_set5_5 _ _ _) dX5_become_48 ?_
  refine e_aload_n (n := 0) C dX5_become_51 rfl rfl ?_
  refine e_aload_n (n := 1) C dX5_become_52 rfl rfl ?_
  refine e_get (v := .int (M y 6)) C fd_X5_35 (ea_ltO (by decide) hy) hy (congrArg (fun z => some (Value.int z)) (by simp [ea_upR, ea_upS, ea_upK, pa_setR, pa_cpR, fr_X3_add, fr_X5_forget, a1, a2, a3, a4] : (ea_up (ea_up (ea_up (ea_up (ea_up (pa_cp M (y + 1) (x + 1) 10) x 1 (M y 1)) x 2 (M y 2)) x 3 (M y 3)) x 4 (M y 4)) x 5 (M y 5)) y 6 = (M y 6))) dX5_become_53 ?_
  refine e_put (ty := .int) C fd_X5_35 (ea_ltO (by decide) hx) hx rfl (by decide +kernel) (vp_nar_int _) rfl (ea_set5_6 _ _ _) dX5_become_56 ?_
  exact e_vret C X dX5_become_59 h2
theorem fr_X5_become {M : ea_M} {x y : Nat} {zz : Nat} (e0 : zz ≠ (x + 1)) (e1 : zz ≠ x) : g_X5_become M x y zz = M zz := by
  simp only [g_X5_become]
  repeat' split
  all_goals simp [ea_upR, ea_upS, ea_upK, pa_setR, pa_cpR, fr_X3_add, fr_X5_forget, e0, e1]
def g_X4_clear (M : ea_M) (x : Nat) (t : Int32) : ea_M := (ea_up (ea_up (ea_up (ea_up (ea_up M x 0 (0 : Int32)) x 5 (0 : Int32)) (x + 7) 1 (0 : Int32)) (x + 7) 2 (0 : Int32)) (x + 7) 3 t)
set_option maxRecDepth 100000 in
set_option maxHeartbeats 4000000 in
theorem sp_X4_clear {M : ea_M} {x : Nat} {t : Int32} (hx : ea_kd x = 4)   : ea_Sp 0 yX4_clear cX4_clear 2 none [.ref x, .int t] M none (g_X4_clear M x t) := by
  refine ea_intro (own := RX4) (by decide +kernel) rfl (fun g => Nat.le_of_ble_eq_true rfl) (fun k C X => ?_)
  obtain ⟨o, ho⟩ : ∃ z : Option Value, z = none := ⟨_, rfl⟩
  obtain ⟨M', hM'⟩ : ∃ z : ea_M, z = (g_X4_clear M x t) := ⟨_, rfl⟩
  rw [← ho, ← hM'] at X
  have h1 : o = none ∧ M' = (ea_up (ea_up (ea_up (ea_up (ea_up M x 0 (0 : Int32)) x 5 (0 : Int32)) (x + 7) 1 (0 : Int32)) (x + 7) 2 (0 : Int32)) (x + 7) 3 t) := by
    subst ho hM'
    exact ⟨rfl, by simp only [g_X4_clear]⟩
  refine e_aload_n (n := 0) C dX4_clear_0 rfl rfl ?_
  refine e_iconst (v := 0) C dX4_clear_1 (by decide) ?_
  refine e_put (ty := .int) C fd_X4_37 (ea_ltO (by decide) hx) hx rfl (by decide +kernel) (vp_nar_int _) rfl (ea_set4_0 _ _ _) dX4_clear_2 ?_
  refine e_aload_n (n := 0) C dX4_clear_5 rfl rfl ?_
  refine e_iconst (v := 0) C dX4_clear_6 (by decide) ?_
  refine e_put (ty := .int) C fd_X4_45 (ea_ltO (by decide) hx) hx rfl (by decide +kernel) (vp_nar_int _) rfl (ea_set4_5 _ _ _) dX4_clear_7 ?_
  refine e_aload_n (n := 0) C dX4_clear_10 rfl rfl ?_
  refine e_get (v := .ref (x + 7)) C fd_X4_30 (ea_ltO (by decide) hx) hx rfl dX4_clear_11 ?_
  refine e_iconst (v := 0) C dX4_clear_14 (by decide) ?_
  refine e_put (ty := .int) C fd_X4_52 (lt4_7 hx) (kd4_7 hx) rfl (by decide +kernel) (vp_nar_int _) rfl (ea_set5_1 _ _ _) dX4_clear_15 ?_
  refine e_aload_n (n := 0) C dX4_clear_18 rfl rfl ?_
  refine e_get (v := .ref (x + 7)) C fd_X4_30 (ea_ltO (by decide) hx) hx rfl dX4_clear_19 ?_
  refine e_iconst (v := 0) C dX4_clear_22 (by decide) ?_
  refine e_put (ty := .int) C fd_X4_55 (lt4_7 hx) (kd4_7 hx) rfl (by decide +kernel) (vp_nar_int _) rfl (ea_set5_2 _ _ _) dX4_clear_23 ?_
  refine e_aload_n (n := 0) C dX4_clear_26 rfl rfl ?_
  refine e_get (v := .ref (x + 7)) C fd_X4_30 (ea_ltO (by decide) hx) hx rfl dX4_clear_27 ?_
  refine e_iload_n (n := 1) C dX4_clear_30 rfl rfl ?_
  refine e_put (ty := .int) C fd_X4_58 (lt4_7 hx) (kd4_7 hx) rfl (by decide +kernel) (vp_nar_int _) rfl (ea_set5_3 _ _ _) dX4_clear_31 ?_
  exact e_vret C X dX4_clear_34 h1
theorem fr_X4_clear {M : ea_M} {x : Nat} {t : Int32} {zz : Nat} (e0 : zz ≠ x) (e1 : zz ≠ (x + 7)) : g_X4_clear M x t zz = M zz := by
  simp only [g_X4_clear]
  repeat' split
  all_goals simp [ea_upR, ea_upS, ea_upK, pa_setR, pa_cpR, fr_X3_add, fr_X5_forget, fr_X5_become, e0, e1]
def g_X4_addStuff (M : ea_M) (x : Nat) (p c : Int32) : ea_M := (ea_up (pa_set (pa_set M (x + 3) 6 (M x 0) p) (x + 4) 6 (M x 0) c) x 0 ((M x 0) + (1 : Int32)))
set_option maxRecDepth 100000 in
set_option maxHeartbeats 4000000 in
theorem sp_X4_addStuff {M : ea_M} {x : Nat} {p c : Int32} (hx : ea_kd x = 4)   : ea_Sp 1 yX4_addStuff cX4_addStuff 3 none [.ref x, .int p, .int c] M none (g_X4_addStuff M x p c) := by
  refine ea_intro (own := RX4) (by decide +kernel) rfl (fun g => Nat.le_of_ble_eq_true rfl) (fun k C X => ?_)
  obtain ⟨o, ho⟩ : ∃ z : Option Value, z = none := ⟨_, rfl⟩
  obtain ⟨M', hM'⟩ : ∃ z : ea_M, z = (g_X4_addStuff M x p c) := ⟨_, rfl⟩
  rw [← ho, ← hM'] at X
  have h1 : o = none ∧ M' = (ea_up (pa_set (pa_set M (x + 3) 6 (M x 0) p) (x + 4) 6 (M x 0) c) x 0 ((M x 0) + (1 : Int32))) := by
    subst ho hM'
    exact ⟨rfl, by simp only [g_X4_addStuff]⟩
  refine e_aload_n (n := 0) C dX4_addStuff_0 rfl rfl ?_
  refine e_get (v := .ref (x + 3)) C fd_X4_18 (ea_ltO (by decide) hx) hx rfl dX4_addStuff_1 ?_
  refine e_aload_n (n := 0) C dX4_addStuff_4 rfl rfl ?_
  refine e_get (v := .int (M x 0)) C fd_X4_37 (ea_ltO (by decide) hx) hx rfl dX4_addStuff_5 ?_
  refine e_iload_n (n := 1) C dX4_addStuff_8 rfl rfl ?_
  refine e_callN0 (as := [.ref (x + 3), .int (M x 0), .int p]) (rest := []) C lk_X4_71 (sp_X6_set M (x + 3) 6 (M x 0) p (kd4_3 hx) (by decide) ) (by decide) rfl rfl (Nat.le_of_ble_eq_true rfl) dX4_addStuff_9 ?_
  refine e_aload_n (n := 0) C dX4_addStuff_12 rfl rfl ?_
  refine e_get (v := .ref (x + 4)) C fd_X4_21 (ea_ltO (by decide) hx) hx rfl dX4_addStuff_13 ?_
  refine e_aload_n (n := 0) C dX4_addStuff_16 rfl rfl ?_
  refine e_get (v := .int (M x 0)) C fd_X4_37 (ea_ltO (by decide) hx) hx (congrArg (fun z => some (Value.int z)) (by simp [ea_upR, ea_upS, ea_upK, pa_setR, pa_cpR, fr_X3_add, fr_X5_forget, fr_X5_become, fr_X4_clear] : (pa_set M (x + 3) 6 (M x 0) p) x 0 = (M x 0))) dX4_addStuff_17 ?_
  refine e_iload_n (n := 2) C dX4_addStuff_20 rfl rfl ?_
  refine e_callN0 (as := [.ref (x + 4), .int (M x 0), .int c]) (rest := []) C lk_X4_71 (sp_X6_set (pa_set M (x + 3) 6 (M x 0) p) (x + 4) 6 (M x 0) c (kd4_4 hx) (by decide) ) (by decide) rfl rfl (Nat.le_of_ble_eq_true rfl) dX4_addStuff_21 ?_
  refine e_aload_n (n := 0) C dX4_addStuff_24 rfl rfl ?_
  refine e_dup C dX4_addStuff_25 rfl ?_
  refine e_get (v := .int (M x 0)) C fd_X4_37 (ea_ltO (by decide) hx) hx (congrArg (fun z => some (Value.int z)) (by simp [ea_upR, ea_upS, ea_upK, pa_setR, pa_cpR, fr_X3_add, fr_X5_forget, fr_X5_become, fr_X4_clear] : (pa_set (pa_set M (x + 3) 6 (M x 0) p) (x + 4) 6 (M x 0) c) x 0 = (M x 0))) dX4_addStuff_26 ?_
  refine e_iconst (v := 1) C dX4_addStuff_29 (by decide) ?_
  refine e_iadd C dX4_addStuff_30 ?_
  refine e_put (ty := .int) C fd_X4_37 (ea_ltO (by decide) hx) hx rfl (by decide +kernel) (vp_nar_int _) rfl (ea_set4_0 _ _ _) dX4_addStuff_31 ?_
  exact e_vret C X dX4_addStuff_34 h1
theorem fr_X4_addStuff {M : ea_M} {x : Nat} {p c : Int32} {zz : Nat} (e0 : zz ≠ (x + 3)) (e1 : zz ≠ (x + 4)) (e2 : zz ≠ x) : g_X4_addStuff M x p c zz = M zz := by
  simp only [g_X4_addStuff]
  repeat' split
  all_goals simp [ea_upR, ea_upS, ea_upK, pa_setR, pa_cpR, fr_X3_add, fr_X5_forget, fr_X5_become, fr_X4_clear, e0, e1, e2]
def f_X4_degreesAbove (M : ea_M) (x w : Nat) (i : Int32) : Int64 := (if 0 ≤ i then (if (M x 5) ≤ i then (((M w 2)).toInt64) else (((pa_at (M (w + 1)) 10 i)).toInt64)) else (((M w 1)).toInt64))
set_option maxRecDepth 100000 in
set_option maxHeartbeats 4000000 in
theorem sp_X4_degreesAbove {M : ea_M} {x w : Nat} {i : Int32} (hx : ea_kd x = 4) (hw : ea_kd w = 5)   : ea_Sp 1 yX4_degreesAbove cX4_degreesAbove 3 (some .long) [.ref x, .ref w, .int i] M (some (.long (f_X4_degreesAbove M x w i))) M := by
  refine ea_intro (own := RX4) (by decide +kernel) rfl (fun g => Nat.le_of_ble_eq_true rfl) (fun k C X => ?_)
  obtain ⟨o, ho⟩ : ∃ z : Option Value, z = (some (.long (f_X4_degreesAbove M x w i))) := ⟨_, rfl⟩
  obtain ⟨M', hM'⟩ : ∃ z : ea_M, z = M := ⟨_, rfl⟩
  rw [← ho, ← hM'] at X
  have h3 : 0 ≤ i → (M x 5) ≤ i → o = some (.long (((M w 2)).toInt64)) ∧ M' = M := by
    intro w0 w1
    subst ho hM'
    exact ⟨by simp only [f_X4_degreesAbove, if_pos w0, if_pos w1], by rfl⟩
  have h4 : 0 ≤ i → ¬ (M x 5) ≤ i → o = some (.long (((pa_at (M (w + 1)) 10 i)).toInt64)) ∧ M' = M := by
    intro w0 w1
    subst ho hM'
    exact ⟨by simp only [f_X4_degreesAbove, if_pos w0, if_neg w1], by rfl⟩
  have h5 : ¬ 0 ≤ i → o = some (.long (((M w 1)).toInt64)) ∧ M' = M := by
    intro w0
    subst ho hM'
    exact ⟨by simp only [f_X4_degreesAbove, if_neg w0], by rfl⟩
  refine e_iload_n (n := 2) C dX4_degreesAbove_0 rfl rfl ?_
  refine e_if_ge (tgt := 10) C dX4_degreesAbove_1 (by decide) (fun c1 => ?_) (fun c1 => ?_)
  · refine e_iload_n (n := 2) C dX4_degreesAbove_10 rfl rfl ?_
    refine e_aload_n (n := 0) C dX4_degreesAbove_11 rfl rfl ?_
    refine e_get (v := .int (M x 5)) C fd_X4_45 (ea_ltO (by decide) hx) hx rfl dX4_degreesAbove_12 ?_
    refine e_icmp_ge (tgt := 30) C dX4_degreesAbove_15 (by decide) (fun c2 => ?_) (fun c2 => ?_)
    · refine e_aload_n (n := 1) C dX4_degreesAbove_30 rfl rfl ?_
      refine e_get (v := .int (M w 2)) C fd_X4_55 (ea_ltO (by decide) hw) hw rfl dX4_degreesAbove_31 ?_
      refine e_i2l C dX4_degreesAbove_34 ?_
      exact e_lret C X dX4_degreesAbove_35 (h3 c1 c2)
    · refine e_aload_n (n := 1) C dX4_degreesAbove_18 rfl rfl ?_
      refine e_get (v := .ref (w + 1)) C fd_X4_81 (ea_ltO (by decide) hw) hw rfl dX4_degreesAbove_19 ?_
      refine e_iload_n (n := 2) C dX4_degreesAbove_22 rfl rfl ?_
      refine e_callN1 (as := [.ref (w + 1), .int i]) (rest := []) C lk_X4_61 (sp_X6_at M (w + 1) 10 i (kd5_1 hw) (by decide) ) (by decide) rfl rfl (Nat.le_of_ble_eq_true rfl) dX4_degreesAbove_23 ?_
      refine e_i2l C dX4_degreesAbove_26 ?_
      refine e_goto (tgt := 35) C dX4_degreesAbove_27 (by decide) ?_
      exact e_lret C X dX4_degreesAbove_35 (h4 c1 c2)
  · refine e_aload_n (n := 1) C dX4_degreesAbove_4 rfl rfl ?_
    refine e_get (v := .int (M w 1)) C fd_X4_52 (ea_ltO (by decide) hw) hw rfl dX4_degreesAbove_5 ?_
    refine e_i2l C dX4_degreesAbove_8 ?_
    exact e_lret C X dX4_degreesAbove_9 (h5 c1)
def f_X4_degreesBelow (M : ea_M) (x : Nat) (i : Int32) : Int64 := (if p_X4_isCell M x i then (((f_X4_holdsAt M x i)).toInt64) else (1 : Int64))
set_option maxRecDepth 100000 in
set_option maxHeartbeats 4000000 in
theorem sp_X4_degreesBelow {M : ea_M} {x : Nat} {i : Int32} (hx : ea_kd x = 4)   : ea_Sp 2 yX4_degreesBelow cX4_degreesBelow 2 (some .long) [.ref x, .int i] M (some (.long (f_X4_degreesBelow M x i))) M := by
  refine ea_intro (own := RX4) (by decide +kernel) rfl (fun g => Nat.le_of_ble_eq_true rfl) (fun k C X => ?_)
  obtain ⟨o, ho⟩ : ∃ z : Option Value, z = (some (.long (f_X4_degreesBelow M x i))) := ⟨_, rfl⟩
  obtain ⟨M', hM'⟩ : ∃ z : ea_M, z = M := ⟨_, rfl⟩
  rw [← ho, ← hM'] at X
  have h2 : ¬ p_X4_isCell M x i → o = some (.long (1 : Int64)) ∧ M' = M := by
    intro w0
    subst ho hM'
    exact ⟨by simp only [f_X4_degreesBelow, if_neg w0], by rfl⟩
  have h3 : p_X4_isCell M x i → o = some (.long (((f_X4_holdsAt M x i)).toInt64)) ∧ M' = M := by
    intro w0
    subst ho hM'
    exact ⟨by simp only [f_X4_degreesBelow, if_pos w0], by rfl⟩
  refine e_aload_n (n := 0) C dX4_degreesBelow_0 rfl rfl ?_
  refine e_iload_n (n := 1) C dX4_degreesBelow_1 rfl rfl ?_
  refine e_callV1 (as := [.int i]) (rest := []) C lk_X4_126 (sp_X4_isCell (M := M) (x := x) (i := i) hx ) (by decide) rfl (ea_ltO (by decide) hx) hx (by decide) rfl rfl (Nat.le_of_ble_eq_true rfl) dX4_degreesBelow_2 ?_
  refine e_ifb_eq (tgt := 17) C dX4_degreesBelow_5 (by decide) (fun c1 => ?_) (fun c1 => ?_)
  · refine e_lconst (v := 1) C dX4_degreesBelow_17 (by decide) ?_
    exact e_lret C X dX4_degreesBelow_18 (h2 c1)
  · refine e_aload_n (n := 0) C dX4_degreesBelow_8 rfl rfl ?_
    refine e_iload_n (n := 1) C dX4_degreesBelow_9 rfl rfl ?_
    refine e_callV1 (as := [.int i]) (rest := []) C lk_X4_129 (sp_X4_holdsAt (M := M) (x := x) (i := i) hx ) (by decide) rfl (ea_ltO (by decide) hx) hx (by decide) rfl rfl (Nat.le_of_ble_eq_true rfl) dX4_degreesBelow_10 ?_
    refine e_i2l C dX4_degreesBelow_13 ?_
    refine e_goto (tgt := 18) C dX4_degreesBelow_14 (by decide) ?_
    exact e_lret C X dX4_degreesBelow_18 (h3 c1)
def f_X4_heatBehind (M : ea_M) (x w : Nat) (i : Int32) : Int32 := (((pa_at (M (w + 1)) 10 i) + (pa_at (M (x + 6)) 11 i)) - (pa_at (M (x + 6)) 11 (i + (1 : Int32))))
set_option maxRecDepth 100000 in
set_option maxHeartbeats 4000000 in
theorem sp_X4_heatBehind {M : ea_M} {x w : Nat} {i : Int32} (hx : ea_kd x = 4) (hw : ea_kd w = 5)   : ea_Sp 1 yX4_heatBehind cX4_heatBehind 3 (some .int) [.ref x, .ref w, .int i] M (some (.int (f_X4_heatBehind M x w i))) M := by
  refine ea_intro (own := RX4) (by decide +kernel) rfl (fun g => Nat.le_of_ble_eq_true rfl) (fun k C X => ?_)
  obtain ⟨o, ho⟩ : ∃ z : Option Value, z = (some (.int (f_X4_heatBehind M x w i))) := ⟨_, rfl⟩
  obtain ⟨M', hM'⟩ : ∃ z : ea_M, z = M := ⟨_, rfl⟩
  rw [← ho, ← hM'] at X
  have h1 : o = some (.int (((pa_at (M (w + 1)) 10 i) + (pa_at (M (x + 6)) 11 i)) - (pa_at (M (x + 6)) 11 (i + (1 : Int32))))) ∧ M' = M := by
    subst ho hM'
    exact ⟨by simp only [f_X4_heatBehind], by rfl⟩
  refine e_aload_n (n := 1) C dX4_heatBehind_0 rfl rfl ?_
  refine e_get (v := .ref (w + 1)) C fd_X4_81 (ea_ltO (by decide) hw) hw rfl dX4_heatBehind_1 ?_
  refine e_iload_n (n := 2) C dX4_heatBehind_4 rfl rfl ?_
  refine e_callN1 (as := [.ref (w + 1), .int i]) (rest := []) C lk_X4_61 (sp_X6_at M (w + 1) 10 i (kd5_1 hw) (by decide) ) (by decide) rfl rfl (Nat.le_of_ble_eq_true rfl) dX4_heatBehind_5 ?_
  refine e_aload_n (n := 0) C dX4_heatBehind_8 rfl rfl ?_
  refine e_get (v := .ref (x + 6)) C fd_X4_34 (ea_ltO (by decide) hx) hx rfl dX4_heatBehind_9 ?_
  refine e_iload_n (n := 2) C dX4_heatBehind_12 rfl rfl ?_
  refine e_callN1 (as := [.ref (x + 6), .int i]) (rest := [.int (pa_at (M (w + 1)) 10 i)]) C lk_X4_61 (sp_X6_at M (x + 6) 11 i (kd4_6 hx) (by decide) ) (by decide) rfl rfl (Nat.le_of_ble_eq_true rfl) dX4_heatBehind_13 ?_
  refine e_iadd C dX4_heatBehind_16 ?_
  refine e_aload_n (n := 0) C dX4_heatBehind_17 rfl rfl ?_
  refine e_get (v := .ref (x + 6)) C fd_X4_34 (ea_ltO (by decide) hx) hx rfl dX4_heatBehind_18 ?_
  refine e_iload_n (n := 2) C dX4_heatBehind_21 rfl rfl ?_
  refine e_iconst (v := 1) C dX4_heatBehind_22 (by decide) ?_
  refine e_iadd C dX4_heatBehind_23 ?_
  refine e_callN1 (as := [.ref (x + 6), .int (i + (1 : Int32))]) (rest := [.int ((pa_at (M (w + 1)) 10 i) + (pa_at (M (x + 6)) 11 i))]) C lk_X4_61 (sp_X6_at M (x + 6) 11 (i + (1 : Int32)) (kd4_6 hx) (by decide) ) (by decide) rfl rfl (Nat.le_of_ble_eq_true rfl) dX4_heatBehind_24 ?_
  refine e_isub C dX4_heatBehind_27 ?_
  exact e_iret C X rfl (vp_nar_int _) dX4_heatBehind_28 h1
def f_X4_betweenAbove (M : ea_M) (x : Nat) (i : Int32) : Int64 := (if i = 0 then ((2 : Int64) * (((f_X4_passesAt M x (0 : Int32))).toInt64)) else (if i = (M x 5) then ((2 : Int64) * (((f_X4_passesAt M x ((M x 5) - (1 : Int32)))).toInt64)) else (((2 : Int64) * (((f_X4_passesAt M x (i - (1 : Int32)))).toInt64)) * (((f_X4_passesAt M x i)).toInt64))))
set_option maxRecDepth 100000 in
set_option maxHeartbeats 4000000 in
theorem sp_X4_betweenAbove {M : ea_M} {x : Nat} {i : Int32} (hx : ea_kd x = 4)   : ea_Sp 2 yX4_betweenAbove cX4_betweenAbove 2 (some .long) [.ref x, .int i] M (some (.long (f_X4_betweenAbove M x i))) M := by
  refine ea_intro (own := RX4) (by decide +kernel) rfl (fun g => Nat.le_of_ble_eq_true rfl) (fun k C X => ?_)
  obtain ⟨o, ho⟩ : ∃ z : Option Value, z = (some (.long (f_X4_betweenAbove M x i))) := ⟨_, rfl⟩
  obtain ⟨M', hM'⟩ : ∃ z : ea_M, z = M := ⟨_, rfl⟩
  rw [← ho, ← hM'] at X
  have h3 : ¬ i = 0 → ¬ i = (M x 5) → o = some (.long (((2 : Int64) * (((f_X4_passesAt M x (i - (1 : Int32)))).toInt64)) * (((f_X4_passesAt M x i)).toInt64))) ∧ M' = M := by
    intro w0 w1
    subst ho hM'
    exact ⟨by simp only [f_X4_betweenAbove, if_neg w0, if_neg w1], by rfl⟩
  have h4 : ¬ i = 0 → i = (M x 5) → o = some (.long ((2 : Int64) * (((f_X4_passesAt M x ((M x 5) - (1 : Int32)))).toInt64))) ∧ M' = M := by
    intro w0 w1
    subst ho hM'
    exact ⟨by simp only [f_X4_betweenAbove, if_neg w0, if_pos w1], by rfl⟩
  have h5 : i = 0 → o = some (.long ((2 : Int64) * (((f_X4_passesAt M x (0 : Int32))).toInt64))) ∧ M' = M := by
    intro w0
    subst ho hM'
    exact ⟨by simp only [f_X4_betweenAbove, if_pos w0], by rfl⟩
  refine e_iload_n (n := 1) C dX4_betweenAbove_0 rfl rfl ?_
  refine e_if_ne (tgt := 15) C dX4_betweenAbove_1 (by decide) (fun c1 => ?_) (fun c1 => ?_)
  · refine e_iload_n (n := 1) C dX4_betweenAbove_15 rfl rfl ?_
    refine e_aload_n (n := 0) C dX4_betweenAbove_16 rfl rfl ?_
    refine e_get (v := .int (M x 5)) C fd_X4_45 (ea_ltO (by decide) hx) hx rfl dX4_betweenAbove_17 ?_
    refine e_icmp_ne (tgt := 39) C dX4_betweenAbove_20 (by decide) (fun c2 => ?_) (fun c2 => ?_)
    · refine e_ldc2 C kc_X4_133 dX4_betweenAbove_39 ?_
      refine e_aload_n (n := 0) C dX4_betweenAbove_42 rfl rfl ?_
      refine e_iload_n (n := 1) C dX4_betweenAbove_43 rfl rfl ?_
      refine e_iconst (v := 1) C dX4_betweenAbove_44 (by decide) ?_
      refine e_isub C dX4_betweenAbove_45 ?_
      refine e_callV1 (as := [.int (i - (1 : Int32))]) (rest := [.long (2 : Int64)]) C lk_X4_135 (sp_X4_passesAt (M := M) (x := x) (i := (i - (1 : Int32))) hx ) (by decide) rfl (ea_ltO (by decide) hx) hx (by decide) rfl rfl (Nat.le_of_ble_eq_true rfl) dX4_betweenAbove_46 ?_
      refine e_i2l C dX4_betweenAbove_49 ?_
      refine e_lmul C dX4_betweenAbove_50 ?_
      refine e_aload_n (n := 0) C dX4_betweenAbove_51 rfl rfl ?_
      refine e_iload_n (n := 1) C dX4_betweenAbove_52 rfl rfl ?_
      refine e_callV1 (as := [.int i]) (rest := [.long ((2 : Int64) * (((f_X4_passesAt M x (i - (1 : Int32)))).toInt64))]) C lk_X4_135 (sp_X4_passesAt (M := M) (x := x) (i := i) hx ) (by decide) rfl (ea_ltO (by decide) hx) hx (by decide) rfl rfl (Nat.le_of_ble_eq_true rfl) dX4_betweenAbove_53 ?_
      refine e_i2l C dX4_betweenAbove_56 ?_
      refine e_lmul C dX4_betweenAbove_57 ?_
      exact e_lret C X dX4_betweenAbove_58 (h3 c1 c2)
    · refine e_ldc2 C kc_X4_133 dX4_betweenAbove_23 ?_
      refine e_aload_n (n := 0) C dX4_betweenAbove_26 rfl rfl ?_
      refine e_aload_n (n := 0) C dX4_betweenAbove_27 rfl rfl ?_
      refine e_get (v := .int (M x 5)) C fd_X4_45 (ea_ltO (by decide) hx) hx rfl dX4_betweenAbove_28 ?_
      refine e_iconst (v := 1) C dX4_betweenAbove_31 (by decide) ?_
      refine e_isub C dX4_betweenAbove_32 ?_
      refine e_callV1 (as := [.int ((M x 5) - (1 : Int32))]) (rest := [.long (2 : Int64)]) C lk_X4_135 (sp_X4_passesAt (M := M) (x := x) (i := ((M x 5) - (1 : Int32))) hx ) (by decide) rfl (ea_ltO (by decide) hx) hx (by decide) rfl rfl (Nat.le_of_ble_eq_true rfl) dX4_betweenAbove_33 ?_
      refine e_i2l C dX4_betweenAbove_36 ?_
      refine e_lmul C dX4_betweenAbove_37 ?_
      exact e_lret C X dX4_betweenAbove_38 (h4 c1 c2)
  · refine e_ldc2 C kc_X4_133 dX4_betweenAbove_4 ?_
    refine e_aload_n (n := 0) C dX4_betweenAbove_7 rfl rfl ?_
    refine e_iconst (v := 0) C dX4_betweenAbove_8 (by decide) ?_
    refine e_callV1 (as := [.int (0 : Int32)]) (rest := [.long (2 : Int64)]) C lk_X4_135 (sp_X4_passesAt (M := M) (x := x) (i := (0 : Int32)) hx ) (by decide) rfl (ea_ltO (by decide) hx) hx (by decide) rfl rfl (Nat.le_of_ble_eq_true rfl) dX4_betweenAbove_9 ?_
    refine e_i2l C dX4_betweenAbove_12 ?_
    refine e_lmul C dX4_betweenAbove_13 ?_
    exact e_lret C X dX4_betweenAbove_14 (h5 c1)
def f_X4_betweenBelow (M : ea_M) (x : Nat) (i : Int32) : Int64 := (if i = 0 then (1 : Int64) else (if i = (M x 5) then (1 : Int64) else ((((f_X4_passesAt M x (i - (1 : Int32))) + (f_X4_passesAt M x i))).toInt64)))
set_option maxRecDepth 100000 in
set_option maxHeartbeats 4000000 in
theorem sp_X4_betweenBelow {M : ea_M} {x : Nat} {i : Int32} (hx : ea_kd x = 4)   : ea_Sp 2 yX4_betweenBelow cX4_betweenBelow 2 (some .long) [.ref x, .int i] M (some (.long (f_X4_betweenBelow M x i))) M := by
  refine ea_intro (own := RX4) (by decide +kernel) rfl (fun g => Nat.le_of_ble_eq_true rfl) (fun k C X => ?_)
  obtain ⟨o, ho⟩ : ∃ z : Option Value, z = (some (.long (f_X4_betweenBelow M x i))) := ⟨_, rfl⟩
  obtain ⟨M', hM'⟩ : ∃ z : ea_M, z = M := ⟨_, rfl⟩
  rw [← ho, ← hM'] at X
  have h2 : i = 0 → o = some (.long (1 : Int64)) ∧ M' = M := by
    intro w0
    subst ho hM'
    exact ⟨by simp only [f_X4_betweenBelow, if_pos w0], by rfl⟩
  have h4 : ¬ i = 0 → ¬ i = (M x 5) → o = some (.long ((((f_X4_passesAt M x (i - (1 : Int32))) + (f_X4_passesAt M x i))).toInt64)) ∧ M' = M := by
    intro w0 w1
    subst ho hM'
    exact ⟨by simp only [f_X4_betweenBelow, if_neg w0, if_neg w1], by rfl⟩
  have h5 : ¬ i = 0 → i = (M x 5) → o = some (.long (1 : Int64)) ∧ M' = M := by
    intro w0 w1
    subst ho hM'
    exact ⟨by simp only [f_X4_betweenBelow, if_neg w0, if_pos w1], by rfl⟩
  refine e_iload_n (n := 1) C dX4_betweenBelow_0 rfl rfl ?_
  refine e_if_eq (tgt := 12) C dX4_betweenBelow_1 (by decide) (fun c1 => ?_) (fun c1 => ?_)
  · refine e_lconst (v := 1) C dX4_betweenBelow_12 (by decide) ?_
    refine e_goto (tgt := 30) C dX4_betweenBelow_13 (by decide) ?_
    exact e_lret C X dX4_betweenBelow_30 (h2 c1)
  · refine e_iload_n (n := 1) C dX4_betweenBelow_4 rfl rfl ?_
    refine e_aload_n (n := 0) C dX4_betweenBelow_5 rfl rfl ?_
    refine e_get (v := .int (M x 5)) C fd_X4_45 (ea_ltO (by decide) hx) hx rfl dX4_betweenBelow_6 ?_
    refine e_icmp_ne (tgt := 16) C dX4_betweenBelow_9 (by decide) (fun c3 => ?_) (fun c3 => ?_)
    · refine e_aload_n (n := 0) C dX4_betweenBelow_16 rfl rfl ?_
      refine e_iload_n (n := 1) C dX4_betweenBelow_17 rfl rfl ?_
      refine e_iconst (v := 1) C dX4_betweenBelow_18 (by decide) ?_
      refine e_isub C dX4_betweenBelow_19 ?_
      refine e_callV1 (as := [.int (i - (1 : Int32))]) (rest := []) C lk_X4_135 (sp_X4_passesAt (M := M) (x := x) (i := (i - (1 : Int32))) hx ) (by decide) rfl (ea_ltO (by decide) hx) hx (by decide) rfl rfl (Nat.le_of_ble_eq_true rfl) dX4_betweenBelow_20 ?_
      refine e_aload_n (n := 0) C dX4_betweenBelow_23 rfl rfl ?_
      refine e_iload_n (n := 1) C dX4_betweenBelow_24 rfl rfl ?_
      refine e_callV1 (as := [.int i]) (rest := [.int (f_X4_passesAt M x (i - (1 : Int32)))]) C lk_X4_135 (sp_X4_passesAt (M := M) (x := x) (i := i) hx ) (by decide) rfl (ea_ltO (by decide) hx) hx (by decide) rfl rfl (Nat.le_of_ble_eq_true rfl) dX4_betweenBelow_25 ?_
      refine e_iadd C dX4_betweenBelow_28 ?_
      refine e_i2l C dX4_betweenBelow_29 ?_
      exact e_lret C X dX4_betweenBelow_30 (h4 c1 c3)
    · refine e_lconst (v := 1) C dX4_betweenBelow_12 (by decide) ?_
      refine e_goto (tgt := 30) C dX4_betweenBelow_13 (by decide) ?_
      exact e_lret C X dX4_betweenBelow_30 (h5 c1 c3)
abbrev p_X4_isAlike (M : ea_M) (x : Nat) (i j : Int32) : Prop := (((pa_at (M (x + 5)) 10 i) = (pa_at (M (x + 5)) 10 j)) ∧ (pa_at (M (x + 8)) 10 i) = (pa_at (M (x + 8)) 10 j))
set_option maxRecDepth 100000 in
set_option maxHeartbeats 4000000 in
theorem sp_X4_isAlike {M : ea_M} {x : Nat} {i j : Int32} (hx : ea_kd x = 4)   : ea_Sp 1 yX4_isAlike cX4_isAlike 3 (some .boolean) [.ref x, .int i, .int j] M (some (.int (if p_X4_isAlike M x i j then (1 : Int32) else 0))) M := by
  refine ea_intro (own := RX4) (by decide +kernel) rfl (fun g => Nat.le_of_ble_eq_true rfl) (fun k C X => ?_)
  obtain ⟨o, ho⟩ : ∃ z : Option Value, z = (some (.int (if p_X4_isAlike M x i j then (1 : Int32) else 0))) := ⟨_, rfl⟩
  obtain ⟨M', hM'⟩ : ∃ z : ea_M, z = M := ⟨_, rfl⟩
  rw [← ho, ← hM'] at X
  have h2 : ¬ (pa_at (M (x + 5)) 10 i) = (pa_at (M (x + 5)) 10 j) → o = some (.int (0 : Int32)) ∧ M' = M := by
    intro w0
    subst ho hM'
    exact ⟨congrArg (fun z => some (Value.int z)) (if_neg (fun h => absurd h.1 w0)), by rfl⟩
  have h4 : (pa_at (M (x + 5)) 10 i) = (pa_at (M (x + 5)) 10 j) → ¬ (pa_at (M (x + 8)) 10 i) = (pa_at (M (x + 8)) 10 j) → o = some (.int (0 : Int32)) ∧ M' = M := by
    intro w0 w1
    subst ho hM'
    exact ⟨congrArg (fun z => some (Value.int z)) (if_neg (fun h => w1 h.2)), by rfl⟩
  have h5 : (pa_at (M (x + 5)) 10 i) = (pa_at (M (x + 5)) 10 j) → (pa_at (M (x + 8)) 10 i) = (pa_at (M (x + 8)) 10 j) → o = some (.int (1 : Int32)) ∧ M' = M := by
    intro w0 w1
    subst ho hM'
    exact ⟨congrArg (fun z => some (Value.int z)) (if_pos (⟨w0, w1⟩)), by rfl⟩
  refine e_aload_n (n := 0) C dX4_isAlike_0 rfl rfl ?_
  refine e_get (v := .ref (x + 5)) C fd_X4_24 (ea_ltO (by decide) hx) hx rfl dX4_isAlike_1 ?_
  refine e_iload_n (n := 1) C dX4_isAlike_4 rfl rfl ?_
  refine e_callN1 (as := [.ref (x + 5), .int i]) (rest := []) C lk_X4_61 (sp_X6_at M (x + 5) 10 i (kd4_5 hx) (by decide) ) (by decide) rfl rfl (Nat.le_of_ble_eq_true rfl) dX4_isAlike_5 ?_
  refine e_aload_n (n := 0) C dX4_isAlike_8 rfl rfl ?_
  refine e_get (v := .ref (x + 5)) C fd_X4_24 (ea_ltO (by decide) hx) hx rfl dX4_isAlike_9 ?_
  refine e_iload_n (n := 2) C dX4_isAlike_12 rfl rfl ?_
  refine e_callN1 (as := [.ref (x + 5), .int j]) (rest := [.int (pa_at (M (x + 5)) 10 i)]) C lk_X4_61 (sp_X6_at M (x + 5) 10 j (kd4_5 hx) (by decide) ) (by decide) rfl rfl (Nat.le_of_ble_eq_true rfl) dX4_isAlike_13 ?_
  refine e_icmp_ne (tgt := 48) C dX4_isAlike_16 (by decide) (fun c1 => ?_) (fun c1 => ?_)
  · refine e_iconst (v := 0) C dX4_isAlike_48 (by decide) ?_
    exact e_iret C X rfl rfl dX4_isAlike_49 (h2 c1)
  · refine e_aload_n (n := 0) C dX4_isAlike_19 rfl rfl ?_
    refine e_get (v := .ref (x + 7)) C fd_X4_30 (ea_ltO (by decide) hx) hx rfl dX4_isAlike_20 ?_
    refine e_get (v := .ref (x + 8)) C fd_X4_81 (lt4_7 hx) (kd4_7 hx) rfl dX4_isAlike_23 ?_
    refine e_iload_n (n := 1) C dX4_isAlike_26 rfl rfl ?_
    refine e_callN1 (as := [.ref (x + 8), .int i]) (rest := []) C lk_X4_61 (sp_X6_at M (x + 8) 10 i (kd5_1 (kd4_7 hx)) (by decide) ) (by decide) rfl rfl (Nat.le_of_ble_eq_true rfl) dX4_isAlike_27 ?_
    refine e_aload_n (n := 0) C dX4_isAlike_30 rfl rfl ?_
    refine e_get (v := .ref (x + 7)) C fd_X4_30 (ea_ltO (by decide) hx) hx rfl dX4_isAlike_31 ?_
    refine e_get (v := .ref (x + 8)) C fd_X4_81 (lt4_7 hx) (kd4_7 hx) rfl dX4_isAlike_34 ?_
    refine e_iload_n (n := 2) C dX4_isAlike_37 rfl rfl ?_
    refine e_callN1 (as := [.ref (x + 8), .int j]) (rest := [.int (pa_at (M (x + 8)) 10 i)]) C lk_X4_61 (sp_X6_at M (x + 8) 10 j (kd5_1 (kd4_7 hx)) (by decide) ) (by decide) rfl rfl (Nat.le_of_ble_eq_true rfl) dX4_isAlike_38 ?_
    refine e_icmp_ne (tgt := 48) C dX4_isAlike_41 (by decide) (fun c3 => ?_) (fun c3 => ?_)
    · refine e_iconst (v := 0) C dX4_isAlike_48 (by decide) ?_
      exact e_iret C X rfl rfl dX4_isAlike_49 (h4 c1 c3)
    · refine e_iconst (v := 1) C dX4_isAlike_44 (by decide) ?_
      refine e_goto (tgt := 49) C dX4_isAlike_45 (by decide) ?_
      exact e_iret C X rfl rfl dX4_isAlike_49 (h5 c1 c3)
def f_X4_flowAt (M : ea_M) (x w : Nat) (i : Int32) : Int32 := (((f_X6_cut ((((f_X4_degreesAbove M x w (i - (1 : Int32))) * (f_X4_degreesBelow M x i)) - ((f_X4_degreesAbove M x w i) * (f_X4_degreesBelow M x (i - (1 : Int32))))) * (f_X4_betweenAbove M x i)) ((((f_X4_degreesBelow M x (i - (1 : Int32))) * (f_X4_degreesBelow M x i)) * (f_X4_betweenBelow M x i)) * (((M w 3)).toInt64)))).toInt32)
set_option maxRecDepth 100000 in
set_option maxHeartbeats 4000000 in
theorem sp_X4_flowAt {M : ea_M} {x w : Nat} {i : Int32} (hx : ea_kd x = 4) (hw : ea_kd w = 5)   : ea_Sp 3 yX4_flowAt cX4_flowAt 9 (some .int) [.ref x, .ref w, .int i] M (some (.int (f_X4_flowAt M x w i))) M := by
  refine ea_intro (own := RX4) (by decide +kernel) rfl (fun g => Nat.le_of_ble_eq_true rfl) (fun k C X => ?_)
  obtain ⟨o, ho⟩ : ∃ z : Option Value, z = (some (.int (f_X4_flowAt M x w i))) := ⟨_, rfl⟩
  obtain ⟨M', hM'⟩ : ∃ z : ea_M, z = M := ⟨_, rfl⟩
  rw [← ho, ← hM'] at X
  have h1 : o = some (.int (((f_X6_cut ((((f_X4_degreesAbove M x w (i - (1 : Int32))) * (f_X4_degreesBelow M x i)) - ((f_X4_degreesAbove M x w i) * (f_X4_degreesBelow M x (i - (1 : Int32))))) * (f_X4_betweenAbove M x i)) ((((f_X4_degreesBelow M x (i - (1 : Int32))) * (f_X4_degreesBelow M x i)) * (f_X4_betweenBelow M x i)) * (((M w 3)).toInt64)))).toInt32)) ∧ M' = M := by
    subst ho hM'
    exact ⟨by simp only [f_X4_flowAt], by rfl⟩
  refine e_aload_n (n := 0) C dX4_flowAt_0 rfl rfl ?_
  refine e_iload_n (n := 2) C dX4_flowAt_1 rfl rfl ?_
  refine e_iconst (v := 1) C dX4_flowAt_2 (by decide) ?_
  refine e_isub C dX4_flowAt_3 ?_
  refine e_callV1 (as := [.int (i - (1 : Int32))]) (rest := []) C lk_X4_108 (sp_X4_degreesBelow (M := M) (x := x) (i := (i - (1 : Int32))) hx ) (by decide) rfl (ea_ltO (by decide) hx) hx (by decide) rfl rfl (Nat.le_of_ble_eq_true rfl) dX4_flowAt_4 ?_
  refine e_lstore_n C dX4_flowAt_7 rfl (by decide) rfl ?_
  refine e_aload_n (n := 1) C dX4_flowAt_8 rfl rfl ?_
  refine e_iload_n (n := 3) C dX4_flowAt_9 rfl rfl ?_
  refine e_callV1 (as := [.int i]) (rest := []) C lk_X4_108 (sp_X4_degreesBelow (M := M) (x := x) (i := i) hx ) (by decide) rfl (ea_ltO (by decide) hx) hx (by decide) rfl rfl (Nat.le_of_ble_eq_true rfl) dX4_flowAt_10 ?_
  refine e_lstore C dX4_flowAt_13 (by decide) rfl ?_
  refine e_aload_n (n := 2) C dX4_flowAt_15 rfl rfl ?_
  refine e_aload_n (n := 3) C dX4_flowAt_16 rfl rfl ?_
  refine e_iload_n (n := 4) C dX4_flowAt_17 rfl rfl ?_
  refine e_iconst (v := 1) C dX4_flowAt_18 (by decide) ?_
  refine e_isub C dX4_flowAt_19 ?_
  refine e_callV1 (as := [.ref w, .int (i - (1 : Int32))]) (rest := []) C lk_X4_112 (sp_X4_degreesAbove (M := M) (x := x) (w := w) (i := (i - (1 : Int32))) hx hw ) (by decide) rfl (ea_ltO (by decide) hx) hx (by decide) rfl rfl (Nat.le_of_ble_eq_true rfl) dX4_flowAt_20 ?_
  refine e_lload (n := 0) C dX4_flowAt_23 rfl ?_
  refine e_lmul C dX4_flowAt_25 ?_
  refine e_aload_n (n := 2) C dX4_flowAt_26 rfl rfl ?_
  refine e_aload_n (n := 3) C dX4_flowAt_27 rfl rfl ?_
  refine e_iload_n (n := 4) C dX4_flowAt_28 rfl rfl ?_
  refine e_callV1 (as := [.ref w, .int i]) (rest := [.long ((f_X4_degreesAbove M x w (i - (1 : Int32))) * (f_X4_degreesBelow M x i))]) C lk_X4_112 (sp_X4_degreesAbove (M := M) (x := x) (w := w) (i := i) hx hw ) (by decide) rfl (ea_ltO (by decide) hx) hx (by decide) rfl rfl (Nat.le_of_ble_eq_true rfl) dX4_flowAt_29 ?_
  refine e_lload_n (n := 1) C dX4_flowAt_32 rfl rfl ?_
  refine e_lmul C dX4_flowAt_33 ?_
  refine e_lsub C dX4_flowAt_34 ?_
  refine e_lstore C dX4_flowAt_35 (by decide) rfl ?_
  refine e_lload (n := 0) C dX4_flowAt_37 rfl ?_
  refine e_aload_n (n := 3) C dX4_flowAt_39 rfl rfl ?_
  refine e_iload_n (n := 5) C dX4_flowAt_40 rfl rfl ?_
  refine e_callV1 (as := [.int i]) (rest := [.long (((f_X4_degreesAbove M x w (i - (1 : Int32))) * (f_X4_degreesBelow M x i)) - ((f_X4_degreesAbove M x w i) * (f_X4_degreesBelow M x (i - (1 : Int32)))))]) C lk_X4_116 (sp_X4_betweenAbove (M := M) (x := x) (i := i) hx ) (by decide) rfl (ea_ltO (by decide) hx) hx (by decide) rfl rfl (Nat.le_of_ble_eq_true rfl) dX4_flowAt_41 ?_
  refine e_lmul C dX4_flowAt_44 ?_
  refine e_lload_n (n := 2) C dX4_flowAt_45 rfl rfl ?_
  refine e_lload (n := 1) C dX4_flowAt_46 rfl ?_
  refine e_lmul C dX4_flowAt_48 ?_
  refine e_aload_n (n := 3) C dX4_flowAt_49 rfl rfl ?_
  refine e_iload_n (n := 5) C dX4_flowAt_50 rfl rfl ?_
  refine e_callV1 (as := [.int i]) (rest := [.long ((f_X4_degreesBelow M x (i - (1 : Int32))) * (f_X4_degreesBelow M x i)), .long ((((f_X4_degreesAbove M x w (i - (1 : Int32))) * (f_X4_degreesBelow M x i)) - ((f_X4_degreesAbove M x w i) * (f_X4_degreesBelow M x (i - (1 : Int32))))) * (f_X4_betweenAbove M x i))]) C lk_X4_119 (sp_X4_betweenBelow (M := M) (x := x) (i := i) hx ) (by decide) rfl (ea_ltO (by decide) hx) hx (by decide) rfl rfl (Nat.le_of_ble_eq_true rfl) dX4_flowAt_51 ?_
  refine e_lmul C dX4_flowAt_54 ?_
  refine e_aload_n (n := 4) C dX4_flowAt_55 rfl rfl ?_
  refine e_get (v := .int (M w 3)) C fd_X4_58 (ea_ltO (by decide) hw) hw rfl dX4_flowAt_56 ?_
  refine e_i2l C dX4_flowAt_59 ?_
  refine e_lmul C dX4_flowAt_60 ?_
  refine e_callN1 (as := [.long ((((f_X4_degreesAbove M x w (i - (1 : Int32))) * (f_X4_degreesBelow M x i)) - ((f_X4_degreesAbove M x w i) * (f_X4_degreesBelow M x (i - (1 : Int32))))) * (f_X4_betweenAbove M x i)), .long ((((f_X4_degreesBelow M x (i - (1 : Int32))) * (f_X4_degreesBelow M x i)) * (f_X4_betweenBelow M x i)) * (((M w 3)).toInt64))]) (rest := []) C lk_X4_122 (sp_X6_cut (M := M) (a := ((((f_X4_degreesAbove M x w (i - (1 : Int32))) * (f_X4_degreesBelow M x i)) - ((f_X4_degreesAbove M x w i) * (f_X4_degreesBelow M x (i - (1 : Int32))))) * (f_X4_betweenAbove M x i))) (b := ((((f_X4_degreesBelow M x (i - (1 : Int32))) * (f_X4_degreesBelow M x i)) * (f_X4_betweenBelow M x i)) * (((M w 3)).toInt64))) ) (by decide) rfl rfl (Nat.le_of_ble_eq_true rfl) dX4_flowAt_61 ?_
  refine e_l2i C dX4_flowAt_64 ?_
  exact e_iret C X rfl (vp_nar_int _) dX4_flowAt_65 h1
def g_X4_become_d (M : ea_M) : ea_M := (g_X5_become (pa_cp (ea_up (pa_cp (pa_cp (pa_cp (pa_cp (ea_up M 4 0 (M 13 0)) 14 5 42) 15 6 6) 16 7 6) 17 8 6) 4 5 (M 13 5)) 18 9 10) 11 20)
set_option maxRecDepth 100000 in
set_option maxHeartbeats 4000000 in
theorem sp_X4_become_d {M : ea_M}    : ea_Sp 3 yX4_become cX4_become 2 none [.ref 4, .ref 13] M none (g_X4_become_d M) := by
  refine ea_intro (own := RX4) (by decide +kernel) rfl (fun g => Nat.le_of_ble_eq_true rfl) (fun k C X => ?_)
  obtain ⟨o, ho⟩ : ∃ z : Option Value, z = none := ⟨_, rfl⟩
  obtain ⟨M', hM'⟩ : ∃ z : ea_M, z = (g_X4_become_d M) := ⟨_, rfl⟩
  rw [← ho, ← hM'] at X
  have h1 : o = none ∧ M' = (g_X5_become (pa_cp (ea_up (pa_cp (pa_cp (pa_cp (pa_cp (ea_up M 4 0 (M 13 0)) 14 5 42) 15 6 6) 16 7 6) 17 8 6) 4 5 (M 13 5)) 18 9 10) 11 20) := by
    subst ho hM'
    exact ⟨rfl, by simp only [g_X4_become_d]⟩
  refine e_aload_n (n := 0) C dX4_become_0 rfl rfl ?_
  refine e_aload_n (n := 1) C dX4_become_1 rfl rfl ?_
  refine e_get (v := .int (M 13 0)) C fd_X4_37 (by decide) rfl rfl dX4_become_2 ?_
  refine e_put (ty := .int) C fd_X4_37 (by decide) rfl rfl (by decide +kernel) (vp_nar_int _) rfl (ea_set4_0 _ _ _) dX4_become_5 ?_
  refine e_aload_n (n := 1) C dX4_become_8 rfl rfl ?_
  refine e_get (v := .ref 14) C fd_X4_9 (by decide) rfl rfl dX4_become_9 ?_
  refine e_aload_n (n := 0) C dX4_become_12 rfl rfl ?_
  refine e_get (v := .ref 5) C fd_X4_9 (by decide) rfl rfl dX4_become_13 ?_
  refine e_callN0 (as := [.ref 14, .ref 5]) (rest := []) C lk_X4_41 (sp_X6_copyRow (ea_up M 4 0 (M 13 0)) 14 5 42 (by decide) rfl rfl (by decide) ) (by decide) rfl rfl (Nat.le_of_ble_eq_true rfl) dX4_become_16 ?_
  refine e_aload_n (n := 1) C dX4_become_19 rfl rfl ?_
  refine e_get (v := .ref 15) C fd_X4_15 (by decide) rfl rfl dX4_become_20 ?_
  refine e_aload_n (n := 0) C dX4_become_23 rfl rfl ?_
  refine e_get (v := .ref 6) C fd_X4_15 (by decide) rfl rfl dX4_become_24 ?_
  refine e_callN0 (as := [.ref 15, .ref 6]) (rest := []) C lk_X4_41 (sp_X6_copyRow (pa_cp (ea_up M 4 0 (M 13 0)) 14 5 42) 15 6 6 (by decide) rfl rfl (by decide) ) (by decide) rfl rfl (Nat.le_of_ble_eq_true rfl) dX4_become_27 ?_
  refine e_aload_n (n := 1) C dX4_become_30 rfl rfl ?_
  refine e_get (v := .ref 16) C fd_X4_18 (by decide) rfl rfl dX4_become_31 ?_
  refine e_aload_n (n := 0) C dX4_become_34 rfl rfl ?_
  refine e_get (v := .ref 7) C fd_X4_18 (by decide) rfl rfl dX4_become_35 ?_
  refine e_callN0 (as := [.ref 16, .ref 7]) (rest := []) C lk_X4_41 (sp_X6_copyRow (pa_cp (pa_cp (ea_up M 4 0 (M 13 0)) 14 5 42) 15 6 6) 16 7 6 (by decide) rfl rfl (by decide) ) (by decide) rfl rfl (Nat.le_of_ble_eq_true rfl) dX4_become_38 ?_
  refine e_aload_n (n := 1) C dX4_become_41 rfl rfl ?_
  refine e_get (v := .ref 17) C fd_X4_21 (by decide) rfl rfl dX4_become_42 ?_
  refine e_aload_n (n := 0) C dX4_become_45 rfl rfl ?_
  refine e_get (v := .ref 8) C fd_X4_21 (by decide) rfl rfl dX4_become_46 ?_
  refine e_callN0 (as := [.ref 17, .ref 8]) (rest := []) C lk_X4_41 (sp_X6_copyRow (pa_cp (pa_cp (pa_cp (ea_up M 4 0 (M 13 0)) 14 5 42) 15 6 6) 16 7 6) 17 8 6 (by decide) rfl rfl (by decide) ) (by decide) rfl rfl (Nat.le_of_ble_eq_true rfl) dX4_become_49 ?_
  refine e_aload_n (n := 0) C dX4_become_52 rfl rfl ?_
  refine e_aload_n (n := 1) C dX4_become_53 rfl rfl ?_
  refine e_get (v := .int (M 13 5)) C fd_X4_45 (by decide) rfl (congrArg (fun z => some (Value.int z)) (by simp [ea_upR, ea_upS, ea_upK, pa_setR, pa_cpR, fr_X3_add, fr_X5_forget, fr_X5_become, fr_X4_clear, fr_X4_addStuff] : (pa_cp (pa_cp (pa_cp (pa_cp (ea_up M 4 0 (M 13 0)) 14 5 42) 15 6 6) 16 7 6) 17 8 6) 13 5 = (M 13 5))) dX4_become_54 ?_
  refine e_put (ty := .int) C fd_X4_45 (by decide) rfl rfl (by decide +kernel) (vp_nar_int _) rfl (ea_set4_5 _ _ _) dX4_become_57 ?_
  refine e_aload_n (n := 1) C dX4_become_60 rfl rfl ?_
  refine e_get (v := .ref 18) C fd_X4_24 (by decide) rfl rfl dX4_become_61 ?_
  refine e_aload_n (n := 0) C dX4_become_64 rfl rfl ?_
  refine e_get (v := .ref 9) C fd_X4_24 (by decide) rfl rfl dX4_become_65 ?_
  refine e_callN0 (as := [.ref 18, .ref 9]) (rest := []) C lk_X4_41 (sp_X6_copyRow (ea_up (pa_cp (pa_cp (pa_cp (pa_cp (ea_up M 4 0 (M 13 0)) 14 5 42) 15 6 6) 16 7 6) 17 8 6) 4 5 (M 13 5)) 18 9 10 (by decide) rfl rfl (by decide) ) (by decide) rfl rfl (Nat.le_of_ble_eq_true rfl) dX4_become_68 ?_
  refine e_aload_n (n := 0) C dX4_become_71 rfl rfl ?_
  refine e_get (v := .ref 11) C fd_X4_30 (by decide) rfl rfl dX4_become_72 ?_
  refine e_aload_n (n := 1) C dX4_become_75 rfl rfl ?_
  refine e_get (v := .ref 20) C fd_X4_30 (by decide) rfl rfl dX4_become_76 ?_
  refine e_callV0 (as := [.ref 20]) (rest := []) C lk_X4_48 (sp_X5_become (M := (pa_cp (ea_up (pa_cp (pa_cp (pa_cp (pa_cp (ea_up M 4 0 (M 13 0)) 14 5 42) 15 6 6) 16 7 6) 17 8 6) 4 5 (M 13 5)) 18 9 10)) (x := 11) (y := 20) rfl rfl (by decide) (by decide) (by decide) (by decide) (by decide) ) (by decide) rfl (by decide) rfl (by decide) rfl rfl (Nat.le_of_ble_eq_true rfl) dX4_become_79 ?_
  exact e_vret C X dX4_become_82 h1
theorem fr_X4_become_d {M : ea_M} {zz : Nat} (e0 : zz ≠ 4) (e1 : zz ≠ 5) (e2 : zz ≠ 6) (e3 : zz ≠ 7) (e4 : zz ≠ 8) (e5 : zz ≠ 9) (e6 : zz ≠ 12) (e7 : zz ≠ 11) : g_X4_become_d M zz = M zz := by
  simp only [g_X4_become_d]
  repeat' split
  all_goals simp [ea_upR, ea_upS, ea_upK, pa_setR, pa_cpR, fr_X3_add, fr_X5_forget, fr_X5_become, fr_X4_clear, fr_X4_addStuff, e0, e1, e2, e3, e4, e5, e6, e7]
def g_X4_become_s (M : ea_M) : ea_M := (g_X5_become (pa_cp (ea_up (pa_cp (pa_cp (pa_cp (pa_cp (ea_up M 13 0 (M 4 0)) 5 14 42) 6 15 6) 7 16 6) 8 17 6) 13 5 (M 4 5)) 9 18 10) 20 11)
set_option maxRecDepth 100000 in
set_option maxHeartbeats 4000000 in
theorem sp_X4_become_s {M : ea_M}    : ea_Sp 3 yX4_become cX4_become 2 none [.ref 13, .ref 4] M none (g_X4_become_s M) := by
  refine ea_intro (own := RX4) (by decide +kernel) rfl (fun g => Nat.le_of_ble_eq_true rfl) (fun k C X => ?_)
  obtain ⟨o, ho⟩ : ∃ z : Option Value, z = none := ⟨_, rfl⟩
  obtain ⟨M', hM'⟩ : ∃ z : ea_M, z = (g_X4_become_s M) := ⟨_, rfl⟩
  rw [← ho, ← hM'] at X
  have h1 : o = none ∧ M' = (g_X5_become (pa_cp (ea_up (pa_cp (pa_cp (pa_cp (pa_cp (ea_up M 13 0 (M 4 0)) 5 14 42) 6 15 6) 7 16 6) 8 17 6) 13 5 (M 4 5)) 9 18 10) 20 11) := by
    subst ho hM'
    exact ⟨rfl, by simp only [g_X4_become_s]⟩
  refine e_aload_n (n := 0) C dX4_become_0 rfl rfl ?_
  refine e_aload_n (n := 1) C dX4_become_1 rfl rfl ?_
  refine e_get (v := .int (M 4 0)) C fd_X4_37 (by decide) rfl rfl dX4_become_2 ?_
  refine e_put (ty := .int) C fd_X4_37 (by decide) rfl rfl (by decide +kernel) (vp_nar_int _) rfl (ea_set4_0 _ _ _) dX4_become_5 ?_
  refine e_aload_n (n := 1) C dX4_become_8 rfl rfl ?_
  refine e_get (v := .ref 5) C fd_X4_9 (by decide) rfl rfl dX4_become_9 ?_
  refine e_aload_n (n := 0) C dX4_become_12 rfl rfl ?_
  refine e_get (v := .ref 14) C fd_X4_9 (by decide) rfl rfl dX4_become_13 ?_
  refine e_callN0 (as := [.ref 5, .ref 14]) (rest := []) C lk_X4_41 (sp_X6_copyRow (ea_up M 13 0 (M 4 0)) 5 14 42 (by decide) rfl rfl (by decide) ) (by decide) rfl rfl (Nat.le_of_ble_eq_true rfl) dX4_become_16 ?_
  refine e_aload_n (n := 1) C dX4_become_19 rfl rfl ?_
  refine e_get (v := .ref 6) C fd_X4_15 (by decide) rfl rfl dX4_become_20 ?_
  refine e_aload_n (n := 0) C dX4_become_23 rfl rfl ?_
  refine e_get (v := .ref 15) C fd_X4_15 (by decide) rfl rfl dX4_become_24 ?_
  refine e_callN0 (as := [.ref 6, .ref 15]) (rest := []) C lk_X4_41 (sp_X6_copyRow (pa_cp (ea_up M 13 0 (M 4 0)) 5 14 42) 6 15 6 (by decide) rfl rfl (by decide) ) (by decide) rfl rfl (Nat.le_of_ble_eq_true rfl) dX4_become_27 ?_
  refine e_aload_n (n := 1) C dX4_become_30 rfl rfl ?_
  refine e_get (v := .ref 7) C fd_X4_18 (by decide) rfl rfl dX4_become_31 ?_
  refine e_aload_n (n := 0) C dX4_become_34 rfl rfl ?_
  refine e_get (v := .ref 16) C fd_X4_18 (by decide) rfl rfl dX4_become_35 ?_
  refine e_callN0 (as := [.ref 7, .ref 16]) (rest := []) C lk_X4_41 (sp_X6_copyRow (pa_cp (pa_cp (ea_up M 13 0 (M 4 0)) 5 14 42) 6 15 6) 7 16 6 (by decide) rfl rfl (by decide) ) (by decide) rfl rfl (Nat.le_of_ble_eq_true rfl) dX4_become_38 ?_
  refine e_aload_n (n := 1) C dX4_become_41 rfl rfl ?_
  refine e_get (v := .ref 8) C fd_X4_21 (by decide) rfl rfl dX4_become_42 ?_
  refine e_aload_n (n := 0) C dX4_become_45 rfl rfl ?_
  refine e_get (v := .ref 17) C fd_X4_21 (by decide) rfl rfl dX4_become_46 ?_
  refine e_callN0 (as := [.ref 8, .ref 17]) (rest := []) C lk_X4_41 (sp_X6_copyRow (pa_cp (pa_cp (pa_cp (ea_up M 13 0 (M 4 0)) 5 14 42) 6 15 6) 7 16 6) 8 17 6 (by decide) rfl rfl (by decide) ) (by decide) rfl rfl (Nat.le_of_ble_eq_true rfl) dX4_become_49 ?_
  refine e_aload_n (n := 0) C dX4_become_52 rfl rfl ?_
  refine e_aload_n (n := 1) C dX4_become_53 rfl rfl ?_
  refine e_get (v := .int (M 4 5)) C fd_X4_45 (by decide) rfl (congrArg (fun z => some (Value.int z)) (by simp [ea_upR, ea_upS, ea_upK, pa_setR, pa_cpR, fr_X3_add, fr_X5_forget, fr_X5_become, fr_X4_clear, fr_X4_addStuff, fr_X4_become_d] : (pa_cp (pa_cp (pa_cp (pa_cp (ea_up M 13 0 (M 4 0)) 5 14 42) 6 15 6) 7 16 6) 8 17 6) 4 5 = (M 4 5))) dX4_become_54 ?_
  refine e_put (ty := .int) C fd_X4_45 (by decide) rfl rfl (by decide +kernel) (vp_nar_int _) rfl (ea_set4_5 _ _ _) dX4_become_57 ?_
  refine e_aload_n (n := 1) C dX4_become_60 rfl rfl ?_
  refine e_get (v := .ref 9) C fd_X4_24 (by decide) rfl rfl dX4_become_61 ?_
  refine e_aload_n (n := 0) C dX4_become_64 rfl rfl ?_
  refine e_get (v := .ref 18) C fd_X4_24 (by decide) rfl rfl dX4_become_65 ?_
  refine e_callN0 (as := [.ref 9, .ref 18]) (rest := []) C lk_X4_41 (sp_X6_copyRow (ea_up (pa_cp (pa_cp (pa_cp (pa_cp (ea_up M 13 0 (M 4 0)) 5 14 42) 6 15 6) 7 16 6) 8 17 6) 13 5 (M 4 5)) 9 18 10 (by decide) rfl rfl (by decide) ) (by decide) rfl rfl (Nat.le_of_ble_eq_true rfl) dX4_become_68 ?_
  refine e_aload_n (n := 0) C dX4_become_71 rfl rfl ?_
  refine e_get (v := .ref 20) C fd_X4_30 (by decide) rfl rfl dX4_become_72 ?_
  refine e_aload_n (n := 1) C dX4_become_75 rfl rfl ?_
  refine e_get (v := .ref 11) C fd_X4_30 (by decide) rfl rfl dX4_become_76 ?_
  refine e_callV0 (as := [.ref 11]) (rest := []) C lk_X4_48 (sp_X5_become (M := (pa_cp (ea_up (pa_cp (pa_cp (pa_cp (pa_cp (ea_up M 13 0 (M 4 0)) 5 14 42) 6 15 6) 7 16 6) 8 17 6) 13 5 (M 4 5)) 9 18 10)) (x := 20) (y := 11) rfl rfl (by decide) (by decide) (by decide) (by decide) (by decide) ) (by decide) rfl (by decide) rfl (by decide) rfl rfl (Nat.le_of_ble_eq_true rfl) dX4_become_79 ?_
  exact e_vret C X dX4_become_82 h1
theorem fr_X4_become_s {M : ea_M} {zz : Nat} (e0 : zz ≠ 13) (e1 : zz ≠ 14) (e2 : zz ≠ 15) (e3 : zz ≠ 16) (e4 : zz ≠ 17) (e5 : zz ≠ 18) (e6 : zz ≠ 21) (e7 : zz ≠ 20) : g_X4_become_s M zz = M zz := by
  simp only [g_X4_become_s]
  repeat' split
  all_goals simp [ea_upR, ea_upS, ea_upK, pa_setR, pa_cpR, fr_X3_add, fr_X5_forget, fr_X5_become, fr_X4_clear, fr_X4_addStuff, fr_X4_become_d, e0, e1, e2, e3, e4, e5, e6, e7]
def f_X0_enter (x : Nat) (a b c : Int32) : Int32 := (0 : Int32)
def g_X0_enter (M : ea_M) (x : Nat) (a b c : Int32) : ea_M := (ea_up (pa_set (pa_set (pa_set M (x + 1) 8 (M x 1) a) (x + 2) 8 (M x 1) b) (x + 3) 8 (M x 1) c) x 1 ((M x 1) + (1 : Int32)))
set_option maxRecDepth 100000 in
set_option maxHeartbeats 4000000 in
theorem sp_X0_enter {M : ea_M} {x : Nat} {a b c : Int32} (hx : ea_kd x = 0)   : ea_Sp 1 yX0_enter cX0_enter 4 (some .int) [.ref x, .int a, .int b, .int c] M (some (.int (f_X0_enter x a b c))) (g_X0_enter M x a b c) := by
  refine ea_intro (own := RX0) (by decide +kernel) rfl (fun g => Nat.le_of_ble_eq_true rfl) (fun k C X => ?_)
  obtain ⟨o, ho⟩ : ∃ z : Option Value, z = (some (.int (f_X0_enter x a b c))) := ⟨_, rfl⟩
  obtain ⟨M', hM'⟩ : ∃ z : ea_M, z = (g_X0_enter M x a b c) := ⟨_, rfl⟩
  rw [← ho, ← hM'] at X
  have h1 : o = some (.int (0 : Int32)) ∧ M' = (ea_up (pa_set (pa_set (pa_set M (x + 1) 8 (M x 1) a) (x + 2) 8 (M x 1) b) (x + 3) 8 (M x 1) c) x 1 ((M x 1) + (1 : Int32))) := by
    subst ho hM'
    exact ⟨by simp only [f_X0_enter], by simp only [g_X0_enter]⟩
  refine e_aload_n (n := 0) C dX0_enter_0 rfl rfl ?_
  refine e_get (v := .ref (x + 1)) C fd_X0_9 (ea_ltO (by decide) hx) hx rfl dX0_enter_1 ?_
  refine e_aload_n (n := 0) C dX0_enter_4 rfl rfl ?_
  refine e_get (v := .int (M x 1)) C fd_X0_21 (ea_ltO (by decide) hx) hx rfl dX0_enter_5 ?_
  refine e_iload_n (n := 1) C dX0_enter_8 rfl rfl ?_
  refine e_callN0 (as := [.ref (x + 1), .int (M x 1), .int a]) (rest := []) C lk_X0_29 (sp_X6_set M (x + 1) 8 (M x 1) a (kd0_1 hx) (by decide) ) (by decide) rfl rfl (Nat.le_of_ble_eq_true rfl) dX0_enter_9 ?_
  refine e_aload_n (n := 0) C dX0_enter_12 rfl rfl ?_
  refine e_get (v := .ref (x + 2)) C fd_X0_15 (ea_ltO (by decide) hx) hx rfl dX0_enter_13 ?_
  refine e_aload_n (n := 0) C dX0_enter_16 rfl rfl ?_
  refine e_get (v := .int (M x 1)) C fd_X0_21 (ea_ltO (by decide) hx) hx (congrArg (fun z => some (Value.int z)) (by simp [ea_upR, ea_upS, ea_upK, pa_setR, pa_cpR, fr_X3_add, fr_X5_forget, fr_X5_become, fr_X4_clear, fr_X4_addStuff, fr_X4_become_d, fr_X4_become_s] : (pa_set M (x + 1) 8 (M x 1) a) x 1 = (M x 1))) dX0_enter_17 ?_
  refine e_iload_n (n := 2) C dX0_enter_20 rfl rfl ?_
  refine e_callN0 (as := [.ref (x + 2), .int (M x 1), .int b]) (rest := []) C lk_X0_29 (sp_X6_set (pa_set M (x + 1) 8 (M x 1) a) (x + 2) 8 (M x 1) b (kd0_2 hx) (by decide) ) (by decide) rfl rfl (Nat.le_of_ble_eq_true rfl) dX0_enter_21 ?_
  refine e_aload_n (n := 0) C dX0_enter_24 rfl rfl ?_
  refine e_get (v := .ref (x + 3)) C fd_X0_18 (ea_ltO (by decide) hx) hx rfl dX0_enter_25 ?_
  refine e_aload_n (n := 0) C dX0_enter_28 rfl rfl ?_
  refine e_get (v := .int (M x 1)) C fd_X0_21 (ea_ltO (by decide) hx) hx (congrArg (fun z => some (Value.int z)) (by simp [ea_upR, ea_upS, ea_upK, pa_setR, pa_cpR, fr_X3_add, fr_X5_forget, fr_X5_become, fr_X4_clear, fr_X4_addStuff, fr_X4_become_d, fr_X4_become_s] : (pa_set (pa_set M (x + 1) 8 (M x 1) a) (x + 2) 8 (M x 1) b) x 1 = (M x 1))) dX0_enter_29 ?_
  refine e_iload_n (n := 3) C dX0_enter_32 rfl rfl ?_
  refine e_callN0 (as := [.ref (x + 3), .int (M x 1), .int c]) (rest := []) C lk_X0_29 (sp_X6_set (pa_set (pa_set M (x + 1) 8 (M x 1) a) (x + 2) 8 (M x 1) b) (x + 3) 8 (M x 1) c (kd0_3 hx) (by decide) ) (by decide) rfl rfl (Nat.le_of_ble_eq_true rfl) dX0_enter_33 ?_
  refine e_aload_n (n := 0) C dX0_enter_36 rfl rfl ?_
  refine e_dup C dX0_enter_37 rfl ?_
  refine e_get (v := .int (M x 1)) C fd_X0_21 (ea_ltO (by decide) hx) hx (congrArg (fun z => some (Value.int z)) (by simp [ea_upR, ea_upS, ea_upK, pa_setR, pa_cpR, fr_X3_add, fr_X5_forget, fr_X5_become, fr_X4_clear, fr_X4_addStuff, fr_X4_become_d, fr_X4_become_s] : (pa_set (pa_set (pa_set M (x + 1) 8 (M x 1) a) (x + 2) 8 (M x 1) b) (x + 3) 8 (M x 1) c) x 1 = (M x 1))) dX0_enter_38 ?_
  refine e_iconst (v := 1) C dX0_enter_41 (by decide) ?_
  refine e_iadd C dX0_enter_42 ?_
  refine e_put (ty := .int) C fd_X0_21 (ea_ltO (by decide) hx) hx rfl (by decide +kernel) (vp_nar_int _) rfl (ea_set0_1 _ _ _) dX0_enter_43 ?_
  refine e_iconst (v := 0) C dX0_enter_46 (by decide) ?_
  exact e_iret C X rfl (vp_nar_int _) dX0_enter_47 h1
theorem fr_X0_enter {M : ea_M} {x : Nat} {a b c : Int32} {zz : Nat} (e0 : zz ≠ (x + 1)) (e1 : zz ≠ (x + 2)) (e2 : zz ≠ (x + 3)) (e3 : zz ≠ x) : g_X0_enter M x a b c zz = M zz := by
  simp only [g_X0_enter]
  repeat' split
  all_goals simp [ea_upR, ea_upS, ea_upK, pa_setR, pa_cpR, fr_X3_add, fr_X5_forget, fr_X5_become, fr_X4_clear, fr_X4_addStuff, fr_X4_become_d, fr_X4_become_s, e0, e1, e2, e3]
def f_X0_remove (M : ea_M) (x : Nat) (i : Int32) : Int32 := (pa_at (M (x + 3)) 8 i)
def g_X0_remove (M : ea_M) (x : Nat) (i : Int32) : ea_M := (pa_set (pa_set (pa_set (ea_up M x 1 ((M x 1) - (1 : Int32))) (x + 1) 8 i (pa_at (M (x + 1)) 8 ((M x 1) - (1 : Int32)))) (x + 2) 8 i (pa_at (M (x + 2)) 8 ((M x 1) - (1 : Int32)))) (x + 3) 8 i (pa_at (M (x + 3)) 8 ((M x 1) - (1 : Int32))))
set_option maxRecDepth 100000 in
set_option maxHeartbeats 4000000 in
theorem sp_X0_remove {M : ea_M} {x : Nat} {i : Int32} (hx : ea_kd x = 0)   : ea_Sp 1 yX0_remove cX0_remove 3 (some .int) [.ref x, .int i] M (some (.int (f_X0_remove M x i))) (g_X0_remove M x i) := by
  refine ea_intro (own := RX0) (by decide +kernel) rfl (fun g => Nat.le_of_ble_eq_true rfl) (fun k C X => ?_)
  obtain ⟨o, ho⟩ : ∃ z : Option Value, z = (some (.int (f_X0_remove M x i))) := ⟨_, rfl⟩
  obtain ⟨M', hM'⟩ : ∃ z : ea_M, z = (g_X0_remove M x i) := ⟨_, rfl⟩
  rw [← ho, ← hM'] at X
  have h1 : o = some (.int (pa_at (M (x + 3)) 8 i)) ∧ M' = (pa_set (pa_set (pa_set (ea_up M x 1 ((M x 1) - (1 : Int32))) (x + 1) 8 i (pa_at (M (x + 1)) 8 ((M x 1) - (1 : Int32)))) (x + 2) 8 i (pa_at (M (x + 2)) 8 ((M x 1) - (1 : Int32)))) (x + 3) 8 i (pa_at (M (x + 3)) 8 ((M x 1) - (1 : Int32)))) := by
    subst ho hM'
    exact ⟨by simp only [f_X0_remove], by simp only [g_X0_remove]⟩
  refine e_aload_n (n := 0) C dX0_remove_0 rfl rfl ?_
  refine e_get (v := .ref (x + 3)) C fd_X0_18 (ea_ltO (by decide) hx) hx rfl dX0_remove_1 ?_
  refine e_iload_n (n := 1) C dX0_remove_4 rfl rfl ?_
  refine e_callN1 (as := [.ref (x + 3), .int i]) (rest := []) C lk_X0_25 (sp_X6_at M (x + 3) 8 i (kd0_3 hx) (by decide) ) (by decide) rfl rfl (Nat.le_of_ble_eq_true rfl) dX0_remove_5 ?_
  refine e_istore_n C dX0_remove_8 rfl (by decide) rfl ?_
  refine e_aload_n (n := 1) C dX0_remove_9 rfl rfl ?_
  refine e_dup C dX0_remove_10 rfl ?_
  refine e_get (v := .int (M x 1)) C fd_X0_21 (ea_ltO (by decide) hx) hx rfl dX0_remove_11 ?_
  refine e_iconst (v := 1) C dX0_remove_14 (by decide) ?_
  refine e_isub C dX0_remove_15 ?_
  refine e_put (ty := .int) C fd_X0_21 (ea_ltO (by decide) hx) hx rfl (by decide +kernel) (vp_nar_int _) rfl (ea_set0_1 _ _ _) dX0_remove_16 ?_
  refine e_aload_n (n := 1) C dX0_remove_19 rfl rfl ?_
  refine e_get (v := .ref (x + 1)) C fd_X0_9 (ea_ltO (by decide) hx) hx rfl dX0_remove_20 ?_
  refine e_iload_n (n := 2) C dX0_remove_23 rfl rfl ?_
  refine e_aload_n (n := 1) C dX0_remove_24 rfl rfl ?_
  refine e_get (v := .ref (x + 1)) C fd_X0_9 (ea_ltO (by decide) hx) hx rfl dX0_remove_25 ?_
  refine e_aload_n (n := 1) C dX0_remove_28 rfl rfl ?_
  refine e_get (v := .int ((M x 1) - (1 : Int32))) C fd_X0_21 (ea_ltO (by decide) hx) hx (congrArg (fun z => some (Value.int z)) (by simp [ea_upR, ea_upS, ea_upK, pa_setR, pa_cpR, fr_X3_add, fr_X5_forget, fr_X5_become, fr_X4_clear, fr_X4_addStuff, fr_X4_become_d, fr_X4_become_s, fr_X0_enter] : (ea_up M x 1 ((M x 1) - (1 : Int32))) x 1 = ((M x 1) - (1 : Int32)))) dX0_remove_29 ?_
  refine e_callN1 (as := [.ref (x + 1), .int ((M x 1) - (1 : Int32))]) (rest := [.int i, .ref (x + 1)]) C lk_X0_25 (sp_X6_atR (ea_up M x 1 ((M x 1) - (1 : Int32))) (x + 1) 8 ((M x 1) - (1 : Int32)) (M (x + 1)) (by simp [ea_upR, ea_upS, ea_upK, pa_setR, pa_cpR, fr_X3_add, fr_X5_forget, fr_X5_become, fr_X4_clear, fr_X4_addStuff, fr_X4_become_d, fr_X4_become_s, fr_X0_enter]) (kd0_1 hx) (by decide) ) (by decide) rfl rfl (Nat.le_of_ble_eq_true rfl) dX0_remove_32 ?_
  refine e_callN0 (as := [.ref (x + 1), .int i, .int (pa_at (M (x + 1)) 8 ((M x 1) - (1 : Int32)))]) (rest := []) C lk_X0_29 (sp_X6_set (ea_up M x 1 ((M x 1) - (1 : Int32))) (x + 1) 8 i (pa_at (M (x + 1)) 8 ((M x 1) - (1 : Int32))) (kd0_1 hx) (by decide) ) (by decide) rfl rfl (Nat.le_of_ble_eq_true rfl) dX0_remove_35 ?_
  refine e_aload_n (n := 1) C dX0_remove_38 rfl rfl ?_
  refine e_get (v := .ref (x + 2)) C fd_X0_15 (ea_ltO (by decide) hx) hx rfl dX0_remove_39 ?_
  refine e_iload_n (n := 2) C dX0_remove_42 rfl rfl ?_
  refine e_aload_n (n := 1) C dX0_remove_43 rfl rfl ?_
  refine e_get (v := .ref (x + 2)) C fd_X0_15 (ea_ltO (by decide) hx) hx rfl dX0_remove_44 ?_
  refine e_aload_n (n := 1) C dX0_remove_47 rfl rfl ?_
  refine e_get (v := .int ((M x 1) - (1 : Int32))) C fd_X0_21 (ea_ltO (by decide) hx) hx (congrArg (fun z => some (Value.int z)) (by simp [ea_upR, ea_upS, ea_upK, pa_setR, pa_cpR, fr_X3_add, fr_X5_forget, fr_X5_become, fr_X4_clear, fr_X4_addStuff, fr_X4_become_d, fr_X4_become_s, fr_X0_enter] : (pa_set (ea_up M x 1 ((M x 1) - (1 : Int32))) (x + 1) 8 i (pa_at (M (x + 1)) 8 ((M x 1) - (1 : Int32)))) x 1 = ((M x 1) - (1 : Int32)))) dX0_remove_48 ?_
  refine e_callN1 (as := [.ref (x + 2), .int ((M x 1) - (1 : Int32))]) (rest := [.int i, .ref (x + 2)]) C lk_X0_25 (sp_X6_atR (pa_set (ea_up M x 1 ((M x 1) - (1 : Int32))) (x + 1) 8 i (pa_at (M (x + 1)) 8 ((M x 1) - (1 : Int32)))) (x + 2) 8 ((M x 1) - (1 : Int32)) (M (x + 2)) (by simp [ea_upR, ea_upS, ea_upK, pa_setR, pa_cpR, fr_X3_add, fr_X5_forget, fr_X5_become, fr_X4_clear, fr_X4_addStuff, fr_X4_become_d, fr_X4_become_s, fr_X0_enter]) (kd0_2 hx) (by decide) ) (by decide) rfl rfl (Nat.le_of_ble_eq_true rfl) dX0_remove_51 ?_
  refine e_callN0 (as := [.ref (x + 2), .int i, .int (pa_at (M (x + 2)) 8 ((M x 1) - (1 : Int32)))]) (rest := []) C lk_X0_29 (sp_X6_set (pa_set (ea_up M x 1 ((M x 1) - (1 : Int32))) (x + 1) 8 i (pa_at (M (x + 1)) 8 ((M x 1) - (1 : Int32)))) (x + 2) 8 i (pa_at (M (x + 2)) 8 ((M x 1) - (1 : Int32))) (kd0_2 hx) (by decide) ) (by decide) rfl rfl (Nat.le_of_ble_eq_true rfl) dX0_remove_54 ?_
  refine e_aload_n (n := 1) C dX0_remove_57 rfl rfl ?_
  refine e_get (v := .ref (x + 3)) C fd_X0_18 (ea_ltO (by decide) hx) hx rfl dX0_remove_58 ?_
  refine e_iload_n (n := 2) C dX0_remove_61 rfl rfl ?_
  refine e_aload_n (n := 1) C dX0_remove_62 rfl rfl ?_
  refine e_get (v := .ref (x + 3)) C fd_X0_18 (ea_ltO (by decide) hx) hx rfl dX0_remove_63 ?_
  refine e_aload_n (n := 1) C dX0_remove_66 rfl rfl ?_
  refine e_get (v := .int ((M x 1) - (1 : Int32))) C fd_X0_21 (ea_ltO (by decide) hx) hx (congrArg (fun z => some (Value.int z)) (by simp [ea_upR, ea_upS, ea_upK, pa_setR, pa_cpR, fr_X3_add, fr_X5_forget, fr_X5_become, fr_X4_clear, fr_X4_addStuff, fr_X4_become_d, fr_X4_become_s, fr_X0_enter] : (pa_set (pa_set (ea_up M x 1 ((M x 1) - (1 : Int32))) (x + 1) 8 i (pa_at (M (x + 1)) 8 ((M x 1) - (1 : Int32)))) (x + 2) 8 i (pa_at (M (x + 2)) 8 ((M x 1) - (1 : Int32)))) x 1 = ((M x 1) - (1 : Int32)))) dX0_remove_67 ?_
  refine e_callN1 (as := [.ref (x + 3), .int ((M x 1) - (1 : Int32))]) (rest := [.int i, .ref (x + 3)]) C lk_X0_25 (sp_X6_atR (pa_set (pa_set (ea_up M x 1 ((M x 1) - (1 : Int32))) (x + 1) 8 i (pa_at (M (x + 1)) 8 ((M x 1) - (1 : Int32)))) (x + 2) 8 i (pa_at (M (x + 2)) 8 ((M x 1) - (1 : Int32)))) (x + 3) 8 ((M x 1) - (1 : Int32)) (M (x + 3)) (by simp [ea_upR, ea_upS, ea_upK, pa_setR, pa_cpR, fr_X3_add, fr_X5_forget, fr_X5_become, fr_X4_clear, fr_X4_addStuff, fr_X4_become_d, fr_X4_become_s, fr_X0_enter]) (kd0_3 hx) (by decide) ) (by decide) rfl rfl (Nat.le_of_ble_eq_true rfl) dX0_remove_70 ?_
  refine e_callN0 (as := [.ref (x + 3), .int i, .int (pa_at (M (x + 3)) 8 ((M x 1) - (1 : Int32)))]) (rest := []) C lk_X0_29 (sp_X6_set (pa_set (pa_set (ea_up M x 1 ((M x 1) - (1 : Int32))) (x + 1) 8 i (pa_at (M (x + 1)) 8 ((M x 1) - (1 : Int32)))) (x + 2) 8 i (pa_at (M (x + 2)) 8 ((M x 1) - (1 : Int32)))) (x + 3) 8 i (pa_at (M (x + 3)) 8 ((M x 1) - (1 : Int32))) (kd0_3 hx) (by decide) ) (by decide) rfl rfl (Nat.le_of_ble_eq_true rfl) dX0_remove_73 ?_
  refine e_iload_n (n := 0) C dX0_remove_76 rfl rfl ?_
  exact e_iret C X rfl (vp_nar_int _) dX0_remove_77 h1
theorem fr_X0_remove {M : ea_M} {x : Nat} {i : Int32} {zz : Nat} (e0 : zz ≠ x) (e1 : zz ≠ (x + 1)) (e2 : zz ≠ (x + 2)) (e3 : zz ≠ (x + 3)) : g_X0_remove M x i zz = M zz := by
  simp only [g_X0_remove]
  repeat' split
  all_goals simp [ea_upR, ea_upS, ea_upK, pa_setR, pa_cpR, fr_X3_add, fr_X5_forget, fr_X5_become, fr_X4_clear, fr_X4_addStuff, fr_X4_become_d, fr_X4_become_s, fr_X0_enter, e0, e1, e2, e3]
abbrev p_X1_isStored (M : ea_M) (i : Int32) : Prop := (pa_at (M 27) 2 i) = (1 : Int32)
set_option maxRecDepth 100000 in
set_option maxHeartbeats 4000000 in
theorem sp_X1_isStored {M : ea_M} {i : Int32}    : ea_Sp 1 yX1_isStored cX1_isStored 2 (some .boolean) [.ref 24, .int i] M (some (.int (if p_X1_isStored M i then (1 : Int32) else 0))) M := by
  refine ea_intro (own := RX1) (by decide +kernel) rfl (fun g => Nat.le_of_ble_eq_true rfl) (fun k C X => ?_)
  obtain ⟨o, ho⟩ : ∃ z : Option Value, z = (some (.int (if p_X1_isStored M i then (1 : Int32) else 0))) := ⟨_, rfl⟩
  obtain ⟨M', hM'⟩ : ∃ z : ea_M, z = M := ⟨_, rfl⟩
  rw [← ho, ← hM'] at X
  have h2 : ¬ (pa_at (M 27) 2 i) = (1 : Int32) → o = some (.int (0 : Int32)) ∧ M' = M := by
    intro w0
    subst ho hM'
    exact ⟨congrArg (fun z => some (Value.int z)) (if_neg (fun h => w0 h)), by rfl⟩
  have h3 : (pa_at (M 27) 2 i) = (1 : Int32) → o = some (.int (1 : Int32)) ∧ M' = M := by
    intro w0
    subst ho hM'
    exact ⟨congrArg (fun z => some (Value.int z)) (if_pos w0), by rfl⟩
  refine e_aload_n (n := 0) C dX1_isStored_0 rfl rfl ?_
  refine e_get (v := .ref 27) C fd_X1_20 (by decide) rfl rfl dX1_isStored_1 ?_
  refine e_iload_n (n := 1) C dX1_isStored_4 rfl rfl ?_
  refine e_callN1 (as := [.ref 27, .int i]) (rest := []) C lk_X1_50 (sp_X6_at M 27 2 i rfl (by decide) ) (by decide) rfl rfl (Nat.le_of_ble_eq_true rfl) dX1_isStored_5 ?_
  refine e_iconst (v := 1) C dX1_isStored_8 (by decide) ?_
  refine e_icmp_ne (tgt := 16) C dX1_isStored_9 (by decide) (fun c1 => ?_) (fun c1 => ?_)
  · refine e_iconst (v := 0) C dX1_isStored_16 (by decide) ?_
    exact e_iret C X rfl rfl dX1_isStored_17 (h2 c1)
  · refine e_iconst (v := 1) C dX1_isStored_12 (by decide) ?_
    refine e_goto (tgt := 17) C dX1_isStored_13 (by decide) ?_
    exact e_iret C X rfl rfl dX1_isStored_17 (h3 c1)
