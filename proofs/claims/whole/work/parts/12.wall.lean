def f_J6_compare_7cf53 (a b : Int32) : Int32 := (if b ≤ a then (if a = b then (0 : Int32) else (1 : Int32)) else (-1 : Int32))
set_option maxRecDepth 100000 in
set_option maxHeartbeats 4000000 in
theorem sp_J6_compare_7cf53 {M : ea_M} {a b : Int32}    : ea_Sp 0 yJ6_compare_7cf53 cJ6_compare_7cf53 2 (some .int) [.int a, .int b] M (some (.int (f_J6_compare_7cf53 a b))) M := by
  refine ea_intro (own := RJ6) (by decide +kernel) rfl (fun g => Nat.le_of_ble_eq_true rfl) (fun k C X => ?_)
  obtain ⟨o, ho⟩ : ∃ z : Option Value, z = (some (.int (f_J6_compare_7cf53 a b))) := ⟨_, rfl⟩
  obtain ⟨M', hM'⟩ : ∃ z : ea_M, z = M := ⟨_, rfl⟩
  rw [← ho, ← hM'] at X
  have h3 : b ≤ a → ¬ a = b → o = some (.int (1 : Int32)) ∧ M' = M := by
    intro w0 w1
    subst ho hM'
    exact ⟨by simp only [f_J6_compare_7cf53, if_pos w0, if_neg w1], by rfl⟩
  have h4 : b ≤ a → a = b → o = some (.int (0 : Int32)) ∧ M' = M := by
    intro w0 w1
    subst ho hM'
    exact ⟨by simp only [f_J6_compare_7cf53, if_pos w0, if_pos w1], by rfl⟩
  have h5 : ¬ b ≤ a → o = some (.int (-1 : Int32)) ∧ M' = M := by
    intro w0
    subst ho hM'
    exact ⟨by simp only [f_J6_compare_7cf53, if_neg w0], by rfl⟩
  refine e_iload_n (n := 0) C dJ6_compare_7cf53_0 rfl rfl ?_
  refine e_iload_n (n := 1) C dJ6_compare_7cf53_1 rfl rfl ?_
  refine e_icmp_ge (tgt := 9) C dJ6_compare_7cf53_2 (by decide) (fun c1 => ?_) (fun c1 => ?_)
  · refine e_iload_n (n := 0) C dJ6_compare_7cf53_9 rfl rfl ?_
    refine e_iload_n (n := 1) C dJ6_compare_7cf53_10 rfl rfl ?_
    refine e_icmp_ne (tgt := 18) C dJ6_compare_7cf53_11 (by decide) (fun c2 => ?_) (fun c2 => ?_)
    · refine e_iconst (v := 1) C dJ6_compare_7cf53_18 (by decide) ?_
      exact e_iret C X rfl (vp_nar_int _) dJ6_compare_7cf53_19 (h3 c1 c2)
    · refine e_iconst (v := 0) C dJ6_compare_7cf53_14 (by decide) ?_
      refine e_goto (tgt := 19) C dJ6_compare_7cf53_15 (by decide) ?_
      exact e_iret C X rfl (vp_nar_int _) dJ6_compare_7cf53_19 (h4 c1 c2)
  · refine e_iconst (v := -1) C dJ6_compare_7cf53_5 (by decide) ?_
    refine e_goto (tgt := 19) C dJ6_compare_7cf53_6 (by decide) ?_
    exact e_iret C X rfl (vp_nar_int _) dJ6_compare_7cf53_19 (h5 c1)
def f_X4_compareDegrees (M : ea_M) (x : Nat) (i j : Int32) : Int32 := (f_J6_compare_7cf53 ((pa_at (M (x + 8)) 10 i) * (f_X4_holdsAt M x j)) ((pa_at (M (x + 8)) 10 j) * (f_X4_holdsAt M x i)))
set_option maxRecDepth 100000 in
set_option maxHeartbeats 4000000 in
theorem sp_X4_compareDegrees {M : ea_M} {x : Nat} {i j : Int32} (hx : ea_kd x = 4)   : ea_Sp 2 yX4_compareDegrees cX4_compareDegrees 3 (some .int) [.ref x, .int i, .int j] M (some (.int (f_X4_compareDegrees M x i j))) M := by
  refine ea_intro (own := RX4) (by decide +kernel) rfl (fun g => Nat.le_of_ble_eq_true rfl) (fun k C X => ?_)
  obtain ⟨o, ho⟩ : ∃ z : Option Value, z = (some (.int (f_X4_compareDegrees M x i j))) := ⟨_, rfl⟩
  obtain ⟨M', hM'⟩ : ∃ z : ea_M, z = M := ⟨_, rfl⟩
  rw [← ho, ← hM'] at X
  have h1 : o = some (.int (f_J6_compare_7cf53 ((pa_at (M (x + 8)) 10 i) * (f_X4_holdsAt M x j)) ((pa_at (M (x + 8)) 10 j) * (f_X4_holdsAt M x i)))) ∧ M' = M := by
    subst ho hM'
    exact ⟨by simp only [f_X4_compareDegrees], by rfl⟩
  refine e_aload_n (n := 0) C dX4_compareDegrees_0 rfl rfl ?_
  refine e_get (v := .ref (x + 7)) C fd_X4_30 (ea_ltO (by decide) hx) hx rfl dX4_compareDegrees_1 ?_
  refine e_get (v := .ref (x + 8)) C fd_X4_81 (lt4_7 hx) (kd4_7 hx) rfl dX4_compareDegrees_4 ?_
  refine e_iload_n (n := 1) C dX4_compareDegrees_7 rfl rfl ?_
  refine e_callN1 (as := [.ref (x + 8), .int i]) (rest := []) C lk_X4_61 (sp_X6_at M (x + 8) 10 i (kd5_1 (kd4_7 hx)) (by decide) ) (by decide) rfl rfl (Nat.le_of_ble_eq_true rfl) dX4_compareDegrees_8 ?_
  refine e_aload_n (n := 0) C dX4_compareDegrees_11 rfl rfl ?_
  refine e_iload_n (n := 2) C dX4_compareDegrees_12 rfl rfl ?_
  refine e_callV1 (as := [.int j]) (rest := [.int (pa_at (M (x + 8)) 10 i)]) C lk_X4_129 (sp_X4_holdsAt (M := M) (x := x) (i := j) hx ) (by decide) rfl (ea_ltO (by decide) hx) hx (by decide) rfl rfl (Nat.le_of_ble_eq_true rfl) dX4_compareDegrees_13 ?_
  refine e_imul C dX4_compareDegrees_16 ?_
  refine e_aload_n (n := 0) C dX4_compareDegrees_17 rfl rfl ?_
  refine e_get (v := .ref (x + 7)) C fd_X4_30 (ea_ltO (by decide) hx) hx rfl dX4_compareDegrees_18 ?_
  refine e_get (v := .ref (x + 8)) C fd_X4_81 (lt4_7 hx) (kd4_7 hx) rfl dX4_compareDegrees_21 ?_
  refine e_iload_n (n := 2) C dX4_compareDegrees_24 rfl rfl ?_
  refine e_callN1 (as := [.ref (x + 8), .int j]) (rest := [.int ((pa_at (M (x + 8)) 10 i) * (f_X4_holdsAt M x j))]) C lk_X4_61 (sp_X6_at M (x + 8) 10 j (kd5_1 (kd4_7 hx)) (by decide) ) (by decide) rfl rfl (Nat.le_of_ble_eq_true rfl) dX4_compareDegrees_25 ?_
  refine e_aload_n (n := 0) C dX4_compareDegrees_28 rfl rfl ?_
  refine e_iload_n (n := 1) C dX4_compareDegrees_29 rfl rfl ?_
  refine e_callV1 (as := [.int i]) (rest := [.int (pa_at (M (x + 8)) 10 j), .int ((pa_at (M (x + 8)) 10 i) * (f_X4_holdsAt M x j))]) C lk_X4_129 (sp_X4_holdsAt (M := M) (x := x) (i := i) hx ) (by decide) rfl (ea_ltO (by decide) hx) hx (by decide) rfl rfl (Nat.le_of_ble_eq_true rfl) dX4_compareDegrees_30 ?_
  refine e_imul C dX4_compareDegrees_33 ?_
  refine e_callS1 (as := [.int ((pa_at (M (x + 8)) 10 i) * (f_X4_holdsAt M x j)), .int ((pa_at (M (x + 8)) 10 j) * (f_X4_holdsAt M x i))]) (rest := []) C lk_X4_150 (sp_J6_compare_7cf53 (M := M) (a := ((pa_at (M (x + 8)) 10 i) * (f_X4_holdsAt M x j))) (b := ((pa_at (M (x + 8)) 10 j) * (f_X4_holdsAt M x i))) ) (by decide) rfl rfl (Nat.le_of_ble_eq_true rfl) dX4_compareDegrees_34 ?_
  exact e_iret C X rfl (vp_nar_int _) dX4_compareDegrees_37 h1
set_option maxRecDepth 100000 in
set_option maxHeartbeats 4000000 in
theorem kb_X4_mostOf_0 {k : ea_K} {o : Option Value} {M' : ea_M} (C : ea_C k RX4 cX4_mostOf 4 3) (X : ea_X k (some .int) o M') {M : ea_M} {x : Nat} {s : Int32} (hx : ea_kd x = 4)  (h1 : ea_E k 4 [(0, .ref x), (1, .int s), (2, .int (-1 : Int32)), (3, .int (0 : Int32))] [] M) : ea_E k 0 [(0, .ref x), (1, .int s)] [] M := by
  refine e_iconst (v := -1) C dX4_mostOf_0 (by decide) ?_
  refine e_istore_n C dX4_mostOf_1 rfl (by decide) rfl ?_
  refine e_iconst (v := 0) C dX4_mostOf_2 (by decide) ?_
  refine e_istore_n C dX4_mostOf_3 rfl (by decide) rfl ?_
  refine e_perm C [2, 3, 1, 0] rfl ?_
  exact h1
set_option maxRecDepth 100000 in
set_option maxHeartbeats 4000000 in
theorem kb_X4_mostOf_4 {k : ea_K} {o : Option Value} {M' : ea_M} (C : ea_C k RX4 cX4_mostOf 4 3) (X : ea_X k (some .int) o M') {M : ea_M} {x : Nat} {s b i : Int32} (hx : ea_kd x = 4)  (h2 : (M x 5) ≤ i → o = some (.int b) ∧ M' = M) (h4 : ¬ (M x 5) ≤ i → b = (-1 : Int32) → ea_E k 4 [(0, .ref x), (1, .int s), (2, .int i), (3, .int (i + 1))] [] M) (h6 : ¬ (M x 5) ≤ i → ¬ b = (-1 : Int32) → (s * (f_X4_compareDegrees M x i b)) ≤ 0 → ea_E k 4 [(0, .ref x), (1, .int s), (2, .int b), (3, .int (i + 1))] [] M) (h7 : ¬ (M x 5) ≤ i → ¬ b = (-1 : Int32) → ¬ (s * (f_X4_compareDegrees M x i b)) ≤ 0 → ea_E k 4 [(0, .ref x), (1, .int s), (2, .int i), (3, .int (i + 1))] [] M) : ea_E k 4 [(0, .ref x), (1, .int s), (2, .int b), (3, .int i)] [] M := by
  refine e_iload_n (n := 3) C dX4_mostOf_4 rfl rfl ?_
  refine e_aload_n (n := 0) C dX4_mostOf_5 rfl rfl ?_
  refine e_get (v := .int (M x 5)) C fd_X4_45 (ea_ltO (by decide) hx) hx rfl dX4_mostOf_6 ?_
  refine e_icmp_ge (tgt := 36) C dX4_mostOf_9 (by decide) (fun c1 => ?_) (fun c1 => ?_)
  · refine e_iload_n (n := 2) C dX4_mostOf_36 rfl rfl ?_
    exact e_iret C X rfl (vp_nar_int _) dX4_mostOf_37 (h2 c1)
  · refine e_iload_n (n := 2) C dX4_mostOf_12 rfl rfl ?_
    refine e_iconst (v := -1) C dX4_mostOf_13 (by decide) ?_
    refine e_icmp_eq (tgt := 28) C dX4_mostOf_14 (by decide) (fun c3 => ?_) (fun c3 => ?_)
    · refine e_iload_n (n := 3) C dX4_mostOf_28 rfl rfl ?_
      refine e_istore_n C dX4_mostOf_29 rfl (by decide) rfl ?_
      refine e_iinc (n := 3) (v := (i + 1)) C dX4_mostOf_30 rfl rfl (by decide) rfl ?_
      refine e_goto (tgt := 4) C dX4_mostOf_33 (by decide) ?_
      refine e_perm C [2, 3, 1, 0] rfl ?_
      exact (h4 c1 c3)
    · refine e_iload_n (n := 1) C dX4_mostOf_17 rfl rfl ?_
      refine e_aload_n (n := 0) C dX4_mostOf_18 rfl rfl ?_
      refine e_iload_n (n := 3) C dX4_mostOf_19 rfl rfl ?_
      refine e_iload_n (n := 2) C dX4_mostOf_20 rfl rfl ?_
      refine e_callV1 (as := [.int i, .int b]) (rest := [.int s]) C lk_X4_146 (sp_X4_compareDegrees (M := M) (x := x) (i := i) (j := b) hx ) (by decide) rfl (ea_ltO (by decide) hx) hx (by decide) rfl rfl (Nat.le_of_ble_eq_true rfl) dX4_mostOf_21 ?_
      refine e_imul C dX4_mostOf_24 ?_
      refine e_if_le (tgt := 30) C dX4_mostOf_25 (by decide) (fun c5 => ?_) (fun c5 => ?_)
      · refine e_iinc (n := 3) (v := (i + 1)) C dX4_mostOf_30 rfl rfl (by decide) rfl ?_
        refine e_goto (tgt := 4) C dX4_mostOf_33 (by decide) ?_
        refine e_perm C [1, 2, 3, 0] rfl ?_
        exact (h6 c1 c3 c5)
      · refine e_iload_n (n := 3) C dX4_mostOf_28 rfl rfl ?_
        refine e_istore_n C dX4_mostOf_29 rfl (by decide) rfl ?_
        refine e_iinc (n := 3) (v := (i + 1)) C dX4_mostOf_30 rfl rfl (by decide) rfl ?_
        refine e_goto (tgt := 4) C dX4_mostOf_33 (by decide) ?_
        refine e_perm C [2, 3, 1, 0] rfl ?_
        exact (h7 c1 c3 c5)
set_option maxRecDepth 100000 in
set_option maxHeartbeats 4000000 in
theorem kb_X4_advance_0 {k : ea_K} {o : Option Value} {M' : ea_M} (C : ea_C k RX4 cX4_advance 3 4) (X : ea_X k (some .boolean) o M') {M : ea_M} {x w : Nat} (hx : ea_kd x = 4) (hw : ea_kd w = 5)  (h1 : ea_E k 2 [(0, .ref x), (1, .ref w), (2, .int (0 : Int32))] [] M) : ea_E k 0 [(0, .ref x), (1, .ref w)] [] M := by
  refine e_iconst (v := 0) C dX4_advance_0 (by decide) ?_
  refine e_istore_n C dX4_advance_1 rfl (by decide) rfl ?_
  refine e_perm C [1, 2, 0] rfl ?_
  exact h1
set_option maxRecDepth 100000 in
set_option maxHeartbeats 4000000 in
theorem kb_X4_advance_2 {k : ea_K} {o : Option Value} {M' : ea_M} (C : ea_C k RX4 cX4_advance 3 4) (X : ea_X k (some .boolean) o M') {M : ea_M} {x w : Nat} {i : Int32} (hx : ea_kd x = 4) (hw : ea_kd w = 5)  (h2 : (M x 5) < i → ea_E k 32 [(0, .ref x), (1, .ref w), (2, .int (0 : Int32))] [] M) (h3 : ¬ (M x 5) < i → ea_E k 2 [(0, .ref x), (1, .ref w), (2, .int (i + 1))] [] (pa_set M (x + 6) 11 i (f_X4_flowAt M x w i))) : ea_E k 2 [(0, .ref x), (1, .ref w), (2, .int i)] [] M := by
  refine e_iload_n (n := 2) C dX4_advance_2 rfl rfl ?_
  refine e_aload_n (n := 0) C dX4_advance_3 rfl rfl ?_
  refine e_get (v := .int (M x 5)) C fd_X4_45 (ea_ltO (by decide) hx) hx rfl dX4_advance_4 ?_
  refine e_icmp_gt (tgt := 30) C dX4_advance_7 (by decide) (fun c1 => ?_) (fun c1 => ?_)
  · refine e_iconst (v := 0) C dX4_advance_30 (by decide) ?_
    refine e_istore_n C dX4_advance_31 rfl (by decide) rfl ?_
    refine e_perm C [1, 2, 0] rfl ?_
    exact (h2 c1)
  · refine e_aload_n (n := 0) C dX4_advance_10 rfl rfl ?_
    refine e_get (v := .ref (x + 6)) C fd_X4_34 (ea_ltO (by decide) hx) hx rfl dX4_advance_11 ?_
    refine e_iload_n (n := 2) C dX4_advance_14 rfl rfl ?_
    refine e_aload_n (n := 0) C dX4_advance_15 rfl rfl ?_
    refine e_aload_n (n := 1) C dX4_advance_16 rfl rfl ?_
    refine e_iload_n (n := 2) C dX4_advance_17 rfl rfl ?_
    refine e_callV1 (as := [.ref w, .int i]) (rest := [.int i, .ref (x + 6)]) C lk_X4_88 (sp_X4_flowAt (M := M) (x := x) (w := w) (i := i) hx hw ) (by decide) rfl (ea_ltO (by decide) hx) hx (by decide) rfl rfl (Nat.le_of_ble_eq_true rfl) dX4_advance_18 ?_
    refine e_callN0 (as := [.ref (x + 6), .int i, .int (f_X4_flowAt M x w i)]) (rest := []) C lk_X4_71 (sp_X6_set M (x + 6) 11 i (f_X4_flowAt M x w i) (kd4_6 hx) (by decide) ) (by decide) rfl rfl (Nat.le_of_ble_eq_true rfl) dX4_advance_21 ?_
    refine e_iinc (n := 2) (v := (i + 1)) C dX4_advance_24 rfl rfl (by decide) rfl ?_
    refine e_goto (tgt := 2) C dX4_advance_27 (by decide) ?_
    refine e_perm C [1, 2, 0] rfl ?_
    exact (h3 c1)
set_option maxRecDepth 100000 in
set_option maxHeartbeats 4000000 in
theorem kb_X4_advance_32 {k : ea_K} {o : Option Value} {M' : ea_M} (C : ea_C k RX4 cX4_advance 3 4) (X : ea_X k (some .boolean) o M') {M : ea_M} {x w : Nat} {i : Int32} (hx : ea_kd x = 4) (hw : ea_kd w = 5)  (h2 : (M x 5) ≤ i → ea_E k 62 [(0, .ref x), (1, .ref w), (2, .int (0 : Int32))] [] M) (h4 : ¬ (M x 5) ≤ i → p_X6_isHeat (f_X4_heatBehind M x w i) → ea_E k 32 [(0, .ref x), (1, .ref w), (2, .int (i + 1))] [] M) (h5 : ¬ (M x 5) ≤ i → ¬ p_X6_isHeat (f_X4_heatBehind M x w i) → o = some (.int (0 : Int32)) ∧ M' = M) : ea_E k 32 [(0, .ref x), (1, .ref w), (2, .int i)] [] M := by
  refine e_iload_n (n := 2) C dX4_advance_32 rfl rfl ?_
  refine e_aload_n (n := 0) C dX4_advance_33 rfl rfl ?_
  refine e_get (v := .int (M x 5)) C fd_X4_45 (ea_ltO (by decide) hx) hx rfl dX4_advance_34 ?_
  refine e_icmp_ge (tgt := 60) C dX4_advance_37 (by decide) (fun c1 => ?_) (fun c1 => ?_)
  · refine e_iconst (v := 0) C dX4_advance_60 (by decide) ?_
    refine e_istore_n C dX4_advance_61 rfl (by decide) rfl ?_
    refine e_perm C [1, 2, 0] rfl ?_
    exact (h2 c1)
  · refine e_aload_n (n := 0) C dX4_advance_40 rfl rfl ?_
    refine e_aload_n (n := 1) C dX4_advance_41 rfl rfl ?_
    refine e_iload_n (n := 2) C dX4_advance_42 rfl rfl ?_
    refine e_callV1 (as := [.ref w, .int i]) (rest := []) C lk_X4_92 (sp_X4_heatBehind (M := M) (x := x) (w := w) (i := i) hx hw ) (by decide) rfl (ea_ltO (by decide) hx) hx (by decide) rfl rfl (Nat.le_of_ble_eq_true rfl) dX4_advance_43 ?_
    refine e_callN1 (as := [.int (f_X4_heatBehind M x w i)]) (rest := []) C lk_X4_95 (sp_X6_isHeat (M := M) (i := (f_X4_heatBehind M x w i)) ) (by decide) rfl rfl (Nat.le_of_ble_eq_true rfl) dX4_advance_46 ?_
    refine e_ifb_ne (tgt := 54) C dX4_advance_49 (by decide) (fun c3 => ?_) (fun c3 => ?_)
    · refine e_iinc (n := 2) (v := (i + 1)) C dX4_advance_54 rfl rfl (by decide) rfl ?_
      refine e_goto (tgt := 32) C dX4_advance_57 (by decide) ?_
      refine e_perm C [1, 2, 0] rfl ?_
      exact (h4 c1 c3)
    · refine e_iconst (v := 0) C dX4_advance_52 (by decide) ?_
      exact e_iret C X rfl rfl dX4_advance_53 (h5 c1 c3)
set_option maxRecDepth 100000 in
set_option maxHeartbeats 4000000 in
theorem kb_X4_advance_62 {k : ea_K} {o : Option Value} {M' : ea_M} (C : ea_C k RX4 cX4_advance 3 4) (X : ea_X k (some .boolean) o M') {M : ea_M} {x w : Nat} {i : Int32} (hx : ea_kd x = 4) (hw : ea_kd w = 5)  (h2 : (M x 5) ≤ i → o = some (.int (1 : Int32)) ∧ M' = (ea_up (ea_up (ea_up M w 4 ((M w 4) + (pa_at (M (x + 6)) 11 (0 : Int32)))) w 5 ((M w 5) + (pa_at ((ea_up M w 4 ((M w 4) + (pa_at (M (x + 6)) 11 (0 : Int32)))) (x + 6)) 11 ((ea_up M w 4 ((M w 4) + (pa_at (M (x + 6)) 11 (0 : Int32)))) x 5)))) w 6 ((M w 6) + (1 : Int32)))) (h3 : ¬ (M x 5) ≤ i → ea_E k 62 [(0, .ref x), (1, .ref w), (2, .int (i + 1))] [] (pa_set M (w + 1) 10 i (f_X4_heatBehind M x w i))) : ea_E k 62 [(0, .ref x), (1, .ref w), (2, .int i)] [] M := by
  refine e_iload_n (n := 2) C dX4_advance_62 rfl rfl ?_
  refine e_aload_n (n := 0) C dX4_advance_63 rfl rfl ?_
  refine e_get (v := .int (M x 5)) C fd_X4_45 (ea_ltO (by decide) hx) hx rfl dX4_advance_64 ?_
  refine e_icmp_ge (tgt := 90) C dX4_advance_67 (by decide) (fun c1 => ?_) (fun c1 => ?_)
  · refine e_aload_n (n := 1) C dX4_advance_90 rfl rfl ?_
    refine e_dup C dX4_advance_91 rfl ?_
    refine e_get (v := .int (M w 4)) C fd_X4_99 (ea_ltO (by decide) hw) hw rfl dX4_advance_92 ?_
    refine e_aload_n (n := 0) C dX4_advance_95 rfl rfl ?_
    refine e_get (v := .ref (x + 6)) C fd_X4_34 (ea_ltO (by decide) hx) hx rfl dX4_advance_96 ?_
    refine e_iconst (v := 0) C dX4_advance_99 (by decide) ?_
    refine e_callN1 (as := [.ref (x + 6), .int (0 : Int32)]) (rest := [.int (M w 4), .ref w]) C lk_X4_61 (sp_X6_at M (x + 6) 11 (0 : Int32) (kd4_6 hx) (by decide) ) (by decide) rfl rfl (Nat.le_of_ble_eq_true rfl) dX4_advance_100 ?_
    refine e_iadd C dX4_advance_103 ?_
    refine e_put (ty := .int) C fd_X4_99 (ea_ltO (by decide) hw) hw rfl (by decide +kernel) (vp_nar_int _) rfl (ea_set5_4 _ _ _) dX4_advance_104 ?_
    refine e_aload_n (n := 1) C dX4_advance_107 rfl rfl ?_
    refine e_dup C dX4_advance_108 rfl ?_
    refine e_get (v := .int (M w 5)) C fd_X4_102 (ea_ltO (by decide) hw) hw (congrArg (fun z => some (Value.int z)) (by simp [ea_upR, ea_upS, ea_upK, pa_setR, pa_cpR, fr_X3_add, fr_X5_forget, fr_X5_become, fr_X4_clear, fr_X4_addStuff, fr_X4_become_d, fr_X4_become_s, fr_X0_enter, fr_X0_remove] : (ea_up M w 4 ((M w 4) + (pa_at (M (x + 6)) 11 (0 : Int32)))) w 5 = (M w 5))) dX4_advance_109 ?_
    refine e_aload_n (n := 0) C dX4_advance_112 rfl rfl ?_
    refine e_get (v := .ref (x + 6)) C fd_X4_34 (ea_ltO (by decide) hx) hx rfl dX4_advance_113 ?_
    refine e_aload_n (n := 0) C dX4_advance_116 rfl rfl ?_
    refine e_get (v := .int ((ea_up M w 4 ((M w 4) + (pa_at (M (x + 6)) 11 (0 : Int32)))) x 5)) C fd_X4_45 (ea_ltO (by decide) hx) hx rfl dX4_advance_117 ?_
    refine e_callN1 (as := [.ref (x + 6), .int ((ea_up M w 4 ((M w 4) + (pa_at (M (x + 6)) 11 (0 : Int32)))) x 5)]) (rest := [.int (M w 5), .ref w]) C lk_X4_61 (sp_X6_at (ea_up M w 4 ((M w 4) + (pa_at (M (x + 6)) 11 (0 : Int32)))) (x + 6) 11 ((ea_up M w 4 ((M w 4) + (pa_at (M (x + 6)) 11 (0 : Int32)))) x 5) (kd4_6 hx) (by decide) ) (by decide) rfl rfl (Nat.le_of_ble_eq_true rfl) dX4_advance_120 ?_
    refine e_iadd C dX4_advance_123 ?_
    refine e_put (ty := .int) C fd_X4_102 (ea_ltO (by decide) hw) hw rfl (by decide +kernel) (vp_nar_int _) rfl (ea_set5_5 _ _ _) dX4_advance_124 ?_
    refine e_aload_n (n := 1) C dX4_advance_127 rfl rfl ?_
    refine e_dup C dX4_advance_128 rfl ?_
    refine e_get (v := .int (M w 6)) C fd_X4_105 (ea_ltO (by decide) hw) hw (congrArg (fun z => some (Value.int z)) (by simp [ea_upR, ea_upS, ea_upK, pa_setR, pa_cpR, fr_X3_add, fr_X5_forget, fr_X5_become, fr_X4_clear, fr_X4_addStuff, fr_X4_become_d, fr_X4_become_s, fr_X0_enter, fr_X0_remove] : (ea_up (ea_up M w 4 ((M w 4) + (pa_at (M (x + 6)) 11 (0 : Int32)))) w 5 ((M w 5) + (pa_at ((ea_up M w 4 ((M w 4) + (pa_at (M (x + 6)) 11 (0 : Int32)))) (x + 6)) 11 ((ea_up M w 4 ((M w 4) + (pa_at (M (x + 6)) 11 (0 : Int32)))) x 5)))) w 6 = (M w 6))) dX4_advance_129 ?_
    refine e_iconst (v := 1) C dX4_advance_132 (by decide) ?_
    refine e_iadd C dX4_advance_133 ?_
    refine e_put (ty := .int) C fd_X4_105 (ea_ltO (by decide) hw) hw rfl (by decide +kernel) (vp_nar_int _) rfl (ea_set5_6 _ _ _) dX4_advance_134 ?_
    refine e_iconst (v := 1) C dX4_advance_137 (by decide) ?_
    exact e_iret C X rfl rfl dX4_advance_138 (h2 c1)
  · refine e_aload_n (n := 1) C dX4_advance_70 rfl rfl ?_
    refine e_get (v := .ref (w + 1)) C fd_X4_81 (ea_ltO (by decide) hw) hw rfl dX4_advance_71 ?_
    refine e_iload_n (n := 2) C dX4_advance_74 rfl rfl ?_
    refine e_aload_n (n := 0) C dX4_advance_75 rfl rfl ?_
    refine e_aload_n (n := 1) C dX4_advance_76 rfl rfl ?_
    refine e_iload_n (n := 2) C dX4_advance_77 rfl rfl ?_
    refine e_callV1 (as := [.ref w, .int i]) (rest := [.int i, .ref (w + 1)]) C lk_X4_92 (sp_X4_heatBehind (M := M) (x := x) (w := w) (i := i) hx hw ) (by decide) rfl (ea_ltO (by decide) hx) hx (by decide) rfl rfl (Nat.le_of_ble_eq_true rfl) dX4_advance_78 ?_
    refine e_callN0 (as := [.ref (w + 1), .int i, .int (f_X4_heatBehind M x w i)]) (rest := []) C lk_X4_71 (sp_X6_set M (w + 1) 10 i (f_X4_heatBehind M x w i) (kd5_1 hw) (by decide) ) (by decide) rfl rfl (Nat.le_of_ble_eq_true rfl) dX4_advance_81 ?_
    refine e_iinc (n := 2) (v := (i + 1)) C dX4_advance_84 rfl rfl (by decide) rfl ?_
    refine e_goto (tgt := 62) C dX4_advance_87 (by decide) ?_
    refine e_perm C [1, 2, 0] rfl ?_
    exact (h3 c1)
/-! ===== the wall's reckoning ===== -/
theorem kd_ne {a b p q : Nat} (ha : ea_kd a = p) (hb : ea_kd b = q) (h : p ≠ q) : a ≠ b := fun e => h (by rw [← ha, ← hb, e])
def pa_F (M : ea_M) (x w : Nat) : Nat → Int32 := fun j => f_X4_flowAt M x w (nI j)
def pa_g (M : ea_M) (x w : Nat) : Nat → Int32 := fun j => M (w + 1) j + pa_F M x w j - pa_F M x w (j + 1)
def pa_ok (M : ea_M) (x w nc : Nat) : Prop := ∀ j, j < nc → p_X6_isHeat (pa_g M x w j)
def pa_M1 (M : ea_M) (x w nc : Nat) : ea_M := pa_row M (x + 6) (pa_F M x w) (nc + 1)
def pa_adv (M : ea_M) (x w nc : Nat) : ea_M := ea_up (ea_up (ea_up (pa_row (pa_M1 M x w nc) (w + 1) (pa_g M x w) nc) w 4 (M w 4 + pa_F M x w 0)) w 5 (M w 5 + pa_F M x w nc)) w 6 (M w 6 + 1)
theorem cg_flowAt {M M' : ea_M} {x w : Nat} {i : Int32} (h0 : M' x = M x) (h3 : M' (x + 3) = M (x + 3)) (h4 : M' (x + 4) = M (x + 4)) (h5 : M' (x + 5) = M (x + 5)) (hw : M' w = M w) (hw1 : M' (w + 1) = M (w + 1)) : f_X4_flowAt M' x w i = f_X4_flowAt M x w i := by
  simp only [f_X4_flowAt, f_X4_degreesAbove, f_X4_degreesBelow, f_X4_betweenAbove, f_X4_betweenBelow, f_X4_passesAt, f_X4_holdsAt, p_X4_isCell, h0, h3, h4, h5, hw, hw1]
section ADV
variable {M : ea_M} {x w nc : Nat}
theorem pa_apart (hx : ea_kd x = 4) (hw : ea_kd w = 5) : w ≠ x ∧ w + 1 ≠ x ∧ x + 6 ≠ w ∧ x + 6 ≠ w + 1 ∧ x + 3 ≠ w + 1 ∧ x + 4 ≠ w + 1 ∧ x + 5 ≠ w + 1 ∨ w + 1 = x + 5 := by
  by_cases h : w + 1 = x + 5
  · exact Or.inr h
  · exact Or.inl ⟨kd_ne hw hx (by decide), kd_ne (kd5_1 hw) hx (by decide), kd_ne (kd4_6 hx) hw (by decide), kd_ne (kd4_6 hx) (kd5_1 hw) (by decide), kd_ne (kd4_3 hx) (kd5_1 hw) (by decide), kd_ne (kd4_4 hx) (kd5_1 hw) (by decide), fun e => h e.symm⟩
theorem pa_M1R {a : Nat} (h : a ≠ x + 6) : pa_M1 M x w nc a = M a := pa_rowR h
theorem pa_M1F {j : Nat} (h : j ≤ nc) : pa_M1 M x w nc (x + 6) j = pa_F M x w j := pa_rowI (by omega)
theorem adv_fl {k : ea_K} {o : Option Value} {M' : ea_M} (C : ea_C k RX4 cX4_advance 3 4) (X : ea_X k (some .boolean) o M') (hx : ea_kd x = 4) (hw : ea_kd w = 5) (hn : nc ≤ 10) (hk : M x 5 = nI nc) (h : ea_E k 32 [(0, .ref x), (1, .ref w), (2, .int 0)] [] (pa_M1 M x w nc)) : ea_E k 0 [(0, .ref x), (1, .ref w)] [] M := by
  have n1 := kd_ne (kd4_6 hx) hx (by decide)
  have n2 := kd_ne (kd4_6 hx) hw (by decide)
  have n3 := kd_ne (kd4_6 hx) (kd5_1 hw) (by decide)
  have loop : ∀ (m i : Nat), i + m = nc + 1 → ea_E k 2 [(0, .ref x), (1, .ref w), (2, .int (nI i))] [] (pa_row M (x + 6) (pa_F M x w) i) := by
    intro m
    induction m with
    | zero =>
      intro i hi
      have e0 : pa_row M (x + 6) (pa_F M x w) i x = M x := pa_rowR n1.symm
      refine kb_X4_advance_2 C X hx hw (fun _ => ?_) (fun c => absurd ?_ c)
      · rw [show i = nc + 1 by omega]
        exact h
      · rw [e0, hk]
        exact nI_lt (by omega) (by omega)
    | succ m ih =>
      intro i hi
      have e0 : pa_row M (x + 6) (pa_F M x w) i x = M x := pa_rowR n1.symm
      have ef : f_X4_flowAt (pa_row M (x + 6) (pa_F M x w) i) x w (nI i) = pa_F M x w i := cg_flowAt e0 (pa_rowR (by omega)) (pa_rowR (by omega)) (pa_rowR (by omega)) (pa_rowR n2.symm) (pa_rowR n3.symm)
      refine kb_X4_advance_2 C X hx hw (fun c => absurd c ?_) (fun _ => ?_)
      · rw [e0, hk]
        exact nI_nlt (by omega) (by omega)
      · rw [pa_setN (show i < 11 by omega) (by decide), pa_rowS ef, nI_1]
        exact ih (i + 1) (by omega)
  have h0 := loop (nc + 1) 0 (by omega)
  rw [pa_row0] at h0
  exact kb_X4_advance_0 C X hx hw h0
theorem adv_hb (hx : ea_kd x = 4) (hw : ea_kd w = 5) (hn : nc ≤ 10) {i : Nat} (hi : i < nc) {N : ea_M} (h1 : N (w + 1) i = M (w + 1) i) (h2 : N (x + 6) = pa_M1 M x w nc (x + 6)) : f_X4_heatBehind N x w (nI i) = pa_g M x w i := by
  unfold f_X4_heatBehind
  rw [show nI i + (1 : Int32) = nI (i + 1) from nI_1 i, pa_atN (show i < 10 by omega) (by decide), h2, pa_atN (show i < 11 by omega) (by decide), pa_atN (show i + 1 < 11 by omega) (by decide), h1, pa_M1F (show i ≤ nc by omega), pa_M1F (show i + 1 ≤ nc by omega)]
  rfl
theorem sp_adv1 (hx : ea_kd x = 4) (hw : ea_kd w = 5) (hn : nc ≤ 10) (hk : M x 5 = nI nc) (hok : pa_ok M x w nc) : ea_Sp 4 yX4_advance cX4_advance 3 (some .boolean) [.ref x, .ref w] M (some (.int 1)) (pa_adv M x w nc) := by
  refine ea_intro (own := RX4) (by decide +kernel) rfl (fun g => Nat.le_of_ble_eq_true rfl) (fun k C X => ?_)
  have n1 := kd_ne (kd4_6 hx) hx (by decide)
  have n2 := kd_ne (kd4_6 hx) hw (by decide)
  have n3 := kd_ne (kd4_6 hx) (kd5_1 hw) (by decide)
  have n4 := kd_ne hx (kd5_1 hw) (by decide)
  have n5 := kd_ne hx hw (by decide)
  refine adv_fl C X hx hw hn hk ?_
  have l3 : ∀ (m i : Nat), i + m = nc → ea_E k 62 [(0, .ref x), (1, .ref w), (2, .int (nI i))] [] (pa_row (pa_M1 M x w nc) (w + 1) (pa_g M x w) i) := by
    intro m
    induction m with
    | zero =>
      intro i hi
      have hin : i = nc := by omega
      subst hin
      have e0 : pa_row (pa_M1 M x w i) (w + 1) (pa_g M x w) i x = M x := by rw [pa_rowR n4, pa_M1R n1.symm]
      have ew : pa_row (pa_M1 M x w i) (w + 1) (pa_g M x w) i w = M w := by rw [pa_rowR (by omega), pa_M1R n2.symm]
      have ef : pa_row (pa_M1 M x w i) (w + 1) (pa_g M x w) i (x + 6) = pa_M1 M x w i (x + 6) := pa_rowR n3
      have f0 : pa_at (pa_M1 M x w i (x + 6)) 11 0 = pa_F M x w 0 := by
        have := pa_atN (r := pa_M1 M x w i (x + 6)) (show 0 < 11 by decide) (by decide)
        rw [nI_0] at this
        rw [this, pa_M1F (by omega)]
      have f1 : pa_at (pa_M1 M x w i (x + 6)) 11 (nI i) = pa_F M x w i := by
        rw [pa_atN (show i < 11 by omega) (by decide), pa_M1F (by omega)]
      refine kb_X4_advance_62 C X hx hw (fun _ => ⟨rfl, ?_⟩) (fun c => absurd ?_ c)
      · rw [ef, ea_upR n2, ef, ea_upR n5, e0, ew, hk, f0, f1]
        rfl
      · rw [e0, hk]
        exact nI_le (by omega) (by omega)
    | succ m ih =>
      intro i hi
      have e0 : pa_row (pa_M1 M x w nc) (w + 1) (pa_g M x w) i x = M x := by rw [pa_rowR n4, pa_M1R n1.symm]
      refine kb_X4_advance_62 C X hx hw (fun c => absurd c ?_) (fun _ => ?_)
      · rw [e0, hk]
        exact nI_ge (by omega) (by omega)
      · have e1 := adv_hb (M := M) hx hw hn (show i < nc by omega) (N := pa_row (pa_M1 M x w nc) (w + 1) (pa_g M x w) i) (by rw [pa_rowO (by omega), pa_M1R n3.symm]) (pa_rowR n3)
        rw [pa_setN (show i < 10 by omega) (by decide), pa_rowS e1, nI_1]
        exact ih (i + 1) (by omega)
  have h3 := l3 nc 0 (by omega)
  rw [pa_row0] at h3
  have e0 : pa_M1 M x w nc x = M x := pa_M1R n1.symm
  have l2 : ∀ (m i : Nat), i + m = nc → ea_E k 32 [(0, .ref x), (1, .ref w), (2, .int (nI i))] [] (pa_M1 M x w nc) := by
    intro m
    induction m with
    | zero =>
      intro i hi
      refine kb_X4_advance_32 C X hx hw (fun _ => h3) (fun c => absurd ?_ c) (fun c => absurd ?_ c)
      · rw [e0, hk]
        exact nI_le (by omega) (by omega)
      · rw [e0, hk]
        exact nI_le (by omega) (by omega)
    | succ m ih =>
      intro i hi
      have e1 := adv_hb (M := M) hx hw hn (show i < nc by omega) (N := pa_M1 M x w nc) (by rw [pa_M1R n3.symm]) rfl
      refine kb_X4_advance_32 C X hx hw (fun c => absurd c ?_) (fun _ _ => ?_) (fun _ c => absurd ?_ c)
      · rw [e0, hk]
        exact nI_ge (by omega) (by omega)
      · rw [nI_1]
        exact ih (i + 1) (by omega)
      · rw [e1]
        exact hok i (by omega)
  exact l2 nc 0 (by omega)
theorem sp_adv0 (hx : ea_kd x = 4) (hw : ea_kd w = 5) (hn : nc ≤ 10) (hk : M x 5 = nI nc) (hok : ¬ pa_ok M x w nc) : ea_Sp 4 yX4_advance cX4_advance 3 (some .boolean) [.ref x, .ref w] M (some (.int 0)) (pa_M1 M x w nc) := by
  refine ea_intro (own := RX4) (by decide +kernel) rfl (fun g => Nat.le_of_ble_eq_true rfl) (fun k C X => ?_)
  have n1 := kd_ne (kd4_6 hx) hx (by decide)
  have n3 := kd_ne (kd4_6 hx) (kd5_1 hw) (by decide)
  refine adv_fl C X hx hw hn hk ?_
  have e0 : pa_M1 M x w nc x = M x := pa_M1R n1.symm
  have l2 : ∀ (m i : Nat), i + m = nc → (∀ j, j < i → p_X6_isHeat (pa_g M x w j)) → ea_E k 32 [(0, .ref x), (1, .ref w), (2, .int (nI i))] [] (pa_M1 M x w nc) := by
    intro m
    induction m with
    | zero =>
      intro i hi h
      exact absurd (fun j hj => h j (by omega)) hok
    | succ m ih =>
      intro i hi h
      have e1 := adv_hb (M := M) hx hw hn (show i < nc by omega) (N := pa_M1 M x w nc) (by rw [pa_M1R n3.symm]) rfl
      refine kb_X4_advance_32 C X hx hw (fun c => absurd c ?_) (fun _ c => ?_) (fun _ c => ⟨rfl, rfl⟩)
      · rw [e0, hk]
        exact nI_ge (by omega) (by omega)
      · rw [nI_1]
        refine ih (i + 1) (by omega) (fun j hj => ?_)
        rcases Nat.lt_or_ge j i with q | q
        · exact h j q
        · rw [show j = i by omega, ← e1]
          exact c
  exact l2 nc 0 (by omega) (fun j hj => absurd hj (Nat.not_lt_zero j))
end ADV
/-- a wall of ns stuffs and nc cells, in bounds -/
def wl_ok (M : ea_M) (x ns nc : Nat) : Prop := ns ≤ 6 ∧ nc ≤ 10 ∧ M x 0 = nI ns ∧ M x 5 = nI nc ∧ (∀ s, s < ns → ∃ p : Nat, 1 ≤ p ∧ p ≤ 20 ∧ M (x + 3) s = nI p) ∧ (∀ s, s < ns → ∃ p : Nat, 1 ≤ p ∧ p ≤ 20 ∧ M (x + 4) s = nI p) ∧ ∀ j, j < nc → ∃ s : Nat, s < ns ∧ M (x + 5) j = nI s
def wl_p (M : ea_M) (x i : Nat) : Nat := (f_X4_passesAt M x (nI i)).toNatClampNeg
def wl_c (M : ea_M) (x i : Nat) : Nat := (f_X4_holdsAt M x (nI i)).toNatClampNeg
theorem wl_pp {M : ea_M} {x ns nc i : Nat} (h : wl_ok M x ns nc) (hi : i < nc) : f_X4_passesAt M x (nI i) = nI (wl_p M x i) ∧ 1 ≤ wl_p M x i ∧ wl_p M x i ≤ 20 := by
  obtain ⟨h1, h2, -, -, h5, -, h7⟩ := h
  obtain ⟨s, hs, es⟩ := h7 i hi
  obtain ⟨p, p1, p2, ep⟩ := h5 s hs
  have e : f_X4_passesAt M x (nI i) = nI p := by
    unfold f_X4_passesAt
    rw [pa_atN (show i < 10 by omega) (by decide), es, pa_atN (show s < 6 by omega) (by decide), ep]
  have e2 : wl_p M x i = p := by
    unfold wl_p
    rw [e, nI_clamp (by omega)]
  rw [e2]
  exact ⟨e, p1, p2⟩
theorem wl_cc {M : ea_M} {x ns nc i : Nat} (h : wl_ok M x ns nc) (hi : i < nc) : f_X4_holdsAt M x (nI i) = nI (wl_c M x i) ∧ 1 ≤ wl_c M x i ∧ wl_c M x i ≤ 20 := by
  obtain ⟨h1, h2, -, -, -, h5, h7⟩ := h
  obtain ⟨s, hs, es⟩ := h7 i hi
  obtain ⟨p, p1, p2, ep⟩ := h5 s hs
  have e : f_X4_holdsAt M x (nI i) = nI p := by
    unfold f_X4_holdsAt
    rw [pa_atN (show i < 10 by omega) (by decide), es, pa_atN (show s < 6 by omega) (by decide), ep]
  have e2 : wl_c M x i = p := by
    unfold wl_c
    rw [e, nI_clamp (by omega)]
  rw [e2]
  exact ⟨e, p1, p2⟩
theorem pa_hr {p : Nat} (h1 : 1 ≤ p) (h2 : p ≤ 20) : f_X6_halfResists (nI p) = lN (232792560 / p) := by
  have hne : ¬ lN p = 0 := fun q => absurd (pa_l0 (by omega) q) (by omega)
  unfold f_X6_halfResists f_X6_cut
  rw [nI_l (by omega), if_neg hne, show (232792560 : Int64) = lN 232792560 from rfl, pk_lDiv (by decide) (by omega) (by omega)]
def wl_R (M : ea_M) (x c : Nat) : Nat := pa_nsum (fun i => 2 * (232792560 / wl_p M x i)) c
theorem sp_X4_resistsInAll (M : ea_M) (x ns nc : Nat) (hx : ea_kd x = 4) (hw : wl_ok M x ns nc) : ea_Sp 2 yX4_resistsInAll cX4_resistsInAll 4 (some .long) [.ref x] M (some (.long (lN (wl_R M x nc)))) M := by
  refine ea_intro (own := RX4) (by decide +kernel) rfl (fun g => Nat.le_of_ble_eq_true rfl) (fun k C X => ?_)
  have hk := hw.2.2.2.1
  have hn := hw.2.1
  have loop : ∀ (m i : Nat), i + m = nc → ea_E k 4 [(0, .ref x), (1, .long (lN (wl_R M x i))), (3, .int (nI i))] [] M := by
    intro m
    induction m with
    | zero =>
      intro i hi
      have hc : M x 5 ≤ nI i := by rw [hk]; exact nI_le (by omega) (by omega)
      exact kb_X4_resistsInAll_4 C X hx (fun _ => ⟨by rw [show i = nc by omega], rfl⟩) (fun c => absurd hc c)
    | succ m ih =>
      intro i hi
      have hc : ¬ M x 5 ≤ nI i := by rw [hk]; exact nI_ge (by omega) (by omega)
      obtain ⟨e, e1, e2⟩ := wl_pp hw (show i < nc by omega)
      refine kb_X4_resistsInAll_4 C X hx (fun c => absurd c hc) (fun _ => ?_)
      rw [e, pa_hr e1 e2, show (2 : Int64) = lN 2 from rfl, lN_mul, lN_add, nI_1]
      exact ih (i + 1) (by omega)
  exact kb_X4_resistsInAll_0 C X hx (loop nc 0 (by omega))
/-- what resists to the right of a cell -/
def wl_Q (M : ea_M) (x i nc : Nat) : Nat := 232792560 / wl_p M x i + (wl_R M x nc - wl_R M x (i + 1))
theorem wl_Rle {M : ea_M} {x a : Nat} : ∀ b, a ≤ b → wl_R M x a ≤ wl_R M x b := by
  intro b
  induction b with
  | zero => intro h; rw [show a = 0 by omega]; exact Nat.le_refl _
  | succ b ih =>
    intro h
    rcases Nat.lt_or_ge b a with q | q
    · rw [show a = b + 1 by omega]
      exact Nat.le_refl _
    · exact Nat.le_trans (ih q) (Nat.le_add_right _ _)
theorem sp_X4_resistsRightOf (M : ea_M) (x ns nc c : Nat) (hx : ea_kd x = 4) (hw : wl_ok M x ns nc) (hc : c < nc) : ea_Sp 2 yX4_resistsRightOf cX4_resistsRightOf 5 (some .long) [.ref x, .int (nI c)] M (some (.long (lN (wl_Q M x c nc)))) M := by
  refine ea_intro (own := RX4) (by decide +kernel) rfl (fun g => Nat.le_of_ble_eq_true rfl) (fun k C X => ?_)
  have hk := hw.2.2.2.1
  have hn := hw.2.1
  have loop : ∀ (m i : Nat), i + m = nc → c + 1 ≤ i → ea_E k 14 [(0, .ref x), (2, .long (lN (wl_Q M x c i))), (4, .int (nI i))] [] M := by
    intro m
    induction m with
    | zero =>
      intro i hi _
      have hc : M x 5 ≤ nI i := by rw [hk]; exact nI_le (by omega) (by omega)
      exact kb_X4_resistsRightOf_14 C X hx (fun _ => ⟨by rw [show i = nc by omega], rfl⟩) (fun c => absurd hc c)
    | succ m ih =>
      intro i hi hci
      have hc : ¬ M x 5 ≤ nI i := by rw [hk]; exact nI_ge (by omega) (by omega)
      obtain ⟨e, e1, e2⟩ := wl_pp hw (show i < nc by omega)
      refine kb_X4_resistsRightOf_14 C X hx (fun c => absurd c hc) (fun _ => ?_)
      have h2 := ih (i + 1) (by omega) (by omega)
      have e3 : wl_Q M x c (i + 1) = wl_Q M x c i + 2 * (232792560 / wl_p M x i) := by
        have q1 : wl_R M x (i + 1) = wl_R M x i + 2 * (232792560 / wl_p M x i) := rfl
        have q2 := wl_Rle (M := M) (x := x) (a := c + 1) i hci
        unfold wl_Q
        omega
      rw [e3] at h2
      rw [e, pa_hr e1 e2, show (2 : Int64) = lN 2 from rfl, lN_mul, lN_add, nI_1]
      exact h2
  obtain ⟨e, e1, e2⟩ := wl_pp hw hc
  refine kb_X4_resistsRightOf_0 C X hx ?_
  have h0 := loop (nc - (c + 1)) (c + 1) (by omega) (Nat.le_refl _)
  have e4 : wl_Q M x c (c + 1) = 232792560 / wl_p M x c := by
    unfold wl_Q
    omega
  rw [e4] at h0
  rw [e, pa_hr e1 e2, show nI c + (1 : Int32) = nI (c + 1) from nI_1 c]
  exact h0

