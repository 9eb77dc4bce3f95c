set_option maxRecDepth 100000 in
set_option maxHeartbeats 4000000 in
theorem kb_X0_placeOf_0 {k : ea_K} {o : Option Value} {M' : ea_M} (C : ea_C k RX0 cX0_placeOf 4 1) (X : ea_X k (some .int) o M') {M : ea_M} {x : Nat} {a b : Int32} (hx : ea_kd x = 0)  (h1 : ea_E k 2 [(0, .ref x), (1, .int a), (2, .int b), (3, .int (0 : Int32))] [] M) : ea_E k 0 [(0, .ref x), (1, .int a), (2, .int b)] [] M := by
  refine e_iconst (v := 0) C dX0_placeOf_0 (by decide) ?_
  refine e_istore_n C dX0_placeOf_1 rfl (by decide) rfl ?_
  refine e_perm C [1, 2, 3, 0] rfl ?_
  exact h1
set_option maxRecDepth 100000 in
set_option maxHeartbeats 4000000 in
theorem kb_X0_placeOf_2 {k : ea_K} {o : Option Value} {M' : ea_M} (C : ea_C k RX0 cX0_placeOf 4 1) (X : ea_X k (some .int) o M') {M : ea_M} {x : Nat} {a b i : Int32} (hx : ea_kd x = 0)  (h2 : (M x 1) ≤ i → o = some (.int (-1 : Int32)) ∧ M' = M) (h4 : ¬ (M x 1) ≤ i → ¬ (pa_at (M (x + 1)) 8 i) = a → ea_E k 2 [(0, .ref x), (1, .int a), (2, .int b), (3, .int (i + 1))] [] M) (h6 : ¬ (M x 1) ≤ i → (pa_at (M (x + 1)) 8 i) = a → ¬ (pa_at (M (x + 2)) 8 i) = b → ea_E k 2 [(0, .ref x), (1, .int a), (2, .int b), (3, .int (i + 1))] [] M) (h7 : ¬ (M x 1) ≤ i → (pa_at (M (x + 1)) 8 i) = a → (pa_at (M (x + 2)) 8 i) = b → o = some (.int i) ∧ M' = M) : ea_E k 2 [(0, .ref x), (1, .int a), (2, .int b), (3, .int i)] [] M := by
  refine e_iload_n (n := 3) C dX0_placeOf_2 rfl rfl ?_
  refine e_aload_n (n := 0) C dX0_placeOf_3 rfl rfl ?_
  refine e_get (v := .int (M x 1)) C fd_X0_21 (ea_ltO (by decide) hx) hx rfl dX0_placeOf_4 ?_
  refine e_icmp_ge (tgt := 42) C dX0_placeOf_7 (by decide) (fun c1 => ?_) (fun c1 => ?_)
  · refine e_iconst (v := -1) C dX0_placeOf_42 (by decide) ?_
    exact e_iret C X rfl (vp_nar_int _) dX0_placeOf_43 (h2 c1)
  · refine e_aload_n (n := 0) C dX0_placeOf_10 rfl rfl ?_
    refine e_get (v := .ref (x + 1)) C fd_X0_9 (ea_ltO (by decide) hx) hx rfl dX0_placeOf_11 ?_
    refine e_iload_n (n := 3) C dX0_placeOf_14 rfl rfl ?_
    refine e_callN1 (as := [.ref (x + 1), .int i]) (rest := []) C lk_X0_25 (sp_X6_at M (x + 1) 8 i (kd0_1 hx) (by decide) ) (by decide) rfl rfl (Nat.le_of_ble_eq_true rfl) dX0_placeOf_15 ?_
    refine e_iload_n (n := 1) C dX0_placeOf_18 rfl rfl ?_
    refine e_icmp_ne (tgt := 36) C dX0_placeOf_19 (by decide) (fun c3 => ?_) (fun c3 => ?_)
    · refine e_iinc (n := 3) (v := (i + 1)) C dX0_placeOf_36 rfl rfl (by decide) rfl ?_
      refine e_goto (tgt := 2) C dX0_placeOf_39 (by decide) ?_
      refine e_perm C [1, 2, 3, 0] rfl ?_
      exact (h4 c1 c3)
    · refine e_aload_n (n := 0) C dX0_placeOf_22 rfl rfl ?_
      refine e_get (v := .ref (x + 2)) C fd_X0_15 (ea_ltO (by decide) hx) hx rfl dX0_placeOf_23 ?_
      refine e_iload_n (n := 3) C dX0_placeOf_26 rfl rfl ?_
      refine e_callN1 (as := [.ref (x + 2), .int i]) (rest := []) C lk_X0_25 (sp_X6_at M (x + 2) 8 i (kd0_2 hx) (by decide) ) (by decide) rfl rfl (Nat.le_of_ble_eq_true rfl) dX0_placeOf_27 ?_
      refine e_iload_n (n := 2) C dX0_placeOf_30 rfl rfl ?_
      refine e_icmp_ne (tgt := 36) C dX0_placeOf_31 (by decide) (fun c5 => ?_) (fun c5 => ?_)
      · refine e_iinc (n := 3) (v := (i + 1)) C dX0_placeOf_36 rfl rfl (by decide) rfl ?_
        refine e_goto (tgt := 2) C dX0_placeOf_39 (by decide) ?_
        refine e_perm C [1, 2, 3, 0] rfl ?_
        exact (h6 c1 c3 c5)
      · refine e_iload_n (n := 3) C dX0_placeOf_34 rfl rfl ?_
        exact e_iret C X rfl (vp_nar_int _) dX0_placeOf_35 (h7 c1 c3 c5)
set_option maxRecDepth 100000 in
set_option maxHeartbeats 4000000 in
theorem kb_X1_forget_0 {k : ea_K} {o : Option Value} {M' : ea_M} (C : ea_C k RX1 cX1_forget 2 1) (X : ea_X k none o M') {M : ea_M}   (h1 : ea_E k 7 [(0, .ref 24), (1, .int (0 : Int32))] [] (ea_up M 24 4 (0 : Int32))) : ea_E k 0 [(0, .ref 24)] [] M := by
  refine e_aload_n (n := 0) C dX1_forget_0 rfl rfl ?_
  refine e_iconst (v := 0) C dX1_forget_1 (by decide) ?_
  refine e_put (ty := .int) C fd_X1_25 (by decide) rfl rfl (by decide +kernel) (vp_nar_int _) rfl (ea_set1_4 _ _ _) dX1_forget_2 ?_
  refine e_iconst (v := 0) C dX1_forget_5 (by decide) ?_
  refine e_istore_n C dX1_forget_6 rfl (by decide) rfl ?_
  refine e_perm C [1, 0] rfl ?_
  exact h1
set_option maxRecDepth 100000 in
set_option maxHeartbeats 4000000 in
theorem kb_X1_forget_7 {k : ea_K} {o : Option Value} {M' : ea_M} (C : ea_C k RX1 cX1_forget 2 1) (X : ea_X k none o M') {M : ea_M} {i : Int32}   (h2 : (2 : Int32) ≤ i → o = none ∧ M' = M) (h3 : ¬ (2 : Int32) ≤ i → ea_E k 7 [(0, .ref 24), (1, .int (i + 1))] [] (pa_set M 27 2 i (0 : Int32))) : ea_E k 7 [(0, .ref 24), (1, .int i)] [] M := by
  refine e_iload_n (n := 1) C dX1_forget_7 rfl rfl ?_
  refine e_iconst (v := 2) C dX1_forget_8 (by decide) ?_
  refine e_icmp_ge (tgt := 27) C dX1_forget_9 (by decide) (fun c1 => ?_) (fun c1 => ?_)
  · exact e_vret C X dX1_forget_27 (h2 c1)
  · refine e_aload_n (n := 0) C dX1_forget_12 rfl rfl ?_
    refine e_get (v := .ref 27) C fd_X1_20 (by decide) rfl rfl dX1_forget_13 ?_
    refine e_iload_n (n := 1) C dX1_forget_16 rfl rfl ?_
    refine e_iconst (v := 0) C dX1_forget_17 (by decide) ?_
    refine e_callN0 (as := [.ref 27, .int i, .int (0 : Int32)]) (rest := []) C lk_X1_29 (sp_X6_set M 27 2 i (0 : Int32) rfl (by decide) ) (by decide) rfl rfl (Nat.le_of_ble_eq_true rfl) dX1_forget_18 ?_
    refine e_iinc (n := 1) (v := (i + 1)) C dX1_forget_21 rfl rfl (by decide) rfl ?_
    refine e_goto (tgt := 7) C dX1_forget_24 (by decide) ?_
    refine e_perm C [1, 0] rfl ?_
    exact (h3 c1)
set_option maxRecDepth 100000 in
set_option maxHeartbeats 4000000 in
theorem kb_X4_cellsOf_0 {k : ea_K} {o : Option Value} {M' : ea_M} (C : ea_C k RX4 cX4_cellsOf 4 1) (X : ea_X k (some .int) o M') {M : ea_M} {x : Nat} {s : Int32} (hx : ea_kd x = 4)  (h1 : ea_E k 4 [(0, .ref x), (1, .int s), (2, .int (0 : Int32)), (3, .int (0 : Int32))] [] M) : ea_E k 0 [(0, .ref x), (1, .int s)] [] M := by
  refine e_iconst (v := 0) C dX4_cellsOf_0 (by decide) ?_
  refine e_istore_n C dX4_cellsOf_1 rfl (by decide) rfl ?_
  refine e_iconst (v := 0) C dX4_cellsOf_2 (by decide) ?_
  refine e_istore_n C dX4_cellsOf_3 rfl (by decide) rfl ?_
  refine e_perm C [2, 3, 1, 0] rfl ?_
  exact h1
set_option maxRecDepth 100000 in
set_option maxHeartbeats 4000000 in
theorem kb_X4_cellsOf_4 {k : ea_K} {o : Option Value} {M' : ea_M} (C : ea_C k RX4 cX4_cellsOf 4 1) (X : ea_X k (some .int) o M') {M : ea_M} {x : Nat} {s b i : Int32} (hx : ea_kd x = 4)  (h2 : (M x 5) ≤ i → o = some (.int b) ∧ M' = M) (h4 : ¬ (M x 5) ≤ i → ¬ (pa_at (M (x + 5)) 10 i) = s → ea_E k 4 [(0, .ref x), (1, .int s), (2, .int b), (3, .int (i + 1))] [] M) (h5 : ¬ (M x 5) ≤ i → (pa_at (M (x + 5)) 10 i) = s → ea_E k 4 [(0, .ref x), (1, .int s), (2, .int (b ||| ((1 : Int32) <<< (i &&& 31)))), (3, .int (i + 1))] [] M) : ea_E k 4 [(0, .ref x), (1, .int s), (2, .int b), (3, .int i)] [] M := by
  refine e_iload_n (n := 3) C dX4_cellsOf_4 rfl rfl ?_
  refine e_aload_n (n := 0) C dX4_cellsOf_5 rfl rfl ?_
  refine e_get (v := .int (M x 5)) C fd_X4_45 (ea_ltO (by decide) hx) hx rfl dX4_cellsOf_6 ?_
  refine e_icmp_ge (tgt := 36) C dX4_cellsOf_9 (by decide) (fun c1 => ?_) (fun c1 => ?_)
  · refine e_iload_n (n := 2) C dX4_cellsOf_36 rfl rfl ?_
    exact e_iret C X rfl (vp_nar_int _) dX4_cellsOf_37 (h2 c1)
  · refine e_aload_n (n := 0) C dX4_cellsOf_12 rfl rfl ?_
    refine e_get (v := .ref (x + 5)) C fd_X4_24 (ea_ltO (by decide) hx) hx rfl dX4_cellsOf_13 ?_
    refine e_iload_n (n := 3) C dX4_cellsOf_16 rfl rfl ?_
    refine e_callN1 (as := [.ref (x + 5), .int i]) (rest := []) C lk_X4_61 (sp_X6_at M (x + 5) 10 i (kd4_5 hx) (by decide) ) (by decide) rfl rfl (Nat.le_of_ble_eq_true rfl) dX4_cellsOf_17 ?_
    refine e_iload_n (n := 1) C dX4_cellsOf_20 rfl rfl ?_
    refine e_icmp_ne (tgt := 30) C dX4_cellsOf_21 (by decide) (fun c3 => ?_) (fun c3 => ?_)
    · refine e_iinc (n := 3) (v := (i + 1)) C dX4_cellsOf_30 rfl rfl (by decide) rfl ?_
      refine e_goto (tgt := 4) C dX4_cellsOf_33 (by decide) ?_
      refine e_perm C [1, 2, 3, 0] rfl ?_
      exact (h4 c1 c3)
    · refine e_iload_n (n := 2) C dX4_cellsOf_24 rfl rfl ?_
      refine e_iconst (v := 1) C dX4_cellsOf_25 (by decide) ?_
      refine e_iload_n (n := 3) C dX4_cellsOf_26 rfl rfl ?_
      refine e_ishl C dX4_cellsOf_27 ?_
      refine e_ior C dX4_cellsOf_28 ?_
      refine e_istore_n C dX4_cellsOf_29 rfl (by decide) rfl ?_
      refine e_iinc (n := 3) (v := (i + 1)) C dX4_cellsOf_30 rfl rfl (by decide) rfl ?_
      refine e_goto (tgt := 4) C dX4_cellsOf_33 (by decide) ?_
      refine e_perm C [2, 3, 1, 0] rfl ?_
      exact (h5 c1 c3)
set_option maxRecDepth 100000 in
set_option maxHeartbeats 4000000 in
theorem kb_X4_alikePairs_0 {k : ea_K} {o : Option Value} {M' : ea_M} (C : ea_C k RX4 cX4_alikePairs 4 2) (X : ea_X k (some .int) o M') {M : ea_M} {x : Nat} (hx : ea_kd x = 4)  (h1 : ea_E k 4 [(0, .ref x), (1, .int (0 : Int32)), (2, .int (0 : Int32))] [] M) : ea_E k 0 [(0, .ref x)] [] M := by
  refine e_iconst (v := 0) C dX4_alikePairs_0 (by decide) ?_
  refine e_istore_n C dX4_alikePairs_1 rfl (by decide) rfl ?_
  refine e_iconst (v := 0) C dX4_alikePairs_2 (by decide) ?_
  refine e_istore_n C dX4_alikePairs_3 rfl (by decide) rfl ?_
  refine e_perm C [2, 1, 0] rfl ?_
  exact h1
set_option maxRecDepth 100000 in
set_option maxHeartbeats 4000000 in
theorem kb_X4_alikePairs_4 {k : ea_K} {o : Option Value} {M' : ea_M} (C : ea_C k RX4 cX4_alikePairs 4 2) (X : ea_X k (some .int) o M') {M : ea_M} {x : Nat} {n i : Int32} (hx : ea_kd x = 4)  (h2 : (M x 5) ≤ i → o = some (.int n) ∧ M' = M) (h3 : ¬ (M x 5) ≤ i → ea_E k 16 [(0, .ref x), (1, .int n), (2, .int i), (3, .int (i + (1 : Int32)))] [] M) : ea_E k 4 [(0, .ref x), (1, .int n), (2, .int i)] [] M := by
  refine e_iload_n (n := 2) C dX4_alikePairs_4 rfl rfl ?_
  refine e_aload_n (n := 0) C dX4_alikePairs_5 rfl rfl ?_
  refine e_get (v := .int (M x 5)) C fd_X4_45 (ea_ltO (by decide) hx) hx rfl dX4_alikePairs_6 ?_
  refine e_icmp_ge (tgt := 48) C dX4_alikePairs_9 (by decide) (fun c1 => ?_) (fun c1 => ?_)
  · refine e_iload_n (n := 1) C dX4_alikePairs_48 rfl rfl ?_
    exact e_iret C X rfl (vp_nar_int _) dX4_alikePairs_49 (h2 c1)
  · refine e_iload_n (n := 2) C dX4_alikePairs_12 rfl rfl ?_
    refine e_iconst (v := 1) C dX4_alikePairs_13 (by decide) ?_
    refine e_iadd C dX4_alikePairs_14 ?_
    refine e_istore_n C dX4_alikePairs_15 rfl (by decide) rfl ?_
    refine e_perm C [1, 2, 3, 0] rfl ?_
    exact (h3 c1)
set_option maxRecDepth 100000 in
set_option maxHeartbeats 4000000 in
theorem kb_X4_alikePairs_16 {k : ea_K} {o : Option Value} {M' : ea_M} (C : ea_C k RX4 cX4_alikePairs 4 2) (X : ea_X k (some .int) o M') {M : ea_M} {x : Nat} {n i j : Int32} (hx : ea_kd x = 4)  (h2 : (M x 5) ≤ j → ea_E k 4 [(0, .ref x), (1, .int n), (2, .int (i + 1))] [] M) (h4 : ¬ (M x 5) ≤ j → ¬ p_X4_isAlike M x i j → ea_E k 16 [(0, .ref x), (1, .int n), (2, .int i), (3, .int (j + 1))] [] M) (h5 : ¬ (M x 5) ≤ j → p_X4_isAlike M x i j → ea_E k 16 [(0, .ref x), (1, .int (n + 1)), (2, .int i), (3, .int (j + 1))] [] M) : ea_E k 16 [(0, .ref x), (1, .int n), (2, .int i), (3, .int j)] [] M := by
  refine e_iload_n (n := 3) C dX4_alikePairs_16 rfl rfl ?_
  refine e_aload_n (n := 0) C dX4_alikePairs_17 rfl rfl ?_
  refine e_get (v := .int (M x 5)) C fd_X4_45 (ea_ltO (by decide) hx) hx rfl dX4_alikePairs_18 ?_
  refine e_icmp_ge (tgt := 42) C dX4_alikePairs_21 (by decide) (fun c1 => ?_) (fun c1 => ?_)
  · refine e_iinc (n := 2) (v := (i + 1)) C dX4_alikePairs_42 rfl rfl (by decide) rfl ?_
    refine e_goto (tgt := 4) C dX4_alikePairs_45 (by decide) ?_
    refine e_perm C [1, 2, 0] rfl ?_
    exact (h2 c1)
  · refine e_aload_n (n := 0) C dX4_alikePairs_24 rfl rfl ?_
    refine e_iload_n (n := 2) C dX4_alikePairs_25 rfl rfl ?_
    refine e_iload_n (n := 3) C dX4_alikePairs_26 rfl rfl ?_
    refine e_callV1 (as := [.int i, .int j]) (rest := []) C lk_X4_155 (sp_X4_isAlike (M := M) (x := x) (i := i) (j := j) hx ) (by decide) rfl (ea_ltO (by decide) hx) hx (by decide) rfl rfl (Nat.le_of_ble_eq_true rfl) dX4_alikePairs_27 ?_
    refine e_ifb_eq (tgt := 36) C dX4_alikePairs_30 (by decide) (fun c3 => ?_) (fun c3 => ?_)
    · refine e_iinc (n := 3) (v := (j + 1)) C dX4_alikePairs_36 rfl rfl (by decide) rfl ?_
      refine e_goto (tgt := 16) C dX4_alikePairs_39 (by decide) ?_
      refine e_perm C [1, 2, 3, 0] rfl ?_
      exact (h4 c1 c3)
    · refine e_iinc (n := 1) (v := (n + 1)) C dX4_alikePairs_33 rfl rfl (by decide) rfl ?_
      refine e_iinc (n := 3) (v := (j + 1)) C dX4_alikePairs_36 rfl rfl (by decide) rfl ?_
      refine e_goto (tgt := 16) C dX4_alikePairs_39 (by decide) ?_
      refine e_perm C [2, 1, 3, 0] rfl ?_
      exact (h5 c1 c3)
set_option maxRecDepth 100000 in
set_option maxHeartbeats 4000000 in
theorem kb_X4_resistsInAll_0 {k : ea_K} {o : Option Value} {M' : ea_M} (C : ea_C k RX4 cX4_resistsInAll 4 2) (X : ea_X k (some .long) o M') {M : ea_M} {x : Nat} (hx : ea_kd x = 4)  (h1 : ea_E k 4 [(0, .ref x), (1, .long (0 : Int64)), (3, .int (0 : Int32))] [] M) : ea_E k 0 [(0, .ref x)] [] M := by
  refine e_lconst (v := 0) C dX4_resistsInAll_0 (by decide) ?_
  refine e_lstore_n C dX4_resistsInAll_1 rfl (by decide) rfl ?_
  refine e_iconst (v := 0) C dX4_resistsInAll_2 (by decide) ?_
  refine e_istore_n C dX4_resistsInAll_3 rfl (by decide) rfl ?_
  refine e_perm C [2, 1, 0] rfl ?_
  exact h1
set_option maxRecDepth 100000 in
set_option maxHeartbeats 4000000 in
theorem kb_X4_resistsInAll_4 {k : ea_K} {o : Option Value} {M' : ea_M} (C : ea_C k RX4 cX4_resistsInAll 4 2) (X : ea_X k (some .long) o M') {M : ea_M} {x : Nat} {i : Int32} {a : Int64} (hx : ea_kd x = 4)  (h2 : (M x 5) ≤ i → o = some (.long a) ∧ M' = M) (h3 : ¬ (M x 5) ≤ i → ea_E k 4 [(0, .ref x), (1, .long (a + ((2 : Int64) * (f_X6_halfResists (f_X4_passesAt M x i))))), (3, .int (i + 1))] [] M) : ea_E k 4 [(0, .ref x), (1, .long a), (3, .int i)] [] M := by
  refine e_iload_n (n := 2) C dX4_resistsInAll_4 rfl rfl ?_
  refine e_aload_n (n := 0) C dX4_resistsInAll_5 rfl rfl ?_
  refine e_get (v := .int (M x 5)) C fd_X4_45 (ea_ltO (by decide) hx) hx rfl dX4_resistsInAll_6 ?_
  refine e_icmp_ge (tgt := 33) C dX4_resistsInAll_9 (by decide) (fun c1 => ?_) (fun c1 => ?_)
  · refine e_lload_n (n := 1) C dX4_resistsInAll_33 rfl rfl ?_
    exact e_lret C X dX4_resistsInAll_34 (h2 c1)
  · refine e_lload_n (n := 1) C dX4_resistsInAll_12 rfl rfl ?_
    refine e_ldc2 C kc_X4_133 dX4_resistsInAll_13 ?_
    refine e_aload_n (n := 0) C dX4_resistsInAll_16 rfl rfl ?_
    refine e_iload_n (n := 2) C dX4_resistsInAll_17 rfl rfl ?_
    refine e_callV1 (as := [.int i]) (rest := [.long (2 : Int64), .long a]) C lk_X4_135 (sp_X4_passesAt (M := M) (x := x) (i := i) hx ) (by decide) rfl (ea_ltO (by decide) hx) hx (by decide) rfl rfl (Nat.le_of_ble_eq_true rfl) dX4_resistsInAll_18 ?_
    refine e_callN1 (as := [.int (f_X4_passesAt M x i)]) (rest := [.long (2 : Int64), .long a]) C lk_X4_143 (sp_X6_halfResists (M := M) (i := (f_X4_passesAt M x i)) ) (by decide) rfl rfl (Nat.le_of_ble_eq_true rfl) dX4_resistsInAll_21 ?_
    refine e_lmul C dX4_resistsInAll_24 ?_
    refine e_ladd C dX4_resistsInAll_25 ?_
    refine e_lstore_n C dX4_resistsInAll_26 rfl (by decide) rfl ?_
    refine e_iinc (n := 2) (v := (i + 1)) C dX4_resistsInAll_27 rfl rfl (by decide) rfl ?_
    refine e_goto (tgt := 4) C dX4_resistsInAll_30 (by decide) ?_
    refine e_perm C [2, 1, 0] rfl ?_
    exact (h3 c1)
set_option maxRecDepth 100000 in
set_option maxHeartbeats 4000000 in
theorem kb_X4_resistsRightOf_0 {k : ea_K} {o : Option Value} {M' : ea_M} (C : ea_C k RX4 cX4_resistsRightOf 5 2) (X : ea_X k (some .long) o M') {M : ea_M} {x : Nat} {c : Int32} (hx : ea_kd x = 4)  (h1 : ea_E k 14 [(0, .ref x), (2, .long (f_X6_halfResists (f_X4_passesAt M x c))), (4, .int (c + (1 : Int32)))] [] M) : ea_E k 0 [(0, .ref x), (1, .int c)] [] M := by
  refine e_aload_n (n := 0) C dX4_resistsRightOf_0 rfl rfl ?_
  refine e_iload_n (n := 1) C dX4_resistsRightOf_1 rfl rfl ?_
  refine e_callV1 (as := [.int c]) (rest := []) C lk_X4_135 (sp_X4_passesAt (M := M) (x := x) (i := c) hx ) (by decide) rfl (ea_ltO (by decide) hx) hx (by decide) rfl rfl (Nat.le_of_ble_eq_true rfl) dX4_resistsRightOf_2 ?_
  refine e_callN1 (as := [.int (f_X4_passesAt M x c)]) (rest := []) C lk_X4_143 (sp_X6_halfResists (M := M) (i := (f_X4_passesAt M x c)) ) (by decide) rfl rfl (Nat.le_of_ble_eq_true rfl) dX4_resistsRightOf_5 ?_
  refine e_lstore_n C dX4_resistsRightOf_8 rfl (by decide) rfl ?_
  refine e_iload_n (n := 2) C dX4_resistsRightOf_9 rfl rfl ?_
  refine e_iconst (v := 1) C dX4_resistsRightOf_10 (by decide) ?_
  refine e_iadd C dX4_resistsRightOf_11 ?_
  refine e_istore C dX4_resistsRightOf_12 (by decide) rfl ?_
  refine e_perm C [2, 1, 0] rfl ?_
  exact h1
set_option maxRecDepth 100000 in
set_option maxHeartbeats 4000000 in
theorem kb_X4_resistsRightOf_14 {k : ea_K} {o : Option Value} {M' : ea_M} (C : ea_C k RX4 cX4_resistsRightOf 5 2) (X : ea_X k (some .long) o M') {M : ea_M} {x : Nat} {i : Int32} {a : Int64} (hx : ea_kd x = 4)  (h2 : (M x 5) ≤ i → o = some (.long a) ∧ M' = M) (h3 : ¬ (M x 5) ≤ i → ea_E k 14 [(0, .ref x), (2, .long (a + ((2 : Int64) * (f_X6_halfResists (f_X4_passesAt M x i))))), (4, .int (i + 1))] [] M) : ea_E k 14 [(0, .ref x), (2, .long a), (4, .int i)] [] M := by
  refine e_iload (n := 2) C dX4_resistsRightOf_14 rfl ?_
  refine e_aload_n (n := 0) C dX4_resistsRightOf_16 rfl rfl ?_
  refine e_get (v := .int (M x 5)) C fd_X4_45 (ea_ltO (by decide) hx) hx rfl dX4_resistsRightOf_17 ?_
  refine e_icmp_ge (tgt := 45) C dX4_resistsRightOf_20 (by decide) (fun c1 => ?_) (fun c1 => ?_)
  · refine e_lload_n (n := 1) C dX4_resistsRightOf_45 rfl rfl ?_
    exact e_lret C X dX4_resistsRightOf_46 (h2 c1)
  · refine e_lload_n (n := 1) C dX4_resistsRightOf_23 rfl rfl ?_
    refine e_ldc2 C kc_X4_133 dX4_resistsRightOf_24 ?_
    refine e_aload_n (n := 0) C dX4_resistsRightOf_27 rfl rfl ?_
    refine e_iload (n := 2) C dX4_resistsRightOf_28 rfl ?_
    refine e_callV1 (as := [.int i]) (rest := [.long (2 : Int64), .long a]) C lk_X4_135 (sp_X4_passesAt (M := M) (x := x) (i := i) hx ) (by decide) rfl (ea_ltO (by decide) hx) hx (by decide) rfl rfl (Nat.le_of_ble_eq_true rfl) dX4_resistsRightOf_30 ?_
    refine e_callN1 (as := [.int (f_X4_passesAt M x i)]) (rest := [.long (2 : Int64), .long a]) C lk_X4_143 (sp_X6_halfResists (M := M) (i := (f_X4_passesAt M x i)) ) (by decide) rfl rfl (Nat.le_of_ble_eq_true rfl) dX4_resistsRightOf_33 ?_
    refine e_lmul C dX4_resistsRightOf_36 ?_
    refine e_ladd C dX4_resistsRightOf_37 ?_
    refine e_lstore_n C dX4_resistsRightOf_38 rfl (by decide) rfl ?_
    refine e_iinc (n := 2) (v := (i + 1)) C dX4_resistsRightOf_39 rfl rfl (by decide) rfl ?_
    refine e_goto (tgt := 14) C dX4_resistsRightOf_42 (by decide) ?_
    refine e_perm C [2, 1, 0] rfl ?_
    exact (h3 c1)
set_option maxRecDepth 100000 in
set_option maxHeartbeats 4000000 in
theorem kb_X4_safe_0 {k : ea_K} {o : Option Value} {M' : ea_M} (C : ea_C k RX4 cX4_safe 8 3) (X : ea_X k (some .int) o M') {M : ea_M} {x : Nat} (hx : ea_kd x = 4)  (h1 : ea_E k 4 [(0, .ref x), (1, .long (1 : Int64)), (3, .int (0 : Int32))] [] M) : ea_E k 0 [(0, .ref x)] [] M := by
  refine e_lconst (v := 1) C dX4_safe_0 (by decide) ?_
  refine e_lstore_n C dX4_safe_1 rfl (by decide) rfl ?_
  refine e_iconst (v := 0) C dX4_safe_2 (by decide) ?_
  refine e_istore_n C dX4_safe_3 rfl (by decide) rfl ?_
  refine e_perm C [2, 1, 0] rfl ?_
  exact h1
set_option maxRecDepth 100000 in
set_option maxHeartbeats 4000000 in
theorem kb_X4_safe_4 {k : ea_K} {o : Option Value} {M' : ea_M} (C : ea_C k RX4 cX4_safe 8 3) (X : ea_X k (some .int) o M') {M : ea_M} {x : Nat} {i : Int32} {a : Int64} (hx : ea_kd x = 4)  (h2 : (M x 5) ≤ i → o = some (.int ((a).toInt32)) ∧ M' = M) (h3 : ¬ (M x 5) ≤ i → ea_E k 4 [(0, .ref x), (1, .long (if (f_X6_cut (((((f_X4_betweenAbove M x i) * (f_X4_betweenBelow M x (i + (1 : Int32)))) + ((f_X4_betweenAbove M x (i + (1 : Int32))) * (f_X4_betweenBelow M x i))) + (((f_X4_betweenBelow M x i) * (f_X4_betweenBelow M x (i + (1 : Int32)))) * (((f_X4_holdsAt M x i)).toInt64))) - (1 : Int64)) (((f_X4_betweenBelow M x i) * (f_X4_betweenBelow M x (i + (1 : Int32)))) * (((f_X4_holdsAt M x i)).toInt64))) < a then a else (f_X6_cut (((((f_X4_betweenAbove M x i) * (f_X4_betweenBelow M x (i + (1 : Int32)))) + ((f_X4_betweenAbove M x (i + (1 : Int32))) * (f_X4_betweenBelow M x i))) + (((f_X4_betweenBelow M x i) * (f_X4_betweenBelow M x (i + (1 : Int32)))) * (((f_X4_holdsAt M x i)).toInt64))) - (1 : Int64)) (((f_X4_betweenBelow M x i) * (f_X4_betweenBelow M x (i + (1 : Int32)))) * (((f_X4_holdsAt M x i)).toInt64))))), (3, .int (i + 1))] [] M) : ea_E k 4 [(0, .ref x), (1, .long a), (3, .int i)] [] M := by
  refine e_iload_n (n := 2) C dX4_safe_4 rfl rfl ?_
  refine e_aload_n (n := 0) C dX4_safe_5 rfl rfl ?_
  refine e_get (v := .int (M x 5)) C fd_X4_45 (ea_ltO (by decide) hx) hx rfl dX4_safe_6 ?_
  refine e_icmp_ge (tgt := 86) C dX4_safe_9 (by decide) (fun c1 => ?_) (fun c1 => ?_)
  · refine e_lload_n (n := 1) C dX4_safe_86 rfl rfl ?_
    refine e_l2i C dX4_safe_87 ?_
    exact e_iret C X rfl (vp_nar_int _) dX4_safe_88 (h2 c1)
  · refine e_aload_n (n := 0) C dX4_safe_12 rfl rfl ?_
    refine e_iload_n (n := 2) C dX4_safe_13 rfl rfl ?_
    refine e_callV1 (as := [.int i]) (rest := []) C lk_X4_116 (sp_X4_betweenAbove (M := M) (x := x) (i := i) hx ) (by decide) rfl (ea_ltO (by decide) hx) hx (by decide) rfl rfl (Nat.le_of_ble_eq_true rfl) dX4_safe_14 ?_
    refine e_aload_n (n := 0) C dX4_safe_17 rfl rfl ?_
    refine e_iload_n (n := 2) C dX4_safe_18 rfl rfl ?_
    refine e_iconst (v := 1) C dX4_safe_19 (by decide) ?_
    refine e_iadd C dX4_safe_20 ?_
    refine e_callV1 (as := [.int (i + (1 : Int32))]) (rest := [.long (f_X4_betweenAbove M x i)]) C lk_X4_119 (sp_X4_betweenBelow (M := M) (x := x) (i := (i + (1 : Int32))) hx ) (by decide) rfl (ea_ltO (by decide) hx) hx (by decide) rfl rfl (Nat.le_of_ble_eq_true rfl) dX4_safe_21 ?_
    refine e_lmul C dX4_safe_24 ?_
    refine e_aload_n (n := 0) C dX4_safe_25 rfl rfl ?_
    refine e_iload_n (n := 2) C dX4_safe_26 rfl rfl ?_
    refine e_iconst (v := 1) C dX4_safe_27 (by decide) ?_
    refine e_iadd C dX4_safe_28 ?_
    refine e_callV1 (as := [.int (i + (1 : Int32))]) (rest := [.long ((f_X4_betweenAbove M x i) * (f_X4_betweenBelow M x (i + (1 : Int32))))]) C lk_X4_116 (sp_X4_betweenAbove (M := M) (x := x) (i := (i + (1 : Int32))) hx ) (by decide) rfl (ea_ltO (by decide) hx) hx (by decide) rfl rfl (Nat.le_of_ble_eq_true rfl) dX4_safe_29 ?_
    refine e_aload_n (n := 0) C dX4_safe_32 rfl rfl ?_
    refine e_iload_n (n := 2) C dX4_safe_33 rfl rfl ?_
    refine e_callV1 (as := [.int i]) (rest := [.long (f_X4_betweenAbove M x (i + (1 : Int32))), .long ((f_X4_betweenAbove M x i) * (f_X4_betweenBelow M x (i + (1 : Int32))))]) C lk_X4_119 (sp_X4_betweenBelow (M := M) (x := x) (i := i) hx ) (by decide) rfl (ea_ltO (by decide) hx) hx (by decide) rfl rfl (Nat.le_of_ble_eq_true rfl) dX4_safe_34 ?_
    refine e_lmul C dX4_safe_37 ?_
    refine e_ladd C dX4_safe_38 ?_
    refine e_lstore C dX4_safe_39 (by decide) rfl ?_
    refine e_aload_n (n := 1) C dX4_safe_41 rfl rfl ?_
    refine e_iload_n (n := 3) C dX4_safe_42 rfl rfl ?_
    refine e_callV1 (as := [.int i]) (rest := []) C lk_X4_119 (sp_X4_betweenBelow (M := M) (x := x) (i := i) hx ) (by decide) rfl (ea_ltO (by decide) hx) hx (by decide) rfl rfl (Nat.le_of_ble_eq_true rfl) dX4_safe_43 ?_
    refine e_aload_n (n := 1) C dX4_safe_46 rfl rfl ?_
    refine e_iload_n (n := 3) C dX4_safe_47 rfl rfl ?_
    refine e_iconst (v := 1) C dX4_safe_48 (by decide) ?_
    refine e_iadd C dX4_safe_49 ?_
    refine e_callV1 (as := [.int (i + (1 : Int32))]) (rest := [.long (f_X4_betweenBelow M x i)]) C lk_X4_119 (sp_X4_betweenBelow (M := M) (x := x) (i := (i + (1 : Int32))) hx ) (by decide) rfl (ea_ltO (by decide) hx) hx (by decide) rfl rfl (Nat.le_of_ble_eq_true rfl) dX4_safe_50 ?_
    refine e_lmul C dX4_safe_53 ?_
    refine e_aload_n (n := 1) C dX4_safe_54 rfl rfl ?_
    refine e_iload_n (n := 3) C dX4_safe_55 rfl rfl ?_
    refine e_callV1 (as := [.int i]) (rest := [.long ((f_X4_betweenBelow M x i) * (f_X4_betweenBelow M x (i + (1 : Int32))))]) C lk_X4_129 (sp_X4_holdsAt (M := M) (x := x) (i := i) hx ) (by decide) rfl (ea_ltO (by decide) hx) hx (by decide) rfl rfl (Nat.le_of_ble_eq_true rfl) dX4_safe_56 ?_
    refine e_i2l C dX4_safe_59 ?_
    refine e_lmul C dX4_safe_60 ?_
    refine e_lstore C dX4_safe_61 (by decide) rfl ?_
    refine e_lload_n (n := 3) C dX4_safe_63 rfl rfl ?_
    refine e_lload (n := 1) C dX4_safe_64 rfl ?_
    refine e_lload (n := 0) C dX4_safe_66 rfl ?_
    refine e_ladd C dX4_safe_68 ?_
    refine e_lconst (v := 1) C dX4_safe_69 (by decide) ?_
    refine e_lsub C dX4_safe_70 ?_
    refine e_lload (n := 0) C dX4_safe_71 rfl ?_
    refine e_callN1 (as := [.long (((((f_X4_betweenAbove M x i) * (f_X4_betweenBelow M x (i + (1 : Int32)))) + ((f_X4_betweenAbove M x (i + (1 : Int32))) * (f_X4_betweenBelow M x i))) + (((f_X4_betweenBelow M x i) * (f_X4_betweenBelow M x (i + (1 : Int32)))) * (((f_X4_holdsAt M x i)).toInt64))) - (1 : Int64)), .long (((f_X4_betweenBelow M x i) * (f_X4_betweenBelow M x (i + (1 : Int32)))) * (((f_X4_holdsAt M x i)).toInt64))]) (rest := [.long a]) C lk_X4_122 (sp_X6_cut (M := M) (a := (((((f_X4_betweenAbove M x i) * (f_X4_betweenBelow M x (i + (1 : Int32)))) + ((f_X4_betweenAbove M x (i + (1 : Int32))) * (f_X4_betweenBelow M x i))) + (((f_X4_betweenBelow M x i) * (f_X4_betweenBelow M x (i + (1 : Int32)))) * (((f_X4_holdsAt M x i)).toInt64))) - (1 : Int64))) (b := (((f_X4_betweenBelow M x i) * (f_X4_betweenBelow M x (i + (1 : Int32)))) * (((f_X4_holdsAt M x i)).toInt64))) ) (by decide) rfl rfl (Nat.le_of_ble_eq_true rfl) dX4_safe_73 ?_
    refine e_mmaxL C (wsm_27 (List.mem_of_getElem? (i := 18) rfl)) (wsm_27 (List.mem_of_getElem? (i := 19) rfl)) (wsm_13 (List.mem_of_getElem? (i := 2) rfl)) (wsm_27 (List.mem_of_getElem? (i := 20) rfl)) (by decide) (Nat.le_of_ble_eq_true rfl) dX4_safe_76 ?_
    refine e_lstore_n C dX4_safe_79 rfl (by decide) rfl ?_
    refine e_iinc (n := 4) (v := (i + 1)) C dX4_safe_80 rfl rfl (by decide) rfl ?_
    refine e_goto (tgt := 4) C dX4_safe_83 (by decide) ?_
    refine e_perm C [4, 1, 0] rfl ?_
    exact (h3 c1)
set_option maxRecDepth 100000 in
set_option maxHeartbeats 4000000 in
theorem kb_X4_addCells_0 {k : ea_K} {o : Option Value} {M' : ea_M} (C : ea_C k RX4 cX4_addCells 4 1) (X : ea_X k none o M') {M : ea_M} {x : Nat} {s m : Int32} (hx : ea_kd x = 4)  (h1 : ea_E k 2 [(0, .ref x), (1, .int s), (2, .int m), (3, .int (0 : Int32))] [] M) : ea_E k 0 [(0, .ref x), (1, .int s), (2, .int m)] [] M := by
  refine e_iconst (v := 0) C dX4_addCells_0 (by decide) ?_
  refine e_istore_n C dX4_addCells_1 rfl (by decide) rfl ?_
  refine e_perm C [1, 2, 3, 0] rfl ?_
  exact h1
set_option maxRecDepth 100000 in
set_option maxHeartbeats 4000000 in
theorem kb_X4_addCells_2 {k : ea_K} {o : Option Value} {M' : ea_M} (C : ea_C k RX4 cX4_addCells 4 1) (X : ea_X k none o M') {M : ea_M} {x : Nat} {s m i : Int32} (hx : ea_kd x = 4)  (h2 : m ≤ i → o = none ∧ M' = M) (h3 : ¬ m ≤ i → ea_E k 2 [(0, .ref x), (1, .int s), (2, .int m), (3, .int (i + 1))] [] (ea_up (pa_set (pa_set M (x + 5) 10 (M x 5) s) (x + 8) 10 (M x 5) (0 : Int32)) x 5 ((M x 5) + (1 : Int32)))) : ea_E k 2 [(0, .ref x), (1, .int s), (2, .int m), (3, .int i)] [] M := by
  refine e_iload_n (n := 3) C dX4_addCells_2 rfl rfl ?_
  refine e_iload_n (n := 2) C dX4_addCells_3 rfl rfl ?_
  refine e_icmp_ge (tgt := 50) C dX4_addCells_4 (by decide) (fun c1 => ?_) (fun c1 => ?_)
  · exact e_vret C X dX4_addCells_50 (h2 c1)
  · refine e_aload_n (n := 0) C dX4_addCells_7 rfl rfl ?_
    refine e_get (v := .ref (x + 5)) C fd_X4_24 (ea_ltO (by decide) hx) hx rfl dX4_addCells_8 ?_
    refine e_aload_n (n := 0) C dX4_addCells_11 rfl rfl ?_
    refine e_get (v := .int (M x 5)) C fd_X4_45 (ea_ltO (by decide) hx) hx rfl dX4_addCells_12 ?_
    refine e_iload_n (n := 1) C dX4_addCells_15 rfl rfl ?_
    refine e_callN0 (as := [.ref (x + 5), .int (M x 5), .int s]) (rest := []) C lk_X4_71 (sp_X6_set M (x + 5) 10 (M x 5) s (kd4_5 hx) (by decide) ) (by decide) rfl rfl (Nat.le_of_ble_eq_true rfl) dX4_addCells_16 ?_
    refine e_aload_n (n := 0) C dX4_addCells_19 rfl rfl ?_
    refine e_get (v := .ref (x + 7)) C fd_X4_30 (ea_ltO (by decide) hx) hx rfl dX4_addCells_20 ?_
    refine e_get (v := .ref (x + 8)) C fd_X4_81 (lt4_7 hx) (kd4_7 hx) rfl dX4_addCells_23 ?_
    refine e_aload_n (n := 0) C dX4_addCells_26 rfl rfl ?_
    refine e_get (v := .int (M x 5)) C fd_X4_45 (ea_ltO (by decide) hx) hx (congrArg (fun z => some (Value.int z)) (by simp [ea_upR, ea_upS, ea_upK, pa_setR, pa_cpR, fr_X3_add, fr_X5_forget, fr_X5_become, fr_X4_clear, fr_X4_addStuff, fr_X4_become_d, fr_X4_become_s, fr_X0_enter, fr_X0_remove] : (pa_set M (x + 5) 10 (M x 5) s) x 5 = (M x 5))) dX4_addCells_27 ?_
    refine e_iconst (v := 0) C dX4_addCells_30 (by decide) ?_
    refine e_callN0 (as := [.ref (x + 8), .int (M x 5), .int (0 : Int32)]) (rest := []) C lk_X4_71 (sp_X6_set (pa_set M (x + 5) 10 (M x 5) s) (x + 8) 10 (M x 5) (0 : Int32) (kd5_1 (kd4_7 hx)) (by decide) ) (by decide) rfl rfl (Nat.le_of_ble_eq_true rfl) dX4_addCells_31 ?_
    refine e_aload_n (n := 0) C dX4_addCells_34 rfl rfl ?_
    refine e_dup C dX4_addCells_35 rfl ?_
    refine e_get (v := .int (M x 5)) C fd_X4_45 (ea_ltO (by decide) hx) hx (congrArg (fun z => some (Value.int z)) (by simp [ea_upR, ea_upS, ea_upK, pa_setR, pa_cpR, fr_X3_add, fr_X5_forget, fr_X5_become, fr_X4_clear, fr_X4_addStuff, fr_X4_become_d, fr_X4_become_s, fr_X0_enter, fr_X0_remove] : (pa_set (pa_set M (x + 5) 10 (M x 5) s) (x + 8) 10 (M x 5) (0 : Int32)) x 5 = (M x 5))) dX4_addCells_36 ?_
    refine e_iconst (v := 1) C dX4_addCells_39 (by decide) ?_
    refine e_iadd C dX4_addCells_40 ?_
    refine e_put (ty := .int) C fd_X4_45 (ea_ltO (by decide) hx) hx rfl (by decide +kernel) (vp_nar_int _) rfl (ea_set4_5 _ _ _) dX4_addCells_41 ?_
    refine e_iinc (n := 3) (v := (i + 1)) C dX4_addCells_44 rfl rfl (by decide) rfl ?_
    refine e_goto (tgt := 2) C dX4_addCells_47 (by decide) ?_
    refine e_perm C [1, 2, 3, 0] rfl ?_
    exact (h3 c1)
set_option maxRecDepth 100000 in
set_option maxHeartbeats 4000000 in
theorem kb_X4_nameNext_0 {k : ea_K} {o : Option Value} {M' : ea_M} (C : ea_C k RX4 cX4_nameNext 3 1) (X : ea_X k none o M') {M : ea_M} {x : Nat} (hx : ea_kd x = 4)  (h1 : ea_E k 17 [(0, .ref x), (1, .ref 2), (2, .int (0 : Int32))] [] (pa_set M (x + 2) 6 (M x 0) (f_X3_tokenLength M))) : ea_E k 0 [(0, .ref x), (1, .ref 2)] [] M := by
  refine e_aload_n (n := 0) C dX4_nameNext_0 rfl rfl ?_
  refine e_get (v := .ref (x + 2)) C fd_X4_15 (ea_ltO (by decide) hx) hx rfl dX4_nameNext_1 ?_
  refine e_aload_n (n := 0) C dX4_nameNext_4 rfl rfl ?_
  refine e_get (v := .int (M x 0)) C fd_X4_37 (ea_ltO (by decide) hx) hx rfl dX4_nameNext_5 ?_
  refine e_aload_n (n := 1) C dX4_nameNext_8 rfl rfl ?_
  refine e_callV1 (as := []) (rest := [.int (M x 0), .ref (x + 2)]) C lk_X4_65 (sp_X3_tokenLength (M := M)  ) (by decide) rfl (by decide) rfl (by decide) rfl rfl (Nat.le_of_ble_eq_true rfl) dX4_nameNext_9 ?_
  refine e_callN0 (as := [.ref (x + 2), .int (M x 0), .int (f_X3_tokenLength M)]) (rest := []) C lk_X4_71 (sp_X6_set M (x + 2) 6 (M x 0) (f_X3_tokenLength M) (kd4_2 hx) (by decide) ) (by decide) rfl rfl (Nat.le_of_ble_eq_true rfl) dX4_nameNext_12 ?_
  refine e_iconst (v := 0) C dX4_nameNext_15 (by decide) ?_
  refine e_istore_n C dX4_nameNext_16 rfl (by decide) rfl ?_
  refine e_perm C [1, 2, 0] rfl ?_
  exact h1
set_option maxRecDepth 100000 in
set_option maxHeartbeats 4000000 in
theorem kb_X4_nameNext_17 {k : ea_K} {o : Option Value} {M' : ea_M} (C : ea_C k RX4 cX4_nameNext 3 1) (X : ea_X k none o M') {M : ea_M} {x : Nat} {i : Int32} (hx : ea_kd x = 4)  (h2 : (f_X3_tokenLength M) ≤ i → o = none ∧ M' = M) (h3 : ¬ (f_X3_tokenLength M) ≤ i → ea_E k 17 [(0, .ref x), (1, .ref 2), (2, .int (i + 1))] [] (pa_set M (x + 1) 42 (((M x 0) * (7 : Int32)) + i) (pa_at (M 3) 200 ((M 2 2) + i)))) : ea_E k 17 [(0, .ref x), (1, .ref 2), (2, .int i)] [] M := by
  refine e_iload_n (n := 2) C dX4_nameNext_17 rfl rfl ?_
  refine e_aload_n (n := 1) C dX4_nameNext_18 rfl rfl ?_
  refine e_callV1 (as := []) (rest := [.int i]) C lk_X4_65 (sp_X3_tokenLength (M := M)  ) (by decide) rfl (by decide) rfl (by decide) rfl rfl (Nat.le_of_ble_eq_true rfl) dX4_nameNext_19 ?_
  refine e_icmp_ge (tgt := 60) C dX4_nameNext_22 (by decide) (fun c1 => ?_) (fun c1 => ?_)
  · exact e_vret C X dX4_nameNext_60 (h2 c1)
  · refine e_aload_n (n := 0) C dX4_nameNext_25 rfl rfl ?_
    refine e_get (v := .ref (x + 1)) C fd_X4_9 (ea_ltO (by decide) hx) hx rfl dX4_nameNext_26 ?_
    refine e_aload_n (n := 0) C dX4_nameNext_29 rfl rfl ?_
    refine e_get (v := .int (M x 0)) C fd_X4_37 (ea_ltO (by decide) hx) hx rfl dX4_nameNext_30 ?_
    refine e_bipush (v := 7) C dX4_nameNext_33 (by decide) ?_
    refine e_imul C dX4_nameNext_35 ?_
    refine e_iload_n (n := 2) C dX4_nameNext_36 rfl rfl ?_
    refine e_iadd C dX4_nameNext_37 ?_
    refine e_aload_n (n := 1) C dX4_nameNext_38 rfl rfl ?_
    refine e_get (v := .ref 3) C fd_X4_75 (by decide) rfl rfl dX4_nameNext_39 ?_
    refine e_aload_n (n := 1) C dX4_nameNext_42 rfl rfl ?_
    refine e_get (v := .int (M 2 2)) C fd_X4_78 (by decide) rfl rfl dX4_nameNext_43 ?_
    refine e_iload_n (n := 2) C dX4_nameNext_46 rfl rfl ?_
    refine e_iadd C dX4_nameNext_47 ?_
    refine e_callN1 (as := [.ref 3, .int ((M 2 2) + i)]) (rest := [.int (((M x 0) * (7 : Int32)) + i), .ref (x + 1)]) C lk_X4_61 (sp_X6_at M 3 200 ((M 2 2) + i) rfl (by decide) ) (by decide) rfl rfl (Nat.le_of_ble_eq_true rfl) dX4_nameNext_48 ?_
    refine e_callN0 (as := [.ref (x + 1), .int (((M x 0) * (7 : Int32)) + i), .int (pa_at (M 3) 200 ((M 2 2) + i))]) (rest := []) C lk_X4_71 (sp_X6_set M (x + 1) 42 (((M x 0) * (7 : Int32)) + i) (pa_at (M 3) 200 ((M 2 2) + i)) (kd4_1 hx) (by decide) ) (by decide) rfl rfl (Nat.le_of_ble_eq_true rfl) dX4_nameNext_51 ?_
    refine e_iinc (n := 2) (v := (i + 1)) C dX4_nameNext_54 rfl rfl (by decide) rfl ?_
    refine e_goto (tgt := 17) C dX4_nameNext_57 (by decide) ?_
    refine e_perm C [1, 2, 0] rfl ?_
    exact (h3 c1)
set_option maxRecDepth 100000 in
set_option maxHeartbeats 4000000 in
theorem kb_X4_isNamed_0 {k : ea_K} {o : Option Value} {M' : ea_M} (C : ea_C k RX4 cX4_isNamed 9 1) (X : ea_X k (some .boolean) o M') {M : ea_M} {x : Nat} {s a b : Int32} (hx : ea_kd x = 4)  (h1 : ea_E k 16 [(0, .ref x), (1, .int s), (2, .ref 2), (4, .int b), (5, .int (pa_at (M (x + 2)) 6 s)), (6, .int (0 : Int32)), (7, .int a)] [] M) : ea_E k 0 [(0, .ref x), (1, .int s), (2, .ref 2), (3, .int a), (4, .int b)] [] M := by
  refine e_aload_n (n := 0) C dX4_isNamed_0 rfl rfl ?_
  refine e_get (v := .ref (x + 2)) C fd_X4_15 (ea_ltO (by decide) hx) hx rfl dX4_isNamed_1 ?_
  refine e_iload_n (n := 1) C dX4_isNamed_4 rfl rfl ?_
  refine e_callN1 (as := [.ref (x + 2), .int s]) (rest := []) C lk_X4_61 (sp_X6_at M (x + 2) 6 s (kd4_2 hx) (by decide) ) (by decide) rfl rfl (Nat.le_of_ble_eq_true rfl) dX4_isNamed_5 ?_
  refine e_istore C dX4_isNamed_8 (by decide) rfl ?_
  refine e_iconst (v := 0) C dX4_isNamed_10 (by decide) ?_
  refine e_istore C dX4_isNamed_11 (by decide) rfl ?_
  refine e_iload_n (n := 5) C dX4_isNamed_13 rfl rfl ?_
  refine e_istore C dX4_isNamed_14 (by decide) rfl ?_
  refine e_perm C [3, 4, 5, 7, 2, 1, 0] rfl ?_
  exact h1
set_option maxRecDepth 100000 in
set_option maxHeartbeats 4000000 in
theorem kb_X4_isNamed_16 {k : ea_K} {o : Option Value} {M' : ea_M} (C : ea_C k RX4 cX4_isNamed 9 1) (X : ea_X k (some .boolean) o M') {M : ea_M} {x : Nat} {s b l m i : Int32} (hx : ea_kd x = 4)  (h3 : b ≤ i → ¬ m = l → o = some (.int (0 : Int32)) ∧ M' = M) (h4 : b ≤ i → m = l → o = some (.int (1 : Int32)) ∧ M' = M) (h7 : ¬ b ≤ i → ¬ (pa_at (M 3) 200 i) = (32 : Int32) → l ≤ m → o = some (.int (0 : Int32)) ∧ M' = M) (h9 : ¬ b ≤ i → ¬ (pa_at (M 3) 200 i) = (32 : Int32) → ¬ l ≤ m → (pa_at (M 3) 200 i) = (pa_at (M (x + 1)) 42 ((s * (7 : Int32)) + m)) → ea_E k 16 [(0, .ref x), (1, .int s), (2, .ref 2), (4, .int b), (5, .int l), (6, .int (m + 1)), (7, .int (i + 1))] [] M) (h10 : ¬ b ≤ i → ¬ (pa_at (M 3) 200 i) = (32 : Int32) → ¬ l ≤ m → ¬ (pa_at (M 3) 200 i) = (pa_at (M (x + 1)) 42 ((s * (7 : Int32)) + m)) → o = some (.int (0 : Int32)) ∧ M' = M) (h11 : ¬ b ≤ i → (pa_at (M 3) 200 i) = (32 : Int32) → ea_E k 16 [(0, .ref x), (1, .int s), (2, .ref 2), (4, .int b), (5, .int l), (6, .int m), (7, .int (i + 1))] [] M) : ea_E k 16 [(0, .ref x), (1, .int s), (2, .ref 2), (4, .int b), (5, .int l), (6, .int m), (7, .int i)] [] M := by
  refine e_iload (n := 6) C dX4_isNamed_16 rfl ?_
  refine e_iload (n := 3) C dX4_isNamed_18 rfl ?_
  refine e_icmp_ge (tgt := 81) C dX4_isNamed_20 (by decide) (fun c1 => ?_) (fun c1 => ?_)
  · refine e_iload (n := 5) C dX4_isNamed_81 rfl ?_
    refine e_iload (n := 4) C dX4_isNamed_83 rfl ?_
    refine e_icmp_ne (tgt := 92) C dX4_isNamed_85 (by decide) (fun c2 => ?_) (fun c2 => ?_)
    · refine e_iconst (v := 0) C dX4_isNamed_92 (by decide) ?_
      exact e_iret C X rfl rfl dX4_isNamed_93 (h3 c1 c2)
    · refine e_iconst (v := 1) C dX4_isNamed_88 (by decide) ?_
      refine e_goto (tgt := 93) C dX4_isNamed_89 (by decide) ?_
      exact e_iret C X rfl rfl dX4_isNamed_93 (h4 c1 c2)
  · refine e_aload_n (n := 2) C dX4_isNamed_23 rfl rfl ?_
    refine e_get (v := .ref 3) C fd_X4_75 (by decide) rfl rfl dX4_isNamed_24 ?_
    refine e_iload (n := 6) C dX4_isNamed_27 rfl ?_
    refine e_callN1 (as := [.ref 3, .int i]) (rest := []) C lk_X4_61 (sp_X6_at M 3 200 i rfl (by decide) ) (by decide) rfl rfl (Nat.le_of_ble_eq_true rfl) dX4_isNamed_29 ?_
    refine e_istore C dX4_isNamed_32 (by decide) rfl ?_
    refine e_iload (n := 0) C dX4_isNamed_34 rfl ?_
    refine e_bipush (v := 32) C dX4_isNamed_36 (by decide) ?_
    refine e_icmp_ne (tgt := 44) C dX4_isNamed_38 (by decide) (fun c5 => ?_) (fun c5 => ?_)
    · refine e_iload (n := 6) C dX4_isNamed_44 rfl ?_
      refine e_iload (n := 5) C dX4_isNamed_46 rfl ?_
      refine e_icmp_ge (tgt := 70) C dX4_isNamed_48 (by decide) (fun c6 => ?_) (fun c6 => ?_)
      · refine e_iconst (v := 0) C dX4_isNamed_70 (by decide) ?_
        exact e_iret C X rfl rfl dX4_isNamed_71 (h7 c1 c5 c6)
      · refine e_iload (n := 0) C dX4_isNamed_51 rfl ?_
        refine e_aload_n (n := 1) C dX4_isNamed_53 rfl rfl ?_
        refine e_get (v := .ref (x + 1)) C fd_X4_9 (ea_ltO (by decide) hx) hx rfl dX4_isNamed_54 ?_
        refine e_iload_n (n := 2) C dX4_isNamed_57 rfl rfl ?_
        refine e_bipush (v := 7) C dX4_isNamed_58 (by decide) ?_
        refine e_imul C dX4_isNamed_60 ?_
        refine e_iload (n := 6) C dX4_isNamed_61 rfl ?_
        refine e_iadd C dX4_isNamed_63 ?_
        refine e_callN1 (as := [.ref (x + 1), .int ((s * (7 : Int32)) + m)]) (rest := [.int (pa_at (M 3) 200 i)]) C lk_X4_61 (sp_X6_at M (x + 1) 42 ((s * (7 : Int32)) + m) (kd4_1 hx) (by decide) ) (by decide) rfl rfl (Nat.le_of_ble_eq_true rfl) dX4_isNamed_64 ?_
        refine e_icmp_eq (tgt := 72) C dX4_isNamed_67 (by decide) (fun c8 => ?_) (fun c8 => ?_)
        · refine e_iinc (n := 6) (v := (m + 1)) C dX4_isNamed_72 rfl rfl (by decide) rfl ?_
          refine e_iinc (n := 7) (v := (i + 1)) C dX4_isNamed_75 rfl rfl (by decide) rfl ?_
          refine e_goto (tgt := 16) C dX4_isNamed_78 (by decide) ?_
          refine e_perm C [3, 4, 5, 6, 7, 1, 0] rfl ?_
          exact (h9 c1 c5 c6 c8)
        · refine e_iconst (v := 0) C dX4_isNamed_70 (by decide) ?_
          exact e_iret C X rfl rfl dX4_isNamed_71 (h10 c1 c5 c6 c8)
    · refine e_goto (tgt := 75) C dX4_isNamed_41 (by decide) ?_
      refine e_iinc (n := 7) (v := (i + 1)) C dX4_isNamed_75 rfl rfl (by decide) rfl ?_
      refine e_goto (tgt := 16) C dX4_isNamed_78 (by decide) ?_
      refine e_perm C [2, 3, 4, 5, 6, 7, 0] rfl ?_
      exact (h11 c1 c5)
set_option maxRecDepth 100000 in
set_option maxHeartbeats 4000000 in
theorem kb_X3_lookFrom_0 {k : ea_K} {o : Option Value} {M' : ea_M} (C : ea_C k RX3 cX3_lookFrom 2 1) (X : ea_X k none o M') {M : ea_M} {p : Int32}   (h1 : ea_E k 5 [(0, .ref 2)] [] (ea_up M 2 2 p)) : ea_E k 0 [(0, .ref 2), (1, .int p)] [] M := by
  refine e_aload_n (n := 0) C dX3_lookFrom_0 rfl rfl ?_
  refine e_iload_n (n := 1) C dX3_lookFrom_1 rfl rfl ?_
  refine e_put (ty := .int) C fd_X3_23 (by decide) rfl rfl (by decide +kernel) (vp_nar_int _) rfl (ea_set3_2 _ _ _) dX3_lookFrom_2 ?_
  refine e_perm C [0] rfl ?_
  exact h1
set_option maxRecDepth 100000 in
set_option maxHeartbeats 4000000 in
theorem kb_X3_lookFrom_5 {k : ea_K} {o : Option Value} {M' : ea_M} (C : ea_C k RX3 cX3_lookFrom 2 1) (X : ea_X k none o M') {M : ea_M}   (h3 : (M 2 1) ≤ (M 2 2) → (M 2 2) < (M 2 1) → ea_E k 98 [(0, .ref 2)] [] (ea_up (ea_up (ea_up (ea_up M 2 3 (M 2 2)) 2 4 (0 : Int32)) 2 4 (f_X3_kindOf (pa_at (M 3) 200 (M 2 2)))) 2 3 ((M 2 2) + (1 : Int32)))) (h4 : (M 2 1) ≤ (M 2 2) → ¬ (M 2 2) < (M 2 1) → o = none ∧ M' = (ea_up (ea_up M 2 3 (M 2 2)) 2 4 (0 : Int32))) (h7 : ¬ (M 2 1) ≤ (M 2 2) → ¬ (pa_at (M 3) 200 (M 2 2)) = (32 : Int32) → (M 2 2) < (M 2 1) → ea_E k 98 [(0, .ref 2)] [] (ea_up (ea_up (ea_up (ea_up M 2 3 (M 2 2)) 2 4 (0 : Int32)) 2 4 (f_X3_kindOf (pa_at (M 3) 200 (M 2 2)))) 2 3 ((M 2 2) + (1 : Int32)))) (h8 : ¬ (M 2 1) ≤ (M 2 2) → ¬ (pa_at (M 3) 200 (M 2 2)) = (32 : Int32) → ¬ (M 2 2) < (M 2 1) → o = none ∧ M' = (ea_up (ea_up M 2 3 (M 2 2)) 2 4 (0 : Int32))) (h9 : ¬ (M 2 1) ≤ (M 2 2) → (pa_at (M 3) 200 (M 2 2)) = (32 : Int32) → ea_E k 5 [(0, .ref 2)] [] (ea_up M 2 2 ((M 2 2) + (1 : Int32)))) : ea_E k 5 [(0, .ref 2)] [] M := by
  refine e_aload_n (n := 0) C dX3_lookFrom_5 rfl rfl ?_
  refine e_get (v := .int (M 2 2)) C fd_X3_23 (by decide) rfl rfl dX3_lookFrom_6 ?_
  refine e_aload_n (n := 0) C dX3_lookFrom_9 rfl rfl ?_
  refine e_get (v := .int (M 2 1)) C fd_X3_15 (by decide) rfl rfl dX3_lookFrom_10 ?_
  refine e_icmp_ge (tgt := 45) C dX3_lookFrom_13 (by decide) (fun c1 => ?_) (fun c1 => ?_)
  · refine e_aload_n (n := 0) C dX3_lookFrom_45 rfl rfl ?_
    refine e_aload_n (n := 0) C dX3_lookFrom_46 rfl rfl ?_
    refine e_get (v := .int (M 2 2)) C fd_X3_23 (by decide) rfl rfl dX3_lookFrom_47 ?_
    refine e_put (ty := .int) C fd_X3_30 (by decide) rfl rfl (by decide +kernel) (vp_nar_int _) rfl (ea_set3_3 _ _ _) dX3_lookFrom_50 ?_
    refine e_aload_n (n := 0) C dX3_lookFrom_53 rfl rfl ?_
    refine e_iconst (v := 0) C dX3_lookFrom_54 (by decide) ?_
    refine e_put (ty := .int) C fd_X3_33 (by decide) rfl rfl (by decide +kernel) (vp_nar_int _) rfl (ea_set3_4 _ _ _) dX3_lookFrom_55 ?_
    refine e_aload_n (n := 0) C dX3_lookFrom_58 rfl rfl ?_
    refine e_get (v := .int (M 2 2)) C fd_X3_23 (by decide) rfl (congrArg (fun z => some (Value.int z)) (by simp [ea_upR, ea_upS, ea_upK, pa_setR, pa_cpR, fr_X3_add, fr_X5_forget, fr_X5_become, fr_X4_clear, fr_X4_addStuff, fr_X4_become_d, fr_X4_become_s, fr_X0_enter, fr_X0_remove] : (ea_up (ea_up M 2 3 (M 2 2)) 2 4 (0 : Int32)) 2 2 = (M 2 2))) dX3_lookFrom_59 ?_
    refine e_aload_n (n := 0) C dX3_lookFrom_62 rfl rfl ?_
    refine e_get (v := .int (M 2 1)) C fd_X3_15 (by decide) rfl (congrArg (fun z => some (Value.int z)) (by simp [ea_upR, ea_upS, ea_upK, pa_setR, pa_cpR, fr_X3_add, fr_X5_forget, fr_X5_become, fr_X4_clear, fr_X4_addStuff, fr_X4_become_d, fr_X4_become_s, fr_X0_enter, fr_X0_remove] : (ea_up (ea_up M 2 3 (M 2 2)) 2 4 (0 : Int32)) 2 1 = (M 2 1))) dX3_lookFrom_63 ?_
    refine e_icmp_lt (tgt := 70) C dX3_lookFrom_66 (by decide) (fun c2 => ?_) (fun c2 => ?_)
    · refine e_aload_n (n := 0) C dX3_lookFrom_70 rfl rfl ?_
      refine e_aload_n (n := 0) C dX3_lookFrom_71 rfl rfl ?_
      refine e_get (v := .ref 3) C fd_X3_9 (by decide) rfl rfl dX3_lookFrom_72 ?_
      refine e_aload_n (n := 0) C dX3_lookFrom_75 rfl rfl ?_
      refine e_get (v := .int (M 2 2)) C fd_X3_23 (by decide) rfl (congrArg (fun z => some (Value.int z)) (by simp [ea_upR, ea_upS, ea_upK, pa_setR, pa_cpR, fr_X3_add, fr_X5_forget, fr_X5_become, fr_X4_clear, fr_X4_addStuff, fr_X4_become_d, fr_X4_become_s, fr_X0_enter, fr_X0_remove] : (ea_up (ea_up M 2 3 (M 2 2)) 2 4 (0 : Int32)) 2 2 = (M 2 2))) dX3_lookFrom_76 ?_
      refine e_callN1 (as := [.ref 3, .int (M 2 2)]) (rest := [.ref 2]) C lk_X3_26 (sp_X6_atR (ea_up (ea_up M 2 3 (M 2 2)) 2 4 (0 : Int32)) 3 200 (M 2 2) (M 3) (by simp [ea_upR, ea_upS, ea_upK, pa_setR, pa_cpR, fr_X3_add, fr_X5_forget, fr_X5_become, fr_X4_clear, fr_X4_addStuff, fr_X4_become_d, fr_X4_become_s, fr_X0_enter, fr_X0_remove]) rfl (by decide) ) (by decide) rfl rfl (Nat.le_of_ble_eq_true rfl) dX3_lookFrom_79 ?_
      refine e_callS1 (as := [.int (pa_at (M 3) 200 (M 2 2))]) (rest := [.ref 2]) C lk_X3_36 (sp_X3_kindOf (M := (ea_up (ea_up M 2 3 (M 2 2)) 2 4 (0 : Int32))) (i := (pa_at (M 3) 200 (M 2 2))) ) (by decide) rfl rfl (Nat.le_of_ble_eq_true rfl) dX3_lookFrom_82 ?_
      refine e_put (ty := .int) C fd_X3_33 (by decide) rfl rfl (by decide +kernel) (vp_nar_int _) rfl (ea_set3_4 _ _ _) dX3_lookFrom_85 ?_
      refine e_aload_n (n := 0) C dX3_lookFrom_88 rfl rfl ?_
      refine e_dup C dX3_lookFrom_89 rfl ?_
      refine e_get (v := .int (M 2 2)) C fd_X3_30 (by decide) rfl (congrArg (fun z => some (Value.int z)) (by simp [ea_upR, ea_upS, ea_upK, pa_setR, pa_cpR, fr_X3_add, fr_X5_forget, fr_X5_become, fr_X4_clear, fr_X4_addStuff, fr_X4_become_d, fr_X4_become_s, fr_X0_enter, fr_X0_remove] : (ea_up (ea_up (ea_up M 2 3 (M 2 2)) 2 4 (0 : Int32)) 2 4 (f_X3_kindOf (pa_at (M 3) 200 (M 2 2)))) 2 3 = (M 2 2))) dX3_lookFrom_90 ?_
      refine e_iconst (v := 1) C dX3_lookFrom_93 (by decide) ?_
      refine e_iadd C dX3_lookFrom_94 ?_
      refine e_put (ty := .int) C fd_X3_30 (by decide) rfl rfl (by decide +kernel) (vp_nar_int _) rfl (ea_set3_3 _ _ _) dX3_lookFrom_95 ?_
      exact (h3 c1 c2)
    · exact e_vret C X dX3_lookFrom_69 (h4 c1 c2)
  · refine e_aload_n (n := 0) C dX3_lookFrom_16 rfl rfl ?_
    refine e_get (v := .ref 3) C fd_X3_9 (by decide) rfl rfl dX3_lookFrom_17 ?_
    refine e_aload_n (n := 0) C dX3_lookFrom_20 rfl rfl ?_
    refine e_get (v := .int (M 2 2)) C fd_X3_23 (by decide) rfl rfl dX3_lookFrom_21 ?_
    refine e_callN1 (as := [.ref 3, .int (M 2 2)]) (rest := []) C lk_X3_26 (sp_X6_at M 3 200 (M 2 2) rfl (by decide) ) (by decide) rfl rfl (Nat.le_of_ble_eq_true rfl) dX3_lookFrom_24 ?_
    refine e_bipush (v := 32) C dX3_lookFrom_27 (by decide) ?_
    refine e_icmp_ne (tgt := 45) C dX3_lookFrom_29 (by decide) (fun c5 => ?_) (fun c5 => ?_)
    · refine e_aload_n (n := 0) C dX3_lookFrom_45 rfl rfl ?_
      refine e_aload_n (n := 0) C dX3_lookFrom_46 rfl rfl ?_
      refine e_get (v := .int (M 2 2)) C fd_X3_23 (by decide) rfl rfl dX3_lookFrom_47 ?_
      refine e_put (ty := .int) C fd_X3_30 (by decide) rfl rfl (by decide +kernel) (vp_nar_int _) rfl (ea_set3_3 _ _ _) dX3_lookFrom_50 ?_
      refine e_aload_n (n := 0) C dX3_lookFrom_53 rfl rfl ?_
      refine e_iconst (v := 0) C dX3_lookFrom_54 (by decide) ?_
      refine e_put (ty := .int) C fd_X3_33 (by decide) rfl rfl (by decide +kernel) (vp_nar_int _) rfl (ea_set3_4 _ _ _) dX3_lookFrom_55 ?_
      refine e_aload_n (n := 0) C dX3_lookFrom_58 rfl rfl ?_
      refine e_get (v := .int (M 2 2)) C fd_X3_23 (by decide) rfl (congrArg (fun z => some (Value.int z)) (by simp [ea_upR, ea_upS, ea_upK, pa_setR, pa_cpR, fr_X3_add, fr_X5_forget, fr_X5_become, fr_X4_clear, fr_X4_addStuff, fr_X4_become_d, fr_X4_become_s, fr_X0_enter, fr_X0_remove] : (ea_up (ea_up M 2 3 (M 2 2)) 2 4 (0 : Int32)) 2 2 = (M 2 2))) dX3_lookFrom_59 ?_
      refine e_aload_n (n := 0) C dX3_lookFrom_62 rfl rfl ?_
      refine e_get (v := .int (M 2 1)) C fd_X3_15 (by decide) rfl (congrArg (fun z => some (Value.int z)) (by simp [ea_upR, ea_upS, ea_upK, pa_setR, pa_cpR, fr_X3_add, fr_X5_forget, fr_X5_become, fr_X4_clear, fr_X4_addStuff, fr_X4_become_d, fr_X4_become_s, fr_X0_enter, fr_X0_remove] : (ea_up (ea_up M 2 3 (M 2 2)) 2 4 (0 : Int32)) 2 1 = (M 2 1))) dX3_lookFrom_63 ?_
      refine e_icmp_lt (tgt := 70) C dX3_lookFrom_66 (by decide) (fun c6 => ?_) (fun c6 => ?_)
      · refine e_aload_n (n := 0) C dX3_lookFrom_70 rfl rfl ?_
        refine e_aload_n (n := 0) C dX3_lookFrom_71 rfl rfl ?_
        refine e_get (v := .ref 3) C fd_X3_9 (by decide) rfl rfl dX3_lookFrom_72 ?_
        refine e_aload_n (n := 0) C dX3_lookFrom_75 rfl rfl ?_
        refine e_get (v := .int (M 2 2)) C fd_X3_23 (by decide) rfl (congrArg (fun z => some (Value.int z)) (by simp [ea_upR, ea_upS, ea_upK, pa_setR, pa_cpR, fr_X3_add, fr_X5_forget, fr_X5_become, fr_X4_clear, fr_X4_addStuff, fr_X4_become_d, fr_X4_become_s, fr_X0_enter, fr_X0_remove] : (ea_up (ea_up M 2 3 (M 2 2)) 2 4 (0 : Int32)) 2 2 = (M 2 2))) dX3_lookFrom_76 ?_
        refine e_callN1 (as := [.ref 3, .int (M 2 2)]) (rest := [.ref 2]) C lk_X3_26 (sp_X6_atR (ea_up (ea_up M 2 3 (M 2 2)) 2 4 (0 : Int32)) 3 200 (M 2 2) (M 3) (by simp [ea_upR, ea_upS, ea_upK, pa_setR, pa_cpR, fr_X3_add, fr_X5_forget, fr_X5_become, fr_X4_clear, fr_X4_addStuff, fr_X4_become_d, fr_X4_become_s, fr_X0_enter, fr_X0_remove]) rfl (by decide) ) (by decide) rfl rfl (Nat.le_of_ble_eq_true rfl) dX3_lookFrom_79 ?_
        refine e_callS1 (as := [.int (pa_at (M 3) 200 (M 2 2))]) (rest := [.ref 2]) C lk_X3_36 (sp_X3_kindOf (M := (ea_up (ea_up M 2 3 (M 2 2)) 2 4 (0 : Int32))) (i := (pa_at (M 3) 200 (M 2 2))) ) (by decide) rfl rfl (Nat.le_of_ble_eq_true rfl) dX3_lookFrom_82 ?_
        refine e_put (ty := .int) C fd_X3_33 (by decide) rfl rfl (by decide +kernel) (vp_nar_int _) rfl (ea_set3_4 _ _ _) dX3_lookFrom_85 ?_
        refine e_aload_n (n := 0) C dX3_lookFrom_88 rfl rfl ?_
        refine e_dup C dX3_lookFrom_89 rfl ?_
        refine e_get (v := .int (M 2 2)) C fd_X3_30 (by decide) rfl (congrArg (fun z => some (Value.int z)) (by simp [ea_upR, ea_upS, ea_upK, pa_setR, pa_cpR, fr_X3_add, fr_X5_forget, fr_X5_become, fr_X4_clear, fr_X4_addStuff, fr_X4_become_d, fr_X4_become_s, fr_X0_enter, fr_X0_remove] : (ea_up (ea_up (ea_up M 2 3 (M 2 2)) 2 4 (0 : Int32)) 2 4 (f_X3_kindOf (pa_at (M 3) 200 (M 2 2)))) 2 3 = (M 2 2))) dX3_lookFrom_90 ?_
        refine e_iconst (v := 1) C dX3_lookFrom_93 (by decide) ?_
        refine e_iadd C dX3_lookFrom_94 ?_
        refine e_put (ty := .int) C fd_X3_30 (by decide) rfl rfl (by decide +kernel) (vp_nar_int _) rfl (ea_set3_3 _ _ _) dX3_lookFrom_95 ?_
        exact (h7 c1 c5 c6)
      · exact e_vret C X dX3_lookFrom_69 (h8 c1 c5 c6)
    · refine e_aload_n (n := 0) C dX3_lookFrom_32 rfl rfl ?_
      refine e_dup C dX3_lookFrom_33 rfl ?_
      refine e_get (v := .int (M 2 2)) C fd_X3_23 (by decide) rfl rfl dX3_lookFrom_34 ?_
      refine e_iconst (v := 1) C dX3_lookFrom_37 (by decide) ?_
      refine e_iadd C dX3_lookFrom_38 ?_
      refine e_put (ty := .int) C fd_X3_23 (by decide) rfl rfl (by decide +kernel) (vp_nar_int _) rfl (ea_set3_2 _ _ _) dX3_lookFrom_39 ?_
      refine e_goto (tgt := 5) C dX3_lookFrom_42 (by decide) ?_
      exact (h9 c1 c5)
set_option maxRecDepth 100000 in
set_option maxHeartbeats 4000000 in
theorem kb_X3_lookFrom_98 {k : ea_K} {o : Option Value} {M' : ea_M} (C : ea_C k RX3 cX3_lookFrom 2 1) (X : ea_X k none o M') {M : ea_M}   (h2 : (M 2 4) = (3 : Int32) → o = none ∧ M' = M) (h4 : ¬ (M 2 4) = (3 : Int32) → (M 2 1) ≤ (M 2 3) → o = none ∧ M' = M) (h6 : ¬ (M 2 4) = (3 : Int32) → ¬ (M 2 1) ≤ (M 2 3) → ¬ (f_X3_kindOf (pa_at (M 3) 200 (M 2 3))) = (M 2 4) → o = none ∧ M' = M) (h7 : ¬ (M 2 4) = (3 : Int32) → ¬ (M 2 1) ≤ (M 2 3) → (f_X3_kindOf (pa_at (M 3) 200 (M 2 3))) = (M 2 4) → ea_E k 98 [(0, .ref 2)] [] (ea_up M 2 3 ((M 2 3) + (1 : Int32)))) : ea_E k 98 [(0, .ref 2)] [] M := by
  refine e_aload_n (n := 0) C dX3_lookFrom_98 rfl rfl ?_
  refine e_get (v := .int (M 2 4)) C fd_X3_33 (by decide) rfl rfl dX3_lookFrom_99 ?_
  refine e_iconst (v := 3) C dX3_lookFrom_102 (by decide) ?_
  refine e_icmp_eq (tgt := 151) C dX3_lookFrom_103 (by decide) (fun c1 => ?_) (fun c1 => ?_)
  · exact e_vret C X dX3_lookFrom_151 (h2 c1)
  · refine e_aload_n (n := 0) C dX3_lookFrom_106 rfl rfl ?_
    refine e_get (v := .int (M 2 3)) C fd_X3_30 (by decide) rfl rfl dX3_lookFrom_107 ?_
    refine e_aload_n (n := 0) C dX3_lookFrom_110 rfl rfl ?_
    refine e_get (v := .int (M 2 1)) C fd_X3_15 (by decide) rfl rfl dX3_lookFrom_111 ?_
    refine e_icmp_ge (tgt := 151) C dX3_lookFrom_114 (by decide) (fun c3 => ?_) (fun c3 => ?_)
    · exact e_vret C X dX3_lookFrom_151 (h4 c1 c3)
    · refine e_aload_n (n := 0) C dX3_lookFrom_117 rfl rfl ?_
      refine e_get (v := .ref 3) C fd_X3_9 (by decide) rfl rfl dX3_lookFrom_118 ?_
      refine e_aload_n (n := 0) C dX3_lookFrom_121 rfl rfl ?_
      refine e_get (v := .int (M 2 3)) C fd_X3_30 (by decide) rfl rfl dX3_lookFrom_122 ?_
      refine e_callN1 (as := [.ref 3, .int (M 2 3)]) (rest := []) C lk_X3_26 (sp_X6_at M 3 200 (M 2 3) rfl (by decide) ) (by decide) rfl rfl (Nat.le_of_ble_eq_true rfl) dX3_lookFrom_125 ?_
      refine e_callS1 (as := [.int (pa_at (M 3) 200 (M 2 3))]) (rest := []) C lk_X3_36 (sp_X3_kindOf (M := M) (i := (pa_at (M 3) 200 (M 2 3))) ) (by decide) rfl rfl (Nat.le_of_ble_eq_true rfl) dX3_lookFrom_128 ?_
      refine e_aload_n (n := 0) C dX3_lookFrom_131 rfl rfl ?_
      refine e_get (v := .int (M 2 4)) C fd_X3_33 (by decide) rfl rfl dX3_lookFrom_132 ?_
      refine e_icmp_ne (tgt := 151) C dX3_lookFrom_135 (by decide) (fun c5 => ?_) (fun c5 => ?_)
      · exact e_vret C X dX3_lookFrom_151 (h6 c1 c3 c5)
      · refine e_aload_n (n := 0) C dX3_lookFrom_138 rfl rfl ?_
        refine e_dup C dX3_lookFrom_139 rfl ?_
        refine e_get (v := .int (M 2 3)) C fd_X3_30 (by decide) rfl rfl dX3_lookFrom_140 ?_
        refine e_iconst (v := 1) C dX3_lookFrom_143 (by decide) ?_
        refine e_iadd C dX3_lookFrom_144 ?_
        refine e_put (ty := .int) C fd_X3_30 (by decide) rfl rfl (by decide +kernel) (vp_nar_int _) rfl (ea_set3_3 _ _ _) dX3_lookFrom_145 ?_
        refine e_goto (tgt := 98) C dX3_lookFrom_148 (by decide) ?_
        exact (h7 c1 c3 c5)
set_option maxRecDepth 100000 in
set_option maxHeartbeats 4000000 in
theorem kb_X3_number_0 {k : ea_K} {o : Option Value} {M' : ea_M} (C : ea_C k RX3 cX3_number 3 1) (X : ea_X k (some .int) o M') {M : ea_M}   (h2 : ¬ (M 2 4) = (2 : Int32) → o = some (.int (-1 : Int32)) ∧ M' = M) (h4 : (M 2 4) = (2 : Int32) → (f_X3_tokenLength M) ≤ (4 : Int32) → ea_E k 25 [(0, .ref 2), (1, .int (0 : Int32)), (2, .int (M 2 2))] [] M) (h5 : (M 2 4) = (2 : Int32) → ¬ (f_X3_tokenLength M) ≤ (4 : Int32) → o = some (.int (-1 : Int32)) ∧ M' = M) : ea_E k 0 [(0, .ref 2)] [] M := by
  refine e_aload_n (n := 0) C dX3_number_0 rfl rfl ?_
  refine e_get (v := .int (M 2 4)) C fd_X3_33 (by decide) rfl rfl dX3_number_1 ?_
  refine e_iconst (v := 2) C dX3_number_4 (by decide) ?_
  refine e_icmp_ne (tgt := 16) C dX3_number_5 (by decide) (fun c1 => ?_) (fun c1 => ?_)
  · refine e_iconst (v := -1) C dX3_number_16 (by decide) ?_
    exact e_iret C X rfl (vp_nar_int _) dX3_number_17 (h2 c1)
  · refine e_aload_n (n := 0) C dX3_number_8 rfl rfl ?_
    refine e_callV1 (as := []) (rest := []) C lk_X3_40 (sp_X3_tokenLength (M := M)  ) (by decide) rfl (by decide) rfl (by decide) rfl rfl (Nat.le_of_ble_eq_true rfl) dX3_number_9 ?_
    refine e_iconst (v := 4) C dX3_number_12 (by decide) ?_
    refine e_icmp_le (tgt := 18) C dX3_number_13 (by decide) (fun c3 => ?_) (fun c3 => ?_)
    · refine e_iconst (v := 0) C dX3_number_18 (by decide) ?_
      refine e_istore_n C dX3_number_19 rfl (by decide) rfl ?_
      refine e_aload_n (n := 1) C dX3_number_20 rfl rfl ?_
      refine e_get (v := .int (M 2 2)) C fd_X3_23 (by decide) rfl rfl dX3_number_21 ?_
      refine e_istore_n C dX3_number_24 rfl (by decide) rfl ?_
      refine e_perm C [2, 1, 0] rfl ?_
      exact (h4 c1 c3)
    · refine e_iconst (v := -1) C dX3_number_16 (by decide) ?_
      exact e_iret C X rfl (vp_nar_int _) dX3_number_17 (h5 c1 c3)
set_option maxRecDepth 100000 in
set_option maxHeartbeats 4000000 in
theorem kb_X3_number_25 {k : ea_K} {o : Option Value} {M' : ea_M} (C : ea_C k RX3 cX3_number 3 1) (X : ea_X k (some .int) o M') {M : ea_M} {v i : Int32}   (h2 : (M 2 3) ≤ i → o = some (.int v) ∧ M' = M) (h3 : ¬ (M 2 3) ≤ i → ea_E k 25 [(0, .ref 2), (1, .int ((((10 : Int32) * v) + (pa_at (M 3) 200 i)) - (48 : Int32))), (2, .int (i + 1))] [] M) : ea_E k 25 [(0, .ref 2), (1, .int v), (2, .int i)] [] M := by
  refine e_iload_n (n := 2) C dX3_number_25 rfl rfl ?_
  refine e_aload_n (n := 0) C dX3_number_26 rfl rfl ?_
  refine e_get (v := .int (M 2 3)) C fd_X3_30 (by decide) rfl rfl dX3_number_27 ?_
  refine e_icmp_ge (tgt := 56) C dX3_number_30 (by decide) (fun c1 => ?_) (fun c1 => ?_)
  · refine e_iload_n (n := 1) C dX3_number_56 rfl rfl ?_
    exact e_iret C X rfl (vp_nar_int _) dX3_number_57 (h2 c1)
  · refine e_bipush (v := 10) C dX3_number_33 (by decide) ?_
    refine e_iload_n (n := 1) C dX3_number_35 rfl rfl ?_
    refine e_imul C dX3_number_36 ?_
    refine e_aload_n (n := 0) C dX3_number_37 rfl rfl ?_
    refine e_get (v := .ref 3) C fd_X3_9 (by decide) rfl rfl dX3_number_38 ?_
    refine e_iload_n (n := 2) C dX3_number_41 rfl rfl ?_
    refine e_callN1 (as := [.ref 3, .int i]) (rest := [.int ((10 : Int32) * v)]) C lk_X3_26 (sp_X6_at M 3 200 i rfl (by decide) ) (by decide) rfl rfl (Nat.le_of_ble_eq_true rfl) dX3_number_42 ?_
    refine e_iadd C dX3_number_45 ?_
    refine e_bipush (v := 48) C dX3_number_46 (by decide) ?_
    refine e_isub C dX3_number_48 ?_
    refine e_istore_n C dX3_number_49 rfl (by decide) rfl ?_
    refine e_iinc (n := 2) (v := (i + 1)) C dX3_number_50 rfl rfl (by decide) rfl ?_
    refine e_goto (tgt := 25) C dX3_number_53 (by decide) ?_
    refine e_perm C [2, 1, 0] rfl ?_
    exact (h3 c1)
/-! ===== WallHeat's loops ===== -/
/-- the first place from i on, of m places, at which p holds -/
def pa_ix (p : Nat → Bool) : Nat → Nat → Option Nat
  | _, 0 => none
  | i, m + 1 => if p i = true then some i else pa_ix p (i + 1) m
def pa_ri (o : Option Nat) : Int32 := match o with
  | none => -1
  | some j => nI j
/-- the bits at which p holds -/
def pa_bt (p : Nat → Bool) : Nat → Int32
  | 0 => 0
  | c + 1 => pa_bt p c ||| (if p c = true then (1 : Int32) <<< (nI c &&& 31) else 0)
def pa_nsum (f : Nat → Nat) : Nat → Nat
  | 0 => 0
  | c + 1 => pa_nsum f c + f c
/-- the first n places of a row are told anew -/
def pa_row (M : ea_M) (y : Nat) (f : Nat → Int32) (n : Nat) : ea_M := fun a => if a = y then (fun j => if j < n then f j else M y j) else M a
theorem pa_rowR {M : ea_M} {y n a : Nat} {f : Nat → Int32} (h : a ≠ y) : pa_row M y f n a = M a := if_neg h
theorem pa_rowI {M : ea_M} {y n j : Nat} {f : Nat → Int32} (h : j < n) : pa_row M y f n y j = f j := by simp [pa_row, h]
theorem pa_rowO {M : ea_M} {y n j : Nat} {f : Nat → Int32} (h : n ≤ j) : pa_row M y f n y j = M y j := by
  have : ¬ j < n := by omega
  simp [pa_row, this]
theorem pa_row0 (M : ea_M) (y : Nat) (f : Nat → Int32) : pa_row M y f 0 = M := by
  funext a j
  unfold pa_row
  by_cases h : a = y <;> simp [h]
theorem pa_rowS {M : ea_M} {y i : Nat} {f : Nat → Int32} {v : Int32} (hv : v = f i) : ea_up (pa_row M y f i) y i v = pa_row M y f (i + 1) := by
  subst hv
  funext a b
  rw [pa_up]
  by_cases ha : a = y
  · subst ha
    simp only [if_true, pa_row]
    by_cases hb : b = i
    · subst hb
      simp
    · simp only [if_neg hb]
      by_cases hc : b < i
      · simp [hc, Nat.lt_succ_of_lt hc]
      · have : ¬ b < i + 1 := by omega
        simp [hc, this]
  · simp [ha, pa_row]
theorem pa_cp_row (M : ea_M) (y z n : Nat) : pa_cp M y z n = pa_row M z (M y) n := rfl
theorem sp_X0_placeOf (M : ea_M) (x n : Nat) (a b : Int32) (hx : ea_kd x = 0) (hn : n ≤ 8) (hk : M x 1 = nI n) : ea_Sp 1 yX0_placeOf cX0_placeOf 4 (some .int) [.ref x, .int a, .int b] M (some (.int (pa_ri (pa_ix (fun j => decide (M (x + 1) j = a ∧ M (x + 2) j = b)) 0 n)))) M := by
  refine ea_intro (own := RX0) (by decide +kernel) rfl (fun g => Nat.le_of_ble_eq_true rfl) (fun k C X => ?_)
  obtain ⟨r, hr⟩ : ∃ r, r = pa_ri (pa_ix (fun j => decide (M (x + 1) j = a ∧ M (x + 2) j = b)) 0 n) := ⟨_, rfl⟩
  rw [← hr] at X
  have loop : ∀ (m i : Nat), i + m = n → r = pa_ri (pa_ix (fun j => decide (M (x + 1) j = a ∧ M (x + 2) j = b)) i m) → ea_E k 2 [(0, .ref x), (1, .int a), (2, .int b), (3, .int (nI i))] [] M := by
    intro m
    induction m with
    | zero =>
      intro i hi hri
      have hc : M x 1 ≤ nI i := by rw [hk]; exact nI_le (by omega) (by omega)
      exact kb_X0_placeOf_2 C X hx (fun _ => ⟨by rw [hri]; rfl, rfl⟩) (fun c => absurd hc c) (fun c => absurd hc c) (fun c => absurd hc c)
    | succ m ih =>
      intro i hi hri
      have hc : ¬ M x 1 ≤ nI i := by rw [hk]; exact nI_ge (by omega) (by omega)
      have e1 : pa_at (M (x + 1)) 8 (nI i) = M (x + 1) i := pa_atN (by omega) (by decide)
      have e2 : pa_at (M (x + 2)) 8 (nI i) = M (x + 2) i := pa_atN (by omega) (by decide)
      have key : ¬ (M (x + 1) i = a ∧ M (x + 2) i = b) → ea_E k 2 [(0, .ref x), (1, .int a), (2, .int b), (3, .int (nI i + 1))] [] M := by
        intro h
        rw [nI_1]
        refine ih (i + 1) (by omega) ?_
        rw [hri, pa_ix, if_neg (by simpa using h)]
      refine kb_X0_placeOf_2 C X hx (fun c => absurd c hc) (fun _ h => ?_) (fun _ _ h => ?_) (fun _ h1 h2 => ⟨?_, rfl⟩)
      · exact key (fun z => h (e1.trans z.1))
      · exact key (fun z => h (e2.trans z.2))
      · rw [e1] at h1
        rw [e2] at h2
        rw [hri, pa_ix, if_pos (by simp [h1, h2])]
        rfl
  exact kb_X0_placeOf_0 C X hx (loop n 0 (by omega) hr)
/-- Past.forget() -/
def pa_fgt (M : ea_M) : ea_M := pa_row (ea_up M 24 4 0) 27 (fun _ => 0) 2
theorem sp_X1_forget (M : ea_M) : ea_Sp 1 yX1_forget cX1_forget 2 none [.ref 24] M none (pa_fgt M) := by
  refine ea_intro (own := RX1) (by decide +kernel) rfl (fun g => Nat.le_of_ble_eq_true rfl) (fun k C X => ?_)
  have e : ∀ (N : ea_M) (i : Nat), i < 2 → pa_set (pa_row N 27 (fun _ => 0) i) 27 2 (nI i) 0 = pa_row N 27 (fun _ => 0) (i + 1) := by
    intro N i hi
    rw [pa_setN hi (by decide)]
    exact pa_rowS rfl
  refine kb_X1_forget_0 C X ?_
  refine kb_X1_forget_7 C X (fun c => absurd c (by decide)) (fun _ => ?_)
  refine kb_X1_forget_7 C X (fun c => absurd c (by decide)) (fun _ => ?_)
  refine kb_X1_forget_7 C X (fun _ => ⟨rfl, ?_⟩) (fun c => absurd (by decide) c)
  unfold pa_fgt
  have h1 := e (ea_up M 24 4 0) 1 (by decide)
  have h0 := e (ea_up M 24 4 0) 0 (by decide)
  rw [pa_row0] at h0
  rw [← h1, ← h0]
  rfl
theorem sp_X4_cellsOf (M : ea_M) (x n : Nat) (s : Int32) (hx : ea_kd x = 4) (hn : n ≤ 10) (hk : M x 5 = nI n) : ea_Sp 1 yX4_cellsOf cX4_cellsOf 4 (some .int) [.ref x, .int s] M (some (.int (pa_bt (fun j => decide (M (x + 5) j = s)) n))) M := by
  refine ea_intro (own := RX4) (by decide +kernel) rfl (fun g => Nat.le_of_ble_eq_true rfl) (fun k C X => ?_)
  have loop : ∀ (m i : Nat), i + m = n → ea_E k 4 [(0, .ref x), (1, .int s), (2, .int (pa_bt (fun j => decide (M (x + 5) j = s)) i)), (3, .int (nI i))] [] M := by
    intro m
    induction m with
    | zero =>
      intro i hi
      have hc : M x 5 ≤ nI i := by rw [hk]; exact nI_le (by omega) (by omega)
      exact kb_X4_cellsOf_4 C X hx (fun _ => ⟨by rw [show i = n by omega], rfl⟩) (fun c => absurd hc c) (fun c => absurd hc c)
    | succ m ih =>
      intro i hi
      have hc : ¬ M x 5 ≤ nI i := by rw [hk]; exact nI_ge (by omega) (by omega)
      have e1 : pa_at (M (x + 5)) 10 (nI i) = M (x + 5) i := pa_atN (by omega) (by decide)
      have h2 := ih (i + 1) (by omega)
      rw [pa_bt] at h2
      refine kb_X4_cellsOf_4 C X hx (fun c => absurd c hc) (fun _ h => ?_) (fun _ h => ?_)
      · rw [e1] at h
        rw [if_neg (by simpa using h), Int32.or_zero] at h2
        rw [nI_1]
        exact h2
      · rw [e1] at h
        rw [if_pos (by simpa using h)] at h2
        rw [nI_1]
        exact h2
  exact kb_X4_cellsOf_0 C X hx (loop n 0 (by omega))
/-- how many pairs of places are alike by p, the greater one first or second -/
def pa_pr (p : Nat → Nat → Bool) (n : Nat) : Int32 := pa_sum (fun i => pa_sum (fun j => if i < j ∧ p i j = true then 1 else 0) n) n
theorem pa_sum0 {f : Nat → Int32} : ∀ c, (∀ j, j < c → f j = 0) → pa_sum f c = 0 := by
  intro c
  induction c with
  | zero => intro _; rfl
  | succ c ih =>
    intro h
    rw [pa_sum, ih (fun j hj => h j (by omega)), h c (by omega)]
    rfl
theorem sp_X4_alikePairs (M : ea_M) (x n : Nat) (hx : ea_kd x = 4) (hn : n ≤ 10) (hk : M x 5 = nI n) : ea_Sp 2 yX4_alikePairs cX4_alikePairs 4 (some .int) [.ref x] M (some (.int (pa_pr (fun i j => decide (M (x + 5) i = M (x + 5) j ∧ M (x + 8) i = M (x + 8) j)) n))) M := by
  refine ea_intro (own := RX4) (by decide +kernel) rfl (fun g => Nat.le_of_ble_eq_true rfl) (fun k C X => ?_)
  obtain ⟨p, hp⟩ : ∃ p : Nat → Nat → Bool, p = (fun i j => decide (M (x + 5) i = M (x + 5) j ∧ M (x + 8) i = M (x + 8) j)) := ⟨_, rfl⟩
  rw [← hp] at X
  obtain ⟨g, hg⟩ : ∃ g : Nat → Nat → Int32, g = fun i j => if i < j ∧ p i j = true then 1 else 0 := ⟨_, rfl⟩
  have hal : ∀ i j, i < n → j < n → (p_X4_isAlike M x (nI i) (nI j) ↔ p i j = true) := by
    intro i j hi hj
    show (pa_at (M (x + 5)) 10 (nI i) = pa_at (M (x + 5)) 10 (nI j) ∧ pa_at (M (x + 8)) 10 (nI i) = pa_at (M (x + 8)) 10 (nI j)) ↔ _
    rw [pa_atN (show i < 10 by omega) (by decide), pa_atN (show j < 10 by omega) (by decide), pa_atN (show i < 10 by omega) (by decide), pa_atN (show j < 10 by omega) (by decide), hp]
    simp
  have outer : ∀ (m i : Nat), i + m = n → ea_E k 4 [(0, .ref x), (1, .int (pa_sum (fun i => pa_sum (g i) n) i)), (2, .int (nI i))] [] M := by
    intro m
    induction m with
    | zero =>
      intro i hi
      have hc : M x 5 ≤ nI i := by rw [hk]; exact nI_le (by omega) (by omega)
      refine kb_X4_alikePairs_4 C X hx (fun _ => ⟨?_, rfl⟩) (fun c => absurd hc c)
      rw [show i = n by omega, pa_pr, hg]
    | succ m ih =>
      intro i hi
      have hc : ¬ M x 5 ≤ nI i := by rw [hk]; exact nI_ge (by omega) (by omega)
      have inner : ∀ (q j : Nat), j + q = n → ea_E k 16 [(0, .ref x), (1, .int (pa_sum (fun i => pa_sum (g i) n) i + pa_sum (g i) j)), (2, .int (nI i)), (3, .int (nI j))] [] M ∨ j ≤ i := by
        intro q
        induction q with
        | zero =>
          intro j hj
          refine Or.inl ?_
          have hc2 : M x 5 ≤ nI j := by rw [hk]; exact nI_le (by omega) (by omega)
          refine kb_X4_alikePairs_16 C X hx (fun _ => ?_) (fun c => absurd hc2 c) (fun c => absurd hc2 c)
          have := ih (i + 1) (by omega)
          rw [show j = n by omega, nI_1]
          exact this
        | succ q ihq =>
          intro j hj
          by_cases hij : j ≤ i
          · exact Or.inr hij
          refine Or.inl ?_
          have hc2 : ¬ M x 5 ≤ nI j := by rw [hk]; exact nI_ge (by omega) (by omega)
          have h3 := (ihq (j + 1) (by omega)).resolve_right (by omega)
          have e3 : pa_sum (g i) (j + 1) = pa_sum (g i) j + g i j := rfl
          rw [e3, ← Int32.add_assoc] at h3
          refine kb_X4_alikePairs_16 C X hx (fun c => absurd c hc2) (fun _ h => ?_) (fun _ h => ?_)
          · have e4 : g i j = 0 := by
              rw [hg]
              exact if_neg (fun z => h ((hal i j (by omega) (by omega)).mpr z.2))
            rw [e4, Int32.add_zero] at h3
            rw [nI_1]
            exact h3
          · have e4 : g i j = 1 := by
              rw [hg]
              exact if_pos ⟨by omega, (hal i j (by omega) (by omega)).mp h⟩
            rw [e4] at h3
            rw [nI_1]
            exact h3
      refine kb_X4_alikePairs_4 C X hx (fun c => absurd c hc) (fun _ => ?_)
      have h5 := (inner (n - (i + 1)) (i + 1) (by omega)).resolve_right (by omega)
      rw [pa_sum0 (f := g i) (i + 1) (fun j hj => by rw [hg]; exact if_neg (fun z => by omega)), Int32.add_zero] at h5
      have e6 : nI i + (1 : Int32) = nI (i + 1) := nI_1 i
      rw [e6]
      exact h5
  exact kb_X4_alikePairs_0 C X hx (outer n 0 (by omega))

