set_option maxRecDepth 100000 in
set_option maxHeartbeats 4000000 in
theorem kb_X1_slot_r {k : ea_K} {o : Option Value} {M' : ea_M} (C : ea_C k RX1 cX1_slot 2 0) (X : ea_X k (some (.object "WallHeat$Warmth")) o M') {M : ea_M} {z : Nat} {i : Int32} (hz : ea_kd z = 5)  (h2 : i < 0 → o = some (.null) ∧ M' = M) (h4 : ¬ i < 0 → (8 : Int32) ≤ i → o = some (.null) ∧ M' = M) (s5 : ¬ i < 0 → ¬ (8 : Int32) ≤ i → vp_in i 8) (t6 : ¬ i < 0 → ¬ (8 : Int32) ≤ i → ea_ra 25 i.toNatClampNeg = some z) (h7 : ¬ i < 0 → ¬ (8 : Int32) ≤ i → o = some (.ref z) ∧ M' = M) : ea_E k 0 [(0, .ref 25), (1, .int i)] [] M := by
  refine e_aload_n (n := 0) C dX1_slot_0 rfl rfl ?_
  refine e_ifnull C dX1_slot_1 ?_
  refine e_iload_n (n := 1) C dX1_slot_4 rfl rfl ?_
  refine e_if_lt (tgt := 20) C dX1_slot_5 (by decide) (fun c1 => ?_) (fun c1 => ?_)
  · refine e_null C dX1_slot_20 ?_
    exact e_aret C X (Or.inl rfl) dX1_slot_21 (h2 c1)
  · refine e_iload_n (n := 1) C dX1_slot_8 rfl rfl ?_
    refine e_aload_n (n := 0) C dX1_slot_9 rfl rfl ?_
    refine e_alenW (n := 8) (v := (8 : Int32)) C (by decide) rfl rfl dX1_slot_10 ?_
    refine e_icmp_ge (tgt := 20) C dX1_slot_11 (by decide) (fun c3 => ?_) (fun c3 => ?_)
    · refine e_null C dX1_slot_20 ?_
      exact e_aret C X (Or.inl rfl) dX1_slot_21 (h4 c1 c3)
    · refine e_aload_n (n := 0) C dX1_slot_14 rfl rfl ?_
      refine e_iload_n (n := 1) C dX1_slot_15 rfl rfl ?_
      refine e_aaldW (n := 8) (z := z) C (by decide) rfl (s5 c1 c3) (t6 c1 c3) dX1_slot_16 ?_
      refine e_goto (tgt := 21) C dX1_slot_17 (by decide) ?_
      exact e_aret C X (Or.inr ⟨_, rfl⟩) dX1_slot_21 (h7 c1 c3)
set_option maxRecDepth 100000 in
set_option maxHeartbeats 4000000 in
theorem kb_X1_slot_s {k : ea_K} {o : Option Value} {M' : ea_M} (C : ea_C k RX1 cX1_slot 2 0) (X : ea_X k (some (.object "WallHeat$Warmth")) o M') {M : ea_M} {z : Nat} {i : Int32} (hz : ea_kd z = 5)  (h2 : i < 0 → o = some (.null) ∧ M' = M) (h4 : ¬ i < 0 → (2 : Int32) ≤ i → o = some (.null) ∧ M' = M) (s5 : ¬ i < 0 → ¬ (2 : Int32) ≤ i → vp_in i 2) (t6 : ¬ i < 0 → ¬ (2 : Int32) ≤ i → ea_ra 26 i.toNatClampNeg = some z) (h7 : ¬ i < 0 → ¬ (2 : Int32) ≤ i → o = some (.ref z) ∧ M' = M) : ea_E k 0 [(0, .ref 26), (1, .int i)] [] M := by
  refine e_aload_n (n := 0) C dX1_slot_0 rfl rfl ?_
  refine e_ifnull C dX1_slot_1 ?_
  refine e_iload_n (n := 1) C dX1_slot_4 rfl rfl ?_
  refine e_if_lt (tgt := 20) C dX1_slot_5 (by decide) (fun c1 => ?_) (fun c1 => ?_)
  · refine e_null C dX1_slot_20 ?_
    exact e_aret C X (Or.inl rfl) dX1_slot_21 (h2 c1)
  · refine e_iload_n (n := 1) C dX1_slot_8 rfl rfl ?_
    refine e_aload_n (n := 0) C dX1_slot_9 rfl rfl ?_
    refine e_alenW (n := 2) (v := (2 : Int32)) C (by decide) rfl rfl dX1_slot_10 ?_
    refine e_icmp_ge (tgt := 20) C dX1_slot_11 (by decide) (fun c3 => ?_) (fun c3 => ?_)
    · refine e_null C dX1_slot_20 ?_
      exact e_aret C X (Or.inl rfl) dX1_slot_21 (h4 c1 c3)
    · refine e_aload_n (n := 0) C dX1_slot_14 rfl rfl ?_
      refine e_iload_n (n := 1) C dX1_slot_15 rfl rfl ?_
      refine e_aaldW (n := 2) (z := z) C (by decide) rfl (s5 c1 c3) (t6 c1 c3) dX1_slot_16 ?_
      refine e_goto (tgt := 21) C dX1_slot_17 (by decide) ?_
      exact e_aret C X (Or.inr ⟨_, rfl⟩) dX1_slot_21 (h7 c1 c3)
set_option maxRecDepth 100000 in
set_option maxHeartbeats 4000000 in
theorem kb_X1_remember {k : ea_K} {o : Option Value} {M' : ea_M} (C : ea_C k RX1 cX1_remember 3 3) (X : ea_X k none o M') {M : ea_M} {w z : Nat} (hw : ea_kd w = 5) (hz : ea_kd z = 5)  (q1 : ea_Sp 0 yX1_slot cX1_slot 2 (some (.object "WallHeat$Warmth")) [.ref 25, .int (M 24 3)] M (some (.ref z)) M) (q2 : ea_Sp 2 yX5_become cX5_become 2 none [.ref z, .ref w] M none (g_X5_become M z w)) (h4 : o = none ∧ M' = (ea_up (ea_up (g_X5_become M z w) 24 3 ((((g_X5_become M z w) 24 3) + (1 : Int32)) - (((g_X5_become M z w) 24 3) + (1 : Int32)) / (8 : Int32) * (8 : Int32))) 24 4 (if (8 : Int32) < (((g_X5_become M z w) 24 4) + (1 : Int32)) then (8 : Int32) else (((g_X5_become M z w) 24 4) + (1 : Int32))))) : ea_E k 0 [(0, .ref 24), (1, .ref w)] [] M := by
  refine e_aload_n (n := 0) C dX1_remember_0 rfl rfl ?_
  refine e_get (v := .ref 25) C fd_X1_11 (by decide) rfl rfl dX1_remember_1 ?_
  refine e_aload_n (n := 0) C dX1_remember_4 rfl rfl ?_
  refine e_get (v := .int (M 24 3)) C fd_X1_33 (by decide) rfl rfl dX1_remember_5 ?_
  refine e_callS1 (as := [.ref 25, .int (M 24 3)]) (rest := []) C lk_X1_36 q1 (by decide) rfl rfl (Nat.le_of_ble_eq_true rfl) dX1_remember_8 ?_
  refine e_astore_n C dX1_remember_11 rfl (by decide) rfl ?_
  refine e_aload_n (n := 0) C dX1_remember_12 rfl rfl ?_
  refine e_ifnonnull (tgt := 17) C dX1_remember_13 (by decide) ?_
  refine e_aload_n (n := 0) C dX1_remember_17 rfl rfl ?_
  refine e_aload_n (n := 2) C dX1_remember_18 rfl rfl ?_
  refine e_callV0 (as := [.ref w]) (rest := []) C lk_X1_40 q2 (by decide) rfl (ea_ltO (by decide) hz) hz (by decide) rfl rfl (Nat.le_of_ble_eq_true rfl) dX1_remember_19 ?_
  refine e_aload_n (n := 1) C dX1_remember_22 rfl rfl ?_
  refine e_aload_n (n := 1) C dX1_remember_23 rfl rfl ?_
  refine e_get (v := .int ((g_X5_become M z w) 24 3)) C fd_X1_33 (by decide) rfl rfl dX1_remember_24 ?_
  refine e_iconst (v := 1) C dX1_remember_27 (by decide) ?_
  refine e_iadd C dX1_remember_28 ?_
  refine e_bipush (v := 8) C dX1_remember_29 (by decide) ?_
  refine e_irem C dX1_remember_31 (by decide) ?_
  refine e_put (ty := .int) C fd_X1_33 (by decide) rfl rfl (by decide +kernel) (vp_nar_int _) rfl (ea_set1_3 _ _ _) dX1_remember_32 ?_
  refine e_aload_n (n := 1) C dX1_remember_35 rfl rfl ?_
  refine e_aload_n (n := 1) C dX1_remember_36 rfl rfl ?_
  refine e_get (v := .int ((g_X5_become M z w) 24 4)) C fd_X1_25 (by decide) rfl (congrArg (fun z => some (Value.int z)) (by simp [ea_upR, ea_upS, ea_upK, pa_setR, pa_cpR, fr_X3_add, fr_X5_forget, fr_X5_become, fr_X4_clear, fr_X4_addStuff, fr_X4_become_d, fr_X4_become_s, fr_X0_enter, fr_X0_remove] : (ea_up (g_X5_become M z w) 24 3 ((((g_X5_become M z w) 24 3) + (1 : Int32)) - (((g_X5_become M z w) 24 3) + (1 : Int32)) / (8 : Int32) * (8 : Int32))) 24 4 = ((g_X5_become M z w) 24 4))) dX1_remember_37 ?_
  refine e_iconst (v := 1) C dX1_remember_40 (by decide) ?_
  refine e_iadd C dX1_remember_41 ?_
  refine e_bipush (v := 8) C dX1_remember_42 (by decide) ?_
  refine e_mmin C (wsm_23 (List.mem_of_getElem? (i := 19) rfl)) (wsm_13 (List.mem_of_getElem? (i := 1) rfl)) (wsm_13 (List.mem_of_getElem? (i := 2) rfl)) (wsm_13 (List.mem_of_getElem? (i := 3) rfl)) (by decide) (Nat.le_of_ble_eq_true rfl) dX1_remember_44 ?_
  refine e_put (ty := .int) C fd_X1_25 (by decide) rfl rfl (by decide +kernel) (vp_nar_int _) rfl (ea_set1_4 _ _ _) dX1_remember_47 ?_
  exact e_vret C X dX1_remember_50 h4
set_option maxRecDepth 100000 in
set_option maxHeartbeats 4000000 in
theorem kb_X1_takeBack {k : ea_K} {o : Option Value} {M' : ea_M} (C : ea_C k RX1 cX1_takeBack 4 3) (X : ea_X k none o M') {M : ea_M} {w z : Nat} (hw : ea_kd w = 5) (hz : ea_kd z = 5)  (q2 : ea_Sp 0 yX1_slot cX1_slot 2 (some (.object "WallHeat$Warmth")) [.ref 25, .int ((((M 24 3) + (8 : Int32)) - (1 : Int32)) - (((M 24 3) + (8 : Int32)) - (1 : Int32)) / (8 : Int32) * (8 : Int32))] M (some (.ref z)) M) (q4 : ¬ (M 24 4) = 0 → ea_Sp 2 yX5_become cX5_become 2 none [.ref w, .ref z] M none (g_X5_become M w z)) (h5 : ¬ (M 24 4) = 0 → o = none ∧ M' = (ea_up (ea_up (g_X5_become M w z) 24 3 ((((M 24 3) + (8 : Int32)) - (1 : Int32)) - (((M 24 3) + (8 : Int32)) - (1 : Int32)) / (8 : Int32) * (8 : Int32))) 24 4 (((g_X5_become M w z) 24 4) - (1 : Int32)))) (h6 : (M 24 4) = 0 → o = none ∧ M' = M) : ea_E k 0 [(0, .ref 24), (1, .ref w)] [] M := by
  refine e_aload_n (n := 0) C dX1_takeBack_0 rfl rfl ?_
  refine e_get (v := .int (M 24 3)) C fd_X1_33 (by decide) rfl rfl dX1_takeBack_1 ?_
  refine e_bipush (v := 8) C dX1_takeBack_4 (by decide) ?_
  refine e_iadd C dX1_takeBack_6 ?_
  refine e_iconst (v := 1) C dX1_takeBack_7 (by decide) ?_
  refine e_isub C dX1_takeBack_8 ?_
  refine e_bipush (v := 8) C dX1_takeBack_9 (by decide) ?_
  refine e_irem C dX1_takeBack_11 (by decide) ?_
  refine e_istore_n C dX1_takeBack_12 rfl (by decide) rfl ?_
  refine e_aload_n (n := 1) C dX1_takeBack_13 rfl rfl ?_
  refine e_get (v := .ref 25) C fd_X1_11 (by decide) rfl rfl dX1_takeBack_14 ?_
  refine e_iload_n (n := 0) C dX1_takeBack_17 rfl rfl ?_
  refine e_callS1 (as := [.ref 25, .int ((((M 24 3) + (8 : Int32)) - (1 : Int32)) - (((M 24 3) + (8 : Int32)) - (1 : Int32)) / (8 : Int32) * (8 : Int32))]) (rest := []) C lk_X1_36 q2 (by decide) rfl rfl (Nat.le_of_ble_eq_true rfl) dX1_takeBack_18 ?_
  refine e_astore_n C dX1_takeBack_21 rfl (by decide) rfl ?_
  refine e_aload_n (n := 0) C dX1_takeBack_22 rfl rfl ?_
  refine e_ifnull C dX1_takeBack_23 ?_
  refine e_aload_n (n := 2) C dX1_takeBack_26 rfl rfl ?_
  refine e_get (v := .int (M 24 4)) C fd_X1_25 (by decide) rfl rfl dX1_takeBack_27 ?_
  refine e_if_ne (tgt := 34) C dX1_takeBack_30 (by decide) (fun c3 => ?_) (fun c3 => ?_)
  · refine e_aload_n (n := 3) C dX1_takeBack_34 rfl rfl ?_
    refine e_aload_n (n := 0) C dX1_takeBack_35 rfl rfl ?_
    refine e_callV0 (as := [.ref z]) (rest := []) C lk_X1_40 (q4 c3) (by decide) rfl (ea_ltO (by decide) hw) hw (by decide) rfl rfl (Nat.le_of_ble_eq_true rfl) dX1_takeBack_36 ?_
    refine e_aload_n (n := 2) C dX1_takeBack_39 rfl rfl ?_
    refine e_iload_n (n := 1) C dX1_takeBack_40 rfl rfl ?_
    refine e_put (ty := .int) C fd_X1_33 (by decide) rfl rfl (by decide +kernel) (vp_nar_int _) rfl (ea_set1_3 _ _ _) dX1_takeBack_41 ?_
    refine e_aload_n (n := 2) C dX1_takeBack_44 rfl rfl ?_
    refine e_dup C dX1_takeBack_45 rfl ?_
    refine e_get (v := .int ((g_X5_become M w z) 24 4)) C fd_X1_25 (by decide) rfl (congrArg (fun z => some (Value.int z)) (by simp [ea_upR, ea_upS, ea_upK, pa_setR, pa_cpR, fr_X3_add, fr_X5_forget, fr_X5_become, fr_X4_clear, fr_X4_addStuff, fr_X4_become_d, fr_X4_become_s, fr_X0_enter, fr_X0_remove] : (ea_up (g_X5_become M w z) 24 3 ((((M 24 3) + (8 : Int32)) - (1 : Int32)) - (((M 24 3) + (8 : Int32)) - (1 : Int32)) / (8 : Int32) * (8 : Int32))) 24 4 = ((g_X5_become M w z) 24 4))) dX1_takeBack_46 ?_
    refine e_iconst (v := 1) C dX1_takeBack_49 (by decide) ?_
    refine e_isub C dX1_takeBack_50 ?_
    refine e_put (ty := .int) C fd_X1_25 (by decide) rfl rfl (by decide +kernel) (vp_nar_int _) rfl (ea_set1_4 _ _ _) dX1_takeBack_51 ?_
    exact e_vret C X dX1_takeBack_54 (h5 c3)
  · exact e_vret C X dX1_takeBack_33 (h6 c3)
set_option maxRecDepth 100000 in
set_option maxHeartbeats 4000000 in
theorem kb_X1_store {k : ea_K} {o : Option Value} {M' : ea_M} (C : ea_C k RX1 cX1_store 4 3) (X : ea_X k none o M') {M : ea_M} {w z : Nat} {k0 : Int32} (hw : ea_kd w = 5) (hz : ea_kd z = 5)  (q1 : ea_Sp 0 yX1_slot cX1_slot 2 (some (.object "WallHeat$Warmth")) [.ref 26, .int k0] M (some (.ref z)) M) (q2 : ea_Sp 2 yX5_become cX5_become 2 none [.ref z, .ref w] M none (g_X5_become M z w)) (h3 : o = none ∧ M' = (pa_set (g_X5_become M z w) 27 2 k0 (1 : Int32))) : ea_E k 0 [(0, .ref 24), (1, .int k0), (2, .ref w)] [] M := by
  refine e_aload_n (n := 0) C dX1_store_0 rfl rfl ?_
  refine e_get (v := .ref 26) C fd_X1_17 (by decide) rfl rfl dX1_store_1 ?_
  refine e_iload_n (n := 1) C dX1_store_4 rfl rfl ?_
  refine e_callS1 (as := [.ref 26, .int k0]) (rest := []) C lk_X1_36 q1 (by decide) rfl rfl (Nat.le_of_ble_eq_true rfl) dX1_store_5 ?_
  refine e_astore_n C dX1_store_8 rfl (by decide) rfl ?_
  refine e_aload_n (n := 0) C dX1_store_9 rfl rfl ?_
  refine e_ifnonnull (tgt := 14) C dX1_store_10 (by decide) ?_
  refine e_aload_n (n := 0) C dX1_store_14 rfl rfl ?_
  refine e_aload_n (n := 3) C dX1_store_15 rfl rfl ?_
  refine e_callV0 (as := [.ref w]) (rest := []) C lk_X1_40 q2 (by decide) rfl (ea_ltO (by decide) hz) hz (by decide) rfl rfl (Nat.le_of_ble_eq_true rfl) dX1_store_16 ?_
  refine e_aload_n (n := 1) C dX1_store_19 rfl rfl ?_
  refine e_get (v := .ref 27) C fd_X1_20 (by decide) rfl rfl dX1_store_20 ?_
  refine e_iload_n (n := 2) C dX1_store_23 rfl rfl ?_
  refine e_iconst (v := 1) C dX1_store_24 (by decide) ?_
  refine e_callN0 (as := [.ref 27, .int k0, .int (1 : Int32)]) (rest := []) C lk_X1_29 (sp_X6_set (g_X5_become M z w) 27 2 k0 (1 : Int32) rfl (by decide) ) (by decide) rfl rfl (Nat.le_of_ble_eq_true rfl) dX1_store_25 ?_
  exact e_vret C X dX1_store_28 h3
set_option maxRecDepth 100000 in
set_option maxHeartbeats 4000000 in
theorem kb_X1_restore {k : ea_K} {o : Option Value} {M' : ea_M} (C : ea_C k RX1 cX1_restore 4 3) (X : ea_X k none o M') {M : ea_M} {w z : Nat} {k0 : Int32} (hw : ea_kd w = 5) (hz : ea_kd z = 5)  (q1 : ea_Sp 0 yX1_slot cX1_slot 2 (some (.object "WallHeat$Warmth")) [.ref 26, .int k0] M (some (.ref z)) M) (q2 : ea_Sp 2 yX5_become cX5_become 2 none [.ref w, .ref z] M none (g_X5_become M w z)) (h3 : o = none ∧ M' = (ea_up (g_X5_become M w z) 24 4 (0 : Int32))) : ea_E k 0 [(0, .ref 24), (1, .int k0), (2, .ref w)] [] M := by
  refine e_aload_n (n := 0) C dX1_restore_0 rfl rfl ?_
  refine e_get (v := .ref 26) C fd_X1_17 (by decide) rfl rfl dX1_restore_1 ?_
  refine e_iload_n (n := 1) C dX1_restore_4 rfl rfl ?_
  refine e_callS1 (as := [.ref 26, .int k0]) (rest := []) C lk_X1_36 q1 (by decide) rfl rfl (Nat.le_of_ble_eq_true rfl) dX1_restore_5 ?_
  refine e_astore_n C dX1_restore_8 rfl (by decide) rfl ?_
  refine e_aload_n (n := 0) C dX1_restore_9 rfl rfl ?_
  refine e_ifnonnull (tgt := 14) C dX1_restore_10 (by decide) ?_
  refine e_aload_n (n := 3) C dX1_restore_14 rfl rfl ?_
  refine e_aload_n (n := 0) C dX1_restore_15 rfl rfl ?_
  refine e_callV0 (as := [.ref z]) (rest := []) C lk_X1_40 q2 (by decide) rfl (ea_ltO (by decide) hw) hw (by decide) rfl rfl (Nat.le_of_ble_eq_true rfl) dX1_restore_16 ?_
  refine e_aload_n (n := 1) C dX1_restore_19 rfl rfl ?_
  refine e_iconst (v := 0) C dX1_restore_20 (by decide) ?_
  refine e_put (ty := .int) C fd_X1_25 (by decide) rfl rfl (by decide +kernel) (vp_nar_int _) rfl (ea_set1_4 _ _ _) dX1_restore_21 ?_
  exact e_vret C X dX1_restore_24 h3
set_option maxRecDepth 100000 in
set_option maxHeartbeats 4000000 in
theorem kb_X6_bookAt {k : ea_K} {o : Option Value} {M' : ea_M} (C : ea_C k RX6 cX6_bookAt 2 0) (X : ea_X k (some (.object "WallHeat$Book")) o M') {M : ea_M} {z : Nat} {i : Int32} (hz : ea_kd z = 0)  (h2 : i < 0 → o = some (.null) ∧ M' = M) (h4 : ¬ i < 0 → (3 : Int32) ≤ i → o = some (.null) ∧ M' = M) (s5 : ¬ i < 0 → ¬ (3 : Int32) ≤ i → vp_in i 3) (t6 : ¬ i < 0 → ¬ (3 : Int32) ≤ i → ea_ra 48 i.toNatClampNeg = some z) (h7 : ¬ i < 0 → ¬ (3 : Int32) ≤ i → o = some (.ref z) ∧ M' = M) : ea_E k 0 [(0, .ref 0), (1, .int i)] [] M := by
  refine e_iload_n (n := 1) C dX6_bookAt_0 rfl rfl ?_
  refine e_if_lt (tgt := 22) C dX6_bookAt_1 (by decide) (fun c1 => ?_) (fun c1 => ?_)
  · refine e_null C dX6_bookAt_22 ?_
    exact e_aret C X (Or.inl rfl) dX6_bookAt_23 (h2 c1)
  · refine e_iload_n (n := 1) C dX6_bookAt_4 rfl rfl ?_
    refine e_aload_n (n := 0) C dX6_bookAt_5 rfl rfl ?_
    refine e_get (v := .ref 48) C fd_X6_39 (by decide) rfl rfl dX6_bookAt_6 ?_
    refine e_alenB (n := 3) (v := (3 : Int32)) C (by decide) rfl (by decide) rfl dX6_bookAt_9 ?_
    refine e_icmp_ge (tgt := 22) C dX6_bookAt_10 (by decide) (fun c3 => ?_) (fun c3 => ?_)
    · refine e_null C dX6_bookAt_22 ?_
      exact e_aret C X (Or.inl rfl) dX6_bookAt_23 (h4 c1 c3)
    · refine e_aload_n (n := 0) C dX6_bookAt_13 rfl rfl ?_
      refine e_get (v := .ref 48) C fd_X6_39 (by decide) rfl rfl dX6_bookAt_14 ?_
      refine e_iload_n (n := 1) C dX6_bookAt_17 rfl rfl ?_
      refine e_aaldB (n := 3) (z := z) C (by decide) rfl (by decide) (s5 c1 c3) (t6 c1 c3) dX6_bookAt_18 ?_
      refine e_goto (tgt := 23) C dX6_bookAt_19 (by decide) ?_
      exact e_aret C X (Or.inr ⟨_, rfl⟩) dX6_bookAt_23 (h7 c1 c3)
set_option maxRecDepth 100000 in
set_option maxHeartbeats 4000000 in
theorem kb_X6_missPage_b {k : ea_K} {o : Option Value} {M' : ea_M} (C : ea_C k RX6 cX6_missPage 3 1) (X : ea_X k none o M') {M : ea_M} {z : Nat} {i : Int32} (hz : ea_kd z = 0)  (q1 : ea_Sp 0 yX6_bookAt cX6_bookAt 2 (some (.object "WallHeat$Book")) [.ref 0, .int i] M (some (.ref z)) M) (h2 : o = none ∧ M' = (ea_up (ea_up M z 0 (0 : Int32)) z 1 (0 : Int32))) : ea_E k 0 [(0, .ref 0), (1, .int i)] [] M := by
  refine e_aload_n (n := 0) C dX6_missPage_0 rfl rfl ?_
  refine e_iload_n (n := 1) C dX6_missPage_1 rfl rfl ?_
  refine e_callV1 (as := [.int i]) (rest := []) C lk_X6_212 q1 (by decide) rfl (by decide) rfl (by decide) rfl rfl (Nat.le_of_ble_eq_true rfl) dX6_missPage_2 ?_
  refine e_astore_n C dX6_missPage_5 rfl (by decide) rfl ?_
  refine e_aload_n (n := 0) C dX6_missPage_6 rfl rfl ?_
  refine e_ifnonnull (tgt := 11) C dX6_missPage_7 (by decide) ?_
  refine e_aload_n (n := 0) C dX6_missPage_11 rfl rfl ?_
  refine e_iconst (v := 0) C dX6_missPage_12 (by decide) ?_
  refine e_put (ty := .boolean) C fd_X6_216 (ea_ltO (by decide) hz) hz rfl (by decide +kernel) rfl rfl (ea_set0_0 _ _ _) dX6_missPage_13 ?_
  refine e_aload_n (n := 0) C dX6_missPage_16 rfl rfl ?_
  refine e_iconst (v := 0) C dX6_missPage_17 (by decide) ?_
  refine e_put (ty := .int) C fd_X6_220 (ea_ltO (by decide) hz) hz rfl (by decide +kernel) (vp_nar_int _) rfl (ea_set0_1 _ _ _) dX6_missPage_18 ?_
  exact e_vret C X dX6_missPage_21 h2
set_option maxRecDepth 100000 in
set_option maxHeartbeats 4000000 in
theorem kb_X6_keysOfAllPages_0 {k : ea_K} {o : Option Value} {M' : ea_M} (C : ea_C k RX6 cX6_keysOfAllPages 4 1) (X : ea_X k (some .int) o M') {M : ea_M}   (h1 : ea_E k 4 [(0, .ref 0), (1, .int (0 : Int32)), (2, .int (0 : Int32))] [] M) : ea_E k 0 [(0, .ref 0)] [] M := by
  refine e_iconst (v := 0) C dX6_keysOfAllPages_0 (by decide) ?_
  refine e_istore_n C dX6_keysOfAllPages_1 rfl (by decide) rfl ?_
  refine e_iconst (v := 0) C dX6_keysOfAllPages_2 (by decide) ?_
  refine e_istore_n C dX6_keysOfAllPages_3 rfl (by decide) rfl ?_
  refine e_perm C [2, 1, 0] rfl ?_
  exact h1
set_option maxRecDepth 100000 in
set_option maxHeartbeats 4000000 in
theorem kb_X6_keysOfAllPages_4 {k : ea_K} {o : Option Value} {M' : ea_M} (C : ea_C k RX6 cX6_keysOfAllPages 4 1) (X : ea_X k (some .int) o M') {M : ea_M} {z : Nat} {a i : Int32} (hz : ea_kd z = 0)  (h2 : (3 : Int32) ≤ i → o = some (.int a) ∧ M' = M) (q3 : ¬ (3 : Int32) ≤ i → ea_Sp 0 yX6_bookAt cX6_bookAt 2 (some (.object "WallHeat$Book")) [.ref 0, .int i] M (some (.ref z)) M) (h4 : ¬ (3 : Int32) ≤ i → ea_E k 4 [(0, .ref 0), (1, .int (a + (M z 1))), (2, .int (i + 1))] [] M) : ea_E k 4 [(0, .ref 0), (1, .int a), (2, .int i)] [] M := by
  refine e_iload_n (n := 2) C dX6_keysOfAllPages_4 rfl rfl ?_
  refine e_iconst (v := 3) C dX6_keysOfAllPages_5 (by decide) ?_
  refine e_icmp_ge (tgt := 32) C dX6_keysOfAllPages_6 (by decide) (fun c1 => ?_) (fun c1 => ?_)
  · refine e_iload_n (n := 1) C dX6_keysOfAllPages_32 rfl rfl ?_
    exact e_iret C X rfl (vp_nar_int _) dX6_keysOfAllPages_33 (h2 c1)
  · refine e_aload_n (n := 0) C dX6_keysOfAllPages_9 rfl rfl ?_
    refine e_iload_n (n := 2) C dX6_keysOfAllPages_10 rfl rfl ?_
    refine e_callV1 (as := [.int i]) (rest := []) C lk_X6_212 (q3 c1) (by decide) rfl (by decide) rfl (by decide) rfl rfl (Nat.le_of_ble_eq_true rfl) dX6_keysOfAllPages_11 ?_
    refine e_astore_n C dX6_keysOfAllPages_14 rfl (by decide) rfl ?_
    refine e_aload_n (n := 0) C dX6_keysOfAllPages_15 rfl rfl ?_
    refine e_ifnull C dX6_keysOfAllPages_16 ?_
    refine e_iload_n (n := 2) C dX6_keysOfAllPages_19 rfl rfl ?_
    refine e_aload_n (n := 0) C dX6_keysOfAllPages_20 rfl rfl ?_
    refine e_get (v := .int (M z 1)) C fd_X6_220 (ea_ltO (by decide) hz) hz rfl dX6_keysOfAllPages_21 ?_
    refine e_iadd C dX6_keysOfAllPages_24 ?_
    refine e_istore_n C dX6_keysOfAllPages_25 rfl (by decide) rfl ?_
    refine e_iinc (n := 3) (v := (i + 1)) C dX6_keysOfAllPages_26 rfl rfl (by decide) rfl ?_
    refine e_goto (tgt := 4) C dX6_keysOfAllPages_29 (by decide) ?_
    refine e_perm C [3, 1, 0] rfl ?_
    exact (h4 c1)
set_option maxRecDepth 100000 in
set_option maxHeartbeats 4000000 in
theorem kb_X0_alikeWith_0 {k : ea_K} {o : Option Value} {M' : ea_M} (C : ea_C k RX0 cX0_alikeWith 5 2) (X : ea_X k (some .int) o M') {M : ea_M} {x y : Nat} (hx : ea_kd x = 0) (hy : ea_kd y = 0)  (h1 : ea_E k 4 [(0, .ref x), (1, .ref y), (2, .int (0 : Int32)), (3, .int (0 : Int32))] [] M) : ea_E k 0 [(0, .ref x), (1, .ref y)] [] M := by
  refine e_iconst (v := 0) C dX0_alikeWith_0 (by decide) ?_
  refine e_istore_n C dX0_alikeWith_1 rfl (by decide) rfl ?_
  refine e_iconst (v := 0) C dX0_alikeWith_2 (by decide) ?_
  refine e_istore_n C dX0_alikeWith_3 rfl (by decide) rfl ?_
  refine e_perm C [2, 3, 1, 0] rfl ?_
  exact h1
set_option maxRecDepth 100000 in
set_option maxHeartbeats 4000000 in
theorem kb_X0_alikeWith_4 {k : ea_K} {o : Option Value} {M' : ea_M} (C : ea_C k RX0 cX0_alikeWith 5 2) (X : ea_X k (some .int) o M') {M : ea_M} {x y : Nat} {a i : Int32} {r1 : Int32} (hx : ea_kd x = 0) (hy : ea_kd y = 0)  (h2 : (M x 1) ≤ i → o = some (.int a) ∧ M' = M) (q3 : ¬ (M x 1) ≤ i → ea_Sp 1 yX0_placeOf cX0_placeOf 4 (some .int) [.ref y, .int (pa_at (M (x + 1)) 8 i), .int (pa_at (M (x + 2)) 8 i)] M (some (.int r1)) M) (h5 : ¬ (M x 1) ≤ i → r1 = (-1 : Int32) → ea_E k 4 [(0, .ref x), (1, .ref y), (2, .int a), (3, .int (i + 1))] [] M) (h7 : ¬ (M x 1) ≤ i → ¬ r1 = (-1 : Int32) → ¬ (pa_at (M (y + 3)) 8 r1) = (pa_at (M (x + 3)) 8 i) → ea_E k 4 [(0, .ref x), (1, .ref y), (2, .int a), (3, .int (i + 1))] [] M) (h8 : ¬ (M x 1) ≤ i → ¬ r1 = (-1 : Int32) → (pa_at (M (y + 3)) 8 r1) = (pa_at (M (x + 3)) 8 i) → ea_E k 4 [(0, .ref x), (1, .ref y), (2, .int (a + 1)), (3, .int (i + 1))] [] M) : ea_E k 4 [(0, .ref x), (1, .ref y), (2, .int a), (3, .int i)] [] M := by
  refine e_iload_n (n := 3) C dX0_alikeWith_4 rfl rfl ?_
  refine e_aload_n (n := 0) C dX0_alikeWith_5 rfl rfl ?_
  refine e_get (v := .int (M x 1)) C fd_X0_21 (ea_ltO (by decide) hx) hx rfl dX0_alikeWith_6 ?_
  refine e_icmp_ge (tgt := 69) C dX0_alikeWith_9 (by decide) (fun c1 => ?_) (fun c1 => ?_)
  · refine e_iload_n (n := 2) C dX0_alikeWith_69 rfl rfl ?_
    exact e_iret C X rfl (vp_nar_int _) dX0_alikeWith_70 (h2 c1)
  · refine e_aload_n (n := 1) C dX0_alikeWith_12 rfl rfl ?_
    refine e_aload_n (n := 0) C dX0_alikeWith_13 rfl rfl ?_
    refine e_get (v := .ref (x + 1)) C fd_X0_9 (ea_ltO (by decide) hx) hx rfl dX0_alikeWith_14 ?_
    refine e_iload_n (n := 3) C dX0_alikeWith_17 rfl rfl ?_
    refine e_callN1 (as := [.ref (x + 1), .int i]) (rest := [.ref y]) C lk_X0_25 (sp_X6_at M (x + 1) 8 i (kd0_1 hx) (by decide) ) (by decide) rfl rfl (Nat.le_of_ble_eq_true rfl) dX0_alikeWith_18 ?_
    refine e_aload_n (n := 0) C dX0_alikeWith_21 rfl rfl ?_
    refine e_get (v := .ref (x + 2)) C fd_X0_15 (ea_ltO (by decide) hx) hx rfl dX0_alikeWith_22 ?_
    refine e_iload_n (n := 3) C dX0_alikeWith_25 rfl rfl ?_
    refine e_callN1 (as := [.ref (x + 2), .int i]) (rest := [.int (pa_at (M (x + 1)) 8 i), .ref y]) C lk_X0_25 (sp_X6_at M (x + 2) 8 i (kd0_2 hx) (by decide) ) (by decide) rfl rfl (Nat.le_of_ble_eq_true rfl) dX0_alikeWith_26 ?_
    refine e_callV1 (as := [.int (pa_at (M (x + 1)) 8 i), .int (pa_at (M (x + 2)) 8 i)]) (rest := []) C lk_X0_33 (q3 c1) (by decide) rfl (ea_ltO (by decide) hy) hy (by decide) rfl rfl (Nat.le_of_ble_eq_true rfl) dX0_alikeWith_29 ?_
    refine e_istore C dX0_alikeWith_32 (by decide) rfl ?_
    refine e_iload (n := 0) C dX0_alikeWith_34 rfl ?_
    refine e_iconst (v := -1) C dX0_alikeWith_36 (by decide) ?_
    refine e_icmp_eq (tgt := 63) C dX0_alikeWith_37 (by decide) (fun c4 => ?_) (fun c4 => ?_)
    · refine e_iinc (n := 4) (v := (i + 1)) C dX0_alikeWith_63 rfl rfl (by decide) rfl ?_
      refine e_goto (tgt := 4) C dX0_alikeWith_66 (by decide) ?_
      refine e_perm C [2, 3, 4, 0] rfl ?_
      exact (h5 c1 c4)
    · refine e_aload_n (n := 2) C dX0_alikeWith_40 rfl rfl ?_
      refine e_get (v := .ref (y + 3)) C fd_X0_18 (ea_ltO (by decide) hy) hy rfl dX0_alikeWith_41 ?_
      refine e_iload (n := 0) C dX0_alikeWith_44 rfl ?_
      refine e_callN1 (as := [.ref (y + 3), .int r1]) (rest := []) C lk_X0_25 (sp_X6_at M (y + 3) 8 r1 (kd0_3 hy) (by decide) ) (by decide) rfl rfl (Nat.le_of_ble_eq_true rfl) dX0_alikeWith_46 ?_
      refine e_aload_n (n := 1) C dX0_alikeWith_49 rfl rfl ?_
      refine e_get (v := .ref (x + 3)) C fd_X0_18 (ea_ltO (by decide) hx) hx rfl dX0_alikeWith_50 ?_
      refine e_iload_n (n := 4) C dX0_alikeWith_53 rfl rfl ?_
      refine e_callN1 (as := [.ref (x + 3), .int i]) (rest := [.int (pa_at (M (y + 3)) 8 r1)]) C lk_X0_25 (sp_X6_at M (x + 3) 8 i (kd0_3 hx) (by decide) ) (by decide) rfl rfl (Nat.le_of_ble_eq_true rfl) dX0_alikeWith_54 ?_
      refine e_icmp_ne (tgt := 63) C dX0_alikeWith_57 (by decide) (fun c6 => ?_) (fun c6 => ?_)
      · refine e_iinc (n := 4) (v := (i + 1)) C dX0_alikeWith_63 rfl rfl (by decide) rfl ?_
        refine e_goto (tgt := 4) C dX0_alikeWith_66 (by decide) ?_
        refine e_perm C [2, 3, 4, 0] rfl ?_
        exact (h7 c1 c4 c6)
      · refine e_iinc (n := 3) (v := (a + 1)) C dX0_alikeWith_60 rfl rfl (by decide) rfl ?_
        refine e_iinc (n := 4) (v := (i + 1)) C dX0_alikeWith_63 rfl rfl (by decide) rfl ?_
        refine e_goto (tgt := 4) C dX0_alikeWith_66 (by decide) ?_
        refine e_perm C [3, 4, 1, 0] rfl ?_
        exact (h8 c1 c4 c6)
/-! ===== the past ===== -/
theorem kd_ring : ∀ t, t < 8 → ea_kd (28 + 2 * t) = 5 := by decide
theorem kd_sto : ∀ t, t < 2 → ea_kd (44 + 2 * t) = 5 := by decide
theorem kd_pg : ∀ t, t < 3 → ea_kd (49 + 4 * t) = 0 := by decide
theorem sp_slot_r (M : ea_M) (t : Nat) (ht : t < 8) : ea_Sp 0 yX1_slot cX1_slot 2 (some (.object "WallHeat$Warmth")) [.ref 25, .int (nI t)] M (some (.ref (28 + 2 * t))) M := by
  refine ea_intro (own := RX1) (by decide +kernel) rfl (fun g => Nat.le_of_ble_eq_true rfl) (fun k C X => ?_)
  refine kb_X1_slot_r C X (kd_ring t ht) (fun c => absurd c (nI_pos (by omega))) (fun _ c => absurd c (nI_ge (show t < 8 from ht) (by decide))) (fun _ _ => vp_in_nI ht (by decide)) (fun _ _ => ?_) (fun _ _ => ⟨rfl, rfl⟩)
  rw [nI_clamp (by omega)]
  rfl
theorem sp_slot_s (M : ea_M) (t : Nat) (ht : t < 2) : ea_Sp 0 yX1_slot cX1_slot 2 (some (.object "WallHeat$Warmth")) [.ref 26, .int (nI t)] M (some (.ref (44 + 2 * t))) M := by
  refine ea_intro (own := RX1) (by decide +kernel) rfl (fun g => Nat.le_of_ble_eq_true rfl) (fun k C X => ?_)
  refine kb_X1_slot_s C X (kd_sto t ht) (fun c => absurd c (nI_pos (by omega))) (fun _ c => absurd c (nI_ge (show t < 2 from ht) (by decide))) (fun _ _ => vp_in_nI ht (by decide)) (fun _ _ => ?_) (fun _ _ => ⟨rfl, rfl⟩)
  rw [nI_clamp (by omega)]
  rfl
def ps_rem (M : ea_M) (t u : Nat) : ea_M := ea_up (ea_up (g_X5_become M (28 + 2 * t) 20) 24 3 (nI ((t + 1) % 8))) 24 4 (nI (min (u + 1) 8))
def ps_tak (M : ea_M) (t u : Nat) : ea_M := ea_up (ea_up (g_X5_become M 20 (28 + 2 * ((t + 7) % 8))) 24 3 (nI ((t + 7) % 8))) 24 4 (nI (u - 1))
def ps_sto (M : ea_M) (k : Nat) : ea_M := ea_up (g_X5_become M (44 + 2 * k) 20) 27 k 1
def ps_res (M : ea_M) (k : Nat) : ea_M := ea_up (g_X5_become M 20 (44 + 2 * k)) 24 4 0
theorem sp_bec (M : ea_M) (x y : Nat) (hx : ea_kd x = 5) (hy : ea_kd y = 5) (h : y ≠ x) : ea_Sp 2 yX5_become cX5_become 2 none [.ref x, .ref y] M none (g_X5_become M x y) := by
  obtain ⟨a2, a3, a4⟩ := ap5 hx hy h
  exact sp_X5_become hx hy h a2 a3 a4 h
theorem bec24 (M : ea_M) (x y : Nat) (h : x < 23 ∨ 24 < x) : g_X5_become M x y 24 = M 24 := fr_X5_become (by omega) (by omega)
theorem sp_X1_remember (M : ea_M) (t u : Nat) (ht : t < 8) (hu : u ≤ 8) (h3 : M 24 3 = nI t) (h4 : M 24 4 = nI u) : ea_Sp 3 yX1_remember cX1_remember 3 none [.ref 24, .ref 20] M none (ps_rem M t u) := by
  refine ea_intro (own := RX1) (by decide +kernel) rfl (fun g => Nat.le_of_ble_eq_true rfl) (fun k C X => ?_)
  have e := bec24 M (28 + 2 * t) 20 (by omega)
  refine kb_X1_remember C X (z := 28 + 2 * t) rfl (kd_ring t ht) (by rw [h3]; exact sp_slot_r M t ht) (sp_bec M _ _ (kd_ring t ht) rfl (by omega)) ⟨rfl, ?_⟩
  rw [e, h3, h4, show nI t + (1 : Int32) = nI (t + 1) from nI_1 t, show nI u + (1 : Int32) = nI (u + 1) from nI_1 u, show (8 : Int32) = nI 8 from rfl, pk_rem (by omega) (by decide) (by decide)]
  unfold ps_rem
  by_cases c : nI 8 < nI (u + 1)
  · rw [if_pos c, show min (u + 1) 8 = 8 by have := (nI_ltI (a := 8) (b := u + 1) (by decide) (by omega)).mp c; omega]
  · rw [if_neg c, show min (u + 1) 8 = u + 1 by have : ¬ 8 < u + 1 := fun z => c ((nI_ltI (a := 8) (b := u + 1) (by decide) (by omega)).mpr z); omega]
theorem sp_X1_takeBack (M : ea_M) (t u : Nat) (ht : t < 8) (hu : u ≤ 8) (h0 : 0 < u) (h3 : M 24 3 = nI t) (h4 : M 24 4 = nI u) : ea_Sp 3 yX1_takeBack cX1_takeBack 4 none [.ref 24, .ref 20] M none (ps_tak M t u) := by
  refine ea_intro (own := RX1) (by decide +kernel) rfl (fun g => Nat.le_of_ble_eq_true rfl) (fun k C X => ?_)
  have ht2 : (t + 7) % 8 < 8 := Nat.mod_lt _ (by decide)
  have e := bec24 M 20 (28 + 2 * ((t + 7) % 8)) (by omega)
  have e7 : ((nI t + (8 : Int32)) - (1 : Int32)) - ((nI t + (8 : Int32)) - (1 : Int32)) / (8 : Int32) * (8 : Int32) = nI ((t + 7) % 8) := by
    rw [show nI t + (8 : Int32) = nI (t + 8) from nI_add t 8, show nI (t + 8) - (1 : Int32) = nI (t + 8 - 1) from pk_sub (a := t + 8) (b := 1) (by omega), show (8 : Int32) = nI 8 from rfl, pk_rem (by omega) (by decide) (by decide)]
    rfl
  have hne : ¬ M 24 4 = 0 := by
    rw [h4]
    exact fun z => by have := (nI_0i (by omega)).mp z; omega
  refine kb_X1_takeBack C X (z := 28 + 2 * ((t + 7) % 8)) rfl (kd_ring _ ht2) ?_ (fun _ => sp_bec M _ _ rfl (kd_ring _ ht2) (by omega)) (fun _ => ⟨rfl, ?_⟩) (fun c => absurd c hne)
  · rw [h3, e7]
    exact sp_slot_r M _ ht2
  · rw [e, h3, h4, e7, show nI u - (1 : Int32) = nI (u - 1) from pk_sub (a := u) (b := 1) h0]
    rfl
theorem sp_X1_store (M : ea_M) (k0 : Nat) (hk : k0 < 2) : ea_Sp 3 yX1_store cX1_store 4 none [.ref 24, .int (nI k0), .ref 20] M none (ps_sto M k0) := by
  refine ea_intro (own := RX1) (by decide +kernel) rfl (fun g => Nat.le_of_ble_eq_true rfl) (fun k C X => ?_)
  refine kb_X1_store C X (z := 44 + 2 * k0) rfl (kd_sto _ hk) (sp_slot_s M _ hk) (sp_bec M _ _ (kd_sto _ hk) rfl (by omega)) ⟨rfl, ?_⟩
  rw [pa_setN (show k0 < 2 from hk) (by decide)]
  rfl
theorem sp_X1_restore (M : ea_M) (k0 : Nat) (hk : k0 < 2) : ea_Sp 3 yX1_restore cX1_restore 4 none [.ref 24, .int (nI k0), .ref 20] M none (ps_res M k0) := by
  refine ea_intro (own := RX1) (by decide +kernel) rfl (fun g => Nat.le_of_ble_eq_true rfl) (fun k C X => ?_)
  exact kb_X1_restore C X (z := 44 + 2 * k0) rfl (kd_sto _ hk) (sp_slot_s M _ hk) (sp_bec M _ _ rfl (kd_sto _ hk) (by omega)) ⟨rfl, rfl⟩
/-! ===== the pages ===== -/
theorem sp_bookAt (M : ea_M) (p : Nat) (hp : p < 3) : ea_Sp 0 yX6_bookAt cX6_bookAt 2 (some (.object "WallHeat$Book")) [.ref 0, .int (nI p)] M (some (.ref (49 + 4 * p))) M := by
  refine ea_intro (own := RX6) (by decide +kernel) rfl (fun g => Nat.le_of_ble_eq_true rfl) (fun k C X => ?_)
  refine kb_X6_bookAt C X (kd_pg p hp) (fun c => absurd c (nI_pos (by omega))) (fun _ c => absurd c (nI_ge (show p < 3 from hp) (by decide))) (fun _ _ => vp_in_nI hp (by decide)) (fun _ _ => ?_) (fun _ _ => ⟨rfl, rfl⟩)
  rw [nI_clamp (by omega)]
  rfl
theorem sp_bookNo (M : ea_M) (i : Int32) (h : i < 0 ∨ (3 : Int32) ≤ i) : ea_Sp 0 yX6_bookAt cX6_bookAt 2 (some (.object "WallHeat$Book")) [.ref 0, .int i] M (some .null) M := by
  refine ea_intro (own := RX6) (by decide +kernel) rfl (fun g => Nat.le_of_ble_eq_true rfl) (fun k C X => ?_)
  have no : ∀ {P : Prop}, ¬ i < 0 → ¬ (3 : Int32) ≤ i → P := fun a b => h.elim (fun z => absurd z a) (fun z => absurd z b)
  exact kb_X6_bookAt C X (z := 49) rfl (fun _ => ⟨rfl, rfl⟩) (fun _ _ => ⟨rfl, rfl⟩) (fun a b => no a b) (fun a b => no a b) (fun a b => no a b)
def pg_mis (M : ea_M) (p : Nat) : ea_M := ea_up (ea_up M (49 + 4 * p) 0 0) (49 + 4 * p) 1 0
theorem sp_X6_missPage (M : ea_M) (p : Nat) (hp : p < 3) : ea_Sp 1 yX6_missPage cX6_missPage 3 none [.ref 0, .int (nI p)] M none (pg_mis M p) := by
  refine ea_intro (own := RX6) (by decide +kernel) rfl (fun g => Nat.le_of_ble_eq_true rfl) (fun k C X => ?_)
  exact kb_X6_missPage_b C X (kd_pg p hp) (sp_bookAt M p hp) ⟨rfl, rfl⟩
theorem sp_X6_keysOfAllPages (M : ea_M) : ea_Sp 1 yX6_keysOfAllPages cX6_keysOfAllPages 4 (some .int) [.ref 0] M (some (.int (pa_sum (fun p => M (49 + 4 * p) 1) 3))) M := by
  refine ea_intro (own := RX6) (by decide +kernel) rfl (fun g => Nat.le_of_ble_eq_true rfl) (fun k C X => ?_)
  have loop : ∀ (m i : Nat), i + m = 3 → ea_E k 4 [(0, .ref 0), (1, .int (pa_sum (fun p => M (49 + 4 * p) 1) i)), (2, .int (nI i))] [] M := by
    intro m
    induction m with
    | zero =>
      intro i hi
      have hc : (3 : Int32) ≤ nI i := by rw [show i = 3 by omega]; decide
      exact kb_X6_keysOfAllPages_4 C X (z := 49) rfl (fun _ => ⟨by rw [show i = 3 by omega], rfl⟩) (fun c => absurd hc c) (fun c => absurd hc c)
    | succ m ih =>
      intro i hi
      have hc : ¬ (3 : Int32) ≤ nI i := nI_ge (b := 3) (show i < 3 by omega) (by decide)
      refine kb_X6_keysOfAllPages_4 C X (z := 49 + 4 * i) (kd_pg i (by omega)) (fun c => absurd c hc) (fun _ => sp_bookAt M i (by omega)) (fun _ => ?_)
      rw [nI_1]
      exact ih (i + 1) (by omega)
  exact kb_X6_keysOfAllPages_0 C X (loop 3 0 (by omega))
def bk_f (M : ea_M) (y n : Nat) (a b : Int32) : Option Nat := pa_ix (fun j => decide (M (y + 1) j = a ∧ M (y + 2) j = b)) 0 n
def bk_al (M : ea_M) (x y ny i : Nat) : Int32 := match bk_f M y ny (M (x + 1) i) (M (x + 2) i) with
  | none => 0
  | some j => if M (y + 3) j = M (x + 3) i then 1 else 0
theorem sp_X0_alikeWith (M : ea_M) (x y n ny : Nat) (hx : ea_kd x = 0) (hy : ea_kd y = 0) (hn : n ≤ 8) (hny : ny ≤ 8) (h1 : M x 1 = nI n) (h2 : M y 1 = nI ny) : ea_Sp 2 yX0_alikeWith cX0_alikeWith 5 (some .int) [.ref x, .ref y] M (some (.int (pa_sum (bk_al M x y ny) n))) M := by
  refine ea_intro (own := RX0) (by decide +kernel) rfl (fun g => Nat.le_of_ble_eq_true rfl) (fun k C X => ?_)
  have loop : ∀ (m i : Nat), i + m = n → ea_E k 4 [(0, .ref x), (1, .ref y), (2, .int (pa_sum (bk_al M x y ny) i)), (3, .int (nI i))] [] M := by
    intro m
    induction m with
    | zero =>
      intro i hi
      have hc : M x 1 ≤ nI i := by rw [h1]; exact nI_le (by omega) (by omega)
      exact kb_X0_alikeWith_4 C X (r1 := 0) hx hy (fun _ => ⟨by rw [show i = n by omega], rfl⟩) (fun c => absurd hc c) (fun c => absurd hc c) (fun c => absurd hc c) (fun c => absurd hc c)
    | succ m ih =>
      intro i hi
      have hc : ¬ M x 1 ≤ nI i := by rw [h1]; exact nI_ge (by omega) (by omega)
      have e1 : pa_at (M (x + 1)) 8 (nI i) = M (x + 1) i := pa_atN (by omega) (by decide)
      have e2 : pa_at (M (x + 2)) 8 (nI i) = M (x + 2) i := pa_atN (by omega) (by decide)
      have e3 : pa_at (M (x + 3)) 8 (nI i) = M (x + 3) i := pa_atN (by omega) (by decide)
      have hp := sp_X0_placeOf M y ny (M (x + 1) i) (M (x + 2) i) hy hny h2
      have h0 := ih (i + 1) (by omega)
      have es : pa_sum (bk_al M x y ny) (i + 1) = pa_sum (bk_al M x y ny) i + bk_al M x y ny i := rfl
      rw [es] at h0
      cases hf : bk_f M y ny (M (x + 1) i) (M (x + 2) i) with
      | none =>
        have ea : bk_al M x y ny i = 0 := by
          unfold bk_al
          rw [hf]
        rw [ea, Int32.add_zero] at h0
        refine kb_X0_alikeWith_4 C X (r1 := -1) hx hy (fun c => absurd c hc) (fun _ => ?_) (fun _ _ => ?_) (fun _ c => absurd rfl c) (fun _ c => absurd rfl c)
        · rw [e1, e2]
          unfold bk_f at hf
          rw [hf] at hp
          exact hp
        · rw [nI_1]
          exact h0
      | some j =>
        have hj := pa_ix_lt _ _ _ hf
        have e4 : pa_at (M (y + 3)) 8 (nI j) = M (y + 3) j := pa_atN (by omega) (by decide)
        have hn1 := pa_rim j (by omega)
        have ea : bk_al M x y ny i = if M (y + 3) j = M (x + 3) i then 1 else 0 := by
          unfold bk_al
          rw [hf]
        rw [ea] at h0
        refine kb_X0_alikeWith_4 C X (r1 := nI j) hx hy (fun c => absurd c hc) (fun _ => ?_) (fun _ c => absurd c hn1) (fun _ _ c => ?_) (fun _ _ c => ?_)
        · rw [e1, e2]
          unfold bk_f at hf
          rw [hf] at hp
          exact hp
        · rw [e3, e4] at c
          rw [if_neg c, Int32.add_zero] at h0
          rw [nI_1]
          exact h0
        · rw [e3, e4] at c
          rw [if_pos c] at h0
          rw [nI_1]
          exact h0
  exact kb_X0_alikeWith_0 C X hx hy (loop n 0 (by omega))

