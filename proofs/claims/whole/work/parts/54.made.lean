/-! ===== the constructors ===== -/
def po_3 (g : ea_G) (ad : Nat → Nat) : va_W := [(ad 0, .inr (3, [.ref (ad 1), .int 0, .int 0, .int 0, .int 0])), (ad 1, .inl (g.2.1 0, 200, .inl (fun _ => 0)))]
theorem cn_z3 : ∀ j, j < ea_cN 3 → defaultValue (ea_cY 3 j) = vp_V [.null, .int 0, .int 0, .int 0, .int 0] j := fun j hj => by
  rcases (show j = 0 ∨ j = 1 ∨ j = 2 ∨ j = 3 ∨ j = 4 by have : j < 5 := hj; omega) with rfl | rfl | rfl | rfl | rfl <;> rfl
set_option maxRecDepth 100000 in
set_option maxHeartbeats 4000000 in
theorem cn_3 : cn_Sp 1 yX3_init cX3_init 1 3 [.null, .int 0, .int 0, .int 0, .int 0] 1 200 po_3 := by
  refine cn_intro (own := RX3) (by decide +kernel) rfl rfl (by decide) (fun k h C I X => ?_)
  refine c_aload_n (n := 0) C dX3_init_0 rfl rfl ?_
  refine c_init (st := []) C ⟨wsm_2 (List.mem_of_getElem? (i := 19) rfl), wsm_1 (List.mem_of_getElem? (i := 10) rfl), wsm_1 (List.mem_of_getElem? (i := 11) rfl)⟩ (by decide) dX3_init_1 ?_
  refine c_aload_n (n := 0) C dX3_init_4 rfl rfl ?_
  refine c_sipush (v := 200) C dX3_init_5 (by decide) ?_
  refine c_newI (N := 200) C (wsm_2 (List.mem_of_getElem? (i := 20) rfl)) (by decide) (by decide) (by decide) (Nat.le_of_ble_eq_true rfl) (Nat.le_of_ble_eq_true rfl) dX3_init_8 (fun q0 => ?_)
  show cn_E k 10 [(0, .ref (h))] [.ref (q0), .ref (h)] (([(h, .inr (3, [.null, .int 0, .int 0, .int 0, .int 0]))] ++ [(q0, .inl ((cn_g k).2.1 0, 200, .inl (fun _ => 0)))]) : va_W) 1 200
  refine c_putF (q0 := 0) C I fd_X3_9 rfl (by decide +kernel) rfl (ea_cTy (show 3 < 8 by decide) 0 (by decide)) rfl rfl (Nat.le_of_ble_eq_true rfl) dX3_init_10 ?_
  show cn_E k 13 [(0, .ref (h))] [] (([(h, .inr (3, [.ref (q0), .int 0, .int 0, .int 0, .int 0]))] ++ [(q0, .inl ((cn_g k).2.1 0, 200, .inl (fun _ => 0)))]) : va_W) 1 200
  exact c_vret C X (fun j => ([h, q0] : List Nat).getD j 0) rfl rfl dX3_init_13
def po_5 (g : ea_G) (ad : Nat → Nat) : va_W := [(ad 0, .inr (5, [.ref (ad 1), .int 0, .int 0, .int 40, .int 0, .int 0, .int 0])), (ad 1, .inl (g.2.1 0, 10, .inl (fun _ => 0)))]
theorem cn_z5 : ∀ j, j < ea_cN 5 → defaultValue (ea_cY 5 j) = vp_V [.null, .int 0, .int 0, .int 0, .int 0, .int 0, .int 0] j := fun j hj => by
  rcases (show j = 0 ∨ j = 1 ∨ j = 2 ∨ j = 3 ∨ j = 4 ∨ j = 5 ∨ j = 6 by have : j < 7 := hj; omega) with rfl | rfl | rfl | rfl | rfl | rfl | rfl <;> rfl
set_option maxRecDepth 100000 in
set_option maxHeartbeats 4000000 in
theorem cn_5 : cn_Sp 1 yX5_init cX5_init 1 5 [.null, .int 0, .int 0, .int 0, .int 0, .int 0, .int 0] 1 10 po_5 := by
  refine cn_intro (own := RX5) (by decide +kernel) rfl rfl (by decide) (fun k h C I X => ?_)
  refine c_aload_n (n := 0) C dX5_init_0 rfl rfl ?_
  refine c_init (st := []) C ⟨wsm_3 (List.mem_of_getElem? (i := 11) rfl), wsm_1 (List.mem_of_getElem? (i := 10) rfl), wsm_1 (List.mem_of_getElem? (i := 11) rfl)⟩ (by decide) dX5_init_1 ?_
  refine c_aload_n (n := 0) C dX5_init_4 rfl rfl ?_
  refine c_bipush (v := 10) C dX5_init_5 (by decide) ?_
  refine c_newI (N := 10) C (wsm_2 (List.mem_of_getElem? (i := 20) rfl)) (by decide) (by decide) (by decide) (Nat.le_of_ble_eq_true rfl) (Nat.le_of_ble_eq_true rfl) dX5_init_7 (fun q0 => ?_)
  show cn_E k 9 [(0, .ref (h))] [.ref (q0), .ref (h)] (([(h, .inr (5, [.null, .int 0, .int 0, .int 0, .int 0, .int 0, .int 0]))] ++ [(q0, .inl ((cn_g k).2.1 0, 10, .inl (fun _ => 0)))]) : va_W) 1 10
  refine c_putF (q0 := 0) C I fd_X5_9 rfl (by decide +kernel) rfl (ea_cTy (show 5 < 8 by decide) 0 (by decide)) rfl rfl (Nat.le_of_ble_eq_true rfl) dX5_init_9 ?_
  show cn_E k 12 [(0, .ref (h))] [] (([(h, .inr (5, [.ref (q0), .int 0, .int 0, .int 0, .int 0, .int 0, .int 0]))] ++ [(q0, .inl ((cn_g k).2.1 0, 10, .inl (fun _ => 0)))]) : va_W) 1 10
  refine c_aload_n (n := 0) C dX5_init_12 rfl rfl ?_
  refine c_bipush (v := 40) C dX5_init_13 (by decide) ?_
  refine c_put (q0 := 0) C fd_X5_15 rfl (by decide +kernel) (ea_cTy (show 5 < 8 by decide) 3 (by decide)) rfl rfl (Nat.le_of_ble_eq_true rfl) dX5_init_15 ?_
  show cn_E k 18 [(0, .ref (h))] [] (([(h, .inr (5, [.ref (q0), .int 0, .int 0, .int 40, .int 0, .int 0, .int 0]))] ++ [(q0, .inl ((cn_g k).2.1 0, 10, .inl (fun _ => 0)))]) : va_W) 1 10
  exact c_vret C X (fun j => ([h, q0] : List Nat).getD j 0) rfl rfl dX5_init_18
def po_0 (g : ea_G) (ad : Nat → Nat) : va_W := [(ad 0, .inr (0, [.int 0, .int 0, .ref (ad 1), .ref (ad 2), .ref (ad 3)])), (ad 1, .inl (g.2.1 0, 8, .inl (fun _ => 0))), (ad 2, .inl (g.2.1 0, 8, .inl (fun _ => 0))), (ad 3, .inl (g.2.1 0, 8, .inl (fun _ => 0)))]
theorem cn_z0 : ∀ j, j < ea_cN 0 → defaultValue (ea_cY 0 j) = vp_V [.int 0, .int 0, .null, .null, .null] j := fun j hj => by
  rcases (show j = 0 ∨ j = 1 ∨ j = 2 ∨ j = 3 ∨ j = 4 by have : j < 5 := hj; omega) with rfl | rfl | rfl | rfl | rfl <;> rfl
set_option maxRecDepth 100000 in
set_option maxHeartbeats 4000000 in
theorem cn_0 : cn_Sp 1 yX0_init cX0_init 1 0 [.int 0, .int 0, .null, .null, .null] 3 24 po_0 := by
  refine cn_intro (own := RX0) (by decide +kernel) rfl rfl (by decide) (fun k h C I X => ?_)
  refine c_aload_n (n := 0) C dX0_init_0 rfl rfl ?_
  refine c_init (st := []) C ⟨wsm_4 (List.mem_of_getElem? (i := 0) rfl), wsm_1 (List.mem_of_getElem? (i := 10) rfl), wsm_1 (List.mem_of_getElem? (i := 11) rfl)⟩ (by decide) dX0_init_1 ?_
  refine c_aload_n (n := 0) C dX0_init_4 rfl rfl ?_
  refine c_bipush (v := 8) C dX0_init_5 (by decide) ?_
  refine c_newI (N := 8) C (wsm_2 (List.mem_of_getElem? (i := 20) rfl)) (by decide) (by decide) (by decide) (Nat.le_of_ble_eq_true rfl) (Nat.le_of_ble_eq_true rfl) dX0_init_7 (fun q0 => ?_)
  show cn_E k 9 [(0, .ref (h))] [.ref (q0), .ref (h)] (([(h, .inr (0, [.int 0, .int 0, .null, .null, .null]))] ++ [(q0, .inl ((cn_g k).2.1 0, 8, .inl (fun _ => 0)))]) : va_W) 1 8
  refine c_putF (q0 := 0) C I fd_X0_9 rfl (by decide +kernel) rfl (ea_cTy (show 0 < 8 by decide) 2 (by decide)) rfl rfl (Nat.le_of_ble_eq_true rfl) dX0_init_9 ?_
  show cn_E k 12 [(0, .ref (h))] [] (([(h, .inr (0, [.int 0, .int 0, .ref (q0), .null, .null]))] ++ [(q0, .inl ((cn_g k).2.1 0, 8, .inl (fun _ => 0)))]) : va_W) 1 8
  refine c_aload_n (n := 0) C dX0_init_12 rfl rfl ?_
  refine c_bipush (v := 8) C dX0_init_13 (by decide) ?_
  refine c_newI (N := 8) C (wsm_2 (List.mem_of_getElem? (i := 20) rfl)) (by decide) (by decide) (by decide) (Nat.le_of_ble_eq_true rfl) (Nat.le_of_ble_eq_true rfl) dX0_init_15 (fun q1 => ?_)
  show cn_E k 17 [(0, .ref (h))] [.ref (q1), .ref (h)] ((([(h, .inr (0, [.int 0, .int 0, .ref (q0), .null, .null]))] ++ [(q0, .inl ((cn_g k).2.1 0, 8, .inl (fun _ => 0)))]) ++ [(q1, .inl ((cn_g k).2.1 0, 8, .inl (fun _ => 0)))]) : va_W) 2 16
  refine c_putF (q0 := 0) C I fd_X0_15 rfl (by decide +kernel) rfl (ea_cTy (show 0 < 8 by decide) 3 (by decide)) rfl rfl (Nat.le_of_ble_eq_true rfl) dX0_init_17 ?_
  show cn_E k 20 [(0, .ref (h))] [] ((([(h, .inr (0, [.int 0, .int 0, .ref (q0), .ref (q1), .null]))] ++ [(q0, .inl ((cn_g k).2.1 0, 8, .inl (fun _ => 0)))]) ++ [(q1, .inl ((cn_g k).2.1 0, 8, .inl (fun _ => 0)))]) : va_W) 2 16
  refine c_aload_n (n := 0) C dX0_init_20 rfl rfl ?_
  refine c_bipush (v := 8) C dX0_init_21 (by decide) ?_
  refine c_newI (N := 8) C (wsm_2 (List.mem_of_getElem? (i := 20) rfl)) (by decide) (by decide) (by decide) (Nat.le_of_ble_eq_true rfl) (Nat.le_of_ble_eq_true rfl) dX0_init_23 (fun q2 => ?_)
  show cn_E k 25 [(0, .ref (h))] [.ref (q2), .ref (h)] (((([(h, .inr (0, [.int 0, .int 0, .ref (q0), .ref (q1), .null]))] ++ [(q0, .inl ((cn_g k).2.1 0, 8, .inl (fun _ => 0)))]) ++ [(q1, .inl ((cn_g k).2.1 0, 8, .inl (fun _ => 0)))]) ++ [(q2, .inl ((cn_g k).2.1 0, 8, .inl (fun _ => 0)))]) : va_W) 3 24
  refine c_putF (q0 := 0) C I fd_X0_18 rfl (by decide +kernel) rfl (ea_cTy (show 0 < 8 by decide) 4 (by decide)) rfl rfl (Nat.le_of_ble_eq_true rfl) dX0_init_25 ?_
  show cn_E k 28 [(0, .ref (h))] [] (((([(h, .inr (0, [.int 0, .int 0, .ref (q0), .ref (q1), .ref (q2)]))] ++ [(q0, .inl ((cn_g k).2.1 0, 8, .inl (fun _ => 0)))]) ++ [(q1, .inl ((cn_g k).2.1 0, 8, .inl (fun _ => 0)))]) ++ [(q2, .inl ((cn_g k).2.1 0, 8, .inl (fun _ => 0)))]) : va_W) 3 24
  exact c_vret C X (fun j => ([h, q0, q1, q2] : List Nat).getD j 0) rfl rfl dX0_init_28
def po_4 (g : ea_G) (ad : Nat → Nat) : va_W := [(ad 0, .inr (4, [.int 0, .ref (ad 1), .ref (ad 2), .ref (ad 3), .ref (ad 4), .int 0, .ref (ad 5), .ref (ad 7), .ref (ad 6)])), (ad 1, .inl (g.2.1 0, 42, .inl (fun _ => 0))), (ad 2, .inl (g.2.1 0, 6, .inl (fun _ => 0))), (ad 3, .inl (g.2.1 0, 6, .inl (fun _ => 0))), (ad 4, .inl (g.2.1 0, 6, .inl (fun _ => 0))), (ad 5, .inl (g.2.1 0, 10, .inl (fun _ => 0))), (ad 6, .inl (g.2.1 0, 11, .inl (fun _ => 0))), (ad 7, .inr (5, [.ref (ad 8), .int 0, .int 0, .int 40, .int 0, .int 0, .int 0])), (ad 8, .inl (g.2.1 0, 10, .inl (fun _ => 0)))]
theorem cn_z4 : ∀ j, j < ea_cN 4 → defaultValue (ea_cY 4 j) = vp_V [.int 0, .null, .null, .null, .null, .int 0, .null, .null, .null] j := fun j hj => by
  rcases (show j = 0 ∨ j = 1 ∨ j = 2 ∨ j = 3 ∨ j = 4 ∨ j = 5 ∨ j = 6 ∨ j = 7 ∨ j = 8 by have : j < 9 := hj; omega) with rfl | rfl | rfl | rfl | rfl | rfl | rfl | rfl | rfl <;> rfl
set_option maxRecDepth 100000 in
set_option maxHeartbeats 4000000 in
theorem cn_4 : cn_Sp 2 yX4_init cX4_init 1 4 [.int 0, .null, .null, .null, .null, .int 0, .null, .null, .null] 8 98 po_4 := by
  refine cn_intro (own := RX4) (by decide +kernel) rfl rfl (by decide) (fun k h C I X => ?_)
  refine c_aload_n (n := 0) C dX4_init_0 rfl rfl ?_
  refine c_init (st := []) C ⟨wsm_3 (List.mem_of_getElem? (i := 0) rfl), wsm_1 (List.mem_of_getElem? (i := 10) rfl), wsm_1 (List.mem_of_getElem? (i := 11) rfl)⟩ (by decide) dX4_init_1 ?_
  refine c_aload_n (n := 0) C dX4_init_4 rfl rfl ?_
  refine c_bipush (v := 42) C dX4_init_5 (by decide) ?_
  refine c_newI (N := 42) C (wsm_2 (List.mem_of_getElem? (i := 20) rfl)) (by decide) (by decide) (by decide) (Nat.le_of_ble_eq_true rfl) (Nat.le_of_ble_eq_true rfl) dX4_init_7 (fun q0 => ?_)
  show cn_E k 9 [(0, .ref (h))] [.ref (q0), .ref (h)] (([(h, .inr (4, [.int 0, .null, .null, .null, .null, .int 0, .null, .null, .null]))] ++ [(q0, .inl ((cn_g k).2.1 0, 42, .inl (fun _ => 0)))]) : va_W) 1 42
  refine c_putF (q0 := 0) C I fd_X4_9 rfl (by decide +kernel) rfl (ea_cTy (show 4 < 8 by decide) 1 (by decide)) rfl rfl (Nat.le_of_ble_eq_true rfl) dX4_init_9 ?_
  show cn_E k 12 [(0, .ref (h))] [] (([(h, .inr (4, [.int 0, .ref (q0), .null, .null, .null, .int 0, .null, .null, .null]))] ++ [(q0, .inl ((cn_g k).2.1 0, 42, .inl (fun _ => 0)))]) : va_W) 1 42
  refine c_aload_n (n := 0) C dX4_init_12 rfl rfl ?_
  refine c_bipush (v := 6) C dX4_init_13 (by decide) ?_
  refine c_newI (N := 6) C (wsm_2 (List.mem_of_getElem? (i := 20) rfl)) (by decide) (by decide) (by decide) (Nat.le_of_ble_eq_true rfl) (Nat.le_of_ble_eq_true rfl) dX4_init_15 (fun q1 => ?_)
  show cn_E k 17 [(0, .ref (h))] [.ref (q1), .ref (h)] ((([(h, .inr (4, [.int 0, .ref (q0), .null, .null, .null, .int 0, .null, .null, .null]))] ++ [(q0, .inl ((cn_g k).2.1 0, 42, .inl (fun _ => 0)))]) ++ [(q1, .inl ((cn_g k).2.1 0, 6, .inl (fun _ => 0)))]) : va_W) 2 48
  refine c_putF (q0 := 0) C I fd_X4_15 rfl (by decide +kernel) rfl (ea_cTy (show 4 < 8 by decide) 2 (by decide)) rfl rfl (Nat.le_of_ble_eq_true rfl) dX4_init_17 ?_
  show cn_E k 20 [(0, .ref (h))] [] ((([(h, .inr (4, [.int 0, .ref (q0), .ref (q1), .null, .null, .int 0, .null, .null, .null]))] ++ [(q0, .inl ((cn_g k).2.1 0, 42, .inl (fun _ => 0)))]) ++ [(q1, .inl ((cn_g k).2.1 0, 6, .inl (fun _ => 0)))]) : va_W) 2 48
  refine c_aload_n (n := 0) C dX4_init_20 rfl rfl ?_
  refine c_bipush (v := 6) C dX4_init_21 (by decide) ?_
  refine c_newI (N := 6) C (wsm_2 (List.mem_of_getElem? (i := 20) rfl)) (by decide) (by decide) (by decide) (Nat.le_of_ble_eq_true rfl) (Nat.le_of_ble_eq_true rfl) dX4_init_23 (fun q2 => ?_)
  show cn_E k 25 [(0, .ref (h))] [.ref (q2), .ref (h)] (((([(h, .inr (4, [.int 0, .ref (q0), .ref (q1), .null, .null, .int 0, .null, .null, .null]))] ++ [(q0, .inl ((cn_g k).2.1 0, 42, .inl (fun _ => 0)))]) ++ [(q1, .inl ((cn_g k).2.1 0, 6, .inl (fun _ => 0)))]) ++ [(q2, .inl ((cn_g k).2.1 0, 6, .inl (fun _ => 0)))]) : va_W) 3 54
  refine c_putF (q0 := 0) C I fd_X4_18 rfl (by decide +kernel) rfl (ea_cTy (show 4 < 8 by decide) 3 (by decide)) rfl rfl (Nat.le_of_ble_eq_true rfl) dX4_init_25 ?_
  show cn_E k 28 [(0, .ref (h))] [] (((([(h, .inr (4, [.int 0, .ref (q0), .ref (q1), .ref (q2), .null, .int 0, .null, .null, .null]))] ++ [(q0, .inl ((cn_g k).2.1 0, 42, .inl (fun _ => 0)))]) ++ [(q1, .inl ((cn_g k).2.1 0, 6, .inl (fun _ => 0)))]) ++ [(q2, .inl ((cn_g k).2.1 0, 6, .inl (fun _ => 0)))]) : va_W) 3 54
  refine c_aload_n (n := 0) C dX4_init_28 rfl rfl ?_
  refine c_bipush (v := 6) C dX4_init_29 (by decide) ?_
  refine c_newI (N := 6) C (wsm_2 (List.mem_of_getElem? (i := 20) rfl)) (by decide) (by decide) (by decide) (Nat.le_of_ble_eq_true rfl) (Nat.le_of_ble_eq_true rfl) dX4_init_31 (fun q3 => ?_)
  show cn_E k 33 [(0, .ref (h))] [.ref (q3), .ref (h)] ((((([(h, .inr (4, [.int 0, .ref (q0), .ref (q1), .ref (q2), .null, .int 0, .null, .null, .null]))] ++ [(q0, .inl ((cn_g k).2.1 0, 42, .inl (fun _ => 0)))]) ++ [(q1, .inl ((cn_g k).2.1 0, 6, .inl (fun _ => 0)))]) ++ [(q2, .inl ((cn_g k).2.1 0, 6, .inl (fun _ => 0)))]) ++ [(q3, .inl ((cn_g k).2.1 0, 6, .inl (fun _ => 0)))]) : va_W) 4 60
  refine c_putF (q0 := 0) C I fd_X4_21 rfl (by decide +kernel) rfl (ea_cTy (show 4 < 8 by decide) 4 (by decide)) rfl rfl (Nat.le_of_ble_eq_true rfl) dX4_init_33 ?_
  show cn_E k 36 [(0, .ref (h))] [] ((((([(h, .inr (4, [.int 0, .ref (q0), .ref (q1), .ref (q2), .ref (q3), .int 0, .null, .null, .null]))] ++ [(q0, .inl ((cn_g k).2.1 0, 42, .inl (fun _ => 0)))]) ++ [(q1, .inl ((cn_g k).2.1 0, 6, .inl (fun _ => 0)))]) ++ [(q2, .inl ((cn_g k).2.1 0, 6, .inl (fun _ => 0)))]) ++ [(q3, .inl ((cn_g k).2.1 0, 6, .inl (fun _ => 0)))]) : va_W) 4 60
  refine c_aload_n (n := 0) C dX4_init_36 rfl rfl ?_
  refine c_bipush (v := 10) C dX4_init_37 (by decide) ?_
  refine c_newI (N := 10) C (wsm_2 (List.mem_of_getElem? (i := 20) rfl)) (by decide) (by decide) (by decide) (Nat.le_of_ble_eq_true rfl) (Nat.le_of_ble_eq_true rfl) dX4_init_39 (fun q4 => ?_)
  show cn_E k 41 [(0, .ref (h))] [.ref (q4), .ref (h)] (((((([(h, .inr (4, [.int 0, .ref (q0), .ref (q1), .ref (q2), .ref (q3), .int 0, .null, .null, .null]))] ++ [(q0, .inl ((cn_g k).2.1 0, 42, .inl (fun _ => 0)))]) ++ [(q1, .inl ((cn_g k).2.1 0, 6, .inl (fun _ => 0)))]) ++ [(q2, .inl ((cn_g k).2.1 0, 6, .inl (fun _ => 0)))]) ++ [(q3, .inl ((cn_g k).2.1 0, 6, .inl (fun _ => 0)))]) ++ [(q4, .inl ((cn_g k).2.1 0, 10, .inl (fun _ => 0)))]) : va_W) 5 70
  refine c_putF (q0 := 0) C I fd_X4_24 rfl (by decide +kernel) rfl (ea_cTy (show 4 < 8 by decide) 6 (by decide)) rfl rfl (Nat.le_of_ble_eq_true rfl) dX4_init_41 ?_
  show cn_E k 44 [(0, .ref (h))] [] (((((([(h, .inr (4, [.int 0, .ref (q0), .ref (q1), .ref (q2), .ref (q3), .int 0, .ref (q4), .null, .null]))] ++ [(q0, .inl ((cn_g k).2.1 0, 42, .inl (fun _ => 0)))]) ++ [(q1, .inl ((cn_g k).2.1 0, 6, .inl (fun _ => 0)))]) ++ [(q2, .inl ((cn_g k).2.1 0, 6, .inl (fun _ => 0)))]) ++ [(q3, .inl ((cn_g k).2.1 0, 6, .inl (fun _ => 0)))]) ++ [(q4, .inl ((cn_g k).2.1 0, 10, .inl (fun _ => 0)))]) : va_W) 5 70
  refine c_aload_n (n := 0) C dX4_init_44 rfl rfl ?_
  refine c_make C ⟨by decide, wsm_3 (List.mem_of_getElem? (i := 6) rfl), wsm_1 (List.mem_of_getElem? (i := 21) rfl), wsm_1 (List.mem_of_getElem? (i := 22) rfl)⟩ cn_z5 cn_5 (by decide) ⟨Or.inl (by decide +kernel), wsm_3 (List.mem_of_getElem? (i := 10) rfl), wsm_1 (List.mem_of_getElem? (i := 22) rfl), ⟨by decide +kernel, by decide +kernel, by decide +kernel⟩, by decide, wsm_3 (List.mem_of_getElem? (i := 9) rfl), rfl⟩ dX4_init_45 dX4_init_48 dX4_init_49 (Nat.le_of_ble_eq_true rfl) (Nat.le_of_ble_eq_true rfl) (Nat.le_of_ble_eq_true rfl) (fun a0 => ?_)
  show cn_E k 52 [(0, .ref (h))] [.ref (a0 0), .ref (h)] ((((((([(h, .inr (4, [.int 0, .ref (q0), .ref (q1), .ref (q2), .ref (q3), .int 0, .ref (q4), .null, .null]))] ++ [(q0, .inl ((cn_g k).2.1 0, 42, .inl (fun _ => 0)))]) ++ [(q1, .inl ((cn_g k).2.1 0, 6, .inl (fun _ => 0)))]) ++ [(q2, .inl ((cn_g k).2.1 0, 6, .inl (fun _ => 0)))]) ++ [(q3, .inl ((cn_g k).2.1 0, 6, .inl (fun _ => 0)))]) ++ [(q4, .inl ((cn_g k).2.1 0, 10, .inl (fun _ => 0)))]) ++ po_5 (cn_g k) a0) : va_W) 7 87
  refine c_putF (q0 := 0) C I fd_X4_30 rfl (by decide +kernel) rfl (ea_cTy (show 4 < 8 by decide) 7 (by decide)) rfl rfl (Nat.le_of_ble_eq_true rfl) dX4_init_52 ?_
  show cn_E k 55 [(0, .ref (h))] [] ((((((([(h, .inr (4, [.int 0, .ref (q0), .ref (q1), .ref (q2), .ref (q3), .int 0, .ref (q4), .ref (a0 0), .null]))] ++ [(q0, .inl ((cn_g k).2.1 0, 42, .inl (fun _ => 0)))]) ++ [(q1, .inl ((cn_g k).2.1 0, 6, .inl (fun _ => 0)))]) ++ [(q2, .inl ((cn_g k).2.1 0, 6, .inl (fun _ => 0)))]) ++ [(q3, .inl ((cn_g k).2.1 0, 6, .inl (fun _ => 0)))]) ++ [(q4, .inl ((cn_g k).2.1 0, 10, .inl (fun _ => 0)))]) ++ po_5 (cn_g k) a0) : va_W) 7 87
  refine c_aload_n (n := 0) C dX4_init_55 rfl rfl ?_
  refine c_bipush (v := 11) C dX4_init_56 (by decide) ?_
  refine c_newI (N := 11) C (wsm_2 (List.mem_of_getElem? (i := 20) rfl)) (by decide) (by decide) (by decide) (Nat.le_of_ble_eq_true rfl) (Nat.le_of_ble_eq_true rfl) dX4_init_58 (fun q5 => ?_)
  show cn_E k 60 [(0, .ref (h))] [.ref (q5), .ref (h)] (((((((([(h, .inr (4, [.int 0, .ref (q0), .ref (q1), .ref (q2), .ref (q3), .int 0, .ref (q4), .ref (a0 0), .null]))] ++ [(q0, .inl ((cn_g k).2.1 0, 42, .inl (fun _ => 0)))]) ++ [(q1, .inl ((cn_g k).2.1 0, 6, .inl (fun _ => 0)))]) ++ [(q2, .inl ((cn_g k).2.1 0, 6, .inl (fun _ => 0)))]) ++ [(q3, .inl ((cn_g k).2.1 0, 6, .inl (fun _ => 0)))]) ++ [(q4, .inl ((cn_g k).2.1 0, 10, .inl (fun _ => 0)))]) ++ po_5 (cn_g k) a0) ++ [(q5, .inl ((cn_g k).2.1 0, 11, .inl (fun _ => 0)))]) : va_W) 8 98
  refine c_putF (q0 := 0) C I fd_X4_34 rfl (by decide +kernel) rfl (ea_cTy (show 4 < 8 by decide) 8 (by decide)) rfl rfl (Nat.le_of_ble_eq_true rfl) dX4_init_60 ?_
  show cn_E k 63 [(0, .ref (h))] [] (((((((([(h, .inr (4, [.int 0, .ref (q0), .ref (q1), .ref (q2), .ref (q3), .int 0, .ref (q4), .ref (a0 0), .ref (q5)]))] ++ [(q0, .inl ((cn_g k).2.1 0, 42, .inl (fun _ => 0)))]) ++ [(q1, .inl ((cn_g k).2.1 0, 6, .inl (fun _ => 0)))]) ++ [(q2, .inl ((cn_g k).2.1 0, 6, .inl (fun _ => 0)))]) ++ [(q3, .inl ((cn_g k).2.1 0, 6, .inl (fun _ => 0)))]) ++ [(q4, .inl ((cn_g k).2.1 0, 10, .inl (fun _ => 0)))]) ++ po_5 (cn_g k) a0) ++ [(q5, .inl ((cn_g k).2.1 0, 11, .inl (fun _ => 0)))]) : va_W) 8 98
  refine c_pick (Y' := po_4 (cn_g k) (fun j => ([h, q0, q1, q2, q3, q4, q5, a0 0, a0 1] : List Nat).getD j 0)) C [0, 1, 2, 3, 4, 5, 8, 6, 7] (by decide) rfl ?_
  exact c_vret C X (fun j => ([h, q0, q1, q2, q3, q4, q5, a0 0, a0 1] : List Nat).getD j 0) rfl rfl dX4_init_63
def po_2 (g : ea_G) (ad : Nat → Nat) : va_W := [(ad 0, .inr (2, [.ref (ad 1), .ref (ad 3), .int 0])), (ad 1, .inr (3, [.ref (ad 2), .int 0, .int 0, .int 0, .int 0])), (ad 2, .inl (g.2.1 0, 200, .inl (fun _ => 0))), (ad 3, .inr (4, [.int 0, .ref (ad 4), .ref (ad 5), .ref (ad 6), .ref (ad 7), .int 0, .ref (ad 8), .ref (ad 10), .ref (ad 9)])), (ad 4, .inl (g.2.1 0, 42, .inl (fun _ => 0))), (ad 5, .inl (g.2.1 0, 6, .inl (fun _ => 0))), (ad 6, .inl (g.2.1 0, 6, .inl (fun _ => 0))), (ad 7, .inl (g.2.1 0, 6, .inl (fun _ => 0))), (ad 8, .inl (g.2.1 0, 10, .inl (fun _ => 0))), (ad 9, .inl (g.2.1 0, 11, .inl (fun _ => 0))), (ad 10, .inr (5, [.ref (ad 11), .int 0, .int 0, .int 40, .int 0, .int 0, .int 0])), (ad 11, .inl (g.2.1 0, 10, .inl (fun _ => 0)))]
theorem cn_z2 : ∀ j, j < ea_cN 2 → defaultValue (ea_cY 2 j) = vp_V [.null, .null, .int 0] j := fun j hj => by
  rcases (show j = 0 ∨ j = 1 ∨ j = 2 by have : j < 3 := hj; omega) with rfl | rfl | rfl <;> rfl
set_option maxRecDepth 100000 in
set_option maxHeartbeats 4000000 in
theorem cn_2 : cn_Sp 3 yX2_init cX2_init 1 2 [.null, .null, .int 0] 11 312 po_2 := by
  refine cn_intro (own := RX2) (by decide +kernel) rfl rfl (by decide) (fun k h C I X => ?_)
  refine c_aload_n (n := 0) C dX2_init_0 rfl rfl ?_
  refine c_init (st := []) C ⟨wsm_2 (List.mem_of_getElem? (i := 10) rfl), wsm_1 (List.mem_of_getElem? (i := 10) rfl), wsm_1 (List.mem_of_getElem? (i := 11) rfl)⟩ (by decide) dX2_init_1 ?_
  refine c_aload_n (n := 0) C dX2_init_4 rfl rfl ?_
  refine c_make C ⟨by decide, wsm_2 (List.mem_of_getElem? (i := 11) rfl), wsm_2 (List.mem_of_getElem? (i := 12) rfl), wsm_2 (List.mem_of_getElem? (i := 13) rfl)⟩ cn_z3 cn_3 (by decide) ⟨Or.inl (by decide +kernel), wsm_2 (List.mem_of_getElem? (i := 18) rfl), wsm_2 (List.mem_of_getElem? (i := 13) rfl), ⟨by decide +kernel, by decide +kernel, by decide +kernel⟩, by decide, wsm_2 (List.mem_of_getElem? (i := 17) rfl), rfl⟩ dX2_init_5 dX2_init_8 dX2_init_9 (Nat.le_of_ble_eq_true rfl) (Nat.le_of_ble_eq_true rfl) (Nat.le_of_ble_eq_true rfl) (fun a0 => ?_)
  show cn_E k 12 [(0, .ref (h))] [.ref (a0 0), .ref (h)] (([(h, .inr (2, [.null, .null, .int 0]))] ++ po_3 (cn_g k) a0) : va_W) 2 205
  refine c_putF (q0 := 0) C I fd_X2_12 rfl (by decide +kernel) rfl (ea_cTy (show 2 < 8 by decide) 0 (by decide)) rfl rfl (Nat.le_of_ble_eq_true rfl) dX2_init_12 ?_
  show cn_E k 15 [(0, .ref (h))] [] (([(h, .inr (2, [.ref (a0 0), .null, .int 0]))] ++ po_3 (cn_g k) a0) : va_W) 2 205
  refine c_aload_n (n := 0) C dX2_init_15 rfl rfl ?_
  refine c_make C ⟨by decide, wsm_2 (List.mem_of_getElem? (i := 15) rfl), wsm_1 (List.mem_of_getElem? (i := 17) rfl), wsm_1 (List.mem_of_getElem? (i := 18) rfl)⟩ cn_z4 cn_4 (by decide) ⟨Or.inl (by decide +kernel), wsm_2 (List.mem_of_getElem? (i := 23) rfl), wsm_1 (List.mem_of_getElem? (i := 18) rfl), ⟨by decide +kernel, by decide +kernel, by decide +kernel⟩, by decide, wsm_2 (List.mem_of_getElem? (i := 22) rfl), rfl⟩ dX2_init_16 dX2_init_19 dX2_init_20 (Nat.le_of_ble_eq_true rfl) (Nat.le_of_ble_eq_true rfl) (Nat.le_of_ble_eq_true rfl) (fun a1 => ?_)
  show cn_E k 23 [(0, .ref (h))] [.ref (a1 0), .ref (h)] ((([(h, .inr (2, [.ref (a0 0), .null, .int 0]))] ++ po_3 (cn_g k) a0) ++ po_4 (cn_g k) a1) : va_W) 11 312
  refine c_putF (q0 := 0) C I fd_X2_21 rfl (by decide +kernel) rfl (ea_cTy (show 2 < 8 by decide) 1 (by decide)) rfl rfl (Nat.le_of_ble_eq_true rfl) dX2_init_23 ?_
  show cn_E k 26 [(0, .ref (h))] [] ((([(h, .inr (2, [.ref (a0 0), .ref (a1 0), .int 0]))] ++ po_3 (cn_g k) a0) ++ po_4 (cn_g k) a1) : va_W) 11 312
  exact c_vret C X (fun j => ([h, a0 0, a0 1, a1 0, a1 1, a1 2, a1 3, a1 4, a1 5, a1 6, a1 7, a1 8] : List Nat).getD j 0) rfl rfl dX2_init_26
