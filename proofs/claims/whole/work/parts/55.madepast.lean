/-! ===== the constructors ===== -/
def po_1 (g : ea_G) (ad : Nat → Nat) : va_W := [(ad 0, .inr (1, [.ref (ad 1), .ref (ad 2), .ref (ad 3), .int 0, .int 0])), (ad 1, .inl (g.2.1 3, 8, .inr (.inr (.inr (.inr (fun i => some (ad (4 + 2 * i)))))))), (ad 2, .inl (g.2.1 3, 2, .inr (.inr (.inr (.inr (fun i => some (ad (20 + 2 * i)))))))), (ad 3, .inl (g.2.1 0, 2, .inl (fun _ => 0))), (ad 4, .inr (5, [.ref (ad 5), .int 0, .int 0, .int 40, .int 0, .int 0, .int 0])), (ad 5, .inl (g.2.1 0, 10, .inl (fun _ => 0))), (ad 6, .inr (5, [.ref (ad 7), .int 0, .int 0, .int 40, .int 0, .int 0, .int 0])), (ad 7, .inl (g.2.1 0, 10, .inl (fun _ => 0))), (ad 8, .inr (5, [.ref (ad 9), .int 0, .int 0, .int 40, .int 0, .int 0, .int 0])), (ad 9, .inl (g.2.1 0, 10, .inl (fun _ => 0))), (ad 10, .inr (5, [.ref (ad 11), .int 0, .int 0, .int 40, .int 0, .int 0, .int 0])), (ad 11, .inl (g.2.1 0, 10, .inl (fun _ => 0))), (ad 12, .inr (5, [.ref (ad 13), .int 0, .int 0, .int 40, .int 0, .int 0, .int 0])), (ad 13, .inl (g.2.1 0, 10, .inl (fun _ => 0))), (ad 14, .inr (5, [.ref (ad 15), .int 0, .int 0, .int 40, .int 0, .int 0, .int 0])), (ad 15, .inl (g.2.1 0, 10, .inl (fun _ => 0))), (ad 16, .inr (5, [.ref (ad 17), .int 0, .int 0, .int 40, .int 0, .int 0, .int 0])), (ad 17, .inl (g.2.1 0, 10, .inl (fun _ => 0))), (ad 18, .inr (5, [.ref (ad 19), .int 0, .int 0, .int 40, .int 0, .int 0, .int 0])), (ad 19, .inl (g.2.1 0, 10, .inl (fun _ => 0))), (ad 20, .inr (5, [.ref (ad 21), .int 0, .int 0, .int 40, .int 0, .int 0, .int 0])), (ad 21, .inl (g.2.1 0, 10, .inl (fun _ => 0))), (ad 22, .inr (5, [.ref (ad 23), .int 0, .int 0, .int 40, .int 0, .int 0, .int 0])), (ad 23, .inl (g.2.1 0, 10, .inl (fun _ => 0)))]
theorem cn_z1 : ∀ j, j < ea_cN 1 → defaultValue (ea_cY 1 j) = vp_V [.null, .null, .null, .int 0, .int 0] j := fun j hj => by
  rcases (show j = 0 ∨ j = 1 ∨ j = 2 ∨ j = 3 ∨ j = 4 by have : j < 5 := hj; omega) with rfl | rfl | rfl | rfl | rfl <;> rfl
set_option maxRecDepth 100000 in
set_option maxHeartbeats 4000000 in
theorem cn_1 : cn_Sp 2 yX1_init cX1_init 2 1 [.null, .null, .null, .int 0, .int 0] 23 182 po_1 := by
  refine cn_intro (own := RX1) (by decide +kernel) rfl rfl (by decide) (fun k h C I X => ?_)
  refine c_aload_n (n := 0) C dX1_init_0 rfl rfl ?_
  refine c_init (st := []) C ⟨wsm_3 (List.mem_of_getElem? (i := 17) rfl), wsm_1 (List.mem_of_getElem? (i := 10) rfl), wsm_1 (List.mem_of_getElem? (i := 11) rfl)⟩ (by decide) dX1_init_1 ?_
  refine c_aload_n (n := 0) C dX1_init_4 rfl rfl ?_
  refine c_bipush (v := 8) C dX1_init_5 (by decide) ?_
  refine c_newW (N := 8) C (wsm_3 (List.mem_of_getElem? (i := 18) rfl)) (by decide) (by decide) (by decide) (Nat.le_of_ble_eq_true rfl) (Nat.le_of_ble_eq_true rfl) dX1_init_7 (fun q0 => ?_)
  show cn_E k 10 [(0, .ref (h))] [.ref (q0), .ref (h)] (([(h, .inr (1, [.null, .null, .null, .int 0, .int 0]))] ++ [(q0, .inl ((cn_g k).2.1 3, 8, .inr (.inr (.inr (.inr (fun _ => none))))))]) : va_W) 1 8
  refine c_putF (q0 := 0) C I fd_X1_11 rfl (by decide +kernel) rfl (ea_cTy (show 1 < 8 by decide) 0 (by decide)) rfl rfl (Nat.le_of_ble_eq_true rfl) dX1_init_10 ?_
  show cn_E k 13 [(0, .ref (h))] [] (([(h, .inr (1, [.ref (q0), .null, .null, .int 0, .int 0]))] ++ [(q0, .inl ((cn_g k).2.1 3, 8, .inr (.inr (.inr (.inr (fun _ => none))))))]) : va_W) 1 8
  refine c_aload_n (n := 0) C dX1_init_13 rfl rfl ?_
  refine c_iconst (v := 2) C dX1_init_14 (by decide) ?_
  refine c_newW (N := 2) C (wsm_3 (List.mem_of_getElem? (i := 18) rfl)) (by decide) (by decide) (by decide) (Nat.le_of_ble_eq_true rfl) (Nat.le_of_ble_eq_true rfl) dX1_init_15 (fun q1 => ?_)
  show cn_E k 18 [(0, .ref (h))] [.ref (q1), .ref (h)] ((([(h, .inr (1, [.ref (q0), .null, .null, .int 0, .int 0]))] ++ [(q0, .inl ((cn_g k).2.1 3, 8, .inr (.inr (.inr (.inr (fun _ => none))))))]) ++ [(q1, .inl ((cn_g k).2.1 3, 2, .inr (.inr (.inr (.inr (fun _ => none))))))]) : va_W) 2 10
  refine c_putF (q0 := 0) C I fd_X1_17 rfl (by decide +kernel) rfl (ea_cTy (show 1 < 8 by decide) 1 (by decide)) rfl rfl (Nat.le_of_ble_eq_true rfl) dX1_init_18 ?_
  show cn_E k 21 [(0, .ref (h))] [] ((([(h, .inr (1, [.ref (q0), .ref (q1), .null, .int 0, .int 0]))] ++ [(q0, .inl ((cn_g k).2.1 3, 8, .inr (.inr (.inr (.inr (fun _ => none))))))]) ++ [(q1, .inl ((cn_g k).2.1 3, 2, .inr (.inr (.inr (.inr (fun _ => none))))))]) : va_W) 2 10
  refine c_aload_n (n := 0) C dX1_init_21 rfl rfl ?_
  refine c_iconst (v := 2) C dX1_init_22 (by decide) ?_
  refine c_newI (N := 2) C (wsm_2 (List.mem_of_getElem? (i := 20) rfl)) (by decide) (by decide) (by decide) (Nat.le_of_ble_eq_true rfl) (Nat.le_of_ble_eq_true rfl) dX1_init_23 (fun q2 => ?_)
  show cn_E k 25 [(0, .ref (h))] [.ref (q2), .ref (h)] (((([(h, .inr (1, [.ref (q0), .ref (q1), .null, .int 0, .int 0]))] ++ [(q0, .inl ((cn_g k).2.1 3, 8, .inr (.inr (.inr (.inr (fun _ => none))))))]) ++ [(q1, .inl ((cn_g k).2.1 3, 2, .inr (.inr (.inr (.inr (fun _ => none))))))]) ++ [(q2, .inl ((cn_g k).2.1 0, 2, .inl (fun _ => 0)))]) : va_W) 3 12
  refine c_putF (q0 := 0) C I fd_X1_20 rfl (by decide +kernel) rfl (ea_cTy (show 1 < 8 by decide) 2 (by decide)) rfl rfl (Nat.le_of_ble_eq_true rfl) dX1_init_25 ?_
  show cn_E k 28 [(0, .ref (h))] [] (((([(h, .inr (1, [.ref (q0), .ref (q1), .ref (q2), .int 0, .int 0]))] ++ [(q0, .inl ((cn_g k).2.1 3, 8, .inr (.inr (.inr (.inr (fun _ => none))))))]) ++ [(q1, .inl ((cn_g k).2.1 3, 2, .inr (.inr (.inr (.inr (fun _ => none))))))]) ++ [(q2, .inl ((cn_g k).2.1 0, 2, .inl (fun _ => 0)))]) : va_W) 3 12
  refine c_iconst (v := 0) C dX1_init_28 (by decide) ?_
  refine c_istore_n C dX1_init_29 rfl (by decide) rfl ?_
  refine c_iload_n (n := 0) C dX1_init_30 rfl rfl ?_
  refine c_aload_n (n := 1) C dX1_init_31 rfl rfl ?_
  refine c_get (q0 := 0) C fd_X1_11 rfl rfl dX1_init_32 ?_
  refine c_alenW (q0 := 1) (v := 8) C rfl (by decide) dX1_init_35 ?_
  refine c_icmp_geF (tgt := 58) C dX1_init_36 (by decide) (by decide) ?_
  refine c_aload_n (n := 1) C dX1_init_39 rfl rfl ?_
  refine c_get (q0 := 0) C fd_X1_11 rfl rfl dX1_init_40 ?_
  refine c_iload_n (n := 0) C dX1_init_43 rfl rfl ?_
  refine c_make C ⟨by decide, wsm_3 (List.mem_of_getElem? (i := 18) rfl), wsm_1 (List.mem_of_getElem? (i := 21) rfl), wsm_1 (List.mem_of_getElem? (i := 22) rfl)⟩ cn_z5 cn_5 (by decide) ⟨Or.inl (by decide +kernel), wsm_3 (List.mem_of_getElem? (i := 10) rfl), wsm_1 (List.mem_of_getElem? (i := 22) rfl), ⟨by decide +kernel, by decide +kernel, by decide +kernel⟩, by decide, wsm_3 (List.mem_of_getElem? (i := 9) rfl), rfl⟩ dX1_init_44 dX1_init_47 dX1_init_48 (Nat.le_of_ble_eq_true rfl) (Nat.le_of_ble_eq_true rfl) (Nat.le_of_ble_eq_true rfl) (fun a0 => ?_)
  show cn_E k 51 [(1, .int 0), (0, .ref (h))] [.ref (a0 0), .int 0, .ref (q0)] ((((([(h, .inr (1, [.ref (q0), .ref (q1), .ref (q2), .int 0, .int 0]))] ++ [(q0, .inl ((cn_g k).2.1 3, 8, .inr (.inr (.inr (.inr (fun _ => none))))))]) ++ [(q1, .inl ((cn_g k).2.1 3, 2, .inr (.inr (.inr (.inr (fun _ => none))))))]) ++ [(q2, .inl ((cn_g k).2.1 0, 2, .inl (fun _ => 0)))]) ++ po_5 (cn_g k) a0) : va_W) 5 29
  refine c_aastW (q0 := 1) (qk := 4) C rfl rfl (vp_in_nI (n := 0) (by decide) (by decide)) dX1_init_51 ?_
  show cn_E k 52 [(1, .int 0), (0, .ref (h))] [] ((((([(h, .inr (1, [.ref (q0), .ref (q1), .ref (q2), .int 0, .int 0]))] ++ [(q0, .inl ((cn_g k).2.1 3, 8, .inr (.inr (.inr (.inr (va_up (fun _ => none) (Int32.toNatClampNeg 0) (some (a0 0))))))))]) ++ [(q1, .inl ((cn_g k).2.1 3, 2, .inr (.inr (.inr (.inr (fun _ => none))))))]) ++ [(q2, .inl ((cn_g k).2.1 0, 2, .inl (fun _ => 0)))]) ++ po_5 (cn_g k) a0) : va_W) 5 29
  refine c_iinc (n := 0) (v := 1) C dX1_init_52 rfl (by decide) (by decide) rfl ?_
  refine c_goto (tgt := 30) C dX1_init_55 (by decide) ?_
  refine c_iload_n (n := 0) C dX1_init_30 rfl rfl ?_
  refine c_aload_n (n := 1) C dX1_init_31 rfl rfl ?_
  refine c_get (q0 := 0) C fd_X1_11 rfl rfl dX1_init_32 ?_
  refine c_alenW (q0 := 1) (v := 8) C rfl (by decide) dX1_init_35 ?_
  refine c_icmp_geF (tgt := 58) C dX1_init_36 (by decide) (by decide) ?_
  refine c_aload_n (n := 1) C dX1_init_39 rfl rfl ?_
  refine c_get (q0 := 0) C fd_X1_11 rfl rfl dX1_init_40 ?_
  refine c_iload_n (n := 0) C dX1_init_43 rfl rfl ?_
  refine c_make C ⟨by decide, wsm_3 (List.mem_of_getElem? (i := 18) rfl), wsm_1 (List.mem_of_getElem? (i := 21) rfl), wsm_1 (List.mem_of_getElem? (i := 22) rfl)⟩ cn_z5 cn_5 (by decide) ⟨Or.inl (by decide +kernel), wsm_3 (List.mem_of_getElem? (i := 10) rfl), wsm_1 (List.mem_of_getElem? (i := 22) rfl), ⟨by decide +kernel, by decide +kernel, by decide +kernel⟩, by decide, wsm_3 (List.mem_of_getElem? (i := 9) rfl), rfl⟩ dX1_init_44 dX1_init_47 dX1_init_48 (Nat.le_of_ble_eq_true rfl) (Nat.le_of_ble_eq_true rfl) (Nat.le_of_ble_eq_true rfl) (fun a1 => ?_)
  show cn_E k 51 [(1, .int 1), (0, .ref (h))] [.ref (a1 0), .int 1, .ref (q0)] (((((([(h, .inr (1, [.ref (q0), .ref (q1), .ref (q2), .int 0, .int 0]))] ++ [(q0, .inl ((cn_g k).2.1 3, 8, .inr (.inr (.inr (.inr (va_up (fun _ => none) (Int32.toNatClampNeg 0) (some (a0 0))))))))]) ++ [(q1, .inl ((cn_g k).2.1 3, 2, .inr (.inr (.inr (.inr (fun _ => none))))))]) ++ [(q2, .inl ((cn_g k).2.1 0, 2, .inl (fun _ => 0)))]) ++ po_5 (cn_g k) a0) ++ po_5 (cn_g k) a1) : va_W) 7 46
  refine c_aastW (q0 := 1) (qk := 6) C rfl rfl (vp_in_nI (n := 1) (by decide) (by decide)) dX1_init_51 ?_
  show cn_E k 52 [(1, .int 1), (0, .ref (h))] [] (((((([(h, .inr (1, [.ref (q0), .ref (q1), .ref (q2), .int 0, .int 0]))] ++ [(q0, .inl ((cn_g k).2.1 3, 8, .inr (.inr (.inr (.inr (va_up (va_up (fun _ => none) (Int32.toNatClampNeg 0) (some (a0 0))) (Int32.toNatClampNeg 1) (some (a1 0))))))))]) ++ [(q1, .inl ((cn_g k).2.1 3, 2, .inr (.inr (.inr (.inr (fun _ => none))))))]) ++ [(q2, .inl ((cn_g k).2.1 0, 2, .inl (fun _ => 0)))]) ++ po_5 (cn_g k) a0) ++ po_5 (cn_g k) a1) : va_W) 7 46
  refine c_iinc (n := 0) (v := 2) C dX1_init_52 rfl (by decide) (by decide) rfl ?_
  refine c_goto (tgt := 30) C dX1_init_55 (by decide) ?_
  refine c_iload_n (n := 0) C dX1_init_30 rfl rfl ?_
  refine c_aload_n (n := 1) C dX1_init_31 rfl rfl ?_
  refine c_get (q0 := 0) C fd_X1_11 rfl rfl dX1_init_32 ?_
  refine c_alenW (q0 := 1) (v := 8) C rfl (by decide) dX1_init_35 ?_
  refine c_icmp_geF (tgt := 58) C dX1_init_36 (by decide) (by decide) ?_
  refine c_aload_n (n := 1) C dX1_init_39 rfl rfl ?_
  refine c_get (q0 := 0) C fd_X1_11 rfl rfl dX1_init_40 ?_
  refine c_iload_n (n := 0) C dX1_init_43 rfl rfl ?_
  refine c_make C ⟨by decide, wsm_3 (List.mem_of_getElem? (i := 18) rfl), wsm_1 (List.mem_of_getElem? (i := 21) rfl), wsm_1 (List.mem_of_getElem? (i := 22) rfl)⟩ cn_z5 cn_5 (by decide) ⟨Or.inl (by decide +kernel), wsm_3 (List.mem_of_getElem? (i := 10) rfl), wsm_1 (List.mem_of_getElem? (i := 22) rfl), ⟨by decide +kernel, by decide +kernel, by decide +kernel⟩, by decide, wsm_3 (List.mem_of_getElem? (i := 9) rfl), rfl⟩ dX1_init_44 dX1_init_47 dX1_init_48 (Nat.le_of_ble_eq_true rfl) (Nat.le_of_ble_eq_true rfl) (Nat.le_of_ble_eq_true rfl) (fun a2 => ?_)
  show cn_E k 51 [(1, .int 2), (0, .ref (h))] [.ref (a2 0), .int 2, .ref (q0)] ((((((([(h, .inr (1, [.ref (q0), .ref (q1), .ref (q2), .int 0, .int 0]))] ++ [(q0, .inl ((cn_g k).2.1 3, 8, .inr (.inr (.inr (.inr (va_up (va_up (fun _ => none) (Int32.toNatClampNeg 0) (some (a0 0))) (Int32.toNatClampNeg 1) (some (a1 0))))))))]) ++ [(q1, .inl ((cn_g k).2.1 3, 2, .inr (.inr (.inr (.inr (fun _ => none))))))]) ++ [(q2, .inl ((cn_g k).2.1 0, 2, .inl (fun _ => 0)))]) ++ po_5 (cn_g k) a0) ++ po_5 (cn_g k) a1) ++ po_5 (cn_g k) a2) : va_W) 9 63
  refine c_aastW (q0 := 1) (qk := 8) C rfl rfl (vp_in_nI (n := 2) (by decide) (by decide)) dX1_init_51 ?_
  show cn_E k 52 [(1, .int 2), (0, .ref (h))] [] ((((((([(h, .inr (1, [.ref (q0), .ref (q1), .ref (q2), .int 0, .int 0]))] ++ [(q0, .inl ((cn_g k).2.1 3, 8, .inr (.inr (.inr (.inr (va_up (va_up (va_up (fun _ => none) (Int32.toNatClampNeg 0) (some (a0 0))) (Int32.toNatClampNeg 1) (some (a1 0))) (Int32.toNatClampNeg 2) (some (a2 0))))))))]) ++ [(q1, .inl ((cn_g k).2.1 3, 2, .inr (.inr (.inr (.inr (fun _ => none))))))]) ++ [(q2, .inl ((cn_g k).2.1 0, 2, .inl (fun _ => 0)))]) ++ po_5 (cn_g k) a0) ++ po_5 (cn_g k) a1) ++ po_5 (cn_g k) a2) : va_W) 9 63
  refine c_iinc (n := 0) (v := 3) C dX1_init_52 rfl (by decide) (by decide) rfl ?_
  refine c_goto (tgt := 30) C dX1_init_55 (by decide) ?_
  refine c_iload_n (n := 0) C dX1_init_30 rfl rfl ?_
  refine c_aload_n (n := 1) C dX1_init_31 rfl rfl ?_
  refine c_get (q0 := 0) C fd_X1_11 rfl rfl dX1_init_32 ?_
  refine c_alenW (q0 := 1) (v := 8) C rfl (by decide) dX1_init_35 ?_
  refine c_icmp_geF (tgt := 58) C dX1_init_36 (by decide) (by decide) ?_
  refine c_aload_n (n := 1) C dX1_init_39 rfl rfl ?_
  refine c_get (q0 := 0) C fd_X1_11 rfl rfl dX1_init_40 ?_
  refine c_iload_n (n := 0) C dX1_init_43 rfl rfl ?_
  refine c_make C ⟨by decide, wsm_3 (List.mem_of_getElem? (i := 18) rfl), wsm_1 (List.mem_of_getElem? (i := 21) rfl), wsm_1 (List.mem_of_getElem? (i := 22) rfl)⟩ cn_z5 cn_5 (by decide) ⟨Or.inl (by decide +kernel), wsm_3 (List.mem_of_getElem? (i := 10) rfl), wsm_1 (List.mem_of_getElem? (i := 22) rfl), ⟨by decide +kernel, by decide +kernel, by decide +kernel⟩, by decide, wsm_3 (List.mem_of_getElem? (i := 9) rfl), rfl⟩ dX1_init_44 dX1_init_47 dX1_init_48 (Nat.le_of_ble_eq_true rfl) (Nat.le_of_ble_eq_true rfl) (Nat.le_of_ble_eq_true rfl) (fun a3 => ?_)
  show cn_E k 51 [(1, .int 3), (0, .ref (h))] [.ref (a3 0), .int 3, .ref (q0)] (((((((([(h, .inr (1, [.ref (q0), .ref (q1), .ref (q2), .int 0, .int 0]))] ++ [(q0, .inl ((cn_g k).2.1 3, 8, .inr (.inr (.inr (.inr (va_up (va_up (va_up (fun _ => none) (Int32.toNatClampNeg 0) (some (a0 0))) (Int32.toNatClampNeg 1) (some (a1 0))) (Int32.toNatClampNeg 2) (some (a2 0))))))))]) ++ [(q1, .inl ((cn_g k).2.1 3, 2, .inr (.inr (.inr (.inr (fun _ => none))))))]) ++ [(q2, .inl ((cn_g k).2.1 0, 2, .inl (fun _ => 0)))]) ++ po_5 (cn_g k) a0) ++ po_5 (cn_g k) a1) ++ po_5 (cn_g k) a2) ++ po_5 (cn_g k) a3) : va_W) 11 80
  refine c_aastW (q0 := 1) (qk := 10) C rfl rfl (vp_in_nI (n := 3) (by decide) (by decide)) dX1_init_51 ?_
  show cn_E k 52 [(1, .int 3), (0, .ref (h))] [] (((((((([(h, .inr (1, [.ref (q0), .ref (q1), .ref (q2), .int 0, .int 0]))] ++ [(q0, .inl ((cn_g k).2.1 3, 8, .inr (.inr (.inr (.inr (va_up (va_up (va_up (va_up (fun _ => none) (Int32.toNatClampNeg 0) (some (a0 0))) (Int32.toNatClampNeg 1) (some (a1 0))) (Int32.toNatClampNeg 2) (some (a2 0))) (Int32.toNatClampNeg 3) (some (a3 0))))))))]) ++ [(q1, .inl ((cn_g k).2.1 3, 2, .inr (.inr (.inr (.inr (fun _ => none))))))]) ++ [(q2, .inl ((cn_g k).2.1 0, 2, .inl (fun _ => 0)))]) ++ po_5 (cn_g k) a0) ++ po_5 (cn_g k) a1) ++ po_5 (cn_g k) a2) ++ po_5 (cn_g k) a3) : va_W) 11 80
  refine c_iinc (n := 0) (v := 4) C dX1_init_52 rfl (by decide) (by decide) rfl ?_
  refine c_goto (tgt := 30) C dX1_init_55 (by decide) ?_
  refine c_iload_n (n := 0) C dX1_init_30 rfl rfl ?_
  refine c_aload_n (n := 1) C dX1_init_31 rfl rfl ?_
  refine c_get (q0 := 0) C fd_X1_11 rfl rfl dX1_init_32 ?_
  refine c_alenW (q0 := 1) (v := 8) C rfl (by decide) dX1_init_35 ?_
  refine c_icmp_geF (tgt := 58) C dX1_init_36 (by decide) (by decide) ?_
  refine c_aload_n (n := 1) C dX1_init_39 rfl rfl ?_
  refine c_get (q0 := 0) C fd_X1_11 rfl rfl dX1_init_40 ?_
  refine c_iload_n (n := 0) C dX1_init_43 rfl rfl ?_
  refine c_make C ⟨by decide, wsm_3 (List.mem_of_getElem? (i := 18) rfl), wsm_1 (List.mem_of_getElem? (i := 21) rfl), wsm_1 (List.mem_of_getElem? (i := 22) rfl)⟩ cn_z5 cn_5 (by decide) ⟨Or.inl (by decide +kernel), wsm_3 (List.mem_of_getElem? (i := 10) rfl), wsm_1 (List.mem_of_getElem? (i := 22) rfl), ⟨by decide +kernel, by decide +kernel, by decide +kernel⟩, by decide, wsm_3 (List.mem_of_getElem? (i := 9) rfl), rfl⟩ dX1_init_44 dX1_init_47 dX1_init_48 (Nat.le_of_ble_eq_true rfl) (Nat.le_of_ble_eq_true rfl) (Nat.le_of_ble_eq_true rfl) (fun a4 => ?_)
  show cn_E k 51 [(1, .int 4), (0, .ref (h))] [.ref (a4 0), .int 4, .ref (q0)] ((((((((([(h, .inr (1, [.ref (q0), .ref (q1), .ref (q2), .int 0, .int 0]))] ++ [(q0, .inl ((cn_g k).2.1 3, 8, .inr (.inr (.inr (.inr (va_up (va_up (va_up (va_up (fun _ => none) (Int32.toNatClampNeg 0) (some (a0 0))) (Int32.toNatClampNeg 1) (some (a1 0))) (Int32.toNatClampNeg 2) (some (a2 0))) (Int32.toNatClampNeg 3) (some (a3 0))))))))]) ++ [(q1, .inl ((cn_g k).2.1 3, 2, .inr (.inr (.inr (.inr (fun _ => none))))))]) ++ [(q2, .inl ((cn_g k).2.1 0, 2, .inl (fun _ => 0)))]) ++ po_5 (cn_g k) a0) ++ po_5 (cn_g k) a1) ++ po_5 (cn_g k) a2) ++ po_5 (cn_g k) a3) ++ po_5 (cn_g k) a4) : va_W) 13 97
  refine c_aastW (q0 := 1) (qk := 12) C rfl rfl (vp_in_nI (n := 4) (by decide) (by decide)) dX1_init_51 ?_
  show cn_E k 52 [(1, .int 4), (0, .ref (h))] [] ((((((((([(h, .inr (1, [.ref (q0), .ref (q1), .ref (q2), .int 0, .int 0]))] ++ [(q0, .inl ((cn_g k).2.1 3, 8, .inr (.inr (.inr (.inr (va_up (va_up (va_up (va_up (va_up (fun _ => none) (Int32.toNatClampNeg 0) (some (a0 0))) (Int32.toNatClampNeg 1) (some (a1 0))) (Int32.toNatClampNeg 2) (some (a2 0))) (Int32.toNatClampNeg 3) (some (a3 0))) (Int32.toNatClampNeg 4) (some (a4 0))))))))]) ++ [(q1, .inl ((cn_g k).2.1 3, 2, .inr (.inr (.inr (.inr (fun _ => none))))))]) ++ [(q2, .inl ((cn_g k).2.1 0, 2, .inl (fun _ => 0)))]) ++ po_5 (cn_g k) a0) ++ po_5 (cn_g k) a1) ++ po_5 (cn_g k) a2) ++ po_5 (cn_g k) a3) ++ po_5 (cn_g k) a4) : va_W) 13 97
  refine c_iinc (n := 0) (v := 5) C dX1_init_52 rfl (by decide) (by decide) rfl ?_
  refine c_goto (tgt := 30) C dX1_init_55 (by decide) ?_
  refine c_iload_n (n := 0) C dX1_init_30 rfl rfl ?_
  refine c_aload_n (n := 1) C dX1_init_31 rfl rfl ?_
  refine c_get (q0 := 0) C fd_X1_11 rfl rfl dX1_init_32 ?_
  refine c_alenW (q0 := 1) (v := 8) C rfl (by decide) dX1_init_35 ?_
  refine c_icmp_geF (tgt := 58) C dX1_init_36 (by decide) (by decide) ?_
  refine c_aload_n (n := 1) C dX1_init_39 rfl rfl ?_
  refine c_get (q0 := 0) C fd_X1_11 rfl rfl dX1_init_40 ?_
  refine c_iload_n (n := 0) C dX1_init_43 rfl rfl ?_
  refine c_make C ⟨by decide, wsm_3 (List.mem_of_getElem? (i := 18) rfl), wsm_1 (List.mem_of_getElem? (i := 21) rfl), wsm_1 (List.mem_of_getElem? (i := 22) rfl)⟩ cn_z5 cn_5 (by decide) ⟨Or.inl (by decide +kernel), wsm_3 (List.mem_of_getElem? (i := 10) rfl), wsm_1 (List.mem_of_getElem? (i := 22) rfl), ⟨by decide +kernel, by decide +kernel, by decide +kernel⟩, by decide, wsm_3 (List.mem_of_getElem? (i := 9) rfl), rfl⟩ dX1_init_44 dX1_init_47 dX1_init_48 (Nat.le_of_ble_eq_true rfl) (Nat.le_of_ble_eq_true rfl) (Nat.le_of_ble_eq_true rfl) (fun a5 => ?_)
  show cn_E k 51 [(1, .int 5), (0, .ref (h))] [.ref (a5 0), .int 5, .ref (q0)] (((((((((([(h, .inr (1, [.ref (q0), .ref (q1), .ref (q2), .int 0, .int 0]))] ++ [(q0, .inl ((cn_g k).2.1 3, 8, .inr (.inr (.inr (.inr (va_up (va_up (va_up (va_up (va_up (fun _ => none) (Int32.toNatClampNeg 0) (some (a0 0))) (Int32.toNatClampNeg 1) (some (a1 0))) (Int32.toNatClampNeg 2) (some (a2 0))) (Int32.toNatClampNeg 3) (some (a3 0))) (Int32.toNatClampNeg 4) (some (a4 0))))))))]) ++ [(q1, .inl ((cn_g k).2.1 3, 2, .inr (.inr (.inr (.inr (fun _ => none))))))]) ++ [(q2, .inl ((cn_g k).2.1 0, 2, .inl (fun _ => 0)))]) ++ po_5 (cn_g k) a0) ++ po_5 (cn_g k) a1) ++ po_5 (cn_g k) a2) ++ po_5 (cn_g k) a3) ++ po_5 (cn_g k) a4) ++ po_5 (cn_g k) a5) : va_W) 15 114
  refine c_aastW (q0 := 1) (qk := 14) C rfl rfl (vp_in_nI (n := 5) (by decide) (by decide)) dX1_init_51 ?_
  show cn_E k 52 [(1, .int 5), (0, .ref (h))] [] (((((((((([(h, .inr (1, [.ref (q0), .ref (q1), .ref (q2), .int 0, .int 0]))] ++ [(q0, .inl ((cn_g k).2.1 3, 8, .inr (.inr (.inr (.inr (va_up (va_up (va_up (va_up (va_up (va_up (fun _ => none) (Int32.toNatClampNeg 0) (some (a0 0))) (Int32.toNatClampNeg 1) (some (a1 0))) (Int32.toNatClampNeg 2) (some (a2 0))) (Int32.toNatClampNeg 3) (some (a3 0))) (Int32.toNatClampNeg 4) (some (a4 0))) (Int32.toNatClampNeg 5) (some (a5 0))))))))]) ++ [(q1, .inl ((cn_g k).2.1 3, 2, .inr (.inr (.inr (.inr (fun _ => none))))))]) ++ [(q2, .inl ((cn_g k).2.1 0, 2, .inl (fun _ => 0)))]) ++ po_5 (cn_g k) a0) ++ po_5 (cn_g k) a1) ++ po_5 (cn_g k) a2) ++ po_5 (cn_g k) a3) ++ po_5 (cn_g k) a4) ++ po_5 (cn_g k) a5) : va_W) 15 114
  refine c_iinc (n := 0) (v := 6) C dX1_init_52 rfl (by decide) (by decide) rfl ?_
  refine c_goto (tgt := 30) C dX1_init_55 (by decide) ?_
  refine c_iload_n (n := 0) C dX1_init_30 rfl rfl ?_
  refine c_aload_n (n := 1) C dX1_init_31 rfl rfl ?_
  refine c_get (q0 := 0) C fd_X1_11 rfl rfl dX1_init_32 ?_
  refine c_alenW (q0 := 1) (v := 8) C rfl (by decide) dX1_init_35 ?_
  refine c_icmp_geF (tgt := 58) C dX1_init_36 (by decide) (by decide) ?_
  refine c_aload_n (n := 1) C dX1_init_39 rfl rfl ?_
  refine c_get (q0 := 0) C fd_X1_11 rfl rfl dX1_init_40 ?_
  refine c_iload_n (n := 0) C dX1_init_43 rfl rfl ?_
  refine c_make C ⟨by decide, wsm_3 (List.mem_of_getElem? (i := 18) rfl), wsm_1 (List.mem_of_getElem? (i := 21) rfl), wsm_1 (List.mem_of_getElem? (i := 22) rfl)⟩ cn_z5 cn_5 (by decide) ⟨Or.inl (by decide +kernel), wsm_3 (List.mem_of_getElem? (i := 10) rfl), wsm_1 (List.mem_of_getElem? (i := 22) rfl), ⟨by decide +kernel, by decide +kernel, by decide +kernel⟩, by decide, wsm_3 (List.mem_of_getElem? (i := 9) rfl), rfl⟩ dX1_init_44 dX1_init_47 dX1_init_48 (Nat.le_of_ble_eq_true rfl) (Nat.le_of_ble_eq_true rfl) (Nat.le_of_ble_eq_true rfl) (fun a6 => ?_)
  show cn_E k 51 [(1, .int 6), (0, .ref (h))] [.ref (a6 0), .int 6, .ref (q0)] ((((((((((([(h, .inr (1, [.ref (q0), .ref (q1), .ref (q2), .int 0, .int 0]))] ++ [(q0, .inl ((cn_g k).2.1 3, 8, .inr (.inr (.inr (.inr (va_up (va_up (va_up (va_up (va_up (va_up (fun _ => none) (Int32.toNatClampNeg 0) (some (a0 0))) (Int32.toNatClampNeg 1) (some (a1 0))) (Int32.toNatClampNeg 2) (some (a2 0))) (Int32.toNatClampNeg 3) (some (a3 0))) (Int32.toNatClampNeg 4) (some (a4 0))) (Int32.toNatClampNeg 5) (some (a5 0))))))))]) ++ [(q1, .inl ((cn_g k).2.1 3, 2, .inr (.inr (.inr (.inr (fun _ => none))))))]) ++ [(q2, .inl ((cn_g k).2.1 0, 2, .inl (fun _ => 0)))]) ++ po_5 (cn_g k) a0) ++ po_5 (cn_g k) a1) ++ po_5 (cn_g k) a2) ++ po_5 (cn_g k) a3) ++ po_5 (cn_g k) a4) ++ po_5 (cn_g k) a5) ++ po_5 (cn_g k) a6) : va_W) 17 131
  refine c_aastW (q0 := 1) (qk := 16) C rfl rfl (vp_in_nI (n := 6) (by decide) (by decide)) dX1_init_51 ?_
  show cn_E k 52 [(1, .int 6), (0, .ref (h))] [] ((((((((((([(h, .inr (1, [.ref (q0), .ref (q1), .ref (q2), .int 0, .int 0]))] ++ [(q0, .inl ((cn_g k).2.1 3, 8, .inr (.inr (.inr (.inr (va_up (va_up (va_up (va_up (va_up (va_up (va_up (fun _ => none) (Int32.toNatClampNeg 0) (some (a0 0))) (Int32.toNatClampNeg 1) (some (a1 0))) (Int32.toNatClampNeg 2) (some (a2 0))) (Int32.toNatClampNeg 3) (some (a3 0))) (Int32.toNatClampNeg 4) (some (a4 0))) (Int32.toNatClampNeg 5) (some (a5 0))) (Int32.toNatClampNeg 6) (some (a6 0))))))))]) ++ [(q1, .inl ((cn_g k).2.1 3, 2, .inr (.inr (.inr (.inr (fun _ => none))))))]) ++ [(q2, .inl ((cn_g k).2.1 0, 2, .inl (fun _ => 0)))]) ++ po_5 (cn_g k) a0) ++ po_5 (cn_g k) a1) ++ po_5 (cn_g k) a2) ++ po_5 (cn_g k) a3) ++ po_5 (cn_g k) a4) ++ po_5 (cn_g k) a5) ++ po_5 (cn_g k) a6) : va_W) 17 131
  refine c_iinc (n := 0) (v := 7) C dX1_init_52 rfl (by decide) (by decide) rfl ?_
  refine c_goto (tgt := 30) C dX1_init_55 (by decide) ?_
  refine c_iload_n (n := 0) C dX1_init_30 rfl rfl ?_
  refine c_aload_n (n := 1) C dX1_init_31 rfl rfl ?_
  refine c_get (q0 := 0) C fd_X1_11 rfl rfl dX1_init_32 ?_
  refine c_alenW (q0 := 1) (v := 8) C rfl (by decide) dX1_init_35 ?_
  refine c_icmp_geF (tgt := 58) C dX1_init_36 (by decide) (by decide) ?_
  refine c_aload_n (n := 1) C dX1_init_39 rfl rfl ?_
  refine c_get (q0 := 0) C fd_X1_11 rfl rfl dX1_init_40 ?_
  refine c_iload_n (n := 0) C dX1_init_43 rfl rfl ?_
  refine c_make C ⟨by decide, wsm_3 (List.mem_of_getElem? (i := 18) rfl), wsm_1 (List.mem_of_getElem? (i := 21) rfl), wsm_1 (List.mem_of_getElem? (i := 22) rfl)⟩ cn_z5 cn_5 (by decide) ⟨Or.inl (by decide +kernel), wsm_3 (List.mem_of_getElem? (i := 10) rfl), wsm_1 (List.mem_of_getElem? (i := 22) rfl), ⟨by decide +kernel, by decide +kernel, by decide +kernel⟩, by decide, wsm_3 (List.mem_of_getElem? (i := 9) rfl), rfl⟩ dX1_init_44 dX1_init_47 dX1_init_48 (Nat.le_of_ble_eq_true rfl) (Nat.le_of_ble_eq_true rfl) (Nat.le_of_ble_eq_true rfl) (fun a7 => ?_)
  show cn_E k 51 [(1, .int 7), (0, .ref (h))] [.ref (a7 0), .int 7, .ref (q0)] (((((((((((([(h, .inr (1, [.ref (q0), .ref (q1), .ref (q2), .int 0, .int 0]))] ++ [(q0, .inl ((cn_g k).2.1 3, 8, .inr (.inr (.inr (.inr (va_up (va_up (va_up (va_up (va_up (va_up (va_up (fun _ => none) (Int32.toNatClampNeg 0) (some (a0 0))) (Int32.toNatClampNeg 1) (some (a1 0))) (Int32.toNatClampNeg 2) (some (a2 0))) (Int32.toNatClampNeg 3) (some (a3 0))) (Int32.toNatClampNeg 4) (some (a4 0))) (Int32.toNatClampNeg 5) (some (a5 0))) (Int32.toNatClampNeg 6) (some (a6 0))))))))]) ++ [(q1, .inl ((cn_g k).2.1 3, 2, .inr (.inr (.inr (.inr (fun _ => none))))))]) ++ [(q2, .inl ((cn_g k).2.1 0, 2, .inl (fun _ => 0)))]) ++ po_5 (cn_g k) a0) ++ po_5 (cn_g k) a1) ++ po_5 (cn_g k) a2) ++ po_5 (cn_g k) a3) ++ po_5 (cn_g k) a4) ++ po_5 (cn_g k) a5) ++ po_5 (cn_g k) a6) ++ po_5 (cn_g k) a7) : va_W) 19 148
  refine c_aastW (q0 := 1) (qk := 18) C rfl rfl (vp_in_nI (n := 7) (by decide) (by decide)) dX1_init_51 ?_
  show cn_E k 52 [(1, .int 7), (0, .ref (h))] [] (((((((((((([(h, .inr (1, [.ref (q0), .ref (q1), .ref (q2), .int 0, .int 0]))] ++ [(q0, .inl ((cn_g k).2.1 3, 8, .inr (.inr (.inr (.inr (va_up (va_up (va_up (va_up (va_up (va_up (va_up (va_up (fun _ => none) (Int32.toNatClampNeg 0) (some (a0 0))) (Int32.toNatClampNeg 1) (some (a1 0))) (Int32.toNatClampNeg 2) (some (a2 0))) (Int32.toNatClampNeg 3) (some (a3 0))) (Int32.toNatClampNeg 4) (some (a4 0))) (Int32.toNatClampNeg 5) (some (a5 0))) (Int32.toNatClampNeg 6) (some (a6 0))) (Int32.toNatClampNeg 7) (some (a7 0))))))))]) ++ [(q1, .inl ((cn_g k).2.1 3, 2, .inr (.inr (.inr (.inr (fun _ => none))))))]) ++ [(q2, .inl ((cn_g k).2.1 0, 2, .inl (fun _ => 0)))]) ++ po_5 (cn_g k) a0) ++ po_5 (cn_g k) a1) ++ po_5 (cn_g k) a2) ++ po_5 (cn_g k) a3) ++ po_5 (cn_g k) a4) ++ po_5 (cn_g k) a5) ++ po_5 (cn_g k) a6) ++ po_5 (cn_g k) a7) : va_W) 19 148
  refine c_iinc (n := 0) (v := 8) C dX1_init_52 rfl (by decide) (by decide) rfl ?_
  refine c_goto (tgt := 30) C dX1_init_55 (by decide) ?_
  refine c_iload_n (n := 0) C dX1_init_30 rfl rfl ?_
  refine c_aload_n (n := 1) C dX1_init_31 rfl rfl ?_
  refine c_get (q0 := 0) C fd_X1_11 rfl rfl dX1_init_32 ?_
  refine c_alenW (q0 := 1) (v := 8) C rfl (by decide) dX1_init_35 ?_
  refine c_icmp_geT (tgt := 58) C dX1_init_36 (by decide) (by decide) ?_
  refine c_iconst (v := 0) C dX1_init_58 (by decide) ?_
  refine c_istore_n C dX1_init_59 rfl (by decide) rfl ?_
  refine c_iload_n (n := 0) C dX1_init_60 rfl rfl ?_
  refine c_aload_n (n := 1) C dX1_init_61 rfl rfl ?_
  refine c_get (q0 := 0) C fd_X1_17 rfl rfl dX1_init_62 ?_
  refine c_alenW (q0 := 2) (v := 2) C rfl (by decide) dX1_init_65 ?_
  refine c_icmp_geF (tgt := 88) C dX1_init_66 (by decide) (by decide) ?_
  refine c_aload_n (n := 1) C dX1_init_69 rfl rfl ?_
  refine c_get (q0 := 0) C fd_X1_17 rfl rfl dX1_init_70 ?_
  refine c_iload_n (n := 0) C dX1_init_73 rfl rfl ?_
  refine c_make C ⟨by decide, wsm_3 (List.mem_of_getElem? (i := 18) rfl), wsm_1 (List.mem_of_getElem? (i := 21) rfl), wsm_1 (List.mem_of_getElem? (i := 22) rfl)⟩ cn_z5 cn_5 (by decide) ⟨Or.inl (by decide +kernel), wsm_3 (List.mem_of_getElem? (i := 10) rfl), wsm_1 (List.mem_of_getElem? (i := 22) rfl), ⟨by decide +kernel, by decide +kernel, by decide +kernel⟩, by decide, wsm_3 (List.mem_of_getElem? (i := 9) rfl), rfl⟩ dX1_init_74 dX1_init_77 dX1_init_78 (Nat.le_of_ble_eq_true rfl) (Nat.le_of_ble_eq_true rfl) (Nat.le_of_ble_eq_true rfl) (fun a8 => ?_)
  show cn_E k 81 [(1, .int 0), (0, .ref (h))] [.ref (a8 0), .int 0, .ref (q1)] ((((((((((((([(h, .inr (1, [.ref (q0), .ref (q1), .ref (q2), .int 0, .int 0]))] ++ [(q0, .inl ((cn_g k).2.1 3, 8, .inr (.inr (.inr (.inr (va_up (va_up (va_up (va_up (va_up (va_up (va_up (va_up (fun _ => none) (Int32.toNatClampNeg 0) (some (a0 0))) (Int32.toNatClampNeg 1) (some (a1 0))) (Int32.toNatClampNeg 2) (some (a2 0))) (Int32.toNatClampNeg 3) (some (a3 0))) (Int32.toNatClampNeg 4) (some (a4 0))) (Int32.toNatClampNeg 5) (some (a5 0))) (Int32.toNatClampNeg 6) (some (a6 0))) (Int32.toNatClampNeg 7) (some (a7 0))))))))]) ++ [(q1, .inl ((cn_g k).2.1 3, 2, .inr (.inr (.inr (.inr (fun _ => none))))))]) ++ [(q2, .inl ((cn_g k).2.1 0, 2, .inl (fun _ => 0)))]) ++ po_5 (cn_g k) a0) ++ po_5 (cn_g k) a1) ++ po_5 (cn_g k) a2) ++ po_5 (cn_g k) a3) ++ po_5 (cn_g k) a4) ++ po_5 (cn_g k) a5) ++ po_5 (cn_g k) a6) ++ po_5 (cn_g k) a7) ++ po_5 (cn_g k) a8) : va_W) 21 165
  refine c_aastW (q0 := 2) (qk := 20) C rfl rfl (vp_in_nI (n := 0) (by decide) (by decide)) dX1_init_81 ?_
  show cn_E k 82 [(1, .int 0), (0, .ref (h))] [] ((((((((((((([(h, .inr (1, [.ref (q0), .ref (q1), .ref (q2), .int 0, .int 0]))] ++ [(q0, .inl ((cn_g k).2.1 3, 8, .inr (.inr (.inr (.inr (va_up (va_up (va_up (va_up (va_up (va_up (va_up (va_up (fun _ => none) (Int32.toNatClampNeg 0) (some (a0 0))) (Int32.toNatClampNeg 1) (some (a1 0))) (Int32.toNatClampNeg 2) (some (a2 0))) (Int32.toNatClampNeg 3) (some (a3 0))) (Int32.toNatClampNeg 4) (some (a4 0))) (Int32.toNatClampNeg 5) (some (a5 0))) (Int32.toNatClampNeg 6) (some (a6 0))) (Int32.toNatClampNeg 7) (some (a7 0))))))))]) ++ [(q1, .inl ((cn_g k).2.1 3, 2, .inr (.inr (.inr (.inr (va_up (fun _ => none) (Int32.toNatClampNeg 0) (some (a8 0))))))))]) ++ [(q2, .inl ((cn_g k).2.1 0, 2, .inl (fun _ => 0)))]) ++ po_5 (cn_g k) a0) ++ po_5 (cn_g k) a1) ++ po_5 (cn_g k) a2) ++ po_5 (cn_g k) a3) ++ po_5 (cn_g k) a4) ++ po_5 (cn_g k) a5) ++ po_5 (cn_g k) a6) ++ po_5 (cn_g k) a7) ++ po_5 (cn_g k) a8) : va_W) 21 165
  refine c_iinc (n := 0) (v := 1) C dX1_init_82 rfl (by decide) (by decide) rfl ?_
  refine c_goto (tgt := 60) C dX1_init_85 (by decide) ?_
  refine c_iload_n (n := 0) C dX1_init_60 rfl rfl ?_
  refine c_aload_n (n := 1) C dX1_init_61 rfl rfl ?_
  refine c_get (q0 := 0) C fd_X1_17 rfl rfl dX1_init_62 ?_
  refine c_alenW (q0 := 2) (v := 2) C rfl (by decide) dX1_init_65 ?_
  refine c_icmp_geF (tgt := 88) C dX1_init_66 (by decide) (by decide) ?_
  refine c_aload_n (n := 1) C dX1_init_69 rfl rfl ?_
  refine c_get (q0 := 0) C fd_X1_17 rfl rfl dX1_init_70 ?_
  refine c_iload_n (n := 0) C dX1_init_73 rfl rfl ?_
  refine c_make C ⟨by decide, wsm_3 (List.mem_of_getElem? (i := 18) rfl), wsm_1 (List.mem_of_getElem? (i := 21) rfl), wsm_1 (List.mem_of_getElem? (i := 22) rfl)⟩ cn_z5 cn_5 (by decide) ⟨Or.inl (by decide +kernel), wsm_3 (List.mem_of_getElem? (i := 10) rfl), wsm_1 (List.mem_of_getElem? (i := 22) rfl), ⟨by decide +kernel, by decide +kernel, by decide +kernel⟩, by decide, wsm_3 (List.mem_of_getElem? (i := 9) rfl), rfl⟩ dX1_init_74 dX1_init_77 dX1_init_78 (Nat.le_of_ble_eq_true rfl) (Nat.le_of_ble_eq_true rfl) (Nat.le_of_ble_eq_true rfl) (fun a9 => ?_)
  show cn_E k 81 [(1, .int 1), (0, .ref (h))] [.ref (a9 0), .int 1, .ref (q1)] (((((((((((((([(h, .inr (1, [.ref (q0), .ref (q1), .ref (q2), .int 0, .int 0]))] ++ [(q0, .inl ((cn_g k).2.1 3, 8, .inr (.inr (.inr (.inr (va_up (va_up (va_up (va_up (va_up (va_up (va_up (va_up (fun _ => none) (Int32.toNatClampNeg 0) (some (a0 0))) (Int32.toNatClampNeg 1) (some (a1 0))) (Int32.toNatClampNeg 2) (some (a2 0))) (Int32.toNatClampNeg 3) (some (a3 0))) (Int32.toNatClampNeg 4) (some (a4 0))) (Int32.toNatClampNeg 5) (some (a5 0))) (Int32.toNatClampNeg 6) (some (a6 0))) (Int32.toNatClampNeg 7) (some (a7 0))))))))]) ++ [(q1, .inl ((cn_g k).2.1 3, 2, .inr (.inr (.inr (.inr (va_up (fun _ => none) (Int32.toNatClampNeg 0) (some (a8 0))))))))]) ++ [(q2, .inl ((cn_g k).2.1 0, 2, .inl (fun _ => 0)))]) ++ po_5 (cn_g k) a0) ++ po_5 (cn_g k) a1) ++ po_5 (cn_g k) a2) ++ po_5 (cn_g k) a3) ++ po_5 (cn_g k) a4) ++ po_5 (cn_g k) a5) ++ po_5 (cn_g k) a6) ++ po_5 (cn_g k) a7) ++ po_5 (cn_g k) a8) ++ po_5 (cn_g k) a9) : va_W) 23 182
  refine c_aastW (q0 := 2) (qk := 22) C rfl rfl (vp_in_nI (n := 1) (by decide) (by decide)) dX1_init_81 ?_
  show cn_E k 82 [(1, .int 1), (0, .ref (h))] [] (((((((((((((([(h, .inr (1, [.ref (q0), .ref (q1), .ref (q2), .int 0, .int 0]))] ++ [(q0, .inl ((cn_g k).2.1 3, 8, .inr (.inr (.inr (.inr (va_up (va_up (va_up (va_up (va_up (va_up (va_up (va_up (fun _ => none) (Int32.toNatClampNeg 0) (some (a0 0))) (Int32.toNatClampNeg 1) (some (a1 0))) (Int32.toNatClampNeg 2) (some (a2 0))) (Int32.toNatClampNeg 3) (some (a3 0))) (Int32.toNatClampNeg 4) (some (a4 0))) (Int32.toNatClampNeg 5) (some (a5 0))) (Int32.toNatClampNeg 6) (some (a6 0))) (Int32.toNatClampNeg 7) (some (a7 0))))))))]) ++ [(q1, .inl ((cn_g k).2.1 3, 2, .inr (.inr (.inr (.inr (va_up (va_up (fun _ => none) (Int32.toNatClampNeg 0) (some (a8 0))) (Int32.toNatClampNeg 1) (some (a9 0))))))))]) ++ [(q2, .inl ((cn_g k).2.1 0, 2, .inl (fun _ => 0)))]) ++ po_5 (cn_g k) a0) ++ po_5 (cn_g k) a1) ++ po_5 (cn_g k) a2) ++ po_5 (cn_g k) a3) ++ po_5 (cn_g k) a4) ++ po_5 (cn_g k) a5) ++ po_5 (cn_g k) a6) ++ po_5 (cn_g k) a7) ++ po_5 (cn_g k) a8) ++ po_5 (cn_g k) a9) : va_W) 23 182
  refine c_iinc (n := 0) (v := 2) C dX1_init_82 rfl (by decide) (by decide) rfl ?_
  refine c_goto (tgt := 60) C dX1_init_85 (by decide) ?_
  refine c_iload_n (n := 0) C dX1_init_60 rfl rfl ?_
  refine c_aload_n (n := 1) C dX1_init_61 rfl rfl ?_
  refine c_get (q0 := 0) C fd_X1_17 rfl rfl dX1_init_62 ?_
  refine c_alenW (q0 := 2) (v := 2) C rfl (by decide) dX1_init_65 ?_
  refine c_icmp_geT (tgt := 88) C dX1_init_66 (by decide) (by decide) ?_
  refine c_fixQ (q0 := 1) C (fun i => some (([h, q0, q1, q2, a0 0, a0 1, a1 0, a1 1, a2 0, a2 1, a3 0, a3 1, a4 0, a4 1, a5 0, a5 1, a6 0, a6 1, a7 0, a7 1, a8 0, a8 1, a9 0, a9 1] : List Nat).getD (4 + 2 * i) 0)) rfl (fun j hj => by rcases (show j = 0 ∨ j = 1 ∨ j = 2 ∨ j = 3 ∨ j = 4 ∨ j = 5 ∨ j = 6 ∨ j = 7 by omega) with rfl | rfl | rfl | rfl | rfl | rfl | rfl | rfl <;> rfl) ?_
  refine c_fixQ (q0 := 2) C (fun i => some (([h, q0, q1, q2, a0 0, a0 1, a1 0, a1 1, a2 0, a2 1, a3 0, a3 1, a4 0, a4 1, a5 0, a5 1, a6 0, a6 1, a7 0, a7 1, a8 0, a8 1, a9 0, a9 1] : List Nat).getD (20 + 2 * i) 0)) rfl (fun j hj => by rcases (show j = 0 ∨ j = 1 by omega) with rfl | rfl <;> rfl) ?_
  exact c_vret C X (fun j => ([h, q0, q1, q2, a0 0, a0 1, a1 0, a1 1, a2 0, a2 1, a3 0, a3 1, a4 0, a4 1, a5 0, a5 1, a6 0, a6 1, a7 0, a7 1, a8 0, a8 1, a9 0, a9 1] : List Nat).getD j 0) rfl rfl dX1_init_88
