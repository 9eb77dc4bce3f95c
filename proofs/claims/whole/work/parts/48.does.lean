/-! ===== does ===== -/
/-- the model's wall is this one -/
def RV (V N : ea_M) (ns nc : Nat) : Prop := N 61 1 = nI ns ∧ N 61 6 = nI nc ∧ (∀ j, j < 42 → N 65 j = V 1 j) ∧ (∀ j, j < 6 → N 66 j = V 2 j) ∧ (∀ j, j < 6 → N 63 j = V 3 j) ∧ (∀ j, j < 6 → N 64 j = V 4 j) ∧ (∀ j, j < 10 → N 67 j = V 5 j) ∧ (∀ j, j < 10 → N 62 j = V 8 j) ∧ N 62 10 = V 7 1 ∧ N 62 11 = V 7 2 ∧ N 62 12 = V 7 3
def df (N N' : ea_M) : Prop := (∀ a, a ≠ 61 → (a < 62 ∨ 67 < a) → N' a = N a) ∧ (∀ j, j ≠ 1 → j ≠ 6 → N' 61 j = N 61 j) ∧ ∀ j, 13 ≤ j → N' 62 j = N 62 j
theorem do_0 {N V : ea_M} {L : Nat → Int32} {n q ns nc : Nat} {a0 a1 : Int32} (hV : RV V N ns nc) (h0 : N 76 0 = a0) : ∃ N', ea_Sp 0 yX7_does cX7_does 3 none [.ref 61, .int 0] N none N' ∧ RV (ef_V V L n 0 a0 a1 q ns nc) N' 0 0 ∧ df N N' := by
  refine ⟨ea_up (ea_up (ea_up (ea_up (ea_up N 61 1 (0 : Int32)) 61 6 (0 : Int32)) 62 10 (0 : Int32)) 62 11 (0 : Int32)) 62 12 (N 76 0), ?_, ?_, ?_⟩
  · refine ea_intro (own := RX7) (by decide +kernel) rfl (fun g => Nat.le_of_ble_eq_true rfl) (fun k C X => ?_)
    have w0 : (0 : Int32) = 0 := rfl
    refine km_does C X  (fun _ => ⟨rfl, rfl⟩) (fun c _ => absurd w0 c) (fun c _ => absurd w0 c) (fun c _ => absurd w0 c) (fun c _ => absurd w0 c) (fun c _ => absurd w0 c) (fun c _ _ => absurd w0 c) (fun c _ _ _ => absurd w0 c) (fun c _ _ _ => absurd w0 c) (fun c _ _ _ => absurd w0 c)
  · obtain ⟨-, -, r3, r4, r5, r6, r7, r8, -, -, -⟩ := hV
    have e : ∀ b, b ≠ 0 → b ≠ 7 → ef_V V L n 0 a0 a1 q ns nc b = V b := fun b z1 z2 => fr_X4_clear z1 z2
    refine ⟨by simp [pa_up, nI_0], by simp [pa_up, nI_0], fun j hj => ?_, fun j hj => ?_, fun j hj => ?_, fun j hj => ?_, fun j hj => ?_, fun j hj => ?_, ?_, ?_, ?_⟩
    · rw [e 1 (by decide) (by decide), ← r3 j hj]; simp [ea_upR]
    · rw [e 2 (by decide) (by decide), ← r4 j hj]; simp [ea_upR]
    · rw [e 3 (by decide) (by decide), ← r5 j hj]; simp [ea_upR]
    · rw [e 4 (by decide) (by decide), ← r6 j hj]; simp [ea_upR]
    · rw [e 5 (by decide) (by decide), ← r7 j hj]; simp [ea_upR]
    · rw [e 8 (by decide) (by decide), ← r8 j hj]
      simp only [pa_up, if_true, if_neg (show ¬ 62 = 61 by decide)]
      rw [if_neg (by omega), if_neg (by omega), if_neg (by omega)]
    · show _ = g_X4_clear V 0 a0 7 1
      simp [pa_up, g_X4_clear]
    · show _ = g_X4_clear V 0 a0 7 2
      simp [pa_up, g_X4_clear]
    · show _ = g_X4_clear V 0 a0 7 3
      simp [pa_up, g_X4_clear, h0]
  · refine ⟨fun a z1 z2 => ?_, fun j z1 z2 => ?_, fun j z => ?_⟩
    · rw [ea_upR (by omega), ea_upR (by omega), ea_upR (by omega), ea_upR z1, ea_upR z1]
    · rw [ea_upR (by decide), ea_upR (by decide), ea_upR (by decide), ea_upK z2, ea_upK z1]
    · rw [ea_upK (by omega), ea_upK (by omega), ea_upK (by omega), ea_upR (by decide), ea_upR (by decide)]
theorem do_3 {N V : ea_M} {L : Nat → Int32} {n q ns nc : Nat} {a0 a1 : Int32} (hV : RV V N ns nc) (h0 : N 76 0 = a0) (h1 : N 76 1 = a1) : ∃ N', ea_Sp 0 yX7_does cX7_does 3 none [.ref 61, .int 3] N none N' ∧ RV (ef_V V L n 3 a0 a1 q ns nc) N' ns nc ∧ df N N' := by
  refine ⟨ea_up (ea_up N 62 10 (N 76 0)) 62 11 (N 76 1), ?_, ?_, ?_⟩
  · refine ea_intro (own := RX7) (by decide +kernel) rfl (fun g => Nat.le_of_ble_eq_true rfl) (fun k C X => ?_)
    have w0 : ¬ (3 : Int32) = 0 := by decide
    have w1 : ¬ (3 : Int32) = 1 := by decide
    have w2 : ¬ (3 : Int32) = 2 := by decide
    have w3 : (3 : Int32) = 3 := rfl
    refine km_does C X  (fun c => absurd c w0) (fun _ c => absurd c w1) (fun _ c => absurd c w1) (fun _ c => absurd c w1) (fun _ c => absurd c w1) (fun _ c => absurd c w1) (fun _ _ c => absurd c w2) (fun _ _ _ _ => ⟨rfl, rfl⟩) (fun _ _ _ c => absurd w3 c) (fun _ _ _ c => absurd w3 c)
  · obtain ⟨r1, r2, r3, r4, r5, r6, r7, r8, r9, r10, r11⟩ := hV
    have e : ∀ b, b ≠ 7 → ef_V V L n 3 a0 a1 q ns nc b = V b := fun b z => by
      show ea_up (ea_up V 7 1 a0) 7 2 a1 b = V b
      rw [ea_upR z, ea_upR z]
    have e7 : ef_V V L n 3 a0 a1 q ns nc 7 = ea_up (ea_up V 7 1 a0) 7 2 a1 7 := rfl
    have f : ∀ b, b ≠ 62 → ea_up (ea_up N 62 10 (N 76 0)) 62 11 (N 76 1) b = N b := fun b z => by rw [ea_upR z, ea_upR z]
    refine ⟨by rw [f 61 (by decide)]; exact r1, by rw [f 61 (by decide)]; exact r2, by rw [f 65 (by decide), e 1 (by decide)]; exact r3, by rw [f 66 (by decide), e 2 (by decide)]; exact r4, by rw [f 63 (by decide), e 3 (by decide)]; exact r5, by rw [f 64 (by decide), e 4 (by decide)]; exact r6, by rw [f 67 (by decide), e 5 (by decide)]; exact r7, fun j hj => ?_, ?_, ?_, ?_⟩
    · rw [ea_upK (by omega), ea_upK (by omega), e 8 (by decide)]
      exact r8 j hj
    · rw [e7]; simp [pa_up, h0]
    · rw [e7]; simp [pa_up, h1]
    · rw [e7]; simp [pa_up, r11]
  · refine ⟨fun a z1 z2 => ?_, fun j z1 z2 => ?_, fun j z => ?_⟩
    · rw [ea_upR (by omega), ea_upR (by omega)]
    · rw [ea_upR (by decide), ea_upR (by decide)]
    · rw [ea_upK (by omega), ea_upK (by omega)]
theorem do_4 {N V : ea_M} {L : Nat → Int32} {n q ns nc i : Nat} {a0 a1 : Int32} (hV : RV V N ns nc) (h0 : N 76 0 = a0) (h1 : N 76 1 = a1) (hi : a0 = nI i) (hi2 : i < 10) : ∃ N', ea_Sp 0 yX7_does cX7_does 3 none [.ref 61, .int 4] N none N' ∧ RV (ef_V V L n 4 a0 a1 q ns nc) N' ns nc ∧ df N N' := by
  have ei : (0 : Int32) + N 76 0 = nI i := by rw [h0, Int32.zero_add]; exact hi
  refine ⟨ea_up N 62 i a1, ?_, ?_, ?_⟩
  · refine ea_intro (own := RX7) (by decide +kernel) rfl (fun g => Nat.le_of_ble_eq_true rfl) (fun k C X => ?_)
    have w0 : ¬ (4 : Int32) = 0 := by decide
    have w1 : ¬ (4 : Int32) = 1 := by decide
    have w2 : ¬ (4 : Int32) = 2 := by decide
    have w3 : ¬ (4 : Int32) = 3 := by decide
    have v : vp_in ((0 : Int32) + N 76 0) 192 := by rw [ei]; exact vp_in_nI (by omega) (by decide)
    refine km_does C X  (fun c => absurd c w0) (fun _ c => absurd c w1) (fun _ c => absurd c w1) (fun _ c => absurd c w1) (fun _ c => absurd c w1) (fun _ c => absurd c w1) (fun _ _ c => absurd c w2) (fun _ _ _ c => absurd c w3) (fun _ _ _ _ => v) (fun _ _ _ _ => ⟨rfl, by rw [ei, nI_clamp (show i < 2 ^ 31 by omega), h1]⟩)
  · obtain ⟨r1, r2, r3, r4, r5, r6, r7, r8, r9, r10, r11⟩ := hV
    have e : ∀ b, b ≠ 8 → ef_V V L n 4 a0 a1 q ns nc b = V b := fun b z => by
      show ea_up V 8 a0.toNatClampNeg a1 b = V b
      rw [ea_upR z]
    have e8 : ef_V V L n 4 a0 a1 q ns nc 8 = ea_up V 8 i a1 8 := by
      show ea_up V 8 a0.toNatClampNeg a1 8 = _
      rw [hi, nI_clamp (show i < 2 ^ 31 by omega)]
    have f : ∀ b, b ≠ 62 → ea_up N 62 i a1 b = N b := fun b z => by rw [ea_upR z]
    refine ⟨by rw [f 61 (by decide)]; exact r1, by rw [f 61 (by decide)]; exact r2, by rw [f 65 (by decide), e 1 (by decide)]; exact r3, by rw [f 66 (by decide), e 2 (by decide)]; exact r4, by rw [f 63 (by decide), e 3 (by decide)]; exact r5, by rw [f 64 (by decide), e 4 (by decide)]; exact r6, by rw [f 67 (by decide), e 5 (by decide)]; exact r7, fun j hj => ?_, ?_, ?_, ?_⟩
    · rw [e8, pa_up, pa_up, if_pos rfl, if_pos rfl]
      by_cases z : j = i
      · rw [if_pos z, if_pos z]
      · rw [if_neg z, if_neg z]
        exact r8 j hj
    · rw [e 7 (by decide), ea_upK (by omega)]; exact r9
    · rw [e 7 (by decide), ea_upK (by omega)]; exact r10
    · rw [e 7 (by decide), ea_upK (by omega)]; exact r11
  · refine ⟨fun a z1 z2 => ?_, fun j z1 z2 => ?_, fun j z => ?_⟩
    · rw [ea_upR (by omega)]
    · rw [ea_upR (by decide)]
    · rw [ea_upK (by omega)]
theorem do_2 {N V : ea_M} {L : Nat → Int32} {n q ns nc m : Nat} {a0 a1 : Int32} (hV : RV V N ns nc) (h0 : N 76 0 = a0) (h1 : N 76 1 = a1) (hm : a1 = nI m) (hm2 : nc + m ≤ 10) : ∃ N', ea_Sp 0 yX7_does cX7_does 3 none [.ref 61, .int 2] N none N' ∧ RV (ef_V V L n 2 a0 a1 q ns nc) N' ns (nc + m) ∧ df N N' := by
  obtain ⟨r1, r2, r3, r4, r5, r6, r7, r8, r9, r10, r11⟩ := hV
  have loop : ∀ (c i : Nat) (S : ea_M), i + c = m → ((∀ a, a ≠ 61 → a ≠ 62 → a ≠ 67 → S a = N a) ∧ (∀ j, S 61 j = if j = 6 then nI (nc + i) else N 61 j) ∧ (∀ j, S 62 j = if nc ≤ j ∧ j < nc + i then 0 else N 62 j) ∧ ∀ j, S 67 j = if nc ≤ j ∧ j < nc + i then a0 else N 67 j) → ∃ N', ((∀ a, a ≠ 61 → a ≠ 62 → a ≠ 67 → N' a = N a) ∧ (∀ j, N' 61 j = if j = 6 then nI (nc + m) else N 61 j) ∧ (∀ j, N' 62 j = if nc ≤ j ∧ j < nc + m then 0 else N 62 j) ∧ ∀ j, N' 67 j = if nc ≤ j ∧ j < nc + m then a0 else N 67 j) ∧ ∀ {k : ea_K}, ea_C k RX7 cX7_does 3 0 → ea_X k none none N' → ea_E k 177 [(0, .ref 61), (2, .int (nI i))] [] S := by
    intro c
    induction c with
    | zero =>
      intro i S hi hS
      have e : i = m := by omega
      rw [e] at hS
      refine ⟨S, hS, fun C X => ?_⟩
      have c0 : S 76 1 ≤ nI i := by rw [hS.1 76 (by decide) (by decide) (by decide), h1, hm, e]; exact Int32.le_refl _
      refine km_does_177 C X  (fun _ => ⟨rfl, rfl⟩) (fun c => absurd c0 c) (fun c => absurd c0 c) (fun c => absurd c0 c)
    | succ c ih =>
      intro i S hi hS
      obtain ⟨s1, s2, s3, s4⟩ := hS
      obtain ⟨S2, hS2⟩ : ∃ z, z = ea_up (ea_up (ea_up S 67 (nc + i) a0) 62 (nc + i) 0) 61 6 (nI (nc + i + 1)) := ⟨_, rfl⟩
      have q0 : ∀ j, S2 61 j = if j = 6 then nI (nc + (i + 1)) else N 61 j := fun j => by
        rw [hS2, pa_up, if_pos rfl, ea_upR (by decide), ea_upR (by decide), s2]
        by_cases z : j = 6
        · rw [if_pos z, if_pos z, Nat.add_assoc]
        · rw [if_neg z, if_neg z, if_neg z]
      have q1 : ∀ j, S2 62 j = if nc ≤ j ∧ j < nc + (i + 1) then 0 else N 62 j := fun j => by
        rw [hS2, ea_upR (by decide), pa_up, if_pos rfl, ea_upR (by decide), s3]
        by_cases z : j = nc + i
        · rw [if_pos z, if_pos (by omega)]
        · rw [if_neg z]
          by_cases y : nc ≤ j ∧ j < nc + i
          · rw [if_pos y, if_pos (by omega)]
          · rw [if_neg y, if_neg (by omega)]
      have q2 : ∀ j, S2 67 j = if nc ≤ j ∧ j < nc + (i + 1) then a0 else N 67 j := fun j => by
        rw [hS2, ea_upR (by decide), ea_upR (by decide), pa_up, if_pos rfl, s4]
        by_cases z : j = nc + i
        · rw [if_pos z, if_pos (by omega)]
        · rw [if_neg z]
          by_cases y : nc ≤ j ∧ j < nc + i
          · rw [if_pos y, if_pos (by omega)]
          · rw [if_neg y, if_neg (by omega)]
      obtain ⟨N', g, h⟩ := ih (i + 1) S2 (by omega) ⟨fun a z1 z2 z3 => by rw [hS2, ea_upR z1, ea_upR z2, ea_upR z3]; exact s1 a z1 z2 z3, q0, q1, q2⟩
      refine ⟨N', g, fun C X => ?_⟩
      have c0 : ¬ S 76 1 ≤ nI i := by rw [s1 76 (by decide) (by decide) (by decide), h1, hm]; exact nI_ge (by omega) (by omega)
      have e6 : S 61 6 = nI (nc + i) := by rw [s2, if_pos rfl]
      have e60 : (0 : Int32) + S 61 6 = nI (nc + i) := by rw [e6, Int32.zero_add]
      have v10 : vp_in (S 61 6) 10 := by rw [e6]; exact vp_in_nI (by omega) (by decide)
      have v192 : vp_in ((0 : Int32) + S 61 6) 192 := by rw [e60]; exact vp_in_nI (by omega) (by decide)
      have nx := h C X
      rw [hS2, ← nI_1, ← nI_1] at nx
      refine km_does_177 C X  (fun c => absurd c c0) (fun _ => v10) (fun _ => v192) (fun _ => by rw [e60, e6, nI_clamp (show nc + i < 2 ^ 31 by omega), s1 76 (by decide) (by decide) (by decide), h0]; exact nx)
  have q0 : ∀ j, N 61 j = if j = 6 then nI (nc + 0) else N 61 j := fun j => by
    by_cases z : j = 6
    · rw [if_pos z, z, r2, Nat.add_zero]
    · rw [if_neg z]
  obtain ⟨N', ⟨g1, g2, g3, g4⟩, h⟩ := loop m 0 N (by omega) ⟨fun _ _ _ _ => rfl, q0, fun j => by rw [if_neg (by omega)], fun j => by rw [if_neg (by omega)]⟩
  · refine ⟨N', ?_, ?_, ?_⟩
    · refine ea_intro (own := RX7) (by decide +kernel) rfl (fun g => Nat.le_of_ble_eq_true rfl) (fun k C X => ?_)
      have w0 : ¬ (2 : Int32) = 0 := by decide
      have w1 : ¬ (2 : Int32) = 1 := by decide
      have w2 : (2 : Int32) = 2 := rfl
      have nx := h C X
      refine km_does C X  (fun c => absurd c w0) (fun _ c => absurd c w1) (fun _ c => absurd c w1) (fun _ c => absurd c w1) (fun _ c => absurd c w1) (fun _ c => absurd c w1) (fun _ _ _ => nx) (fun _ _ c _ => absurd w2 c) (fun _ _ c _ => absurd w2 c) (fun _ _ c _ => absurd w2 c)
    · have e : ∀ b, b ≠ 0 → b ≠ 5 → b ≠ 8 → ef_V V L n 2 a0 a1 q ns nc b = V b := fun b z0 z5 z8 => by
        show ef_l V a0 a1.toNatClampNeg nc b = V b
        unfold ef_l
        rw [ea_upR z0, pa_segR z8, pa_segR z5]
      have e5 : ef_V V L n 2 a0 a1 q ns nc 5 = pa_seg V 5 nc (fun _ => a0) m 5 := by
        show ef_l V a0 a1.toNatClampNeg nc 5 = _
        unfold ef_l
        rw [hm, nI_clamp (show m < 2 ^ 31 by omega), ea_upR (by decide), pa_segR (by decide)]
      have e8 : ef_V V L n 2 a0 a1 q ns nc 8 = pa_seg (pa_seg V 5 nc (fun _ => a0) m) 8 nc (fun _ => 0) m 8 := by
        show ef_l V a0 a1.toNatClampNeg nc 8 = _
        unfold ef_l
        rw [hm, nI_clamp (show m < 2 ^ 31 by omega), ea_upR (by decide)]
      refine ⟨by rw [g2]; exact r1, by rw [g2]; rfl, by rw [g1 65 (by decide) (by decide) (by decide), e 1 (by decide) (by decide) (by decide)]; exact r3, by rw [g1 66 (by decide) (by decide) (by decide), e 2 (by decide) (by decide) (by decide)]; exact r4, by rw [g1 63 (by decide) (by decide) (by decide), e 3 (by decide) (by decide) (by decide)]; exact r5, by rw [g1 64 (by decide) (by decide) (by decide), e 4 (by decide) (by decide) (by decide)]; exact r6, fun j hj => ?_, fun j hj => ?_, ?_, ?_, ?_⟩
      · rw [g4, e5]
        by_cases z : nc ≤ j ∧ j < nc + m
        · rw [if_pos z, pa_segI z.1 z.2]
        · rw [if_neg z, pa_segO (by omega)]
          exact r7 j hj
      · rw [g3, e8]
        by_cases z : nc ≤ j ∧ j < nc + m
        · rw [if_pos z, pa_segI z.1 z.2]
        · rw [if_neg z, pa_segO (by omega), pa_segR (by decide)]
          exact r8 j hj
      · rw [g3, if_neg (by omega), e 7 (by decide) (by decide) (by decide)]; exact r9
      · rw [g3, if_neg (by omega), e 7 (by decide) (by decide) (by decide)]; exact r10
      · rw [g3, if_neg (by omega), e 7 (by decide) (by decide) (by decide)]; exact r11
    · exact ⟨fun a z1 z2 => g1 a z1 (by omega) (by omega), fun j z1 z2 => by rw [g2, if_neg z2], fun j z => by rw [g3, if_neg (by omega)]⟩
theorem do_1 {N V : ea_M} {L : Nat → Int32} {n q ns nc : Nat} {a0 a1 : Int32} (hV : RV V N ns nc) (h6 : ns < 6) (h0 : N 76 0 = a0) (h1 : N 76 1 = a1) (h74 : ∀ j, j < 42 → N 74 j = ef_V V L n 1 a0 a1 q ns nc 1 j) (h75 : ∀ j, j < 6 → N 75 j = ef_V V L n 1 a0 a1 q ns nc 2 j) (h7 : tk_b L n q - tk_f L n q ≤ 7) : ∃ N', ea_Sp 0 yX7_does cX7_does 3 none [.ref 61, .int 1] N none N' ∧ RV (ef_V V L n 1 a0 a1 q ns nc) N' (ns + 1) nc ∧ df N N' := by
  obtain ⟨r1, r2, r3, r4, r5, r6, r7, r8, r9, r10, r11⟩ := hV
  obtain ⟨N3, hN3⟩ : ∃ z, z = ea_up (ea_up (ea_up N 63 ns a0) 64 ns a1) 66 ns (N 75 ns) := ⟨_, rfl⟩
  have f3 : ∀ b, b ≠ 63 → b ≠ 64 → b ≠ 66 → N3 b = N b := fun b z1 z2 z3 => by rw [hN3, ea_upR z3, ea_upR z2, ea_upR z1]
  obtain ⟨N4, hN4⟩ : ∃ z, z = pa_seg N3 65 (7 * ns) (fun j => N 74 (7 * ns + j)) 7 := ⟨_, rfl⟩
  have f4 : ∀ b, b ≠ 65 → N4 b = N3 b := fun b z => by rw [hN4, pa_segR z]
  have e61 : N3 61 1 = nI ns := by rw [f3 61 (by decide) (by decide) (by decide)]; exact r1
  have e7n : 7 * nI ns = nI (7 * ns) := by rw [show (7 : Int32) = nI 7 from rfl, pk_mul]
  have e7p : nI (7 * ns) + 7 = nI (7 * ns + 7) := nI_add (7 * ns) 7
  refine ⟨ea_up N4 61 1 (nI (ns + 1)), ?_, ?_, ?_⟩
  · refine ea_intro (own := RX7) (by decide +kernel) rfl (fun g => Nat.le_of_ble_eq_true rfl) (fun k C X => ?_)
    have l130 : ∀ (c i : Nat), i + c = 7 → ea_E k 130 [(0, .ref 61), (2, .int (nI (7 * ns + i)))] [] (pa_seg N3 65 (7 * ns) (fun j => N 74 (7 * ns + j)) i) := by
      intro c
      induction c with
      | zero =>
        intro i hi
        have ei : i = 7 := by omega
        rw [ei, ← hN4]
        have c0 : 7 * N4 61 1 + 7 ≤ nI (7 * ns + 7) := by rw [f4 61 (by decide), e61, e7n, e7p]; exact Int32.le_refl _
        refine km_does_130 C X  (fun _ => ⟨rfl, by rw [f4 61 (by decide), e61, nI_1]⟩) (fun c => absurd c0 c) (fun c => absurd c0 c) (fun c => absurd c0 c)
      | succ c ih =>
        intro i hi
        have es := pa_segS (M := N3) (y := 65) (a := 7 * ns) (m := i) (f := fun j => N 74 (7 * ns + j)) (v := N 74 (7 * ns + i)) rfl
        have nx := ih (i + 1) (by omega)
        rw [← es] at nx
        obtain ⟨N5, hN5⟩ : ∃ z, z = pa_seg N3 65 (7 * ns) (fun j => N 74 (7 * ns + j)) i := ⟨_, rfl⟩
        have f5 : ∀ b, b ≠ 65 → N5 b = N3 b := fun b z => by rw [hN5, pa_segR z]
        rw [← hN5] at nx ⊢
        have c0 : ¬ 7 * N5 61 1 + 7 ≤ nI (7 * ns + i) := by rw [f5 61 (by decide), e61, e7n, e7p]; exact nI_ge (by omega) (by omega)
        have v : vp_in (nI (7 * ns + i)) 42 := vp_in_nI (by omega) (by decide)
        refine km_does_130 C X  (fun c => absurd c c0) (fun _ => v) (fun _ => v) (fun _ => by rw [nI_clamp (show 7 * ns + i < 2 ^ 31 by omega), f5 74 (by decide), f3 74 (by decide) (by decide) (by decide), nI_1]; exact nx)
    have nx := l130 7 0 (by omega)
    rw [pa_seg0, Nat.add_zero, hN3] at nx
    have w0 : ¬ (1 : Int32) = 0 := by decide
    have w1 : (1 : Int32) = 1 := rfl
    have v6 : vp_in (N 61 1) 6 := by rw [r1]; exact vp_in_nI h6 (by decide)
    refine km_does C X  (fun c => absurd c w0) (fun _ _ => v6) (fun _ _ => v6) (fun _ _ => v6) (fun _ _ => v6) (fun _ _ => by rw [r1, nI_clamp (show ns < 2 ^ 31 by omega), e7n, h0, h1]; exact nx) (fun _ c _ => absurd w1 c) (fun _ c _ _ => absurd w1 c) (fun _ c _ _ => absurd w1 c) (fun _ c _ _ => absurd w1 c)
  · have es : ef_V V L n 1 a0 a1 q ns nc = ef_s V L (tk_f L n q) (tk_b L n q - tk_f L n q) ns a0 a1 := rfl
    rw [es] at h74 h75 ⊢
    unfold ef_s at *
    refine ⟨ea_upS, ?_, fun j hj => ?_, fun j hj => ?_, fun j hj => ?_, fun j hj => ?_, fun j hj => ?_, fun j hj => ?_, ?_, ?_, ?_⟩
    · rw [ea_upK (by decide), f4 61 (by decide), f3 61 (by decide) (by decide) (by decide)]; exact r2
    · rw [ea_upR (by decide), hN4]
      by_cases z : 7 * ns ≤ j ∧ j < 7 * ns + 7
      · rw [pa_segI z.1 z.2, show 7 * ns + (j - 7 * ns) = j by omega]
        exact h74 j hj
      · rw [pa_segO (by omega), f3 65 (by decide) (by decide) (by decide), ea_upR (by decide), ea_upR (by decide), ea_upR (by decide), pa_segO (by omega), ea_upR (by decide)]
        exact r3 j hj
    · rw [ea_upR (by decide), f4 66 (by decide), hN3, pa_up, if_pos rfl]
      by_cases z : j = ns
      · rw [if_pos z, z]
        exact h75 ns h6
      · rw [if_neg z, ea_upR (by decide), ea_upR (by decide), ea_upR (by decide), ea_upR (by decide), ea_upR (by decide), pa_segR (by decide), ea_upK z]
        exact r4 j hj
    · rw [ea_upR (by decide), f4 63 (by decide), hN3, ea_upR (by decide), ea_upR (by decide), pa_up, if_pos rfl, ea_upR (by decide), ea_upR (by decide), pa_up, if_pos rfl]
      by_cases z : j = ns
      · rw [if_pos z, if_pos z]
      · rw [if_neg z, if_neg z, pa_segR (by decide), ea_upR (by decide)]
        exact r5 j hj
    · by_cases z : j = ns
      · rw [ea_upR (by decide), f4 64 (by decide), hN3, ea_upR (by decide), z, ea_upS, ea_upR (show 4 ≠ 0 by decide), ea_upS]
      · rw [ea_upR (by decide), f4 64 (by decide), hN3, ea_upR (by decide), ea_upK z, ea_upR (by decide), ea_upR (show 4 ≠ 0 by decide), ea_upK z, ea_upR (by decide), pa_segR (by decide), ea_upR (by decide)]
        exact r6 j hj
    · rw [ea_upR (by decide), f4 67 (by decide), f3 67 (by decide) (by decide) (by decide), ea_upR (by decide), ea_upR (by decide), ea_upR (by decide), pa_segR (by decide), ea_upR (by decide)]
      exact r7 j hj
    · rw [ea_upR (by decide), f4 62 (by decide), f3 62 (by decide) (by decide) (by decide), ea_upR (by decide), ea_upR (by decide), ea_upR (by decide), pa_segR (by decide), ea_upR (by decide)]
      exact r8 j hj
    · rw [ea_upR (by decide), f4 62 (by decide), f3 62 (by decide) (by decide) (by decide), ea_upR (by decide), ea_upR (by decide), ea_upR (by decide), pa_segR (by decide), ea_upR (by decide)]
      exact r9
    · rw [ea_upR (by decide), f4 62 (by decide), f3 62 (by decide) (by decide) (by decide), ea_upR (by decide), ea_upR (by decide), ea_upR (by decide), pa_segR (by decide), ea_upR (by decide)]
      exact r10
    · rw [ea_upR (by decide), f4 62 (by decide), f3 62 (by decide) (by decide) (by decide), ea_upR (by decide), ea_upR (by decide), ea_upR (by decide), pa_segR (by decide), ea_upR (by decide)]
      exact r11
  · refine ⟨fun a z1 z2 => ?_, fun j z1 z2 => ?_, fun j z => ?_⟩
    · rw [ea_upR z1, f4 a (by omega), f3 a (by omega) (by omega) (by omega)]
    · rw [ea_upK z1, f4 61 (by decide), f3 61 (by decide) (by decide) (by decide)]
    · rw [ea_upR (by decide), f4 62 (by decide), f3 62 (by decide) (by decide) (by decide)]
