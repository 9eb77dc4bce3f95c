/-! ===== heat, air, pace ===== -/
theorem mv_warm {M M' : ea_M} {x y : Nat} (h : warm M y) (h1 : ∀ j, j < 10 → M' (x + 1) j = M (y + 1) j) (h2 : ∀ k, 1 ≤ k → k ≤ 6 → M' x k = M y k) : warm M' x := by
  obtain ⟨a, b, c, d⟩ := h
  refine ⟨fun j hj => ?_, ?_, ?_, ?_⟩
  · rw [h1 j hj]
    exact a j hj
  · rw [h2 1 (by decide) (by decide)]
    exact b
  · rw [h2 2 (by decide) (by decide)]
    exact c
  · rw [h2 3 (by decide) (by decide)]
    exact d
theorem mv_same {M M' N N' : ea_M} {x y b b' : Nat} (h : same M N y b) (h1 : ∀ j, j < 10 → M' (x + 1) j = M (y + 1) j) (h2 : ∀ k, 1 ≤ k → k ≤ 6 → M' x k = M y k) (h3 : ∀ k, k < 16 → N' 62 (b' + k) = N 62 (b + k)) : same M' N' x b' := by
  obtain ⟨a, c⟩ := h
  refine ⟨fun j hj => ?_, fun k k1 k2 => ?_⟩
  · rw [h1 j hj, h3 j (by omega), a j hj]
  · rw [h2 k k1 k2, Nat.add_assoc, h3 (9 + k) (by omega), ← Nat.add_assoc, c k k1 k2]
theorem bec_f (M : ea_M) (x y k : Nat) (h1 : 1 ≤ k) (h2 : k ≤ 6) : g_X5_become M x y x k = M y k := by
  unfold g_X5_become
  by_cases e6 : k = 6
  · rw [e6, ea_upS]
  by_cases e5 : k = 5
  · rw [e5, ea_upK (by decide), ea_upS]
  by_cases e4 : k = 4
  · rw [e4, ea_upK (by decide), ea_upK (by decide), ea_upS]
  by_cases e3 : k = 3
  · rw [e3, ea_upK (by decide), ea_upK (by decide), ea_upK (by decide), ea_upS]
  by_cases e2 : k = 2
  · rw [e2, ea_upK (by decide), ea_upK (by decide), ea_upK (by decide), ea_upK (by decide), ea_upS]
  rw [show k = 1 by omega, ea_upK (by decide), ea_upK (by decide), ea_upK (by decide), ea_upK (by decide), ea_upK (by decide), ea_upS]
theorem bec_h (M : ea_M) (x y j : Nat) (hj : j < 10) : g_X5_become M x y (x + 1) j = M (y + 1) j := by
  unfold g_X5_become
  rw [ea_upR (by omega), ea_upR (by omega), ea_upR (by omega), ea_upR (by omega), ea_upR (by omega), ea_upR (by omega)]
  unfold pa_cp
  rw [if_pos rfl]
  exact if_pos hj
theorem bec_R {M : ea_M} {x y a : Nat} (h1 : a ≠ x) (h2 : a ≠ x + 1) : g_X5_become M x y a = M a := fr_X5_become h2 h1
def s_r (s : sg) : sg := (s.1, s.2.1, s.2.2.1, (s.t + 1) % 8, min (s.u + 1) 8, s.g)
theorem rem_R {M : ea_M} {t u a : Nat} (h1 : a ≠ 24) (h2 : a ≠ 28 + 2 * t) (h3 : a ≠ 28 + 2 * t + 1) : ps_rem M t u a = M a := by
  unfold ps_rem
  rw [ea_upR h1, ea_upR h1, bec_R h2 h3]
theorem Rel_rem {s : sg} {M N N1 : ea_M} (h : Rel s M N) (hk : kp_r N N1 s.u) : Rel (s_r s) (ps_rem M s.t s.u) N1 := by
  obtain ⟨a1, a2, a3, a4, a5, a6⟩ := h
  obtain ⟨k1, k2, k3, k4, k5, k6⟩ := hk
  have ht := a3.1
  have hu := a3.2.1
  have R : ∀ a, a ≠ 24 → (a < 28 ∨ 43 < a) → ps_rem M s.t s.u a = M a := fun a h1 h2 => rem_R h1 (by omega) (by omega)
  refine ⟨R_w_cg a1 rfl rfl (fun a h1 h2 h3 => R a (by omega) (by omega)) (k2 1 (by decide)) (k2 6 (by decide)) (fun a h1 h2 => k1 a (by omega) (by omega)) (fun j hj => k4 j (by omega)), R_t_cg a2 rfl (by rw [R 2 (by decide) (by decide)]) (R 3 (by decide) (by decide)) (k2 11 (by decide)) (k1 69 (by decide) (by decide)), ?_, R_k_cg a4 (R 27 (by decide) (by decide)) (fun a h1 h2 => R a (by omega) (by omega)) (k1 68 (by decide) (by decide)) (fun j h1 h2 => k4 j (by omega)), R_g_cg a5 rfl (fun a h1 h2 => R a (by omega) (by omega)) (fun a h1 h2 => k1 a (by omega) (by omega)), R_c_cg a6 (k1 77 (by decide) (by decide))⟩
  have m3 : (s_r s).t = (s.t + 1) % 8 := rfl
  have m4 : (s_r s).u = min (s.u + 1) 8 := rfl
  refine ⟨by rw [m3]; exact Nat.mod_lt _ (by decide), by rw [m4]; omega, ?_, ?_, ?_, fun e he => ?_⟩
  · unfold ps_rem
    rw [m3, ea_upK (by decide), ea_upS]
  · unfold ps_rem
    rw [m4, ea_upS]
  · rw [m4]
    exact k3
  · rw [m4] at he
    by_cases e7 : e = min s.u 7
    · have es : slot (s_r s) e = 28 + 2 * s.t := by
        unfold slot
        rw [m3, m4]
        omega
      have f1 : ∀ j, j < 10 → ps_rem M s.t s.u (28 + 2 * s.t + 1) j = M (20 + 1) j := by
        intro j hj
        unfold ps_rem
        rw [ea_upR (by omega), ea_upR (by omega)]
        exact bec_h M (28 + 2 * s.t) 20 j hj
      have f2 : ∀ k, 1 ≤ k → k ≤ 6 → ps_rem M s.t s.u (28 + 2 * s.t) k = M 20 k := by
        intro k h1 h2
        unfold ps_rem
        rw [ea_upR (by omega), ea_upR (by omega)]
        exact bec_f M (28 + 2 * s.t) 20 k h1 h2
      rw [es]
      refine ⟨mv_warm (warm_of a1.1) f1 f2, mv_same a1.2.2.2.2.2.2.2.2 f1 f2 (fun k hk => ?_)⟩
      rw [e7, k5 k hk, Nat.zero_add]
    · have es : slot (s_r s) e = slot s (e + (s.u - 7)) := by
        unfold slot
        rw [m3, m4]
        omega
      have en : slot s (e + (s.u - 7)) ≠ 28 + 2 * s.t := by
        unfold slot
        omega
      have ep : slot s (e + (s.u - 7)) % 2 = 0 := by
        unfold slot
        omega
      obtain ⟨l1, l2⟩ := slot_lt s (e + (s.u - 7))
      obtain ⟨c1, c2⟩ := a3.2.2.2.2.2 (e + (s.u - 7)) (by omega)
      have f1 : ps_rem M s.t s.u (slot s (e + (s.u - 7)) + 1) = M (slot s (e + (s.u - 7)) + 1) := rem_R (by omega) (by omega) (by omega)
      have f2 : ps_rem M s.t s.u (slot s (e + (s.u - 7))) = M (slot s (e + (s.u - 7))) := rem_R (by omega) (by omega) (by omega)
      rw [es]
      refine ⟨warm_cg c1 f2 f1, mv_same c2 (fun j _ => by rw [f1]) (fun k _ _ => by rw [f2]) (fun k hk => k6 e (by omega) k hk)⟩
theorem vv_now {V V' : ea_M} {ns nc : Nat} (h : vv_ok V ns nc) (h0 : ∀ a, a ≤ 5 → V' a = V a) (hw : warm V' 7) : vv_ok V' ns nc := by
  obtain ⟨a1, a2, a3, a4, a5, -⟩ := h
  refine ⟨?_, ?_, ?_, ?_, ?_, hw⟩
  · rw [h0 0 (by decide)]
    exact a1
  · rw [h0 2 (by decide)]
    exact a2
  · rw [h0 3 (by decide)]
    exact a3
  · rw [h0 4 (by decide)]
    exact a4
  · rw [h0 5 (by decide)]
    exact a5
theorem Rel_now {s : sg} {M M' N N' : ea_M} (h : Rel s M N) (hM : ∀ a, a < 61 → a ≠ 19 → a ≠ 20 → a ≠ 21 → a ≠ 22 → a ≠ 23 → M' a = M a) (hN : ∀ a, 61 ≤ a → a ≠ 62 → a ≠ 78 → N' a = N a) (h62 : ∀ j, 16 ≤ j → j < 176 → N' 62 j = N 62 j) (hw : warm M' 20) (hs : same M' N' 20 0) : Rel s M' N' := by
  obtain ⟨a1, a2, a3, a4, a5, a6⟩ := h
  obtain ⟨b1, b2, b3, b4, b5, b6, b7, b8, -⟩ := a1
  have hm : ∀ a, a < 61 → (a < 19 ∨ 23 < a) → M' a = M a := fun a h1 h2 => hM a h1 (by omega) (by omega) (by omega) (by omega) (by omega)
  have n61 := hN 61 (by decide) (by decide) (by decide)
  refine ⟨⟨vv_now b1 (fun a ha => hm (13 + a) (by omega) (by omega)) hw, ?_, ?_, ?_, ?_, ?_, ?_, ?_, hs⟩, R_t_cg a2 rfl (by rw [hm 2 (by decide) (by decide)]) (hm 3 (by decide) (by decide)) (by rw [n61]) (hN 69 (by decide) (by decide) (by decide)), R_p_cg a3 rfl rfl (hm 24 (by decide) (by decide)) (fun a h1 h2 => hm a (by omega) (by omega)) (by rw [n61]) (fun j h1 h2 => h62 j (by omega) (by omega)), R_k_cg a4 (hm 27 (by decide) (by decide)) (fun a h1 h2 => hm a (by omega) (by omega)) (hN 68 (by decide) (by decide) (by decide)) (fun j h1 h2 => h62 j (by omega) (by omega)), R_g_cg a5 rfl (fun a h1 h2 => hm a (by omega) (by omega)) (fun a h1 h2 => hN a (by omega) (by omega) (by omega)), R_c_cg a6 (hN 77 (by decide) (by decide) (by decide))⟩
  · rw [n61, hm 13 (by decide) (by decide)]
    exact b2
  · rw [n61, hm 13 (by decide) (by decide)]
    exact b3
  · rw [hN 65 (by decide) (by decide) (by decide), hm 14 (by decide) (by decide)]
    exact b4
  · rw [hN 66 (by decide) (by decide) (by decide), hm 15 (by decide) (by decide)]
    exact b5
  · rw [hN 63 (by decide) (by decide) (by decide), hm 16 (by decide) (by decide)]
    exact b6
  · rw [hN 64 (by decide) (by decide) (by decide), hm 17 (by decide) (by decide)]
    exact b7
  · rw [hN 67 (by decide) (by decide) (by decide), hm 18 (by decide) (by decide)]
    exact b8
theorem rem_lo {M : ea_M} {t u a : Nat} (h : a < 24) : ps_rem M t u a = M a := rem_R (by omega) (by omega) (by omega)
theorem rem_hi {M : ea_M} {t u a : Nat} (ht : t < 8) (h : 61 ≤ a) : ps_rem M t u a = M a := rem_R (by omega) (by omega) (by omega)
/-- one place of the warmth now is told anew -/
theorem Rel_1 {s : sg} {M N : ea_M} (h : Rel s M N) (x f k : Nat) (v : Int32) (hx : (x = 21 ∧ f < 10 ∧ k = f ∧ ∃ z : Nat, z ≤ 20000 ∧ v = nI z) ∨ (x = 20 ∧ k = f + 9 ∧ (((f = 1 ∨ f = 2) ∧ ∃ z : Nat, z ≤ 999 ∧ v = nI z) ∨ (f = 3 ∧ ∃ z : Nat, 1 ≤ z ∧ z ≤ 999 ∧ v = nI z)))) : Rel s (ea_up M x f v) (ea_up N 62 k v) := by
  have hx2 : x = 20 ∨ x = 21 := hx.elim (fun c => Or.inr c.1) (fun c => Or.inl c.1)
  have hkk : k < 16 := by
    rcases hx with c | ⟨-, c, d⟩
    · omega
    · rcases d with ⟨d, -⟩ | ⟨d, -⟩ <;> omega
  refine Rel_now h (fun a h1 h2 h3 h4 _ _ => ea_upR (by omega)) (fun a h1 h2 h3 => ea_upR h2) (fun j h1 h2 => ea_upK (by omega)) ?_ ?_
  · obtain ⟨w1, w2, w3, w4⟩ := warm_of h.1.1
    rcases hx with ⟨rfl, f1, -, z, z1, z2⟩ | ⟨rfl, -, d⟩
    · refine ⟨fun j hj => ?_, ?_, ?_, ?_⟩
      · by_cases e : j = f
        · rw [e, ea_upS]
          exact ⟨z, z1, z2⟩
        · rw [ea_upK e]
          exact w1 j hj
      · rw [ea_upR (by decide)]
        exact w2
      · rw [ea_upR (by decide)]
        exact w3
      · rw [ea_upR (by decide)]
        exact w4
    · refine ⟨fun j hj => ?_, ?_, ?_, ?_⟩
      · rw [ea_upR (by decide)]
        exact w1 j hj
      · by_cases e : 1 = f
        · rw [e, ea_upS]
          rcases d with ⟨-, d⟩ | ⟨d, -⟩
          · exact d
          · omega
        · rw [ea_upK e]
          exact w2
      · by_cases e : 2 = f
        · rw [e, ea_upS]
          rcases d with ⟨-, d⟩ | ⟨d, -⟩
          · exact d
          · omega
        · rw [ea_upK e]
          exact w3
      · by_cases e : 3 = f
        · rw [e, ea_upS]
          rcases d with ⟨d, -⟩ | ⟨-, d⟩
          · omega
          · exact d
        · rw [ea_upK e]
          exact w4
  · obtain ⟨s1, s2⟩ := h.1.2.2.2.2.2.2.2.2
    have hf : x = 20 → 1 ≤ f := by
      rcases hx with c | ⟨-, -, d⟩
      · omega
      · rcases d with ⟨d, -⟩ | ⟨d, -⟩ <;> omega
    rcases hx with ⟨rfl, f1, rfl, -⟩ | ⟨rfl, rfl, -⟩
    · refine ⟨fun j hj => ?_, fun k1 g1 g2 => ?_⟩
      · by_cases e : j = k
        · rw [e, Nat.zero_add, ea_upS, ea_upS]
        · rw [ea_upK (by omega), ea_upK e]
          exact s1 j hj
      · rw [ea_upK (by omega), ea_upR (by decide)]
        exact s2 k1 g1 g2
    · refine ⟨fun j hj => ?_, fun k1 g1 g2 => ?_⟩
      · have hf1 := hf rfl
        rw [ea_upK (by omega), ea_upR (by decide)]
        exact s1 j hj
      · by_cases e : k1 = f
        · rw [e, Nat.zero_add, Nat.add_comm, ea_upS, ea_upS]
        · rw [ea_upK (by omega), ea_upK e]
          exact s2 k1 g1 g2
theorem pm_heat (c v : Int32) : pm 4 yX6_heat cX6_heat 4 2 yX7_heat cX7_heat 4 (some .int) [.int c, .int v] := by
  intro s M N0 h0
  have hk : M 13 5 = nI s.nc := h0.1.1.1.2.2.2
  have hn : s.nc ≤ 10 := h0.1.1.1.2.1
  have hw := wl_of h0.1.1
  have ww := warm_of h0.1.1
  by_cases hst : ∃ j : Nat, j < s.nc ∧ c = nI j
  case neg =>
    have iw : ¬ p_X4_isCell M 13 c := fun z => hst ((iw_cell hk hn).mp z)
    refine ⟨.int (-2000000001), M, s, ?_, fun _ _ => rfl, fun N hN => ⟨N, ?_, fun _ _ => rfl, hN⟩⟩
    · refine ea_intro (own := RX6) (by decide +kernel) rfl (fun g => Nat.le_of_ble_eq_true rfl) (fun k C X => ?_)
      refine kb_X6_heat C X  (M1 := fun _ _ => 0) (fun c _ => absurd c iw) (fun c _ _ _ => absurd c iw) (fun c _ _ _ => absurd c iw) (fun c _ _ _ => absurd c iw) (fun c _ _ => absurd c iw) (fun _ => ⟨rfl, rfl⟩)
    · refine ea_intro (own := RX7) (by decide +kernel) rfl (fun g => Nat.le_of_ble_eq_true rfl) (fun k C X => ?_)
      have im : ¬ p_X7_isCell N c := fun z => hst ((mi_cell (nW_6 hN) hn).mp z)
      refine km_heat C X  (M1 := fun _ _ => 0) (fun c _ => absurd c im) (fun c _ _ => absurd c im) (fun c _ _ => absurd c im) (fun c _ _ => absurd c im) (fun c _ _ => absurd c im) (fun c _ => absurd c im) (fun _ => ⟨rfl, rfl⟩)
  have iw := (iw_cell hk hn).mpr hst
  obtain ⟨j, hj, rfl⟩ := hst
  have iv : p_X7_in v.toInt64 (-9999) 9999 ↔ (¬ v < -9999 ∧ ¬ 9999 < v) := in_i v (-9999) 9999
  by_cases hv : ¬ v < -9999 ∧ ¬ 9999 < v
  case neg =>
    have hv7 : ¬ p_X7_in v.toInt64 (-9999) 9999 := fun z => hv (iv.mp z)
    refine ⟨.int (-2000000002), M, s, ?_, fun _ _ => rfl, fun N hN => ⟨N, ?_, fun _ _ => rfl, hN⟩⟩
    · refine ea_intro (own := RX6) (by decide +kernel) rfl (fun g => Nat.le_of_ble_eq_true rfl) (fun k C X => ?_)
      by_cases v0 : v < -9999
      · refine kb_X6_heat C X  (M1 := fun _ _ => 0) (fun _ _ => ⟨rfl, rfl⟩) (fun _ c _ _ => absurd v0 c) (fun _ c _ _ => absurd v0 c) (fun _ c _ _ => absurd v0 c) (fun _ c _ => absurd v0 c) (fun c => absurd iw c)
      · have v2 : ¬ v ≤ 9999 := fun z => hv ⟨v0, Int32.not_lt.mpr z⟩
        refine kb_X6_heat C X  (M1 := fun _ _ => 0) (fun _ c => absurd c v0) (fun _ _ c _ => absurd c v2) (fun _ _ c _ => absurd c v2) (fun _ _ c _ => absurd c v2) (fun _ _ _ => ⟨rfl, rfl⟩) (fun c => absurd iw c)
    · refine ea_intro (own := RX7) (by decide +kernel) rfl (fun g => Nat.le_of_ble_eq_true rfl) (fun k C X => ?_)
      have im := (mi_cell (nW_6 hN) hn).mpr ⟨j, hj, rfl⟩
      refine km_heat C X  (M1 := fun _ _ => 0) (fun _ c => absurd c hv7) (fun _ c _ => absurd c hv7) (fun _ c _ => absurd c hv7) (fun _ c _ => absurd c hv7) (fun _ c _ => absurd c hv7) (fun _ _ => ⟨rfl, rfl⟩) (fun c => absurd im c)
  have hv7 := iv.mpr hv
  have v0 := hv.1
  have v2 : v ≤ 9999 := Int32.not_lt.mp hv.2
  have aj : ∀ r, pa_at r 10 (nI j) = r j := fun r => pa_atN (show j < 10 by omega) (by decide)
  have cj : (nI j).toNatClampNeg = j := nI_clamp (by omega)
  have v00 : vp_in ((0 : Int32) + nI j) 192 := by rw [Int32.zero_add]; exact vp_in_nI (by omega) (by decide)
  have eN : ∀ N, Rel s M N → N 62 ((0 : Int32) + nI j).toNatClampNeg = M 21 j := by
    intro N hN
    have := hN.1.2.2.2.2.2.2.2.2.1 j (by omega)
    rw [Nat.zero_add] at this
    rw [Int32.zero_add, cj]
    exact this
  obtain ⟨x, hx⟩ : ∃ x, x = M 21 j + v := ⟨_, rfl⟩
  have ex : pa_at (M 21) 10 (nI j) + v = x := by rw [aj, hx]
  by_cases hh : p_X6_isHeat x
  case neg =>
    have h1 : ¬ p_X6_isHeat (pa_at (M 21) 10 (nI j) + v) := by rw [ex]; exact hh
    refine ⟨.int (-2000000003), M, s, ?_, fun _ _ => rfl, fun N hN => ⟨N, ?_, fun _ _ => rfl, hN⟩⟩
    · refine ea_intro (own := RX6) (by decide +kernel) rfl (fun g => Nat.le_of_ble_eq_true rfl) (fun k C X => ?_)
      refine kb_X6_heat C X  (M1 := fun _ _ => 0) (fun _ c => absurd c v0) (fun _ _ _ c => absurd c h1) (fun _ _ _ c => absurd c h1) (fun _ _ _ _ => ⟨rfl, rfl⟩) (fun _ _ c => absurd v2 c) (fun c => absurd iw c)
    · refine ea_intro (own := RX7) (by decide +kernel) rfl (fun g => Nat.le_of_ble_eq_true rfl) (fun k C X => ?_)
      have im := (mi_cell (nW_6 hN) hn).mpr ⟨j, hj, rfl⟩
      have h2 : ¬ p_X7_in (N 62 ((0 : Int32) + nI j).toNatClampNeg + v).toInt64 0 20000 := by
        rw [eN N hN, ← hx]
        exact fun z => hh ((st_heat x).mp z)
      refine km_heat C X  (M1 := fun _ _ => 0) (fun _ _ => v00) (fun _ _ c => absurd c h2) (fun _ _ c => absurd c h2) (fun _ _ c => absurd c h2) (fun _ _ _ => ⟨rfl, rfl⟩) (fun _ c => absurd hv7 c) (fun c => absurd im c)
  have h1 : p_X6_isHeat (pa_at (M 21) 10 (nI j) + v) := by rw [ex]; exact hh
  obtain ⟨z, z1, z2⟩ := nI_of2 (M := (20000 : Int32)) (n := 20000) (by decide) hh.1 (Int32.not_lt.mp hh.2)
  have ht := h0.2.2.1.1
  refine ⟨.int x, ea_up (ps_rem M s.t s.u) 21 j x, s_r s, ?_, fun a ha => by rw [ea_upR (by omega), rem_hi ht ha], fun N hN => ?_⟩
  · refine ea_intro (own := RX6) (by decide +kernel) rfl (fun g => Nat.le_of_ble_eq_true rfl) (fun k C X => ?_)
    have e4 : pa_set (ps_rem M s.t s.u) 21 10 (nI j) x = ea_up (ps_rem M s.t s.u) 21 j x := pa_setN (show j < 10 by omega) (by decide)
    refine kb_X6_heat C X  (fun _ c => absurd c v0) (fun _ _ _ _ => sp_X1_remember M s.t s.u h0.2.2.1.1 h0.2.2.1.2.1 h0.2.2.1.2.2.1 h0.2.2.1.2.2.2.1) (fun _ _ _ _ => ⟨by rw [ex], by rw [ex, e4]⟩) (fun _ _ _ c => absurd h1 c) (fun _ _ c => absurd v2 c) (fun c => absurd iw c)
  · obtain ⟨N1, k1, k2⟩ := sp_X7_keepPast hN.2.2.1.2.1 hN.2.2.1.2.2.2.2.1
    have im := (mi_cell (nW_6 hN) hn).mpr ⟨j, hj, rfl⟩
    have h2 : p_X7_in (N 62 ((0 : Int32) + nI j).toNatClampNeg + v).toInt64 0 20000 := by
      rw [eN N hN, ← hx]
      exact (st_heat x).mpr hh
    refine ⟨ea_up N1 62 j x, ?_, fun a ha => by rw [ea_upR (by omega), k2.1 a (by omega) (by omega)], ?_⟩
    · refine ea_intro (own := RX7) (by decide +kernel) rfl (fun g => Nat.le_of_ble_eq_true rfl) (fun k C X => ?_)
      refine km_heat C X  (fun _ _ => v00) (fun _ _ _ => k1) (fun _ _ _ => v00) (fun _ _ _ => ⟨by rw [eN N hN, hx], by rw [eN N hN, ← hx, Int32.zero_add, cj]⟩) (fun _ _ c => absurd h2 c) (fun _ c => absurd hv7 c) (fun c => absurd im c)
    · exact Rel_1 (Rel_rem hN k2) 21 j j x (Or.inl ⟨rfl, by omega, rfl, z, z1, z2⟩)

