/-! ===== air, pace, undo, keep, back ===== -/
theorem pm_air (side g : Int32) : pm 4 yX6_air cX6_air 4 2 yX7_air cX7_air 4 (some .int) [.int side, .int g] := by
  intro s M N0 h0
  have hk : M 13 5 = nI s.nc := h0.1.1.1.2.2.2
  have hn : s.nc ≤ 10 := h0.1.1.1.2.1
  have hw := wl_of h0.1.1
  have ww := warm_of h0.1.1
  have is : p_X7_in side.toInt64 0 1 ↔ (¬ side < 0 ∧ ¬ 1 < side) := in_i side 0 1
  have ig : p_X7_in g.toInt64 0 999 ↔ p_X6_isDegrees g := in_i g 0 999
  by_cases hs : ¬ side < 0 ∧ ¬ 1 < side
  case neg =>
    have im : ¬ p_X7_in side.toInt64 0 1 := fun z => hs (is.mp z)
    refine ⟨.int (-2000000002), M, s, ?_, fun _ _ => rfl, fun N hN => ⟨N, ?_, fun _ _ => rfl, hN⟩⟩
    · refine ea_intro (own := RX6) (by decide +kernel) rfl (fun g => Nat.le_of_ble_eq_true rfl) (fun k C X => ?_)
      by_cases v0 : side < 0
      · refine kb_X6_air C X  (M1 := fun _ _ => 0) (fun _ => ⟨rfl, rfl⟩) (fun c _ => absurd v0 c) (fun c _ _ => absurd v0 c) (fun c _ _ _ _ => absurd v0 c) (fun c _ _ _ _ => absurd v0 c) (fun c _ _ _ _ => absurd v0 c) (fun c _ _ _ _ => absurd v0 c) (fun c _ _ => absurd v0 c)
      · have v2 : 1 < side := Classical.byContradiction (fun z => hs ⟨v0, z⟩)
        refine kb_X6_air C X  (M1 := fun _ _ => 0) (fun c => absurd c v0) (fun _ _ => ⟨rfl, rfl⟩) (fun _ c _ => absurd v2 c) (fun _ c _ _ _ => absurd v2 c) (fun _ c _ _ _ => absurd v2 c) (fun _ c _ _ _ => absurd v2 c) (fun _ c _ _ _ => absurd v2 c) (fun _ c _ => absurd v2 c)
    · refine ea_intro (own := RX7) (by decide +kernel) rfl (fun g => Nat.le_of_ble_eq_true rfl) (fun k C X => ?_)
      refine km_air C X  (M1 := fun _ _ => 0) (fun _ => ⟨rfl, rfl⟩) (fun c _ => absurd c im) (fun c _ => absurd c im) (fun c _ => absurd c im) (fun c _ => absurd c im) (fun c _ => absurd c im)
  have im := is.mpr hs
  have v0 := hs.1
  have v2 := hs.2
  by_cases hg : p_X6_isDegrees g
  case neg =>
    have jm : ¬ p_X7_in g.toInt64 0 999 := fun z => hg (ig.mp z)
    refine ⟨.int (-2000000002), M, s, ?_, fun _ _ => rfl, fun N hN => ⟨N, ?_, fun _ _ => rfl, hN⟩⟩
    · refine ea_intro (own := RX6) (by decide +kernel) rfl (fun g => Nat.le_of_ble_eq_true rfl) (fun k C X => ?_)
      refine kb_X6_air C X  (M1 := fun _ _ => 0) (fun c => absurd c v0) (fun _ c => absurd c v2) (fun _ _ c => absurd c hg) (fun _ _ c _ _ => absurd c hg) (fun _ _ c _ _ => absurd c hg) (fun _ _ c _ _ => absurd c hg) (fun _ _ c _ _ => absurd c hg) (fun _ _ _ => ⟨rfl, rfl⟩)
    · refine ea_intro (own := RX7) (by decide +kernel) rfl (fun g => Nat.le_of_ble_eq_true rfl) (fun k C X => ?_)
      refine km_air C X  (M1 := fun _ _ => 0) (fun c => absurd im c) (fun _ c => absurd c jm) (fun _ c => absurd c jm) (fun _ c => absurd c jm) (fun _ c => absurd c jm) (fun _ _ => ⟨rfl, rfl⟩)
  have jm := ig.mpr hg
  obtain ⟨j, hj, rfl⟩ := nI_of v0
  have hj1 : j ≤ 1 := Classical.byContradiction (fun q => v2 (nI_lt (a := 1) (by omega) hj))
  obtain ⟨z, z1, z2⟩ := nI_of2 (M := (999 : Int32)) (n := 999) (by decide) hg.1 (Int32.not_lt.mp hg.2)
  have ht := h0.2.2.1.1
  have ej : (10 : Int32) + nI j = nI (10 + j) := nI_add 10 j
  have cj : ((10 : Int32) + nI j).toNatClampNeg = 10 + j := by rw [ej]; exact nI_clamp (by omega)
  have vj : vp_in ((10 : Int32) + nI j) 192 := by rw [ej]; exact vp_in_nI (by omega) (by decide)
  refine ⟨.int (M 20 (1 + j)), ea_up (ps_rem M s.t s.u) 20 (1 + j) g, s_r s, ?_, fun a ha => by rw [ea_upR (by omega), rem_hi ht ha], fun N hN => ?_⟩
  · refine ea_intro (own := RX6) (by decide +kernel) rfl (fun g => Nat.le_of_ble_eq_true rfl) (fun k C X => ?_)
    have e20 : ps_rem M s.t s.u 20 = M 20 := rem_lo (by decide)
    rcases Nat.lt_or_ge j 1 with y | y
    · have j0 : j = 0 := by omega
      subst j0
      have c0 : nI 0 = 0 := rfl
      refine kb_X6_air C X  (fun c => absurd c v0) (fun _ c => absurd c v2) (fun _ _ _ => sp_X1_remember M s.t s.u h0.2.2.1.1 h0.2.2.1.2.1 h0.2.2.1.2.2.1 h0.2.2.1.2.2.2.1) (fun _ _ _ c _ => absurd c0 c) (fun _ _ _ c _ => absurd c0 c) (fun _ _ _ _ c => absurd c0 c) (fun _ _ _ _ _ => ⟨by rw [e20], rfl⟩) (fun _ _ c => absurd hg c)
    · have j0 : j = 1 := by omega
      subst j0
      have c0 : ¬ nI 1 = 0 := by decide
      refine kb_X6_air C X  (fun c => absurd c v0) (fun _ c => absurd c v2) (fun _ _ _ => sp_X1_remember M s.t s.u h0.2.2.1.1 h0.2.2.1.2.1 h0.2.2.1.2.2.1 h0.2.2.1.2.2.2.1) (fun _ _ _ _ _ => ⟨by rw [e20], rfl⟩) (fun _ _ _ _ c => absurd c c0) (fun _ _ _ c _ => absurd c c0) (fun _ _ _ c _ => absurd c c0) (fun _ _ c => absurd hg c)
  · obtain ⟨N1, k1, k2⟩ := sp_X7_keepPast hN.2.2.1.2.1 hN.2.2.1.2.2.2.2.1
    have en : N1 62 (10 + j) = M 20 (1 + j) := by
      rw [k2.2.2.2.1 (10 + j) (by omega)]
      have := hN.1.2.2.2.2.2.2.2.2.2 (1 + j) (by omega) (by omega)
      rw [show 0 + 9 + (1 + j) = 10 + j by omega] at this
      exact this
    refine ⟨ea_up N1 62 (10 + j) g, ?_, fun a ha => by rw [ea_upR (by omega), k2.1 a (by omega) (by omega)], ?_⟩
    · refine ea_intro (own := RX7) (by decide +kernel) rfl (fun g => Nat.le_of_ble_eq_true rfl) (fun k C X => ?_)
      refine km_air C X  (fun c => absurd im c) (fun _ _ => k1) (fun _ _ => vj) (fun _ _ => vj) (fun _ _ => ⟨by rw [cj, en], by rw [cj]⟩) (fun _ c => absurd jm c)
    · exact Rel_1 (Rel_rem hN k2) 20 (1 + j) (10 + j) g (Or.inr ⟨rfl, by omega, Or.inl ⟨by omega, z, z1, z2⟩⟩)
theorem pm_pace (t : Int32) : pm 4 yX6_pace cX6_pace 2 3 yX7_pace cX7_pace 2 (some .int) [.int t] := by
  intro s M N0 h0
  have hk : M 13 5 = nI s.nc := h0.1.1.1.2.2.2
  have hn : s.nc ≤ 10 := h0.1.1.1.2.1
  have hw := wl_of h0.1.1
  have ww := warm_of h0.1.1
  have is : p_X7_in t.toInt64 1 999 ↔ (¬ t < 1 ∧ ¬ 999 < t) := in_i t 1 999
  by_cases hs : ¬ t < 1 ∧ ¬ 999 < t
  case neg =>
    have im : ¬ p_X7_in t.toInt64 1 999 := fun z => hs (is.mp z)
    refine ⟨.int (-2000000002), M, s, ?_, fun _ _ => rfl, fun N hN => ⟨N, ?_, fun _ _ => rfl, hN⟩⟩
    · refine ea_intro (own := RX6) (by decide +kernel) rfl (fun g => Nat.le_of_ble_eq_true rfl) (fun k C X => ?_)
      by_cases v0 : t < 1
      · refine kb_X6_pace C X  (M1 := fun _ _ => 0) (r2 := 0) (fun _ => ⟨rfl, rfl⟩) (fun c _ => absurd v0 c) (fun c _ => absurd v0 c) (fun c _ => absurd v0 c) (fun c _ => absurd v0 c)
      · have v2 : ¬ t ≤ 999 := fun z => hs ⟨v0, Int32.not_lt.mpr z⟩
        refine kb_X6_pace C X  (M1 := fun _ _ => 0) (r2 := 0) (fun c => absurd c v0) (fun _ c => absurd c v2) (fun _ c => absurd c v2) (fun _ c => absurd c v2) (fun _ _ => ⟨rfl, rfl⟩)
    · refine ea_intro (own := RX7) (by decide +kernel) rfl (fun g => Nat.le_of_ble_eq_true rfl) (fun k C X => ?_)
      refine km_pace C X  (M1 := fun _ _ => 0) (r2 := 0) (fun c => absurd c im) (fun c => absurd c im) (fun c => absurd c im) (fun _ => ⟨rfl, rfl⟩)
  have im := is.mpr hs
  have v0 := hs.1
  have v2 : t ≤ 999 := Int32.not_lt.mp hs.2
  have vn : ¬ t < 0 := fun z => v0 (Int32.lt_trans z (by decide))
  obtain ⟨z, z1, z2⟩ := nI_of2 (M := (999 : Int32)) (n := 999) (by decide) vn v2
  have z0 : 1 ≤ z := by
    rcases Nat.lt_or_ge z 1 with q | q
    · exact absurd (by rw [z2, show z = 0 by omega]; decide) v0
    · exact q
  have ht := h0.2.2.1.1
  have rel : ∀ N N1, Rel s M N → kp_r N N1 s.u → Rel (s_r s) (ea_up (ps_rem M s.t s.u) 20 3 t) (ea_up N1 62 12 t) := fun N N1 hN k2 => Rel_1 (Rel_rem hN k2) 20 3 12 t (Or.inr ⟨rfl, rfl, Or.inr ⟨rfl, z, z0, z1, z2⟩⟩)
  obtain ⟨N9, -, kk⟩ := sp_X7_keepPast h0.2.2.1.2.1 h0.2.2.1.2.2.2.2.1
  have r0 := rel N0 N9 h0 kk
  refine ⟨.int (nI (pa_max (sf (wl_p (ea_up (ps_rem M s.t s.u) 20 3 t) 13) (wl_c (ea_up (ps_rem M s.t s.u) 20 3 t) 13) s.nc) s.nc)), ea_up (ps_rem M s.t s.u) 20 3 t, s_r s, ?_, fun a ha => by rw [ea_upR (by omega), rem_hi ht ha], fun N hN => ?_⟩
  · refine ea_intro (own := RX6) (by decide +kernel) rfl (fun g => Nat.le_of_ble_eq_true rfl) (fun k C X => ?_)
    have sp := sp_X4_safe (ea_up (ps_rem M s.t s.u) 20 3 t) 13 s.ns s.nc rfl (wl_of r0.1.1)
    refine kb_X6_pace C X  (fun c => absurd c v0) (fun _ _ => sp_X1_remember M s.t s.u h0.2.2.1.1 h0.2.2.1.2.1 h0.2.2.1.2.2.1 h0.2.2.1.2.2.2.1) (fun _ _ => sp) (fun _ _ => ⟨rfl, rfl⟩) (fun _ c => absurd v2 c)
  · obtain ⟨N1, k1, k2⟩ := sp_X7_keepPast hN.2.2.1.2.1 hN.2.2.1.2.2.2.2.1
    have r1 := rel N N1 hN k2
    refine ⟨ea_up N1 62 12 t, ?_, fun a ha => by rw [ea_upR (by omega), k2.1 a (by omega) (by omega)], r1⟩
    refine ea_intro (own := RX7) (by decide +kernel) rfl (fun g => Nat.le_of_ble_eq_true rfl) (fun k C X => ?_)
    have sp := sp_X7_safe (mp_of r1.1)
    refine km_pace C X  (fun _ => k1) (fun _ => sp) (fun _ => ⟨rfl, rfl⟩) (fun c => absurd im c)
theorem Rel_set {s : sg} {M M' N N' : ea_M} (h : Rel s M N) (t' u' : Nat) (hM : ∀ a, a < 61 → a ≠ 20 → a ≠ 21 → a ≠ 24 → M' a = M a) (h3 : M' 24 3 = nI t') (h4 : M' 24 4 = nI u') (hN : ∀ a, 61 < a → a ≠ 62 → N' a = N a) (hf : ∀ f, f ≠ 8 → N' 61 f = N 61 f) (h8 : N' 61 8 = nI u') (h62 : ∀ j, 16 ≤ j → j < 176 → N' 62 j = N 62 j) (ht : t' < 8) (hu : u' ≤ s.u) (hsl : ∀ e, e < u' → (t' + 8 - u' + e) % 8 = (s.t + 8 - s.u + e) % 8) (hw : warm M' 20) (hs : same M' N' 20 0) : Rel (s.1, s.2.1, s.2.2.1, t', u', s.g) M' N' := by
  obtain ⟨a1, a2, a3, a4, a5, a6⟩ := h
  obtain ⟨b1, b2, b3, b4, b5, b6, b7, b8, -⟩ := a1
  have hm : ∀ a, a < 61 → a ≠ 24 → (a < 20 ∨ 21 < a) → M' a = M a := fun a h1 h2 h3 => hM a h1 (by omega) (by omega) h2
  have su := a3.2.1
  refine ⟨⟨vv_now b1 (fun a ha => hm (13 + a) (by omega) (by omega) (by omega)) hw, ?_, ?_, ?_, ?_, ?_, ?_, ?_, hs⟩, R_t_cg a2 rfl (by rw [hm 2 (by decide) (by decide) (by decide)]) (hm 3 (by decide) (by decide) (by decide)) (hf 11 (by decide)) (hN 69 (by decide) (by decide)), ⟨ht, Nat.le_trans hu su, h3, h4, h8, fun e he => ?_⟩, R_k_cg a4 (hm 27 (by decide) (by decide) (by decide)) (fun a h1 h2 => hm a (by omega) (by omega) (by omega)) (hN 68 (by decide) (by decide)) (fun j h1 h2 => h62 j (by omega) (by omega)), R_g_cg a5 rfl (fun a h1 h2 => hm a (by omega) (by omega) (by omega)) (fun a h1 h2 => hN a (by omega) (by omega)), R_c_cg a6 (hN 77 (by decide) (by decide))⟩
  · rw [hf 1 (by decide), hm 13 (by decide) (by decide) (by decide)]
    exact b2
  · rw [hf 6 (by decide), hm 13 (by decide) (by decide) (by decide)]
    exact b3
  · rw [hN 65 (by decide) (by decide), hm 14 (by decide) (by decide) (by decide)]
    exact b4
  · rw [hN 66 (by decide) (by decide), hm 15 (by decide) (by decide) (by decide)]
    exact b5
  · rw [hN 63 (by decide) (by decide), hm 16 (by decide) (by decide) (by decide)]
    exact b6
  · rw [hN 64 (by decide) (by decide), hm 17 (by decide) (by decide) (by decide)]
    exact b7
  · rw [hN 67 (by decide) (by decide), hm 18 (by decide) (by decide) (by decide)]
    exact b8
  · have es : slot (s.1, s.2.1, s.2.2.1, t', u', s.g) e = slot s e := by
      have := hsl e he
      unfold slot
      show 28 + 2 * ((t' + 8 - u' + e) % 8) = _
      omega
    have he' : e < u' := he
    obtain ⟨l1, l2⟩ := slot_lt s e
    obtain ⟨c1, c2⟩ := a3.2.2.2.2.2 e (by omega)
    rw [es]
    exact ⟨warm_cg c1 (hm _ (by omega) (by omega) (by omega)) (hm _ (by omega) (by omega) (by omega)), same_cg c2 (hm _ (by omega) (by omega) (by omega)) (hm _ (by omega) (by omega) (by omega)) (fun j h3 h4 => h62 j (by omega) (by omega))⟩
theorem pm_undo : pm 4 yX6_undo cX6_undo 1 1 yX7_undo cX7_undo 1 (some .int) [] := by
  intro s M N0 h0
  have hk : M 13 5 = nI s.nc := h0.1.1.1.2.2.2
  have hn : s.nc ≤ 10 := h0.1.1.1.2.1
  have hw := wl_of h0.1.1
  have ww := warm_of h0.1.1
  obtain ⟨ht, hu, p3, p4, -, p6⟩ := h0.2.2.1
  by_cases h : s.u = 0
  · have c1 : M 24 4 = 0 := by rw [p4, h]; rfl
    refine ⟨.int (-2000000003), M, s, ?_, fun _ _ => rfl, fun N hN => ⟨N, ?_, fun _ _ => rfl, hN⟩⟩
    · refine ea_intro (own := RX6) (by decide +kernel) rfl (fun g => Nat.le_of_ble_eq_true rfl) (fun k C X => ?_)
      refine kb_X6_undo C X  (M1 := fun _ _ => 0) (fun c => absurd c1 c) (fun c => absurd c1 c) (fun _ => ⟨rfl, rfl⟩)
    · refine ea_intro (own := RX7) (by decide +kernel) rfl (fun g => Nat.le_of_ble_eq_true rfl) (fun k C X => ?_)
      have c2 : N 61 8 = 0 := by rw [hN.2.2.1.2.2.2.2.1, h]; rfl
      refine km_undo C X  (M1 := fun _ _ => 0) (fun c => absurd c2 c) (fun c => absurd c2 c) (fun _ => ⟨rfl, rfl⟩)
  have c1 : ¬ M 24 4 = 0 := by rw [p4]; exact fun z => h ((nI_0i (by omega)).mp z)
  have t7 : (s.t + 7) % 8 < 8 := Nat.mod_lt _ (by decide)
  obtain ⟨y, hy⟩ : ∃ y, y = 28 + 2 * ((s.t + 7) % 8) := ⟨_, rfl⟩
  have ey : slot s (s.u - 1) = y := by
    unfold slot
    omega
  have eT : ps_tak M s.t s.u = ea_up (ea_up (g_X5_become M 20 y) 24 3 (nI ((s.t + 7) % 8))) 24 4 (nI (s.u - 1)) := by rw [hy]; rfl
  refine ⟨.int (nI (s.u - 1)), ps_tak M s.t s.u, (s.1, s.2.1, s.2.2.1, (s.t + 7) % 8, s.u - 1, s.g), ?_, fun a ha => ?_, fun N hN => ?_⟩
  · refine ea_intro (own := RX6) (by decide +kernel) rfl (fun g => Nat.le_of_ble_eq_true rfl) (fun k C X => ?_)
    refine kb_X6_undo C X  (fun _ => sp_X1_takeBack M s.t s.u ht hu (by omega) p3 p4) (fun _ => ⟨by rw [eT, ea_upS], rfl⟩) (fun c => absurd c c1)
  · rw [eT, ea_upR (by omega), ea_upR (by omega), bec_R (by omega) (by omega)]
  · have n8 := hN.2.2.1.2.2.2.2.1
    have c2 : ¬ N 61 8 = 0 := by rw [n8]; exact fun z => h ((nI_0i (by omega)).mp z)
    have e1 : N 61 8 - (1 : Int32) = nI (s.u - 1) := by rw [n8]; exact nI_m1 (by omega)
    have e2 : (16 : Int32) + ((16 : Int32) * nI (s.u - 1)) = nI (16 + 16 * (s.u - 1)) := by rw [show (16 : Int32) = nI 16 from rfl, pk_mul, nI_add]
    have q := sp_X7_copyRow (ea_up N 61 8 (nI (s.u - 1))) (16 + 16 * (s.u - 1)) 0 (by omega) (by decide) (by omega)
    refine ⟨pa_seg (ea_up N 61 8 (nI (s.u - 1))) 62 0 (fun k => ea_up N 61 8 (nI (s.u - 1)) 62 (16 + 16 * (s.u - 1) + k)) 16, ?_, fun a ha => by rw [pa_segR (by omega), ea_upR (by omega)], ?_⟩
    · rw [← e2, ← e1] at q
      refine ea_intro (own := RX7) (by decide +kernel) rfl (fun g => Nat.le_of_ble_eq_true rfl) (fun k C X => ?_)
      refine km_undo C X  (fun _ => q) (fun _ => ⟨by rw [pa_segR (by decide), ea_upS, e1], by rw [e1]⟩) (fun c => absurd c c2)
    · obtain ⟨c3, c4⟩ := hN.2.2.1.2.2.2.2.2 (s.u - 1) (by omega)
      rw [ey] at c3 c4
      have f1 : ∀ j, j < 10 → ps_tak M s.t s.u (20 + 1) j = M (y + 1) j := by
        intro j hj
        rw [eT, ea_upR (by decide), ea_upR (by decide)]
        exact bec_h M 20 y j hj
      have f2 : ∀ k, 1 ≤ k → k ≤ 6 → ps_tak M s.t s.u 20 k = M y k := by
        intro k h1 h2
        rw [eT, ea_upR (by decide), ea_upR (by decide)]
        exact bec_f M 20 y k h1 h2
      refine Rel_set hN ((s.t + 7) % 8) (s.u - 1) (fun a h1 h2 h3 h4 => by rw [eT, ea_upR h4, ea_upR h4, bec_R h2 h3]) (by rw [eT, ea_upK (by decide), ea_upS]) (by rw [eT, ea_upS]) (fun a h1 h2 => by rw [pa_segR h2, ea_upR (by omega)]) (fun f hf => by rw [pa_segR (by decide), ea_upK hf]) (by rw [pa_segR (by decide), ea_upS]) (fun j h1 h2 => by rw [pa_segO (by omega), ea_upR (by decide)]) t7 (by omega) (fun e he => by omega) (mv_warm c3 f1 f2) (mv_same c4 f1 f2 (fun k hk => ?_))
      rw [pa_segI (by omega) (by omega), ea_upR (by decide), show 0 + k - 0 = k by omega]
theorem in2 (k0 : Int32) : (¬ p_X7_in k0.toInt64 0 1 ∧ (k0 < 0 ∨ (¬ k0 < 0 ∧ ¬ k0 < 2))) ∨ ∃ j : Nat, j < 2 ∧ k0 = nI j ∧ p_X7_in k0.toInt64 0 1 ∧ ¬ k0 < 0 ∧ k0 < 2 := by
  have ik : p_X7_in k0.toInt64 0 1 ↔ (¬ k0 < 0 ∧ ¬ 1 < k0) := in_i k0 0 1
  by_cases h : k0 < 0
  · exact Or.inl ⟨fun z => (ik.mp z).1 h, Or.inl h⟩
  · obtain ⟨j, hj, rfl⟩ := nI_of h
    rcases Nat.lt_or_ge j 2 with q | q
    · exact Or.inr ⟨j, q, rfl, ik.mpr ⟨h, nI_nlt (a := 1) (by omega) (by decide)⟩, h, nI_lt (b := 2) q (by decide)⟩
    · exact Or.inl ⟨fun z => (ik.mp z).2 (nI_lt (a := 1) (by omega) hj), Or.inr ⟨h, nI_nlt (b := 2) q hj⟩⟩
theorem kd_s2 (k : Nat) : 44 + 2 * k ≠ 20 ∧ 44 + 2 * k ≠ 21 := by omega
theorem pm_keep (k0 : Int32) : pm 4 yX6_keep cX6_keep 2 1 yX7_keep cX7_keep 2 (some .int) [.int k0] := by
  intro s M N0 h0
  have hk : M 13 5 = nI s.nc := h0.1.1.1.2.2.2
  have hn : s.nc ≤ 10 := h0.1.1.1.2.1
  have hw := wl_of h0.1.1
  have ww := warm_of h0.1.1
  rcases in2 k0 with ⟨im, hb⟩ | ⟨j, hj, rfl, im, v0, v2⟩
  · refine ⟨.int (-2000000001), M, s, ?_, fun _ _ => rfl, fun N hN => ⟨N, ?_, fun _ _ => rfl, hN⟩⟩
    · refine ea_intro (own := RX6) (by decide +kernel) rfl (fun g => Nat.le_of_ble_eq_true rfl) (fun k C X => ?_)
      rcases hb with v0 | ⟨v0, v2⟩
      · refine kb_X6_keep C X  (M1 := fun _ _ => 0) (r2 := 0) (fun _ => ⟨rfl, rfl⟩) (fun c _ => absurd v0 c) (fun c _ => absurd v0 c) (fun c _ => absurd v0 c) (fun c _ => absurd v0 c)
      · refine kb_X6_keep C X  (M1 := fun _ _ => 0) (r2 := 0) (fun c => absurd c v0) (fun _ c => absurd c v2) (fun _ c => absurd c v2) (fun _ c => absurd c v2) (fun _ _ => ⟨rfl, rfl⟩)
    · refine ea_intro (own := RX7) (by decide +kernel) rfl (fun g => Nat.le_of_ble_eq_true rfl) (fun k C X => ?_)
      refine km_keep C X  (M1 := fun _ _ => 0) (r2 := 0) (fun c => absurd c im) (fun c => absurd c im) (fun c => absurd c im) (fun c => absurd c im) (fun _ => ⟨rfl, rfl⟩)
  have eS : ps_sto M j = ea_up (g_X5_become M (44 + 2 * j) 20) 27 j 1 := rfl
  have cj : (nI j).toNatClampNeg = j := nI_clamp (by omega)
  refine ⟨.int (pa_sum (M 21) s.nc), ps_sto M j, s, ?_, fun a ha => ?_, fun N hN => ?_⟩
  · refine ea_intro (own := RX6) (by decide +kernel) rfl (fun g => Nat.le_of_ble_eq_true rfl) (fun k C X => ?_)
    have e5 : ps_sto M j 13 = M 13 := by rw [eS, ea_upR (by decide), bec_R (by omega) (by omega)]
    have e21 : ps_sto M j 21 = M 21 := by rw [eS, ea_upR (by decide), bec_R (by omega) (by omega)]
    have sp := sp_X5_allHeat (ps_sto M j) 20 s.nc rfl hn
    rw [← hk, ← e5, show 20 + 1 = 21 from rfl, e21] at sp
    refine kb_X6_keep C X  (fun c => absurd c v0) (fun _ _ => sp_X1_store M j hj) (fun _ _ => sp) (fun _ _ => ⟨rfl, rfl⟩) (fun _ c => absurd v2 c)
  · rw [eS, ea_upR (by omega), bec_R (by omega) (by omega)]
  · have e2 : (144 : Int32) + ((16 : Int32) * nI j) = nI (144 + 16 * j) := by rw [show (16 : Int32) = nI 16 from rfl, pk_mul]; exact nI_add 144 (16 * j)
    have q := sp_X7_copyRow N 0 (144 + 16 * j) (by decide) (by omega) (by omega)
    obtain ⟨Z, hZ⟩ : ∃ Z, Z = ea_up (pa_seg N 62 (144 + 16 * j) (fun k => N 62 (0 + k)) 16) 68 j 1 := ⟨_, rfl⟩
    have zR : ∀ a, a ≠ 62 → a ≠ 68 → Z a = N a := fun a h1 h2 => by rw [hZ, ea_upR h2, pa_segR h1]
    have z62 : ∀ i, (i < 144 + 16 * j ∨ 144 + 16 * j + 16 ≤ i) → Z 62 i = N 62 i := fun i h1 => by rw [hZ, ea_upR (by decide), pa_segO h1]
    refine ⟨Z, ?_, fun a ha => zR a (by omega) (by omega), ?_⟩
    · have sa := sp_X7_allHeat Z s.nc (by rw [zR 61 (by decide) (by decide)]; exact nW_6 hN) hn
      rw [pa_sumC (g := M 21) s.nc (fun i hi => by
        rw [z62 i (by omega)]
        have := hN.1.2.2.2.2.2.2.2.2.1 i (by omega)
        rw [Nat.zero_add] at this
        exact this), hZ] at sa
      rw [← e2] at q
      rw [hZ]
      refine ea_intro (own := RX7) (by decide +kernel) rfl (fun g => Nat.le_of_ble_eq_true rfl) (fun k C X => ?_)
      refine km_keep C X  (fun _ => q) (fun _ => vp_in_nI hj (by decide)) (fun _ => (by rw [cj]; exact sa)) (fun _ => ⟨rfl, by rw [cj]⟩) (fun c => absurd im c)
    · obtain ⟨a1, a2, a3, a4, a5, a6⟩ := hN
      have hm : ∀ a, a ≠ 27 → a ≠ 44 + 2 * j → a ≠ 44 + 2 * j + 1 → ps_sto M j a = M a := fun a h1 h2 h3 => by rw [eS, ea_upR h1, bec_R h2 h3]
      have n61 := zR 61 (by decide) (by decide)
      refine ⟨R_w_cg a1 rfl rfl (fun a h1 h2 h3 => hm a (by omega) (by omega) (by omega)) (by rw [n61]) (by rw [n61]) (fun a h1 h2 => zR a (by omega) (by omega)) (fun i hi => z62 i (by omega)), R_t_cg a2 rfl (by rw [hm 2 (by omega) (by omega) (by omega)]) (hm 3 (by omega) (by omega) (by omega)) (by rw [n61]) (zR 69 (by decide) (by decide)), R_p_cg a3 rfl rfl (hm 24 (by omega) (by omega) (by omega)) (fun a h1 h2 => hm a (by omega) (by omega) (by omega)) (by rw [n61]) (fun i h1 h2 => z62 i (by omega)), fun k hk => ?_, R_g_cg a5 rfl (fun a h1 h2 => hm a (by omega) (by omega) (by omega)) (fun a h1 h2 => zR a (by omega) (by omega)), R_c_cg a6 (zR 77 (by decide) (by decide))⟩
      by_cases ek : k = j
      · subst ek
        have f1 : ∀ i, i < 10 → ps_sto M k (44 + 2 * k + 1) i = M (20 + 1) i := by
          intro i hi
          rw [eS, ea_upR (by omega)]
          exact bec_h M (44 + 2 * k) 20 i hi
        have f2 : ∀ f, 1 ≤ f → f ≤ 6 → ps_sto M k (44 + 2 * k) f = M 20 f := by
          intro f h1 h2
          rw [eS, ea_upR (by omega)]
          exact bec_f M (44 + 2 * k) 20 f h1 h2
        have g1 : ps_sto M k 27 k = 1 := by rw [eS, ea_upS]
        refine ⟨by rw [g1, hZ, ea_upS], Or.inr ⟨g1, mv_warm ww f1 f2, mv_same a1.2.2.2.2.2.2.2.2 f1 f2 (fun i hi => ?_)⟩⟩
        rw [hZ, ea_upR (by decide), pa_segI (by omega) (by omega), show 144 + 16 * k + i - (144 + 16 * k) = i by omega]
      · obtain ⟨b1, b2⟩ := a4 k hk
        have g1 : ps_sto M j 27 k = M 27 k := by rw [eS, ea_upK ek, bec_R (by omega) (by omega)]
        have g2 : Z 68 k = N 68 k := by rw [hZ, ea_upK ek, pa_segR (by decide)]
        rw [g1, g2]
        refine ⟨b1, b2.imp id (fun c => ⟨c.1, ?_, ?_⟩)⟩
        · exact warm_cg c.2.1 (hm _ (by omega) (by omega) (by omega)) (hm _ (by omega) (by omega) (by omega))
        · exact same_cg c.2.2 (hm _ (by omega) (by omega) (by omega)) (hm _ (by omega) (by omega) (by omega)) (fun i h3 h4 => z62 i (by omega))
theorem pm_back (k0 : Int32) : pm 4 yX6_back cX6_back 2 1 yX7_back cX7_back 2 (some .int) [.int k0] := by
  intro s M N0 h0
  have hk : M 13 5 = nI s.nc := h0.1.1.1.2.2.2
  have hn : s.nc ≤ 10 := h0.1.1.1.2.1
  have hw := wl_of h0.1.1
  have ww := warm_of h0.1.1
  rcases in2 k0 with ⟨im, hb⟩ | ⟨j, hj, rfl, im, v0, v2⟩
  · refine ⟨.int (-2000000001), M, s, ?_, fun _ _ => rfl, fun N hN => ⟨N, ?_, fun _ _ => rfl, hN⟩⟩
    · refine ea_intro (own := RX6) (by decide +kernel) rfl (fun g => Nat.le_of_ble_eq_true rfl) (fun k C X => ?_)
      rcases hb with v0 | ⟨v0, v2⟩
      · refine kb_X6_back C X  (M1 := fun _ _ => 0) (r2 := 0) (fun _ => ⟨rfl, rfl⟩) (fun c _ _ => absurd v0 c) (fun c _ _ => absurd v0 c) (fun c _ _ => absurd v0 c) (fun c _ _ => absurd v0 c) (fun c _ => absurd v0 c)
      · refine kb_X6_back C X  (M1 := fun _ _ => 0) (r2 := 0) (fun c => absurd c v0) (fun _ c _ => absurd c v2) (fun _ c _ => absurd c v2) (fun _ c _ => absurd c v2) (fun _ c _ => absurd c v2) (fun _ _ => ⟨rfl, rfl⟩)
    · refine ea_intro (own := RX7) (by decide +kernel) rfl (fun g => Nat.le_of_ble_eq_true rfl) (fun k C X => ?_)
      refine km_back C X  (M1 := fun _ _ => 0) (r2 := 0) (fun c => absurd c im) (fun c _ => absurd c im) (fun c _ => absurd c im) (fun c _ => absurd c im) (fun c _ => absurd c im) (fun _ => ⟨rfl, rfl⟩)
  have cj : (nI j).toNatClampNeg = j := nI_clamp (by omega)
  have vj : vp_in (nI j) 2 := vp_in_nI hj (by decide)
  have eA : pa_at (M 27) 2 (nI j) = M 27 j := pa_atN hj (by decide)
  rcases (h0.2.2.2.1 j hj).2 with h27 | ⟨h27, wj, -⟩
  · have c1 : ¬ p_X1_isStored M (nI j) := by
      show ¬ pa_at (M 27) 2 (nI j) = 1
      rw [eA, h27]
      decide
    refine ⟨.int (-2000000003), M, s, ?_, fun _ _ => rfl, fun N hN => ⟨N, ?_, fun _ _ => rfl, hN⟩⟩
    · refine ea_intro (own := RX6) (by decide +kernel) rfl (fun g => Nat.le_of_ble_eq_true rfl) (fun k C X => ?_)
      refine kb_X6_back C X  (M1 := fun _ _ => 0) (r2 := 0) (fun c => absurd c v0) (fun _ _ c => absurd c c1) (fun _ _ c => absurd c c1) (fun _ _ c => absurd c c1) (fun _ _ _ => ⟨rfl, rfl⟩) (fun _ c => absurd v2 c)
    · refine ea_intro (own := RX7) (by decide +kernel) rfl (fun g => Nat.le_of_ble_eq_true rfl) (fun k C X => ?_)
      have c2 : N 68 (nI j).toNatClampNeg = 0 := by rw [cj, (hN.2.2.2.1 j hj).1, h27]
      refine km_back C X  (M1 := fun _ _ => 0) (r2 := 0) (fun _ => vj) (fun _ c => absurd c2 c) (fun _ c => absurd c2 c) (fun _ c => absurd c2 c) (fun _ _ => ⟨rfl, rfl⟩) (fun c => absurd im c)
  have c1 : p_X1_isStored M (nI j) := by
    show pa_at (M 27) 2 (nI j) = 1
    rw [eA, h27]
  have eS : ps_res M j = ea_up (g_X5_become M 20 (44 + 2 * j)) 24 4 0 := rfl
  have hm : ∀ a, a ≠ 20 → a ≠ 21 → a ≠ 24 → ps_res M j a = M a := fun a h1 h2 h3 => by rw [eS, ea_upR h3, bec_R h1 h2]
  have f1 : ∀ i, i < 10 → ps_res M j (20 + 1) i = M (44 + 2 * j + 1) i := by
    intro i hi
    rw [eS, ea_upR (by decide)]
    exact bec_h M 20 (44 + 2 * j) i hi
  have f2 : ∀ f, 1 ≤ f → f ≤ 6 → ps_res M j 20 f = M (44 + 2 * j) f := by
    intro f h1 h2
    rw [eS, ea_upR (by decide)]
    exact bec_f M 20 (44 + 2 * j) f h1 h2
  refine ⟨.int (pa_sum (ps_res M j 21) s.nc), ps_res M j, (s.1, s.2.1, s.2.2.1, s.t, 0, s.g), ?_, fun a ha => hm a (by omega) (by omega) (by omega), fun N hN => ?_⟩
  · refine ea_intro (own := RX6) (by decide +kernel) rfl (fun g => Nat.le_of_ble_eq_true rfl) (fun k C X => ?_)
    have sp := sp_X5_allHeat (ps_res M j) 20 s.nc rfl hn
    rw [← hk, ← hm 13 (by decide) (by decide) (by decide)] at sp
    refine kb_X6_back C X  (fun c => absurd c v0) (fun _ _ _ => sp_X1_restore M j hj) (fun _ _ _ => sp) (fun _ _ _ => ⟨rfl, rfl⟩) (fun _ _ c => absurd c1 c) (fun _ c => absurd v2 c)
  · have c2 : ¬ N 68 (nI j).toNatClampNeg = 0 := by rw [cj, (hN.2.2.2.1 j hj).1, h27]; decide
    have e2 : (144 : Int32) + ((16 : Int32) * nI j) = nI (144 + 16 * j) := by rw [show (16 : Int32) = nI 16 from rfl, pk_mul]; exact nI_add 144 (16 * j)
    have q := sp_X7_copyRow N (144 + 16 * j) 0 (by omega) (by decide) (by omega)
    obtain ⟨Z, hZ⟩ : ∃ Z, Z = ea_up (pa_seg N 62 0 (fun k => N 62 (144 + 16 * j + k)) 16) 61 8 0 := ⟨_, rfl⟩
    have rel : Rel (s.1, s.2.1, s.2.2.1, s.t, 0, s.g) (ps_res M j) Z := by
      obtain ⟨-, b2⟩ := hN.2.2.2.1 j hj
      have sj : same M N (44 + 2 * j) (144 + 16 * j) := by
        rcases b2 with z | ⟨-, -, z⟩
        · rw [h27] at z
          exact absurd z (by decide)
        · exact z
      refine Rel_set hN s.t 0 (fun a _ h2 h3 h4 => hm a h2 h3 h4) ?_ ?_ (fun a h1 h2 => ?_) (fun f hf => ?_) ?_ (fun i h1 h2 => ?_) hN.2.2.1.1 (Nat.zero_le _) (fun e he => absurd he (Nat.not_lt_zero e)) (mv_warm wj f1 f2) (mv_same sj f1 f2 (fun i hi => ?_))
      · rw [eS, ea_upK (by decide), bec_R (by decide) (by decide)]
        exact hN.2.2.1.2.2.1
      · rw [eS, ea_upS]
        rfl
      · rw [hZ, ea_upR (by omega), pa_segR h2]
      · rw [hZ, ea_upK hf, pa_segR (by decide)]
      · rw [hZ, ea_upS]
        rfl
      · rw [hZ, ea_upR (by decide), pa_segO (by omega)]
      · rw [hZ, ea_upR (by decide), pa_segI (by omega) (by omega), show 0 + i - 0 = i by omega]
    refine ⟨Z, ?_, fun a ha => by rw [hZ, ea_upR (by omega), pa_segR (by omega)], rel⟩
    have sa := sp_X7_allHeat Z s.nc (rel.1.2.2.1.trans rel.1.1.1.2.2.2) hn
    rw [pa_sumC (g := ps_res M j 21) s.nc (fun i hi => by
      have := rel.1.2.2.2.2.2.2.2.2.1 i (by omega)
      rw [Nat.zero_add] at this
      exact this), hZ] at sa
    rw [← e2] at q
    rw [hZ]
    refine ea_intro (own := RX7) (by decide +kernel) rfl (fun g => Nat.le_of_ble_eq_true rfl) (fun k C X => ?_)
    refine km_back C X  (fun _ => vj) (fun _ _ => q) (fun _ _ => sa) (fun _ _ => ⟨rfl, rfl⟩) (fun _ c => absurd c c2) (fun c => absurd im c)

