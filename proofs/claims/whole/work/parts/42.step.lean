/-! ===== step, gain, until ===== -/
theorem adv_R {M : ea_M} {w nc a : Nat} (h1 : a ≠ w) (h2 : a ≠ w + 1) (h3 : a ≠ 19) : pa_adv M 13 w nc a = M a := by
  unfold pa_adv
  rw [ea_upR h1, ea_upR h1, ea_upR h1, pa_rowR h2]
  exact pa_M1R h3
theorem sta_R {N : ea_M} {b nc a : Nat} {F : Nat → Int32} (h1 : a ≠ 62) (h2 : a ≠ 78) : st_adv N b nc F a = N a := by
  unfold st_adv
  rw [ea_upR h1, ea_upR h1, ea_upR h1, st_NR h1 h2]
theorem sta_O {N : ea_M} {b nc j : Nat} {F : Nat → Int32} (hn : nc ≤ 10) (h : j < b ∨ b + 16 ≤ j) : st_adv N b nc F 62 j = N 62 j := by
  unfold st_adv
  rw [ea_upK (by omega), ea_upK (by omega), ea_upK (by omega)]
  unfold st_N
  rw [pa_segO (by omega)]
  unfold st_M1
  rw [pa_rowR (by decide)]
theorem adv_g {M N : ea_M} {ns nc w b j : Nat} (hw : wl_ok M 13 ns nc) (h1 : 1 ≤ nc) (hv : warm M w) (hs : same M N w b) (hj : j < nc) : pa_g M 13 w j = st_g N b (wF M w nc) j := by
  have hn := hw.2.1
  have e1 : pa_F M 13 w j = wF M w nc j := F_W hw h1 hv (by omega)
  have e2 : pa_F M 13 w (j + 1) = wF M w nc (j + 1) := F_W hw h1 hv (by omega)
  unfold pa_g st_g
  rw [e1, e2, hs.1 j (by omega)]
theorem adv_ok {M N : ea_M} {ns nc w b : Nat} (hw : wl_ok M 13 ns nc) (h1 : 1 ≤ nc) (hv : warm M w) (hs : same M N w b) : pa_ok M 13 w nc ↔ st_ok N b nc (wF M w nc) := by
  unfold pa_ok st_ok
  constructor
  · intro h j hj
    rw [← adv_g hw h1 hv hs hj]
    exact h j hj
  · intro h j hj
    rw [adv_g hw h1 hv hs hj]
    exact h j hj
theorem adv_w {M : ea_M} {ns nc w : Nat} (hw : wl_ok M 13 ns nc) (hv : warm M w) (h20 : w = 20 ∨ w = 22) (hok : pa_ok M 13 w nc) : warm (pa_adv M 13 w nc) w := by
  have hn := hw.2.1
  obtain ⟨w1, w2, w3, w4⟩ := hv
  have ef : ∀ k, k < 4 → pa_adv M 13 w nc w k = M w k := by
    intro k hk
    unfold pa_adv
    rw [ea_upK (by omega), ea_upK (by omega), ea_upK (by omega), pa_rowR (by omega)]
    rw [pa_M1R (by omega)]
  refine ⟨fun j hj => ?_, ?_, ?_, ?_⟩
  · unfold pa_adv
    rw [ea_upR (by omega), ea_upR (by omega), ea_upR (by omega)]
    by_cases h : j < nc
    · rw [pa_rowI h]
      obtain ⟨a, b⟩ := hok j h
      obtain ⟨z, z1, z2⟩ := nI_of2 (M := (20000 : Int32)) (n := 20000) (by decide) a (Int32.not_lt.mp b)
      exact ⟨z, z1, z2⟩
    · rw [pa_rowO (by omega), pa_M1R (by omega)]
      exact w1 j hj
  · rw [ef 1 (by decide)]
    exact w2
  · rw [ef 2 (by decide)]
    exact w3
  · rw [ef 3 (by decide)]
    exact w4
theorem adv_s {M N : ea_M} {ns nc w b : Nat} (hw : wl_ok M 13 ns nc) (h1 : 1 ≤ nc) (hv : warm M w) (hs : same M N w b) (h20 : w = 20 ∨ w = 22) : same (pa_adv M 13 w nc) (st_adv N b nc (wF M w nc)) w b := by
  have hn := hw.2.1
  obtain ⟨s1, s2⟩ := hs
  have eF0 : pa_F M 13 w 0 = wF M w nc 0 := F_W hw h1 hv (by omega)
  have eFn : pa_F M 13 w nc = wF M w nc nc := F_W hw h1 hv (by omega)
  refine ⟨fun j hj => ?_, fun k k1 k2 => ?_⟩
  · unfold pa_adv st_adv
    rw [ea_upK (by omega), ea_upK (by omega), ea_upK (by omega), ea_upR (by omega), ea_upR (by omega), ea_upR (by omega)]
    by_cases h : j < nc
    · rw [pa_rowI h, adv_g hw h1 hv ⟨s1, s2⟩ h]
      unfold st_N
      rw [pa_segI (by omega) (by omega), show b + j - b = j by omega]
    · rw [pa_rowO (by omega), pa_M1R (by omega)]
      unfold st_N
      rw [pa_segO (by omega)]
      unfold st_M1
      rw [pa_rowR (by decide)]
      exact s1 j hj
  · have base : st_N N b nc (wF M w nc) nc 62 (b + 9 + k) = M w k := by
      unfold st_N
      rw [pa_segO (by omega)]
      unfold st_M1
      rw [pa_rowR (by decide)]
      exact s2 k k1 k2
    have bw : pa_row (pa_M1 M 13 w nc) (w + 1) (pa_g M 13 w) nc w k = M w k := by
      rw [pa_rowR (by omega), pa_M1R (by omega)]
    unfold pa_adv st_adv
    by_cases e6 : k = 6
    · subst e6
      rw [show b + 9 + 6 = b + 15 by omega, ea_upS, ea_upS, ← s2 6 (by decide) (by decide), show b + 9 + 6 = b + 15 by omega]
    · by_cases e5 : k = 5
      · subst e5
        rw [show b + 9 + 5 = b + 14 by omega, ea_upK (by omega), ea_upS, ea_upK (by omega), ea_upS, ← s2 5 (by decide) (by decide), show b + 9 + 5 = b + 14 by omega, eFn]
      · by_cases e4 : k = 4
        · subst e4
          rw [show b + 9 + 4 = b + 13 by omega, ea_upK (by omega), ea_upK (by omega), ea_upS, ea_upK (by omega), ea_upK (by omega), ea_upS, ← s2 4 (by decide) (by decide), show b + 9 + 4 = b + 13 by omega, eF0]
        · rw [ea_upK (by omega), ea_upK (by omega), ea_upK (by omega), ea_upK e6, ea_upK e5, ea_upK e4, base, bw]
theorem M1_R {M : ea_M} {w nc a : Nat} (h : a ≠ 19) : pa_M1 M 13 w nc a = M a := pa_M1R h
theorem stM1_R {N : ea_M} {nc a : Nat} {F : Nat → Int32} (h : a ≠ 78) : st_M1 N nc F a = N a := pa_rowR h
/-- both sides do a step of the warmth now -/
theorem Rel_adv {s : sg} {M N : ea_M} (h : Rel s M N) (h1 : 1 ≤ s.nc) (hok : pa_ok M 13 20 s.nc) : Rel s (pa_adv M 13 20 s.nc) (st_adv N 0 s.nc (wF M 20 s.nc)) := by
  have hn := h.1.1.1.2.1
  have hw := wl_of h.1.1
  have ww := warm_of h.1.1
  have sm := h.1.2.2.2.2.2.2.2.2
  exact Rel_now h (fun a h1 h2 h3 h4 _ _ => adv_R h3 h4 h2) (fun a h1 h2 h3 => sta_R h2 h3) (fun j h1 h2 => sta_O hn (by omega)) (adv_w hw ww (Or.inl rfl) hok) (adv_s hw h1 ww sm (Or.inl rfl))
theorem Rel_no {s : sg} {M N : ea_M} (h : Rel s M N) (w : Nat) (F : Nat → Int32) : Rel s (pa_M1 M 13 w s.nc) (st_M1 N s.nc F) := Rel_q h (by rw [M1_R (by decide)]) (fun a ha => M1_R (by omega)) (fun k hk => by rw [stM1_R (by decide)]) (fun j hj => by rw [stM1_R (by decide)]) (fun a ha => stM1_R (by omega))
theorem step_loop (s : sg) (n : Nat) (hn5 : n ≤ 50) (h1 : 1 ≤ s.nc) : ∀ (m j : Nat) (M N0 : ea_M), j + m = n → Rel s M N0 → ∃ (r : Int32) (M' : ea_M), (∀ {k : ea_K}, ea_C k RX6 cX6_step 3 5 → ea_X k (some .int) (some (.int r)) M' → ea_E k 43 [(0, .ref 0), (1, .int (nI n)), (2, .int (nI j))] [] M) ∧ (∀ a, 61 ≤ a → M' a = M a) ∧ ∀ N, Rel s M N → ∃ N', (∀ {k : ea_K}, ea_C k RX7 cX7_step 3 3 → ea_X k (some .int) (some (.int r)) N' → ea_E k 31 [(0, .ref 61), (1, .int (nI n)), (2, .int (nI j))] [] N) ∧ (∀ a, a < 61 → N' a = N a) ∧ Rel s M' N' := by
  intro m
  induction m with
  | zero =>
    intro j M N0 hj h0
    have ej : j = n := by omega
    subst ej
    have c1 : nI j ≤ nI j := Int32.le_refl _
    refine ⟨nI j, M, fun {k} C X => ?_, fun _ _ => rfl, fun N hN => ⟨N, fun {k} C X => ?_, fun _ _ => rfl, hN⟩⟩
    · refine kb_X6_step_43 C X  (M1 := fun _ _ => 0) (r1 := 0) (fun _ => ⟨rfl, rfl⟩) (fun c => absurd c1 c) (fun c _ => absurd c1 c) (fun c _ => absurd c1 c)
    · refine km_step_31 C X  (M1 := fun _ _ => 0) (r1 := 0) (fun _ => ⟨rfl, rfl⟩) (fun c => absurd c1 c) (fun c _ => absurd c1 c) (fun c _ => absurd c1 c)
  | succ m ih =>
    intro j M N0 hj h0
    have hk : M 13 5 = nI s.nc := h0.1.1.1.2.2.2
    have hn := h0.1.1.1.2.1
    have hw := wl_of h0.1.1
    have ww := warm_of h0.1.1
    have c1 : ¬ nI n ≤ nI j := nI_ge (by omega) (by omega)
    have md : ∀ N, Rel s M N → mp_ok N s.nc (wl_p M 13) (wl_c M 13) ∧ mr_ok N 0 s.nc (wm_h M 20) (wm_l M 20) (wm_r M 20) (wm_t M 20) ∧ same M N 20 0 := fun N hN => ⟨mp_of hN.1, same_mr ww hN.1.2.2.2.2.2.2.2.2 (Or.inl rfl) hn, hN.1.2.2.2.2.2.2.2.2⟩
    have hfl := warm_fl hw h1 ww
    by_cases hok : pa_ok M 13 20 s.nc
    · obtain ⟨r, M', A, FW, B⟩ := ih (j + 1) (pa_adv M 13 20 s.nc) _ (by omega) (Rel_adv h0 h1 hok)
      have nz : ¬ (1 : Int32) = 0 := by decide
      refine ⟨r, M', fun {k} C X => ?_, fun a ha => by rw [FW a ha, adv_R (by omega) (by omega) (by omega)], fun N hN => ?_⟩
      · have sp := sp_adv1 (M := M) (x := 13) (w := 20) rfl rfl hn hk hok
        refine kb_X6_step_43 C X  (fun c => absurd c c1) (fun _ => sp) (fun _ c => absurd c nz) (fun _ _ => ?_)
        rw [nI_1]
        exact A C X
      · obtain ⟨b1, b2, b3⟩ := md N hN
        have sp := sp_st1 b1 hfl b2 ((adv_ok hw h1 ww b3).mp hok)
        obtain ⟨N', B1, B2, B3⟩ := B _ (Rel_adv hN h1 hok)
        refine ⟨N', fun {k} C X => ?_, fun a ha => by rw [B2 a ha, sta_R (by omega) (by omega)], B3⟩
        refine km_step_31 C X  (fun c => absurd c c1) (fun _ => sp) (fun _ c => absurd c nz) (fun _ _ => ?_)
        rw [nI_1]
        exact B1 C X
    · refine ⟨nI j, pa_M1 M 13 20 s.nc, fun {k} C X => ?_, fun a ha => M1_R (by omega), fun N hN => ?_⟩
      · have sp := sp_adv0 (M := M) (x := 13) (w := 20) rfl rfl hn hk hok
        have z : (0 : Int32) = 0 := rfl
        refine kb_X6_step_43 C X  (fun c => absurd c c1) (fun _ => sp) (fun _ _ => ⟨rfl, rfl⟩) (fun _ c => absurd z c)
      · obtain ⟨b1, b2, b3⟩ := md N hN
        have sp := sp_st0 b1 hfl b2 (fun z => hok ((adv_ok hw h1 ww b3).mpr z))
        refine ⟨st_M1 N s.nc (wF M 20 s.nc), fun {k} C X => ?_, fun a ha => stM1_R (by omega), Rel_no hN 20 _⟩
        have z : (0 : Int32) = 0 := rfl
        refine km_step_31 C X  (fun c => absurd c c1) (fun _ => sp) (fun _ _ => ⟨rfl, rfl⟩) (fun _ c => absurd z c)
theorem pm_step (n : Int32) : pm 5 yX6_step cX6_step 3 3 yX7_step cX7_step 3 (some .int) [.int n] := by
  intro s M N0 h0
  have hk : M 13 5 = nI s.nc := h0.1.1.1.2.2.2
  have hn : s.nc ≤ 10 := h0.1.1.1.2.1
  have hw := wl_of h0.1.1
  have ww := warm_of h0.1.1
  have is : p_X7_in n.toInt64 1 50 ↔ (¬ n < 1 ∧ ¬ 50 < n) := in_i n 1 50
  by_cases hs : ¬ n < 1 ∧ ¬ 50 < n
  case neg =>
    have im : ¬ p_X7_in n.toInt64 1 50 := fun z => hs (is.mp z)
    refine ⟨.int (-2000000002), M, s, ?_, fun _ _ => rfl, fun N hN => ⟨N, ?_, fun _ _ => rfl, hN⟩⟩
    · refine ea_intro (own := RX6) (by decide +kernel) rfl (fun g => Nat.le_of_ble_eq_true rfl) (fun k C X => ?_)
      by_cases v0 : n < 1
      · refine kb_X6_step C X  (M1 := fun _ _ => 0) (fun _ => ⟨rfl, rfl⟩) (fun c _ _ => absurd v0 c) (fun c _ _ => absurd v0 c) (fun c _ _ => absurd v0 c) (fun c _ => absurd v0 c)
      · have v2 : ¬ n ≤ 50 := fun z => hs ⟨v0, Int32.not_lt.mpr z⟩
        refine kb_X6_step C X  (M1 := fun _ _ => 0) (fun c => absurd c v0) (fun _ c _ => absurd c v2) (fun _ c _ => absurd c v2) (fun _ c _ => absurd c v2) (fun _ _ => ⟨rfl, rfl⟩)
    · refine ea_intro (own := RX7) (by decide +kernel) rfl (fun g => Nat.le_of_ble_eq_true rfl) (fun k C X => ?_)
      refine km_step C X  (M1 := fun _ _ => 0) (fun c _ => absurd c im) (fun c _ => absurd c im) (fun c _ => absurd c im) (fun _ => ⟨rfl, rfl⟩)
  have im := is.mpr hs
  have v0 := hs.1
  have v2 : n ≤ 50 := Int32.not_lt.mp hs.2
  by_cases hc : s.nc = 0
  · have c0 : M 13 5 = 0 := by rw [hk, hc]; rfl
    refine ⟨.int (-2000000003), M, s, ?_, fun _ _ => rfl, fun N hN => ⟨N, ?_, fun _ _ => rfl, hN⟩⟩
    · refine ea_intro (own := RX6) (by decide +kernel) rfl (fun g => Nat.le_of_ble_eq_true rfl) (fun k C X => ?_)
      refine kb_X6_step C X  (M1 := fun _ _ => 0) (fun c => absurd c v0) (fun _ _ c => absurd c0 c) (fun _ _ c => absurd c0 c) (fun _ _ _ => ⟨rfl, rfl⟩) (fun _ c => absurd v2 c)
    · refine ea_intro (own := RX7) (by decide +kernel) rfl (fun g => Nat.le_of_ble_eq_true rfl) (fun k C X => ?_)
      have c1 : N 61 6 = 0 := by rw [nW_6 hN, hc]; rfl
      refine km_step C X  (M1 := fun _ _ => 0) (fun _ c => absurd c1 c) (fun _ c => absurd c1 c) (fun _ _ => ⟨rfl, rfl⟩) (fun c => absurd im c)
  have c0 : ¬ M 13 5 = 0 := by rw [hk]; exact fun z => hc ((nI_0i (by omega)).mp z)
  obtain ⟨z, z1, rfl⟩ := nI_of2 (M := (50 : Int32)) (n := 50) (by decide) (fun q => v0 (Int32.lt_trans q (by decide))) v2
  have ht := h0.2.2.1.1
  obtain ⟨N9, -, kk⟩ := sp_X7_keepPast h0.2.2.1.2.1 h0.2.2.1.2.2.2.2.1
  obtain ⟨r, M', A, FW, B⟩ := step_loop (s_r s) z z1 (show 1 ≤ s.nc by omega) z 0 (ps_rem M s.t s.u) N9 (by omega) (Rel_rem h0 kk)
  refine ⟨.int r, M', s_r s, ?_, fun a ha => by rw [FW a ha, rem_hi ht ha], fun N hN => ?_⟩
  · refine ea_intro (own := RX6) (by decide +kernel) rfl (fun g => Nat.le_of_ble_eq_true rfl) (fun k C X => ?_)
    refine kb_X6_step C X  (fun c => absurd c v0) (fun _ _ _ => sp_X1_remember M s.t s.u h0.2.2.1.1 h0.2.2.1.2.1 h0.2.2.1.2.2.1 h0.2.2.1.2.2.2.1) (fun _ _ _ => A C X) (fun _ _ c => absurd c c0) (fun _ c => absurd v2 c)
  · obtain ⟨N1, k1, k2⟩ := sp_X7_keepPast hN.2.2.1.2.1 hN.2.2.1.2.2.2.2.1
    have c1 : ¬ N 61 6 = 0 := by rw [nW_6 hN]; exact fun z => hc ((nI_0i (by omega)).mp z)
    obtain ⟨N', B1, B2, B3⟩ := B N1 (Rel_rem hN k2)
    refine ⟨N', ?_, fun a ha => by rw [B2 a ha, k2.1 a (by omega) (by omega)], B3⟩
    refine ea_intro (own := RX7) (by decide +kernel) rfl (fun g => Nat.le_of_ble_eq_true rfl) (fun k C X => ?_)
    refine km_step C X  (fun _ _ => k1) (fun _ _ => B1 C X) (fun _ c => absurd c c1) (fun c => absurd im c)

