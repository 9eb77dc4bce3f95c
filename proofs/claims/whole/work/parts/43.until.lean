/-! ===== gain, until ===== -/
/-- the row that is tried -/
def tr_N (N : ea_M) : ea_M := pa_seg N 62 176 (fun k => N 62 (0 + k)) 16
theorem Rel_try {s : sg} {M N : ea_M} (h : Rel s M N) : Rel s (g_X5_become M 22 20) (tr_N N) ∧ warm (g_X5_become M 22 20) 22 ∧ same (g_X5_become M 22 20) (tr_N N) 22 176 := by
  refine ⟨Rel_q h (by rw [bec_R (by decide) (by decide)]) (fun a ha => bec_R (by omega) (by omega)) (fun k hk => by unfold tr_N; rw [pa_segR (by decide)]) (fun j hj => by unfold tr_N; rw [pa_segO (by omega)]) (fun a ha => by unfold tr_N; rw [pa_segR (by omega)]), mv_warm (warm_of h.1.1) (fun j hj => bec_h M 22 20 j hj) (fun k h1 h2 => bec_f M 22 20 k h1 h2), mv_same h.1.2.2.2.2.2.2.2.2 (fun j hj => bec_h M 22 20 j hj) (fun k h1 h2 => bec_f M 22 20 k h1 h2) (fun k hk => ?_)⟩
  unfold tr_N
  rw [pa_segI (by omega) (by omega), show 0 + (176 + k - 176) = 0 + k by omega]
theorem Rel_adv2 {s : sg} {M N : ea_M} (h : Rel s M N) (h1 : 1 ≤ s.nc) (hv : warm M 22) (hs : same M N 22 176) (hok : pa_ok M 13 22 s.nc) : Rel s (pa_adv M 13 22 s.nc) (st_adv N 176 s.nc (wF M 22 s.nc)) ∧ warm (pa_adv M 13 22 s.nc) 22 ∧ same (pa_adv M 13 22 s.nc) (st_adv N 176 s.nc (wF M 22 s.nc)) 22 176 := by
  have hn := h.1.1.1.2.1
  have hw := wl_of h.1.1
  exact ⟨Rel_q h (by rw [adv_R (by decide) (by decide) (by decide)]) (fun a ha => adv_R (by omega) (by omega) (by omega)) (fun k hk => by rw [sta_R (by decide) (by decide)]) (fun j hj => sta_O hn (by omega)) (fun a ha => sta_R (by omega) (by omega)), adv_w hw hv (Or.inr rfl) hok, adv_s hw h1 hv hs (Or.inr rfl)⟩
theorem pm_gain (c : Int32) : pm 5 yX6_gain cX6_gain 2 3 yX7_gain cX7_gain 2 (some .int) [.int c] := by
  intro s M N0 h0
  have hk : M 13 5 = nI s.nc := h0.1.1.1.2.2.2
  have hn : s.nc ≤ 10 := h0.1.1.1.2.1
  have hw := wl_of h0.1.1
  have ww := warm_of h0.1.1
  by_cases hst : ∃ j : Nat, j < s.nc ∧ c = nI j
  case neg =>
    have iw : ¬ p_X4_isCell M 13 c := fun z => hst ((iw_cell hk hn).mp z)
    refine ⟨.int (-2000000001), M, s, ?_, fun _ _ => rfl, fun N hN => ⟨N, ?_, fun _ _ => rfl, hN⟩⟩
    · refine ea_intro (own := RX6) (by decide +kernel) rfl (fun g => Nat.le_of_ble_eq_true rfl) (fun k C X => ?_)
      refine kb_X6_gain C X  (M1 := fun _ _ => 0) (r1 := 0) (fun c => absurd c iw) (fun c _ => absurd c iw) (fun c _ => absurd c iw) (fun _ => ⟨rfl, rfl⟩)
    · refine ea_intro (own := RX7) (by decide +kernel) rfl (fun g => Nat.le_of_ble_eq_true rfl) (fun k C X => ?_)
      have im : ¬ p_X7_isCell N c := fun z => hst ((mi_cell (nW_6 hN) hn).mp z)
      refine km_gain C X  (M1 := fun _ _ => 0) (M2 := fun _ _ => 0) (r2 := 0) (fun c => absurd c im) (fun c => absurd c im) (fun c _ => absurd c im) (fun c _ => absurd c im) (fun c _ => absurd c im) (fun c _ => absurd c im) (fun _ => ⟨rfl, rfl⟩)
  have iw := (iw_cell hk hn).mpr hst
  obtain ⟨j, hj, rfl⟩ := hst
  have aj : ∀ r, pa_at r 10 (nI j) = r j := fun r => pa_atN (show j < 10 by omega) (by decide)
  obtain ⟨M0, hM0⟩ : ∃ M0, M0 = g_X5_become M 22 20 := ⟨_, rfl⟩
  have tr : ∀ N, Rel s M N → Rel s M0 (tr_N N) ∧ warm M0 22 ∧ same M0 (tr_N N) 22 176 := fun N hN => by rw [hM0]; exact Rel_try hN
  have h1 : 1 ≤ s.nc := by omega
  obtain ⟨r0, w0, -⟩ := tr N0 h0
  have hk0 : M0 13 5 = nI s.nc := r0.1.1.1.2.2.2
  have hw0 := wl_of r0.1.1
  have fr0 : ∀ a, 61 ≤ a → M0 a = M a := fun a ha => by rw [hM0, bec_R (by omega) (by omega)]
  have hfl := warm_fl hw0 h1 w0
  have e1 : (0 : Int32) + nI j = nI (0 + j) := nI_add 0 j
  have e2 : (176 : Int32) + nI j = nI (176 + j) := nI_add 176 j
  have v1 : vp_in ((0 : Int32) + nI j) 192 := by rw [e1]; exact vp_in_nI (by omega) (by decide)
  have v2 : vp_in ((176 : Int32) + nI j) 192 := by rw [e2]; exact vp_in_nI (by omega) (by decide)
  by_cases hok : pa_ok M0 13 22 s.nc
  · refine ⟨.int (pa_adv M0 13 22 s.nc 23 j - pa_adv M0 13 22 s.nc 21 j), pa_adv M0 13 22 s.nc, s, ?_, fun a ha => by rw [adv_R (by omega) (by omega) (by omega), fr0 a ha], fun N hN => ?_⟩
    · have sp := sp_adv1 (M := M0) (x := 13) (w := 22) rfl rfl hn hk0 hok
      have nz : ¬ (1 : Int32) = 0 := by decide
      rw [hM0] at sp
      refine ea_intro (own := RX6) (by decide +kernel) rfl (fun g => Nat.le_of_ble_eq_true rfl) (fun k C X => ?_)
      rw [hM0] at X
      refine kb_X6_gain C X  (fun _ => sp) (fun _ _ => ⟨by rw [aj, aj], rfl⟩) (fun _ c => absurd c nz) (fun c => absurd iw c)
    · obtain ⟨r1, w1, s1⟩ := tr N hN
      have im := (mi_cell (nW_6 hN) hn).mpr ⟨j, hj, rfl⟩
      have sp := sp_st1 (mp_of r1.1) hfl (same_mr w1 s1 (Or.inr rfl) hn) ((adv_ok hw0 h1 w1 s1).mp hok)
      obtain ⟨r2, w2, s2⟩ := Rel_adv2 r1 h1 w1 s1 hok
      refine ⟨st_adv (tr_N N) 176 s.nc (wF M0 22 s.nc), ?_, fun a ha => by rw [sta_R (by omega) (by omega)]; unfold tr_N; rw [pa_segR (by omega)], r2⟩
      have nz : ¬ (1 : Int32) = 0 := by decide
      have q := sp_X7_copyRow N 0 176 (by decide) (by decide) (by decide)
      have g1 := s2.1 j (by omega)
      have g2 := r2.1.2.2.2.2.2.2.2.2.1 j (by omega)
      refine ea_intro (own := RX7) (by decide +kernel) rfl (fun g => Nat.le_of_ble_eq_true rfl) (fun k C X => ?_)
      refine km_gain C X  (fun _ => q) (fun _ => sp) (fun _ c => absurd c nz) (fun _ _ => v2) (fun _ _ => v1) (fun _ _ => ⟨by rw [e1, e2, nI_clamp (show 176 + j < 2 ^ 31 by omega), nI_clamp (show 0 + j < 2 ^ 31 by omega)]; unfold wF at g1 g2; rw [g1, g2], rfl⟩) (fun c => absurd im c)
  · refine ⟨.int (-2000000003), pa_M1 M0 13 22 s.nc, s, ?_, fun a ha => by rw [M1_R (by omega), fr0 a ha], fun N hN => ?_⟩
    · have sp := sp_adv0 (M := M0) (x := 13) (w := 22) rfl rfl hn hk0 hok
      have z : (0 : Int32) = 0 := rfl
      rw [hM0] at sp
      refine ea_intro (own := RX6) (by decide +kernel) rfl (fun g => Nat.le_of_ble_eq_true rfl) (fun k C X => ?_)
      rw [hM0] at X
      refine kb_X6_gain C X  (fun _ => sp) (fun _ c => absurd z c) (fun _ _ => ⟨rfl, rfl⟩) (fun c => absurd iw c)
    · obtain ⟨r1, w1, s1⟩ := tr N hN
      have im := (mi_cell (nW_6 hN) hn).mpr ⟨j, hj, rfl⟩
      have sp := sp_st0 (mp_of r1.1) hfl (same_mr w1 s1 (Or.inr rfl) hn) (fun z => hok ((adv_ok hw0 h1 w1 s1).mpr z))
      refine ⟨st_M1 (tr_N N) s.nc (wF M0 22 s.nc), ?_, fun a ha => by rw [stM1_R (by omega)]; unfold tr_N; rw [pa_segR (by omega)], Rel_no r1 22 _⟩
      have z : (0 : Int32) = 0 := rfl
      have q := sp_X7_copyRow N 0 176 (by decide) (by decide) (by decide)
      refine ea_intro (own := RX7) (by decide +kernel) rfl (fun g => Nat.le_of_ble_eq_true rfl) (fun k C X => ?_)
      refine km_gain C X  (fun _ => q) (fun _ => sp) (fun _ _ => ⟨rfl, rfl⟩) (fun _ c => absurd z c) (fun _ c => absurd z c) (fun _ c => absurd z c) (fun c => absurd im c)
theorem until_loop (s : sg) (c cc : Nat) (g : Int32) (hc : c < s.nc) : ∀ (m j : Nat) (M N0 : ea_M), j + m = 200 → Rel s M N0 → warm M 22 → same M N0 22 176 → f_X4_holdsAt M 13 (nI c) = nI cc → ∃ (r : Int32) (M' : ea_M), (∀ {k : ea_K}, ea_C k RX6 cX6_until 5 5 → ea_X k (some .int) (some (.int r)) M' → ea_E k 52 [(0, .ref 0), (1, .int (nI c)), (3, .int (g * nI cc)), (4, .int (nI j))] [] M) ∧ (∀ a, 61 ≤ a → M' a = M a) ∧ ∀ N, Rel s M N → same M N 22 176 → ∃ N', (∀ {k : ea_K}, ea_C k RX7 cX7_until 5 3 → ea_X k (some .int) (some (.int r)) N' → ea_E k 39 [(0, .ref 61), (1, .int (nI c)), (2, .int g), (3, .int (nI j)), (4, .int 1)] [] N) ∧ (∀ a, a < 61 → N' a = N a) ∧ Rel s M' N' := by
  intro m
  induction m with
  | zero =>
    intro j M N0 hj h0 wv hs0 hcc
    have hk : M 13 5 = nI s.nc := h0.1.1.1.2.2.2
    have hn := h0.1.1.1.2.1
    have hw := wl_of h0.1.1
    have h1 : 1 ≤ s.nc := by omega
    have ej : j = 200 := by omega
    subst ej
    have aj : ∀ r, pa_at r 10 (nI c) = r c := fun r => pa_atN (show c < 10 by omega) (by decide)
    have c1 : ¬ (200 : Int32) < nI 200 := by decide
    have c2 : (200 : Int32) ≤ nI 200 := by decide
    have nz : ¬ (1 : Int32) = 0 := by decide
    have e2 : (176 : Int32) + nI c = nI (176 + c) := nI_add 176 c
    have v2 : vp_in ((176 : Int32) + nI c) 192 := by rw [e2]; exact vp_in_nI (by omega) (by decide)
    have ecc : nI (wl_c M 13 c) = nI cc := (wl_cc hw hc).1.symm.trans hcc
    have eN : ∀ N, same M N 22 176 → N 62 ((176 : Int32) + nI c).toNatClampNeg = M 23 c := fun N hs => by rw [e2, nI_clamp (by omega)]; exact hs.1 c (by omega)
    have sh : ∀ N, Rel s M N → ea_Sp 0 yX7_holdsOf cX7_holdsOf 2 (some .int) [.ref 61, .int (nI c)] N (some (.int (nI cc))) N := fun N hN => by have := sp_X7_holdsOf (mp_of hN.1) hc; rw [ecc] at this; exact this
    by_cases hlt : M 23 c < g * nI cc
    · have hW : pa_at (M 23) 10 (nI c) < g * nI cc := by rw [aj]; exact hlt
      have two : ∀ (b : Prop), b ∨ ¬ b := fun b => Classical.em b
      have fin : ∃ M' : ea_M, (∀ {k : ea_K}, ea_C k RX6 cX6_until 5 5 → ea_X k (some .int) (some (.int (-1))) M' → ea_E k 52 [(0, .ref 0), (1, .int (nI c)), (3, .int (g * nI cc)), (4, .int (nI 200))] [] M) ∧ (∀ a, 61 ≤ a → M' a = M a) ∧ ∀ N, Rel s M N → Rel s M' N := by
        by_cases hok : pa_ok M 13 22 s.nc
        · refine ⟨pa_adv M 13 22 s.nc, fun {k} C X => ?_, fun a ha => adv_R (by omega) (by omega) (by omega), fun N hN => Rel_q hN (by rw [adv_R (by decide) (by decide) (by decide)]) (fun a ha => adv_R (by omega) (by omega) (by omega)) (fun _ _ => rfl) (fun _ _ => rfl) (fun _ _ => rfl)⟩
          have sp := sp_adv1 (M := M) (x := 13) (w := 22) rfl rfl hn hk hok
          have c3 : (200 : Int32) < nI 200 + 1 := by decide
          have nx : ea_E k 52 [(0, .ref 0), (1, .int (nI c)), (3, .int (g * nI cc)), (4, .int (nI 200 + 1))] [] (pa_adv M 13 22 s.nc) := by
            refine kb_X6_until_52 C X  (M1 := fun _ _ => 0) (r1 := 0) (fun _ => ⟨rfl, rfl⟩) (fun c _ => absurd c3 c) (fun c _ _ => absurd c3 c) (fun c _ _ => absurd c3 c) (fun c _ => absurd c3 c)
          refine kb_X6_until_52 C X  (fun c => absurd c c1) (fun _ _ => sp) (fun _ _ _ => nx) (fun _ _ c => absurd c nz) (fun _ c => absurd hW c)
        · refine ⟨pa_M1 M 13 22 s.nc, fun {k} C X => ?_, fun a ha => M1_R (by omega), fun N hN => Rel_q hN (by rw [M1_R (by decide)]) (fun a ha => M1_R (by omega)) (fun _ _ => rfl) (fun _ _ => rfl) (fun _ _ => rfl)⟩
          have sp := sp_adv0 (M := M) (x := 13) (w := 22) rfl rfl hn hk hok
          have z : (0 : Int32) = 0 := rfl
          refine kb_X6_until_52 C X  (fun c => absurd c c1) (fun _ _ => sp) (fun _ _ c => absurd z c) (fun _ _ _ => ⟨rfl, rfl⟩) (fun _ c => absurd hW c)
      obtain ⟨M', A, FW, RR⟩ := fin
      refine ⟨-1, M', fun {k} C X => A C X, FW, fun N hN hs => ⟨N, fun {k} C X => ?_, fun _ _ => rfl, RR N hN⟩⟩
      have hM : N 62 ((176 : Int32) + nI c).toNatClampNeg < g * nI cc := by rw [eN N hs]; exact hlt
      refine km_until_39 C X (r2 := nI cc) (M5 := fun _ _ => 0) (r1 := 0) (r3 := 0) (r4 := 0) (r5 := 0) (fun c _ => absurd c nz) (fun c _ => absurd c nz) (fun c _ => absurd c nz) (fun c _ _ => absurd c nz) (fun c _ _ => absurd c nz) (fun _ _ c => absurd c nz) (fun _ _ _ => v2) (fun _ _ _ => sh N hN) (fun _ _ _ _ => ⟨rfl, rfl⟩) (fun _ _ _ c => absurd hM c) (fun _ c => absurd c2 c) (fun _ c => absurd c2 c) (fun _ c _ _ => absurd c2 c) (fun _ c _ _ => absurd c2 c) (fun _ c _ _ => absurd c2 c) (fun _ c _ _ _ => absurd c2 c) (fun _ c _ _ _ => absurd c2 c) (fun _ c _ => absurd c2 c) (fun _ c _ => absurd c2 c)
    · have hW : ¬ pa_at (M 23) 10 (nI c) < g * nI cc := by rw [aj]; exact hlt
      refine ⟨nI 200, M, fun {k} C X => ?_, fun _ _ => rfl, fun N hN hs => ⟨N, fun {k} C X => ?_, fun _ _ => rfl, hN⟩⟩
      · refine kb_X6_until_52 C X  (M1 := fun _ _ => 0) (r1 := 0) (fun c => absurd c c1) (fun _ c => absurd c hW) (fun _ c _ => absurd c hW) (fun _ c _ => absurd c hW) (fun _ _ => ⟨rfl, rfl⟩)
      · have hM : ¬ N 62 ((176 : Int32) + nI c).toNatClampNeg < g * nI cc := by rw [eN N hs]; exact hlt
        refine km_until_39 C X (r2 := nI cc) (M5 := fun _ _ => 0) (r1 := 0) (r3 := 0) (r4 := 0) (r5 := 0) (fun c _ => absurd c nz) (fun c _ => absurd c nz) (fun c _ => absurd c nz) (fun c _ _ => absurd c nz) (fun c _ _ => absurd c nz) (fun _ _ c => absurd c nz) (fun _ _ _ => v2) (fun _ _ _ => sh N hN) (fun _ _ _ c => absurd c hM) (fun _ _ _ _ => ⟨rfl, rfl⟩) (fun _ c => absurd c2 c) (fun _ c => absurd c2 c) (fun _ c _ _ => absurd c2 c) (fun _ c _ _ => absurd c2 c) (fun _ c _ _ => absurd c2 c) (fun _ c _ _ _ => absurd c2 c) (fun _ c _ _ _ => absurd c2 c) (fun _ c _ => absurd c2 c) (fun _ c _ => absurd c2 c)
  | succ m ih =>
    intro j M N0 hj h0 wv hs0 hcc
    have hk : M 13 5 = nI s.nc := h0.1.1.1.2.2.2
    have hn := h0.1.1.1.2.1
    have hw := wl_of h0.1.1
    have h1 : 1 ≤ s.nc := by omega
    have aj : ∀ r, pa_at r 10 (nI c) = r c := fun r => pa_atN (show c < 10 by omega) (by decide)
    have c1 : ¬ (200 : Int32) < nI j := nI_nlt (a := 200) (by omega) (by decide)
    have c2 : ¬ (200 : Int32) ≤ nI j := nI_ge (b := 200) (by omega) (by decide)
    have nz : ¬ (1 : Int32) = 0 := by decide
    have z : (0 : Int32) = 0 := rfl
    have e2 : (176 : Int32) + nI c = nI (176 + c) := nI_add 176 c
    have v2 : vp_in ((176 : Int32) + nI c) 192 := by rw [e2]; exact vp_in_nI (by omega) (by decide)
    have ecc : nI (wl_c M 13 c) = nI cc := (wl_cc hw hc).1.symm.trans hcc
    have eN : ∀ N, same M N 22 176 → N 62 ((176 : Int32) + nI c).toNatClampNeg = M 23 c := fun N hs => by rw [e2, nI_clamp (by omega)]; exact hs.1 c (by omega)
    have sh : ∀ N, Rel s M N → ea_Sp 0 yX7_holdsOf cX7_holdsOf 2 (some .int) [.ref 61, .int (nI c)] N (some (.int (nI cc))) N := fun N hN => by have := sp_X7_holdsOf (mp_of hN.1) hc; rw [ecc] at this; exact this
    have hfl := warm_fl hw h1 wv
    by_cases hlt : M 23 c < g * nI cc
    · have hW : pa_at (M 23) 10 (nI c) < g * nI cc := by rw [aj]; exact hlt
      by_cases hok : pa_ok M 13 22 s.nc
      · obtain ⟨r1, w1, s1⟩ := Rel_adv2 h0 h1 wv hs0 hok
        have hcc' : f_X4_holdsAt (pa_adv M 13 22 s.nc) 13 (nI c) = nI cc := by
          rw [← hcc]
          unfold f_X4_holdsAt
          rw [adv_R (a := 13 + 4) (by decide) (by decide) (by decide), adv_R (a := 13 + 5) (by decide) (by decide) (by decide)]
        obtain ⟨r, M', A, FW, B⟩ := ih (j + 1) (pa_adv M 13 22 s.nc) _ (by omega) r1 w1 s1 hcc'
        refine ⟨r, M', fun {k} C X => ?_, fun a ha => by rw [FW a ha, adv_R (by omega) (by omega) (by omega)], fun N hN hs => ?_⟩
        · have sp := sp_adv1 (M := M) (x := 13) (w := 22) rfl rfl hn hk hok
          refine kb_X6_until_52 C X  (fun c => absurd c c1) (fun _ _ => sp) (fun _ _ _ => ?_) (fun _ _ c => absurd c nz) (fun _ c => absurd hW c)
          rw [nI_1]
          exact A C X
        · have sp := sp_st1 (mp_of hN.1) hfl (same_mr wv hs (Or.inr rfl) hn) ((adv_ok hw h1 wv hs).mp hok)
          obtain ⟨r2, w2, s2⟩ := Rel_adv2 hN h1 wv hs hok
          obtain ⟨N', B1, B2, B3⟩ := B _ r2 s2
          have hM : ¬ g * nI cc ≤ N 62 ((176 : Int32) + nI c).toNatClampNeg := by rw [eN N hs]; exact Int32.not_le.mpr hlt
          refine ⟨N', fun {k} C X => ?_, fun a ha => by rw [B2 a ha, sta_R (by omega) (by omega)], B3⟩
          refine km_until_39 C X (r3 := nI cc) (r1 := 0) (r2 := 0) (r4 := 0) (fun c _ => absurd c nz) (fun c _ => absurd c nz) (fun c _ => absurd c nz) (fun c _ _ => absurd c nz) (fun c _ _ => absurd c nz) (fun _ c _ => absurd c c2) (fun _ c _ => absurd c c2) (fun _ c _ => absurd c c2) (fun _ c _ _ => absurd c c2) (fun _ c _ _ => absurd c c2) (fun _ _ => v2) (fun _ _ => sh N hN) (fun _ _ c _ => absurd c hM) (fun _ _ c _ => absurd c hM) (fun _ _ c _ => absurd c hM) (fun _ _ c _ _ => absurd c hM) (fun _ _ c _ _ => absurd c hM) (fun _ _ _ => sp) (fun _ _ _ => ?_)
          rw [nI_1]
          exact B1 C X
      · refine ⟨-1, pa_M1 M 13 22 s.nc, fun {k} C X => ?_, fun a ha => M1_R (by omega), fun N hN hs => ?_⟩
        · have sp := sp_adv0 (M := M) (x := 13) (w := 22) rfl rfl hn hk hok
          refine kb_X6_until_52 C X  (fun c => absurd c c1) (fun _ _ => sp) (fun _ _ c => absurd z c) (fun _ _ _ => ⟨rfl, rfl⟩) (fun _ c => absurd hW c)
        · have sp := sp_st0 (mp_of hN.1) hfl (same_mr wv hs (Or.inr rfl) hn) (fun y => hok ((adv_ok hw h1 wv hs).mpr y))
          have hM : ¬ g * nI cc ≤ N 62 ((176 : Int32) + nI c).toNatClampNeg := by rw [eN N hs]; exact Int32.not_le.mpr hlt
          refine ⟨st_M1 N s.nc (wF M 22 s.nc), fun {k} C X => ?_, fun a ha => stM1_R (by omega), Rel_no hN 22 _⟩
          refine km_until_39 C X (r3 := nI cc) (r1 := 0) (r2 := 0) (r4 := 0) (fun c _ => absurd c nz) (fun c _ => absurd c nz) (fun c _ => absurd c nz) (fun c _ _ => absurd c nz) (fun c _ _ => absurd c nz) (fun _ c _ => absurd c c2) (fun _ c _ => absurd c c2) (fun _ c _ => absurd c c2) (fun _ c _ _ => absurd c c2) (fun _ c _ _ => absurd c c2) (fun _ _ => v2) (fun _ _ => sh N hN) (fun _ _ c _ => absurd c hM) (fun _ _ c _ => absurd c hM) (fun _ _ c _ => absurd c hM) (fun _ _ c _ _ => absurd c hM) (fun _ _ c _ _ => absurd c hM) (fun _ _ _ => sp) (fun _ _ _ => ?_)
          refine km_until_39 C X  (M5 := fun _ _ => 0) (r1 := 0) (r2 := 0) (r3 := 0) (r4 := 0) (r5 := 0) (fun _ _ => ⟨rfl, rfl⟩) (fun _ c => absurd z c) (fun _ c => absurd z c) (fun _ c _ => absurd z c) (fun _ c _ => absurd z c) (fun c _ _ => absurd z c) (fun c _ _ => absurd z c) (fun c _ _ => absurd z c) (fun c _ _ _ => absurd z c) (fun c _ _ _ => absurd z c) (fun c _ => absurd z c) (fun c _ => absurd z c) (fun c _ _ _ => absurd z c) (fun c _ _ _ => absurd z c) (fun c _ _ _ => absurd z c) (fun c _ _ _ _ => absurd z c) (fun c _ _ _ _ => absurd z c) (fun c _ _ => absurd z c) (fun c _ _ => absurd z c)
    · have hW : ¬ pa_at (M 23) 10 (nI c) < g * nI cc := by rw [aj]; exact hlt
      refine ⟨nI j, M, fun {k} C X => ?_, fun _ _ => rfl, fun N hN hs => ⟨N, fun {k} C X => ?_, fun _ _ => rfl, hN⟩⟩
      · refine kb_X6_until_52 C X  (M1 := fun _ _ => 0) (r1 := 0) (fun c => absurd c c1) (fun _ c => absurd c hW) (fun _ c _ => absurd c hW) (fun _ c _ => absurd c hW) (fun _ _ => ⟨rfl, rfl⟩)
      · have hM : g * nI cc ≤ N 62 ((176 : Int32) + nI c).toNatClampNeg := by rw [eN N hs]; exact Int32.not_lt.mp hlt
        have hM2 : ¬ N 62 ((176 : Int32) + nI c).toNatClampNeg < g * nI cc := by rw [eN N hs]; exact hlt
        refine km_until_39 C X (r3 := nI cc) (r4 := nI cc) (M5 := fun _ _ => 0) (r1 := 0) (r2 := 0) (r5 := 0) (fun c _ => absurd c nz) (fun c _ => absurd c nz) (fun c _ => absurd c nz) (fun c _ _ => absurd c nz) (fun c _ _ => absurd c nz) (fun _ c _ => absurd c c2) (fun _ c _ => absurd c c2) (fun _ c _ => absurd c c2) (fun _ c _ _ => absurd c c2) (fun _ c _ _ => absurd c c2) (fun _ _ => v2) (fun _ _ => sh N hN) (fun _ _ _ c => absurd c nz) (fun _ _ _ _ => v2) (fun _ _ _ _ => sh N hN) (fun _ _ _ _ c => absurd c hM2) (fun _ _ _ _ _ => ⟨rfl, rfl⟩) (fun _ _ c => absurd hM c) (fun _ _ c => absurd hM c)
theorem pm_until (c g : Int32) : pm 5 yX6_until cX6_until 5 3 yX7_until cX7_until 5 (some .int) [.int c, .int g] := by
  intro s M N0 h0
  have hk : M 13 5 = nI s.nc := h0.1.1.1.2.2.2
  have hn : s.nc ≤ 10 := h0.1.1.1.2.1
  have hw := wl_of h0.1.1
  have ww := warm_of h0.1.1
  have ig : p_X7_in g.toInt64 0 999 ↔ p_X6_isDegrees g := in_i g 0 999
  by_cases hst : ∃ j : Nat, j < s.nc ∧ c = nI j
  case neg =>
    have iw : ¬ p_X4_isCell M 13 c := fun z => hst ((iw_cell hk hn).mp z)
    refine ⟨.int (-2000000001), M, s, ?_, fun _ _ => rfl, fun N hN => ⟨N, ?_, fun _ _ => rfl, hN⟩⟩
    · refine ea_intro (own := RX6) (by decide +kernel) rfl (fun g => Nat.le_of_ble_eq_true rfl) (fun k C X => ?_)
      refine kb_X6_until C X  (fun c _ => absurd c iw) (fun c _ => absurd c iw) (fun _ => ⟨rfl, rfl⟩)
    · refine ea_intro (own := RX7) (by decide +kernel) rfl (fun g => Nat.le_of_ble_eq_true rfl) (fun k C X => ?_)
      have im : ¬ p_X7_isCell N c := fun z => hst ((mi_cell (nW_6 hN) hn).mp z)
      refine km_until C X  (M1 := fun _ _ => 0) (fun c _ => absurd c im) (fun c _ => absurd c im) (fun c _ => absurd c im) (fun _ => ⟨rfl, rfl⟩)
  have iw := (iw_cell hk hn).mpr hst
  obtain ⟨j, hj, rfl⟩ := hst
  by_cases hg : p_X6_isDegrees g
  case neg =>
    have jm : ¬ p_X7_in g.toInt64 0 999 := fun z => hg (ig.mp z)
    refine ⟨.int (-2000000002), M, s, ?_, fun _ _ => rfl, fun N hN => ⟨N, ?_, fun _ _ => rfl, hN⟩⟩
    · refine ea_intro (own := RX6) (by decide +kernel) rfl (fun g => Nat.le_of_ble_eq_true rfl) (fun k C X => ?_)
      refine kb_X6_until C X  (fun _ c => absurd c hg) (fun _ _ => ⟨rfl, rfl⟩) (fun c => absurd iw c)
    · refine ea_intro (own := RX7) (by decide +kernel) rfl (fun g => Nat.le_of_ble_eq_true rfl) (fun k C X => ?_)
      have im := (mi_cell (nW_6 hN) hn).mpr ⟨j, hj, rfl⟩
      refine km_until C X  (M1 := fun _ _ => 0) (fun _ c => absurd c jm) (fun _ c => absurd c jm) (fun _ _ => ⟨rfl, rfl⟩) (fun c => absurd im c)
  have jm := ig.mpr hg
  obtain ⟨r0, w0, s0⟩ := Rel_try h0
  have e1 := (wl_cc hw hj).1
  have ec : f_X4_holdsAt (g_X5_become M 22 20) 13 (nI j) = nI (wl_c M 13 j) := by
    rw [← e1]
    unfold f_X4_holdsAt
    rw [bec_R (a := 13 + 4) (by decide) (by decide), bec_R (a := 13 + 5) (by decide) (by decide)]
  obtain ⟨r, M', A, FW, B⟩ := until_loop s j (wl_c M 13 j) g hj 200 0 _ _ (by decide) r0 w0 s0 ec
  refine ⟨.int r, M', s, ?_, fun a ha => by rw [FW a ha, bec_R (by omega) (by omega)], fun N hN => ?_⟩
  · refine ea_intro (own := RX6) (by decide +kernel) rfl (fun g => Nat.le_of_ble_eq_true rfl) (fun k C X => ?_)
    have h5 := A C X
    rw [← e1] at h5
    refine kb_X6_until C X  (fun _ _ => h5) (fun _ c => absurd hg c) (fun c => absurd iw c)
  · obtain ⟨r1, w1, s1⟩ := Rel_try hN
    have im := (mi_cell (nW_6 hN) hn).mpr ⟨j, hj, rfl⟩
    obtain ⟨N', B1, B2, B3⟩ := B _ r1 s1
    have q := sp_X7_copyRow N 0 176 (by decide) (by decide) (by decide)
    refine ⟨N', ?_, fun a ha => by rw [B2 a ha]; unfold tr_N; rw [pa_segR (by omega)], B3⟩
    refine ea_intro (own := RX7) (by decide +kernel) rfl (fun g => Nat.le_of_ble_eq_true rfl) (fun k C X => ?_)
    have h5 := B1 C X
    refine km_until C X  (fun _ _ => q) (fun _ _ => h5) (fun _ c => absurd jm c) (fun c => absurd im c)

