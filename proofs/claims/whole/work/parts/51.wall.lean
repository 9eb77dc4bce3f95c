/-! ===== fault, wall ===== -/
theorem pa_cpI {M : ea_M} {y z n j : Nat} (h : j < n) : pa_cp M y z n z j = M y j := by
  unfold pa_cp
  rw [if_pos rfl, if_pos h]
/-- the wall that is drawn, as it begins -/
theorem bd_a (M : ea_M) : g_X4_become_d M 4 0 = M 13 0 ∧ g_X4_become_d M 4 5 = M 13 5 ∧ (∀ j, j < 42 → g_X4_become_d M 5 j = M 14 j) ∧ (∀ j, j < 6 → g_X4_become_d M 6 j = M 15 j) ∧ (∀ j, j < 6 → g_X4_become_d M 7 j = M 16 j) ∧ (∀ j, j < 6 → g_X4_become_d M 8 j = M 17 j) ∧ (∀ j, j < 10 → g_X4_become_d M 9 j = M 18 j) ∧ (∀ j, j < 10 → g_X4_become_d M 12 j = M 21 j) ∧ ∀ k, 1 ≤ k → k ≤ 6 → g_X4_become_d M 11 k = M 20 k := by
  unfold g_X4_become_d
  refine ⟨?_, ?_, fun j hj => ?_, fun j hj => ?_, fun j hj => ?_, fun j hj => ?_, fun j hj => ?_, fun j hj => ?_, fun k h1 h2 => ?_⟩
  · rw [bec_R (by decide) (by decide), pa_cpR (by decide), ea_upK (by decide), pa_cpR (by decide), pa_cpR (by decide), pa_cpR (by decide), pa_cpR (by decide), ea_upS]
  · rw [bec_R (by decide) (by decide), pa_cpR (by decide), ea_upS]
  · rw [bec_R (by decide) (by decide), pa_cpR (by decide), ea_upR (by decide), pa_cpR (by decide), pa_cpR (by decide), pa_cpR (by decide), pa_cpI hj, ea_upR (by decide)]
  · rw [bec_R (by decide) (by decide), pa_cpR (by decide), ea_upR (by decide), pa_cpR (by decide), pa_cpR (by decide), pa_cpI hj, pa_cpR (by decide), ea_upR (by decide)]
  · rw [bec_R (by decide) (by decide), pa_cpR (by decide), ea_upR (by decide), pa_cpR (by decide), pa_cpI hj, pa_cpR (by decide), pa_cpR (by decide), ea_upR (by decide)]
  · rw [bec_R (by decide) (by decide), pa_cpR (by decide), ea_upR (by decide), pa_cpI hj, pa_cpR (by decide), pa_cpR (by decide), pa_cpR (by decide), ea_upR (by decide)]
  · rw [bec_R (by decide) (by decide), pa_cpI hj, ea_upR (by decide), pa_cpR (by decide), pa_cpR (by decide), pa_cpR (by decide), pa_cpR (by decide), ea_upR (by decide)]
  · rw [bec_h _ 11 20 j hj, pa_cpR (by decide), ea_upR (by decide), pa_cpR (by decide), pa_cpR (by decide), pa_cpR (by decide), pa_cpR (by decide), ea_upR (by decide)]
  · rw [bec_f _ 11 20 k h1 h2, pa_cpR (by decide), ea_upR (by decide), pa_cpR (by decide), pa_cpR (by decide), pa_cpR (by decide), pa_cpR (by decide), ea_upR (by decide)]
theorem bs_a (M : ea_M) : g_X4_become_s M 13 0 = M 4 0 ∧ g_X4_become_s M 13 5 = M 4 5 ∧ (∀ j, j < 42 → g_X4_become_s M 14 j = M 5 j) ∧ (∀ j, j < 6 → g_X4_become_s M 15 j = M 6 j) ∧ (∀ j, j < 6 → g_X4_become_s M 16 j = M 7 j) ∧ (∀ j, j < 6 → g_X4_become_s M 17 j = M 8 j) ∧ (∀ j, j < 10 → g_X4_become_s M 18 j = M 9 j) ∧ (∀ j, j < 10 → g_X4_become_s M 21 j = M 12 j) ∧ (∀ k, 1 ≤ k → k ≤ 6 → g_X4_become_s M 20 k = M 11 k) ∧ ∀ a, (a < 13 ∨ 21 < a) → g_X4_become_s M a = M a := by
  unfold g_X4_become_s
  refine ⟨?_, ?_, fun j hj => ?_, fun j hj => ?_, fun j hj => ?_, fun j hj => ?_, fun j hj => ?_, fun j hj => ?_, fun k h1 h2 => ?_, fun a ha => ?_⟩
  · rw [bec_R (by decide) (by decide), pa_cpR (by decide), ea_upK (by decide), pa_cpR (by decide), pa_cpR (by decide), pa_cpR (by decide), pa_cpR (by decide), ea_upS]
  · rw [bec_R (by decide) (by decide), pa_cpR (by decide), ea_upS]
  · rw [bec_R (by decide) (by decide), pa_cpR (by decide), ea_upR (by decide), pa_cpR (by decide), pa_cpR (by decide), pa_cpR (by decide), pa_cpI hj, ea_upR (by decide)]
  · rw [bec_R (by decide) (by decide), pa_cpR (by decide), ea_upR (by decide), pa_cpR (by decide), pa_cpR (by decide), pa_cpI hj, pa_cpR (by decide), ea_upR (by decide)]
  · rw [bec_R (by decide) (by decide), pa_cpR (by decide), ea_upR (by decide), pa_cpR (by decide), pa_cpI hj, pa_cpR (by decide), pa_cpR (by decide), ea_upR (by decide)]
  · rw [bec_R (by decide) (by decide), pa_cpR (by decide), ea_upR (by decide), pa_cpI hj, pa_cpR (by decide), pa_cpR (by decide), pa_cpR (by decide), ea_upR (by decide)]
  · rw [bec_R (by decide) (by decide), pa_cpI hj, ea_upR (by decide), pa_cpR (by decide), pa_cpR (by decide), pa_cpR (by decide), pa_cpR (by decide), ea_upR (by decide)]
  · rw [bec_h _ 20 11 j hj, pa_cpR (by decide), ea_upR (by decide), pa_cpR (by decide), pa_cpR (by decide), pa_cpR (by decide), pa_cpR (by decide), ea_upR (by decide)]
  · rw [bec_f _ 20 11 k h1 h2, pa_cpR (by decide), ea_upR (by decide), pa_cpR (by decide), pa_cpR (by decide), pa_cpR (by decide), pa_cpR (by decide), ea_upR (by decide)]
  · rw [bec_R (by omega) (by omega), pa_cpR (by omega), ea_upR (by omega), pa_cpR (by omega), pa_cpR (by omega), pa_cpR (by omega), pa_cpR (by omega), ea_upR (by omega)]
theorem vv_bd {s : sg} {M N : ea_M} (h : R_w s M N) : vv_ok (vw_d (g_X4_become_d M)) s.ns s.nc ∧ RV (vw_d (g_X4_become_d M)) N s.ns s.nc := by
  obtain ⟨b0, b5, b14, b15, b16, b17, b18, b21, b20⟩ := bd_a M
  obtain ⟨⟨⟨h1, h2, h3, h4⟩, v2, v3, v4, v5, v6, v7, v8, v9⟩, a2, a3, a4, a5, a6, a7, a8, a9, a10⟩ := h
  refine ⟨⟨⟨h1, h2, b0.trans h3, b5.trans h4⟩, fun j hj => ?_, fun j hj => ?_, fun j hj => ?_, fun j hj => ?_, fun j hj => ?_, ?_, ?_, ?_⟩, ⟨a2.trans h3, a3.trans h4, fun j hj => (a4 j hj).trans (b14 j hj).symm, fun j hj => (a5 j hj).trans (b15 j hj).symm, fun j hj => (a6 j hj).trans (b16 j hj).symm, fun j hj => (a7 j hj).trans (b17 j hj).symm, fun j hj => (a8 j hj).trans (b18 j hj).symm, fun j hj => ?_, (a10 1 (by decide) (by decide)).trans (b20 1 (by decide) (by decide)).symm, (a10 2 (by decide) (by decide)).trans (b20 2 (by decide) (by decide)).symm, (a10 3 (by decide) (by decide)).trans (b20 3 (by decide) (by decide)).symm⟩⟩
  · show ∃ l : Nat, 1 ≤ l ∧ l ≤ 7 ∧ g_X4_become_d M 6 j = nI l
    rw [b15 j (by omega)]; exact v2 j hj
  · show ∃ l : Nat, 1 ≤ l ∧ l ≤ 20 ∧ g_X4_become_d M 7 j = nI l
    rw [b16 j (by omega)]; exact v3 j hj
  · show ∃ l : Nat, 1 ≤ l ∧ l ≤ 20 ∧ g_X4_become_d M 8 j = nI l
    rw [b17 j (by omega)]; exact v4 j hj
  · show ∃ t : Nat, t < s.ns ∧ g_X4_become_d M 9 j = nI t
    rw [b18 j (by omega)]; exact v5 j hj
  · show ∃ l : Nat, l ≤ 20000 ∧ g_X4_become_d M 12 j = nI l
    rw [b21 j hj]; exact v6 j hj
  · show ∃ l : Nat, l ≤ 999 ∧ g_X4_become_d M 11 1 = nI l
    rw [b20 1 (by decide) (by decide)]; exact v7
  · show ∃ l : Nat, l ≤ 999 ∧ g_X4_become_d M 11 2 = nI l
    rw [b20 2 (by decide) (by decide)]; exact v8
  · show ∃ l : Nat, 1 ≤ l ∧ l ≤ 999 ∧ g_X4_become_d M 11 3 = nI l
    rw [b20 3 (by decide) (by decide)]; exact v9
  · have := a9 j hj
    rw [Nat.zero_add] at this
    exact this.trans (b21 j hj).symm
/-- reading alone changes nothing that they have in common -/
theorem Rel_rd {s : sg} {M M' N N' : ea_M} {f : ff_T} (h : Rel s M N) (hW : ff_R M M' f) (h1 : ∀ a, (a < 61 ∨ (67 < a ∧ a < 74) ∨ 76 < a) → N' a = N a) (h2 : ∀ j, j = 8 ∨ j = 11 → N' 61 j = N 61 j) (h3 : st0 N N') : Rel s M' N' := by
  obtain ⟨w1, w2, w3, -, -⟩ := hW
  obtain ⟨s1, s2, s3⟩ := h3
  refine Rel_q h w2 (fun a z => ?_) (fun k z => ?_) (fun j _ => by rw [s1 62 (by decide) (by decide)]) (fun a z => ?_)
  · by_cases e : a = 3
    · rw [e]; exact w1
    · exact w3 a (by omega) (by omega) (by omega)
  · by_cases e1 : k = 1
    · rw [e1]; exact s2
    · by_cases e6 : k = 6
      · rw [e6]; exact s3
      · exact h2 k (by omega)
  · by_cases e : a ≤ 67
    · exact s1 a (by omega) e
    · exact h1 a (by omega)
theorem pm_fault : pm 9 yX6_fault cX6_fault 1 7 yX7_fault cX7_fault 1 (some .int) [] := by
  intro s M N0 h0
  obtain ⟨f, hf⟩ : ∃ z, z = (ff_go (M 3) s.n 24 (vw_d (g_X4_become_d M)) 0 s.ns s.nc 1) := ⟨_, rfl⟩
  obtain ⟨M', s1, r1⟩ := sp_X2_firstFault (ns := s.ns) (nc := s.nc) h0.2.1.1 h0.2.1.2.1 (vv_bd h0.1).1
  rw [← hf] at s1 r1
  refine ⟨.int (ff_v f), M', s, ?_, fun a ha => r1.2.2.1 a (by omega) (by omega) (by omega), fun N hN => ?_⟩
  · refine ea_intro (own := RX6) (by decide +kernel) rfl (fun g => Nat.le_of_ble_eq_true rfl) (fun k C X => ?_)
    refine kb_X6_fault C X  s1 (⟨rfl, rfl⟩)
  · obtain ⟨N', s2, l1, l2, l3, l4, l5, l6⟩ := sp_X7_reads (dd := 0) (Or.inl rfl) hN.2.1.2.2.2 hN.2.1.1 hN.2.1.2.2.1 (vv_bd hN.1).2 (vv_bd hN.1).1 hN.2.2.2.2.2
    rw [← hf] at s2 l5 l6
    refine ⟨N', ?_, fun a ha => l1 a (by omega), Rel_rd hN r1 l1 l2 (l4 rfl)⟩
    refine ea_intro (own := RX7) (by decide +kernel) rfl (fun g => Nat.le_of_ble_eq_true rfl) (fun k C X => ?_)
    unfold ff_v at X
    cases hb : f.1 with
    | false =>
      rw [hb] at s2 X
      have z0 : cl_1 false = 0 := rfl
      refine km_fault C X  s2 (fun _ => ⟨by rw [(l5 hb).1, if_neg (by decide)], rfl⟩) (fun c => absurd z0 c)
    | true =>
      rw [hb] at s2 X
      have z0 : ¬ cl_1 true = 0 := by decide
      refine km_fault C X  s2 (fun c => absurd c z0) (fun _ => ⟨rfl, rfl⟩)
/-- the pages missed, the first of them -/
def ms_M (M : ea_M) : Nat → ea_M
  | 0 => M
  | p + 1 => pg_mis (ms_M M p) p
theorem ms_R {M : ea_M} : ∀ (m a : Nat), (∀ p, p < m → a ≠ 49 + 4 * p) → ms_M M m a = M a := by
  intro m
  induction m with
  | zero => intro a _; rfl
  | succ m ih =>
    intro a h
    show pg_mis (ms_M M m) m a = M a
    unfold pg_mis
    rw [ea_upR (h m (by omega)), ea_upR (h m (by omega)), ih a (fun p hp => h p (by omega))]
theorem ms_I {M : ea_M} : ∀ (m p : Nat), p < m → ms_M M m (49 + 4 * p) 0 = 0 ∧ ms_M M m (49 + 4 * p) 1 = 0 := by
  intro m
  induction m with
  | zero => intro p hp; exact absurd hp (Nat.not_lt_zero p)
  | succ m ih =>
    intro p hp
    show pg_mis (ms_M M m) m (49 + 4 * p) 0 = 0 ∧ pg_mis (ms_M M m) m (49 + 4 * p) 1 = 0
    unfold pg_mis
    by_cases e : p = m
    · subst e
      exact ⟨by rw [ea_upK (by decide), ea_upS], ea_upS⟩
    · rw [ea_upR (by omega), ea_upR (by omega)]
      exact ih p (by omega)
theorem pm_wall : pm 9 yX6_wall cX6_wall 2 7 yX7_wall cX7_wall 2 (some .int) [] := by
  intro s M N0 h0
  obtain ⟨f, hf⟩ : ∃ z, z = (ff_go (M 3) s.n 24 (vw_d (g_X4_become_d M)) 0 s.ns s.nc 1) := ⟨_, rfl⟩
  obtain ⟨M1, s1, r1⟩ := sp_X2_firstFault (ns := s.ns) (nc := s.nc) h0.2.1.1 h0.2.1.2.1 (vv_bd h0.1).1
  rw [← hf] at s1 r1
  cases hb : f.1 with
  | false =>
    obtain ⟨N9, -, -, -, -, -, k5, -⟩ := sp_X7_reads (dd := 0) (Or.inl rfl) h0.2.1.2.2.2 h0.2.1.1 h0.2.1.2.2.1 (vv_bd h0.1).2 (vv_bd h0.1).1 h0.2.2.2.2.2
    rw [← hf] at k5
    have hpl := (k5 hb).2
    have hnn := h0.2.1.1
    have ne : ¬ ff_v f = -1 := by
      unfold ff_v
      rw [hb, if_neg (by decide)]
      exact fun z => absurd ((nI_pos' (show f.2.1 < 2 ^ 31 by omega))) (by rw [z]; decide)
    refine ⟨.int (-2000000003), M1, s, ?_, fun a ha => r1.2.2.1 a (by omega) (by omega) (by omega), fun N hN => ?_⟩
    · refine ea_intro (own := RX6) (by decide +kernel) rfl (fun g => Nat.le_of_ble_eq_true rfl) (fun k C X => ?_)
      refine kb_X6_wall C X  (M2 := fun _ _ => 0) s1 (fun c => absurd c ne) (fun c => absurd c ne) (fun _ => ⟨rfl, rfl⟩)
    · obtain ⟨N', s2, l1, l2, l3, l4, l5, l6⟩ := sp_X7_reads (dd := 0) (Or.inl rfl) hN.2.1.2.2.2 hN.2.1.1 hN.2.1.2.2.1 (vv_bd hN.1).2 (vv_bd hN.1).1 hN.2.2.2.2.2
      rw [← hf, hb] at s2
      refine ⟨N', ?_, fun a ha => l1 a (by omega), Rel_rd hN r1 l1 l2 (l4 rfl)⟩
      refine ea_intro (own := RX7) (by decide +kernel) rfl (fun g => Nat.le_of_ble_eq_true rfl) (fun k C X => ?_)
      have z0 : cl_1 false = 0 := rfl
      refine km_wall C X  (M2 := fun _ _ => 0) (r2 := 0) s2 (fun c => absurd z0 c) (fun c => absurd z0 c) (fun _ => ⟨rfl, rfl⟩)
  | true =>
    have hv1 : ff_v f = -1 := by
      unfold ff_v
      rw [hb, if_pos rfl]
    obtain ⟨r3, r21, rR, r12, rV⟩ := id r1
    obtain ⟨eV, vV⟩ := rV hb
    obtain ⟨b0, b5, b14, b15, b16, b17, b18, b21, b20, bR⟩ := bs_a M1
    obtain ⟨M2, hM2⟩ : ∃ z, z = pa_fgt (g_X5_forget (g_X4_become_s M1) 20) := ⟨_, rfl⟩
    obtain ⟨M', hM'⟩ : ∃ z, z = ea_up (ms_M M2 3) 2 1 (0 : Int32) := ⟨_, rfl⟩
    have d2 : ∀ a, a ≠ 20 → a ≠ 24 → a ≠ 27 → M2 a = g_X4_become_s M1 a := fun a z1 z2 z3 => by
      rw [hM2]
      unfold pa_fgt g_X5_forget
      rw [pa_rowR z3, ea_upR z2, ea_upR z1, ea_upR z1, ea_upR z1]
    have d3 : ∀ a, a ≠ 2 → a ≠ 49 → a ≠ 53 → a ≠ 57 → M' a = M2 a := fun a z0 z1 z2 z3 => by
      rw [hM', ea_upR z0]
      exact ms_R 3 a (fun p hp => by omega)
    have dS : ∀ a, 13 ≤ a → a ≤ 21 → a ≠ 20 → M' a = g_X4_become_s M1 a := fun a z1 z2 z3 => by
      rw [d3 a (by omega) (by omega) (by omega) (by omega), d2 a z3 (by omega) (by omega)]
    have d20 : ∀ k, 1 ≤ k → k ≤ 3 → M' 20 k = M1 11 k := fun k z1 z2 => by
      rw [d3 20 (by decide) (by decide) (by decide) (by decide), hM2]
      unfold pa_fgt g_X5_forget
      rw [pa_rowR (by decide), ea_upR (by decide), ea_upK (by omega), ea_upK (by omega), ea_upK (by omega), b20 k z1 (by omega)]
    have d20z : ∀ k, 4 ≤ k → k ≤ 6 → M' 20 k = 0 := fun k z1 z2 => by
      rw [d3 20 (by decide) (by decide) (by decide) (by decide), hM2]
      unfold pa_fgt g_X5_forget
      rw [pa_rowR (by decide), ea_upR (by decide)]
      by_cases e6 : k = 6
      · rw [e6, ea_upS]
      · rw [ea_upK e6]
        by_cases e5 : k = 5
        · rw [e5, ea_upS]
        · rw [ea_upK e5, show k = 4 by omega, ea_upS]
    have dO : ∀ a, 21 < a → a ≠ 24 → a ≠ 27 → a ≠ 49 → a ≠ 53 → a ≠ 57 → M' a = M a := fun a z1 z2 z3 z4 z5 z6 => by
      rw [d3 a (by omega) z4 z5 z6, d2 a (by omega) z2 z3, bR a (by omega)]
      exact rR a (by omega) (by omega) (by omega)
    have d33 : M' 3 = M 3 := by
      rw [d3 3 (by decide) (by decide) (by decide) (by decide), d2 3 (by decide) (by decide) (by decide), bR 3 (by decide)]
      exact r3
    have d24 : M' 24 3 = M 24 3 ∧ M' 24 4 = 0 := by
      rw [d3 24 (by decide) (by decide) (by decide) (by decide), hM2]
      unfold pa_fgt g_X5_forget
      rw [pa_rowR (by decide)]
      refine ⟨?_, ea_upS⟩
      rw [ea_upK (by decide), ea_upR (by decide), ea_upR (by decide), ea_upR (by decide), bR 24 (by decide), rR 24 (by decide) (by decide) (by decide)]
    have d27 : ∀ k, k < 2 → M' 27 k = 0 := fun k hk => by
      rw [d3 27 (by decide) (by decide) (by decide) (by decide), hM2]
      unfold pa_fgt
      rw [pa_rowI hk]
    have hW : ∀ j, vw_d M1 j = f.2.2.2.1 j := fun j => congrFun eV j
    obtain ⟨⟨v0, v1, v2, v3⟩, v4, v5, v6, v7, v8, v9, v10, v11⟩ := vV
    refine ⟨.int (nI f.2.2.1), M', (f.2.2.2.2.1, f.2.2.2.2.2, 0, s.t, 0, fun _ => 0), ?_, fun a ha => dO a (by omega) (by omega) (by omega) (by omega) (by omega) (by omega), fun N hN => ?_⟩
    · refine ea_intro (own := RX6) (by decide +kernel) rfl (fun g => Nat.le_of_ble_eq_true rfl) (fun k C X => ?_)
      have e12 : ms_M M2 3 1 2 = nI f.2.2.1 := by
        rw [ms_R 3 1 (fun p hp => by omega), d2 1 (by decide) (by decide) (by decide), bR 1 (by decide)]
        exact r12
      have nx : ea_E k 51 [(0, .ref 0), (1, .int (nI 3))] [] (ms_M M2 3) := by
        have cc : (3 : Int32) ≤ nI 3 := by decide
        refine kb_X6_wall_51 C X  (M1 := fun _ _ => 0) (fun _ => ⟨by rw [e12], by rw [hM']⟩) (fun c => absurd cc c) (fun c => absurd cc c)
      have st : ∀ p, p < 3 → ea_E k 51 [(0, .ref 0), (1, .int (nI (p + 1)))] [] (ms_M M2 (p + 1)) → ea_E k 51 [(0, .ref 0), (1, .int (nI p))] [] (ms_M M2 p) := fun p hp nx => by
        have cc : ¬ (3 : Int32) ≤ nI p := nI_ge (b := 3) hp (by decide)
        have sp := sp_X6_missPage (ms_M M2 p) p hp
        rw [← nI_1] at nx
        refine kb_X6_wall_51 C X  (fun c => absurd c cc) (fun _ => sp) (fun _ => nx)
      have nx0 := st 0 (by decide) (st 1 (by decide) (st 2 (by decide) nx))
      have sp := sp_X1_forget (g_X5_forget (g_X4_become_s M1) 20)
      rw [← hM2] at sp
      refine kb_X6_wall C X  s1 (fun _ => sp) (fun _ => nx0) (fun c => absurd hv1 c)
    · obtain ⟨N1, s2, l1, l2, l3, l4, l5, l6⟩ := sp_X7_reads (dd := 0) (Or.inl rfl) hN.2.1.2.2.2 hN.2.1.1 hN.2.1.2.2.1 (vv_bd hN.1).2 (vv_bd hN.1).1 hN.2.2.2.2.2
      rw [← hf, hb] at s2
      obtain ⟨t1, t2, t3⟩ := l4 rfl
      have rv1 : RV (vw_d (g_X4_become_d M)) N1 s.ns s.nc := by
        obtain ⟨a1, a2, a3, a4, a5, a6, a7, a8⟩ := (vv_bd hN.1).2
        exact ⟨by rw [t2]; exact a1, by rw [t3]; exact a2, by rw [t1 65 (by decide) (by decide)]; exact a3, by rw [t1 66 (by decide) (by decide)]; exact a4, by rw [t1 63 (by decide) (by decide)]; exact a5, by rw [t1 64 (by decide) (by decide)]; exact a6, by rw [t1 67 (by decide) (by decide)]; exact a7, by rw [t1 62 (by decide) (by decide)]; exact a8⟩
      obtain ⟨N2, s3, m1, m2, m3, -, -, m6⟩ := sp_X7_reads (N := N1) (dd := 1) (L := M 3) (n := s.n) (Or.inr rfl) (by rw [l1 69 (by decide)]; exact hN.2.1.2.2.2) hN.2.1.1 (by rw [l2 11 (by decide)]; exact hN.2.1.2.2.1) rv1 (vv_bd hN.1).1 (R_c_cg hN.2.2.2.2.2 (l1 77 (by decide)))
      rw [← hf] at s3 m6
      obtain ⟨m22, -, mRV⟩ := m6 hb
      obtain ⟨a1, a2, a3, a4, a5, a6, a7, a8, a9, a10, a11⟩ := mRV rfl
      rw [hb] at s3
      obtain ⟨N3, hN3⟩ : ∃ z, z = ea_up (ea_up (ea_up (ea_up (ea_up (ea_up (ea_up N2 62 13 (0 : Int32)) 62 14 (0 : Int32)) 62 15 (0 : Int32)) 61 11 (0 : Int32)) 61 8 (0 : Int32)) 68 0 (0 : Int32)) 68 1 (0 : Int32) := ⟨_, rfl⟩
      obtain ⟨N', hN'⟩ : ∃ z, z = pa_row N3 70 (fun _ => -1) 3 := ⟨_, rfl⟩
      have f3 : ∀ a, a ≠ 61 → a ≠ 62 → a ≠ 68 → a ≠ 70 → N' a = N2 a := fun a z1 z2 z3 z4 => by
        rw [hN', pa_rowR z4, hN3, ea_upR z3, ea_upR z3, ea_upR z1, ea_upR z1, ea_upR z2, ea_upR z2, ea_upR z2]
      have i3 : ∀ j, j ≠ 8 → j ≠ 11 → N' 61 j = N2 61 j := fun j z1 z2 => by
        rw [hN', pa_rowR (by decide), hN3, ea_upR (by decide), ea_upR (by decide), ea_upK z1, ea_upK z2, ea_upR (by decide), ea_upR (by decide), ea_upR (by decide)]
      have i8 : N' 61 8 = 0 := by rw [hN', pa_rowR (by decide), hN3, ea_upR (by decide), ea_upR (by decide), ea_upS]
      have i11 : N' 61 11 = 0 := by rw [hN', pa_rowR (by decide), hN3, ea_upR (by decide), ea_upR (by decide), ea_upK (by decide), ea_upS]
      have j62 : ∀ j, j < 13 → N' 62 j = N2 62 j := fun j hj => by
        rw [hN', pa_rowR (by decide), hN3, ea_upR (by decide), ea_upR (by decide), ea_upR (by decide), ea_upR (by decide), ea_upK (by omega), ea_upK (by omega), ea_upK (by omega)]
      have j62z : ∀ j, 13 ≤ j → j ≤ 15 → N' 62 j = 0 := fun j h1 h2 => by
        rw [hN', pa_rowR (by decide), hN3, ea_upR (by decide), ea_upR (by decide), ea_upR (by decide), ea_upR (by decide)]
        by_cases e15 : j = 15
        · rw [e15, ea_upS]
        · rw [ea_upK e15]
          by_cases e14 : j = 14
          · rw [e14, ea_upS]
          · rw [ea_upK e14, show j = 13 by omega, ea_upS]
      have k68 : ∀ k, k < 2 → N' 68 k = 0 := fun k hk => by
        rw [hN', pa_rowR (by decide), hN3]
        by_cases e1 : k = 1
        · rw [e1, ea_upS]
        · rw [ea_upK e1, show k = 0 by omega, ea_upS]
      have k70 : ∀ p, p < 3 → N' 70 p = -1 := fun p hp => by rw [hN', pa_rowI hp]
      refine ⟨N', ?_, fun a ha => ?_, ⟨⟨⟨v0, v1, ?_, ?_⟩, fun j hj => ?_, fun j hj => ?_, fun j hj => ?_, fun j hj => ?_, fun j hj => ?_, ?_, ?_, ?_⟩, ?_, ?_, fun j hj => ?_, fun j hj => ?_, fun j hj => ?_, fun j hj => ?_, fun j hj => ?_, fun j hj => ?_, fun k h1 h2 => ?_⟩, ⟨Nat.zero_le _, ?_, ?_, ?_⟩, ⟨h0.2.2.1.1, Nat.zero_le _, ?_, ?_, ?_, fun e he => absurd he (Nat.not_lt_zero e)⟩, fun k hk => ⟨?_, Or.inl (d27 k hk)⟩, fun p hp => Or.inl ⟨?_, ?_, k70 p hp, rfl⟩, ?_⟩
      · refine ea_intro (own := RX7) (by decide +kernel) rfl (fun g => Nat.le_of_ble_eq_true rfl) (fun k C X => ?_)
        have e22 : ∀ i, pa_row N3 70 (fun _ => -1) i 61 22 = nI f.2.2.1 := fun i => by
          rw [pa_rowR (by decide), hN3, ea_upR (by decide), ea_upR (by decide), ea_upK (by decide), ea_upK (by decide), ea_upR (by decide), ea_upR (by decide), ea_upR (by decide)]
          exact m22
        have l67 : ∀ (c i : Nat), i + c = 3 → ea_E k 67 [(0, .ref 61), (1, .int (nI i))] [] (pa_row N3 70 (fun _ => -1) i) := by
          intro c
          induction c with
          | zero =>
            intro i hi
            have ei : i = 3 := by omega
            rw [ei]
            have c0 : 3 ≤ nI 3 := by decide
            refine km_wall_67 C X  (fun _ => ⟨by rw [e22], hN'⟩) (fun c => absurd c0 c) (fun c => absurd c0 c)
          | succ c ih =>
            intro i hi
            have c0 : ¬ 3 ≤ nI i := nI_ge (b := 3) (by omega) (by decide)
            have v : vp_in (nI i) 3 := vp_in_nI (by omega) (by decide)
            have nx := ih (i + 1) (by omega)
            rw [← pa_rowS (v := -1) rfl] at nx
            refine km_wall_67 C X  (fun c => absurd c c0) (fun _ => v) (fun _ => by rw [nI_clamp (show i < 2 ^ 31 by omega), nI_1]; exact nx)
        have nx := l67 3 0 (by omega)
        rw [pa_row0, hN3] at nx
        have z0 : ¬ cl_1 true = 0 := by decide
        refine km_wall C X  s2 (fun _ => s3) (fun _ => nx) (fun c => absurd c z0)
      · rw [f3 a (by omega) (by omega) (by omega) (by omega), m1 a (by omega), l1 a (by omega)]
      · show M' 13 0 = _
        rw [dS 13 (by decide) (by decide) (by decide), b0]
        exact (congrFun (hW 0) 0).trans v2
      · show M' 13 5 = _
        rw [dS 13 (by decide) (by decide) (by decide), b5]
        exact (congrFun (hW 0) 5).trans v3
      · show ∃ l : Nat, 1 ≤ l ∧ l ≤ 7 ∧ M' 15 j = nI l
        have hj : j < f.2.2.2.2.1 := hj
        rw [dS 15 (by decide) (by decide) (by decide), b15 j (by omega), show M1 6 j = f.2.2.2.1 2 j from congrFun (hW 2) j]
        exact v4 j hj
      · show ∃ l : Nat, 1 ≤ l ∧ l ≤ 20 ∧ M' 16 j = nI l
        have hj : j < f.2.2.2.2.1 := hj
        rw [dS 16 (by decide) (by decide) (by decide), b16 j (by omega), show M1 7 j = f.2.2.2.1 3 j from congrFun (hW 3) j]
        exact v5 j hj
      · show ∃ l : Nat, 1 ≤ l ∧ l ≤ 20 ∧ M' 17 j = nI l
        have hj : j < f.2.2.2.2.1 := hj
        rw [dS 17 (by decide) (by decide) (by decide), b17 j (by omega), show M1 8 j = f.2.2.2.1 4 j from congrFun (hW 4) j]
        exact v6 j hj
      · show ∃ l : Nat, l < f.2.2.2.2.1 ∧ M' 18 j = nI l
        have hj : j < f.2.2.2.2.2 := hj
        rw [dS 18 (by decide) (by decide) (by decide), b18 j (by omega), show M1 9 j = f.2.2.2.1 5 j from congrFun (hW 5) j]
        exact v7 j hj
      · show ∃ l : Nat, l ≤ 20000 ∧ M' 21 j = nI l
        rw [dS 21 (by decide) (by decide) (by decide), b21 j hj, show M1 12 j = f.2.2.2.1 8 j from congrFun (hW 8) j]
        exact v8 j hj
      · show ∃ l : Nat, l ≤ 999 ∧ M' 20 1 = nI l
        rw [d20 1 (by decide) (by decide), show M1 11 1 = f.2.2.2.1 7 1 from congrFun (hW 7) 1]
        exact v9
      · show ∃ l : Nat, l ≤ 999 ∧ M' 20 2 = nI l
        rw [d20 2 (by decide) (by decide), show M1 11 2 = f.2.2.2.1 7 2 from congrFun (hW 7) 2]
        exact v10
      · show ∃ l : Nat, 1 ≤ l ∧ l ≤ 999 ∧ M' 20 3 = nI l
        rw [d20 3 (by decide) (by decide), show M1 11 3 = f.2.2.2.1 7 3 from congrFun (hW 7) 3]
        exact v11
      · rw [i3 1 (by decide) (by decide), a1, dS 13 (by decide) (by decide) (by decide), b0]
        exact ((congrFun (hW 0) 0).trans v2).symm
      · rw [i3 6 (by decide) (by decide), a2, dS 13 (by decide) (by decide) (by decide), b5]
        exact ((congrFun (hW 0) 5).trans v3).symm
      · rw [f3 65 (by decide) (by decide) (by decide) (by decide), a3 j hj, dS 14 (by decide) (by decide) (by decide), b14 j hj]
        exact (congrFun (hW 1) j).symm
      · rw [f3 66 (by decide) (by decide) (by decide) (by decide), a4 j hj, dS 15 (by decide) (by decide) (by decide), b15 j hj]
        exact (congrFun (hW 2) j).symm
      · rw [f3 63 (by decide) (by decide) (by decide) (by decide), a5 j hj, dS 16 (by decide) (by decide) (by decide), b16 j hj]
        exact (congrFun (hW 3) j).symm
      · rw [f3 64 (by decide) (by decide) (by decide) (by decide), a6 j hj, dS 17 (by decide) (by decide) (by decide), b17 j hj]
        exact (congrFun (hW 4) j).symm
      · rw [f3 67 (by decide) (by decide) (by decide) (by decide), a7 j hj, dS 18 (by decide) (by decide) (by decide), b18 j hj]
        exact (congrFun (hW 5) j).symm
      · rw [Nat.zero_add, j62 j (by omega), a8 j hj]
        show _ = M' 21 j
        rw [dS 21 (by decide) (by decide) (by decide), b21 j hj]
        exact (congrFun (hW 8) j).symm
      · by_cases h3 : k ≤ 3
        · rw [j62 _ (by omega), d20 k h1 h3]
          rcases (show k = 1 ∨ k = 2 ∨ k = 3 by omega) with rfl | rfl | rfl
          · exact a9.trans (congrFun (hW 7) 1).symm
          · exact a10.trans (congrFun (hW 7) 2).symm
          · exact a11.trans (congrFun (hW 7) 3).symm
        · rw [j62z _ (by omega) (by omega), d20z k (by omega) h2]
      · rw [hM', ea_upS]; rfl
      · exact i11
      · rw [f3 69 (by decide) (by decide) (by decide) (by decide), m1 69 (by decide), l1 69 (by decide), d33]
        exact hN.2.1.2.2.2
      · exact d24.1.trans h0.2.2.1.2.2.1
      · exact d24.2
      · exact i8
      · rw [k68 k hk, d27 k hk]
      · rw [hM', ea_upR (by omega)]
        exact (ms_I 3 p hp).1
      · rw [hM', ea_upR (by omega)]
        exact (ms_I 3 p hp).2
      · exact R_c_cg hN.2.2.2.2.2 (by rw [f3 77 (by decide) (by decide) (by decide) (by decide), m1 77 (by decide), l1 77 (by decide)])
