/-! ===== strike ===== -/
def sh_S (N : ea_M) (q at' m i : Nat) : ea_M := fun c => if 71 ≤ c ∧ c ≤ 73 then (fun k => if at' ≤ k ∧ k < at' + i then N c (k + 1) else N c k) else ea_up N 70 q (nI m) c
theorem sh_in {N : ea_M} {q t m i c : Nat} (h1 : 71 ≤ c) (h2 : c ≤ 73) (k : Nat) : sh_S N q t m i c k = if t ≤ k ∧ k < t + i then N c (k + 1) else N c k := by
  unfold sh_S
  rw [if_pos ⟨h1, h2⟩]
theorem sh_out {N : ea_M} {q t m i c : Nat} (h : c < 71 ∨ 73 < c) : sh_S N q t m i c = ea_up N 70 q (nI m) c := by
  unfold sh_S
  rw [if_neg (by omega)]
theorem sh_0 (N : ea_M) (q t m : Nat) : sh_S N q t m 0 = ea_up N 70 q (nI m) := by
  funext c k
  by_cases h : 71 ≤ c ∧ c ≤ 73
  · rw [sh_in h.1 h.2, if_neg (by omega), ea_upR (by omega)]
  · rw [sh_out (by omega)]
theorem sh_s (N : ea_M) (q t m i : Nat) : ea_up (ea_up (ea_up (sh_S N q t m i) 71 (t + i) (sh_S N q t m i 71 (t + i + 1))) 72 (t + i) (sh_S N q t m i 72 (t + i + 1))) 73 (t + i) (sh_S N q t m i 73 (t + i + 1)) = sh_S N q t m (i + 1) := by
  have hv : ∀ c, 71 ≤ c → c ≤ 73 → sh_S N q t m i c (t + i + 1) = N c (t + i + 1) := fun c h1 h2 => by rw [sh_in h1 h2, if_neg (by omega)]
  rw [hv 71 (by decide) (by decide), hv 72 (by decide) (by decide), hv 73 (by decide) (by decide)]
  have hx : ∀ c k, 71 ≤ c → c ≤ 73 → k ≠ t + i → sh_S N q t m i c k = sh_S N q t m (i + 1) c k := by
    intro c k h1 h2 h3
    rw [sh_in h1 h2, sh_in h1 h2]
    by_cases h : t ≤ k ∧ k < t + i
    · rw [if_pos h, if_pos ⟨h.1, by omega⟩]
    · rw [if_neg h, if_neg (by omega)]
  have hy : ∀ c, 71 ≤ c → c ≤ 73 → N c (t + i + 1) = sh_S N q t m (i + 1) c (t + i) := by
    intro c h1 h2
    rw [sh_in h1 h2, if_pos (by omega)]
  funext c k
  by_cases c3 : c = 73
  · subst c3
    by_cases hk : k = t + i
    · rw [hk, ea_upS]
      exact hy 73 (by decide) (by decide)
    · rw [ea_upK hk, ea_upR (by decide), ea_upR (by decide)]
      exact hx 73 k (by decide) (by decide) hk
  · rw [ea_upR c3]
    by_cases c2 : c = 72
    · subst c2
      by_cases hk : k = t + i
      · rw [hk, ea_upS]
        exact hy 72 (by decide) (by decide)
      · rw [ea_upK hk, ea_upR (by decide)]
        exact hx 72 k (by decide) (by decide) hk
    · rw [ea_upR c2]
      by_cases c1 : c = 71
      · subst c1
        by_cases hk : k = t + i
        · rw [hk, ea_upS]
          exact hy 71 (by decide) (by decide)
        · rw [ea_upK hk]
          exact hx 71 k (by decide) (by decide) hk
      · rw [ea_upR c1, sh_out (by omega), sh_out (by omega)]
theorem sp_X7_strike0 {M : ea_M} {t : Int32} {a b v : Int32} (hg : ea_Sp 2 yX7_get cX7_get 5 (some .int) [.ref 61, .int t, .int a, .int b] M (some (.int v)) M) (hv : ¬ -999 ≤ v) : ea_Sp 3 yX7_strike cX7_strike 7 (some .int) [.ref 61, .int t, .int a, .int b] M (some (.int v)) M := by
  refine ea_intro (own := RX7) (by decide +kernel) rfl (fun g => Nat.le_of_ble_eq_true rfl) (fun k C X => ?_)
  refine km_strike C X (r2 := 0) hg (fun c => absurd c hv) (fun c => absurd c hv) (fun c => absurd c hv) (fun c => absurd c hv) (fun _ => ⟨rfl, rfl⟩)
theorem sp_X7_strike1 {M : ea_M} {q m j : Nat} (hq : q < 3) (hm : m < 8) (hk : M 70 q = nI (m + 1)) {a b : Int32} (hab : p_X6_isKey a b) (ho : pa_ix (kf (mE M q) a b) 0 (m + 1) = some j) (hv : ¬ M 73 (8 * q + j) < -999) : ea_Sp 3 yX7_strike cX7_strike 7 (some .int) [.ref 61, .int (nI q), .int a, .int b] M (some (.int (M 73 (8 * q + j)))) (sh_S M q (8 * q + j) m (m - j)) := by
  refine ea_intro (own := RX7) (by decide +kernel) rfl (fun g => Nat.le_of_ble_eq_true rfl) (fun k C X => ?_)
  have cq : (nI q).toNatClampNeg = q := nI_clamp (by omega)
  have vq : vp_in (nI q) 3 := vp_in_nI hq (by decide)
  obtain ⟨-, hj, -⟩ := ix_some _ 0 j ho
  have sg := sp_X7_get1 hq (by omega) hk hab
  have sp := sp_X7_placeOf hq (by omega) hk a b
  rw [ho] at sg sp
  have hv' : -999 ≤ gt_v M q (some j) := Int32.not_lt.mp hv
  have loop : ∀ (r i : Nat), i + r = m - j → ea_E k 43 [(0, .ref 61), (1, .int (nI q)), (4, .int (M 73 (8 * q + j))), (6, .int (nI (8 * q + j + i)))] [] (sh_S M q (8 * q + j) m i) := by
    intro r
    induction r with
    | zero =>
      intro i hi
      have e70 : sh_S M q (8 * q + j) m i 70 (nI q).toNatClampNeg = nI m := by rw [sh_out (by decide), cq, ea_upS]
      have hc : (8 : Int32) * nI q + sh_S M q (8 * q + j) m i 70 (nI q).toNatClampNeg ≤ nI (8 * q + j + i) := by rw [e70, e8, nI_add]; exact nI_le (by omega) (by omega)
      refine km_strike_43 C X  vq (fun _ => ⟨rfl, by rw [show i = m - j by omega]⟩) (fun c => absurd hc c) (fun c => absurd hc c) (fun c => absurd hc c) (fun c => absurd hc c) (fun c => absurd hc c) (fun c => absurd hc c) (fun c => absurd hc c)
    | succ r ih =>
      intro i hi
      have e70 : sh_S M q (8 * q + j) m i 70 (nI q).toNatClampNeg = nI m := by rw [sh_out (by decide), cq, ea_upS]
      have hc : ¬ (8 : Int32) * nI q + sh_S M q (8 * q + j) m i 70 (nI q).toNatClampNeg ≤ nI (8 * q + j + i) := by rw [e70, e8, nI_add]; exact nI_ge (by omega) (by omega)
      have ej : (nI (8 * q + j + i)).toNatClampNeg = 8 * q + j + i := nI_clamp (by omega)
      have ej1 : (nI (8 * q + j + i) + (1 : Int32)).toNatClampNeg = 8 * q + j + i + 1 := by rw [nI_1]; exact nI_clamp (by omega)
      have vj : vp_in (nI (8 * q + j + i)) 24 := vp_in_nI (by omega) (by decide)
      have vj1 : vp_in (nI (8 * q + j + i) + (1 : Int32)) 24 := by rw [nI_1]; exact vp_in_nI (by omega) (by decide)
      refine km_strike_43 C X  vq (fun c => absurd c hc) (fun _ => vj1) (fun _ => vj) (fun _ => vj1) (fun _ => vj) (fun _ => vj1) (fun _ => vj) (fun _ => ?_)
      rw [ej, ej1, sh_s, nI_1]
      exact ih (i + 1) (by omega)
  have h0 := loop (m - j) 0 (by omega)
  rw [sh_0] at h0
  refine km_strike C X  sg (fun _ => sp) (fun _ => vq) (fun _ => vq) (fun _ => ?_) (fun c => absurd hv' c)
  rw [cq, hk, show nI (m + 1) - (1 : Int32) = nI m from pk_sub (a := m + 1) (b := 1) (by omega)]
  exact h0
theorem pm_strike (p a b : Int32) : pm 2 yX6_strike cX6_strike 6 3 yX7_strike cX7_strike 7 (some .int) [.int p, .int a, .int b] := by
  intro s M N0 h0
  rcases in3 p with hp | ⟨q, hq, rfl⟩
  · refine ⟨.int (-2000000001), M, s, ?_, fun _ _ => rfl, fun N hN => ⟨N, sp_X7_strike0 (sp_X7_getP hp a b) (by decide), fun _ _ => rfl, hN⟩⟩
    refine ea_intro (own := RX6) (by decide +kernel) rfl (fun g => Nat.le_of_ble_eq_true rfl) (fun k C X => ?_)
    exact kb_X6_strike_n C X (sp_bookNo M p hp) ⟨rfl, rfl⟩
  by_cases hab : p_X6_isKey a b
  case neg =>
    refine ⟨.int (-2000000002), M, s, ?_, fun _ _ => rfl, fun N hN => ⟨N, sp_X7_strike0 (sp_X7_getK hq hab) (by decide), fun _ _ => rfl, hN⟩⟩
    refine ea_intro (own := RX6) (by decide +kernel) rfl (fun g => Nat.le_of_ble_eq_true rfl) (fun k C X => ?_)
    refine kb_X6_strike_b C X (kd_pg q hq)  (r1 := 0) (sp_bookAt M q hq) (fun c _ => absurd c hab) (fun c _ _ => absurd c hab) (fun c _ _ => absurd c hab) (fun c _ => absurd c hab) (fun _ => ⟨rfl, rfl⟩)
  rcases g_01 h0 hq with h1 | h1
  · refine ⟨.int (-2000000011), M, s, ?_, fun _ _ => rfl, fun N hN => ⟨N, sp_X7_strike0 (sp_X7_get0 hq (g_no hN hq h1).1 hab) (by decide), fun _ _ => rfl, hN⟩⟩
    refine ea_intro (own := RX6) (by decide +kernel) rfl (fun g => Nat.le_of_ble_eq_true rfl) (fun k C X => ?_)
    refine kb_X6_strike_b C X (kd_pg q hq)  (r1 := 0) (sp_bookAt M q hq) (fun _ c => absurd h1 c) (fun _ c _ => absurd h1 c) (fun _ c _ => absurd h1 c) (fun _ _ => ⟨rfl, rfl⟩) (fun c => absurd hab c)
  obtain ⟨g1, g2, -, -, g5, g6⟩ := g_yes h0 hq h1
  obtain ⟨z, hz⟩ : ∃ z, z = 49 + 4 * q := ⟨_, rfl⟩
  have kz : ea_kd z = 0 := by rw [hz]; exact kd_pg q hq
  have bz : ea_Sp 0 yX6_bookAt cX6_bookAt 2 (some (.object "WallHeat$Book")) [.ref 0, .int (nI q)] M (some (.ref z)) M := by rw [hz]; exact sp_bookAt M q hq
  have nz : ¬ M z 0 = 0 := by rw [hz, h1]; decide
  have sp := sp_plW hq g1 g2 a b
  rw [← hz] at sp g2 h1
  have ew : ∀ (M : ea_M) (i : Nat), wE M q i = (M (z + 1) i, M (z + 2) i, M (z + 3) i) := fun M i => by rw [hz]; rfl
  have em : ∀ (N : ea_M) (i : Nat), mE N q i = (N 71 (8 * q + i), N 72 (8 * q + i), N 73 (8 * q + i)) := fun N i => rfl
  cases ho : pa_ix (kf (wE M q) a b) 0 (s.g q) with
  | none =>
    rw [ho] at sp
    refine ⟨.int (-2000000012), M, s, ?_, fun _ _ => rfl, fun N hN => ⟨N, ?_, fun _ _ => rfl, hN⟩⟩
    · refine ea_intro (own := RX6) (by decide +kernel) rfl (fun g => Nat.le_of_ble_eq_true rfl) (fun k C X => ?_)
      have c2 : pa_ri none = -1 := rfl
      refine kb_X6_strike_b C X kz  bz (fun _ _ => sp) (fun _ _ c => absurd c2 c) (fun _ _ _ => ⟨rfl, rfl⟩) (fun _ c => absurd c nz) (fun c => absurd hab c)
    · obtain ⟨-, -, n3, n4, -, -⟩ := g_yes hN hq (by rw [← hz]; exact h1)
      have := sp_X7_get1 hq g1 n3 hab
      rcases o_eq n4 g5 a b with ⟨-, c⟩ | ⟨j, j', c, -⟩
      · rw [c] at this
        exact sp_X7_strike0 this (by decide)
      · rw [ho] at c
        cases c
  | some j =>
    rw [ho] at sp
    obtain ⟨jn, j1, -⟩ := ix_lk1 g5 ho
    obtain ⟨m, hm⟩ : ∃ m, s.g q = m + 1 := ⟨s.g q - 1, by omega⟩
    rw [hm] at g1 g2 g5 g6 jn ho
    have c2 : ¬ pa_ri (some j) = -1 := pa_rim j (by omega)
    have em1 : nI (m + 1) - (1 : Int32) = nI m := pk_sub (a := m + 1) (b := 1) (by omega)
    have eA : ∀ c, pa_at (M c) 8 (nI m) = M c m := fun c => pa_atN (show m < 8 by omega) (by decide)
    have eM : g_X0_remove M z (pa_ri (some j)) = ea_up (ea_up (ea_up (ea_up M z 1 (nI m)) (z + 1) j (M (z + 1) m)) (z + 2) j (M (z + 2) m)) (z + 3) j (M (z + 3) m) := by
      unfold g_X0_remove
      rw [show pa_ri (some j) = nI j from rfl, g2, em1, pa_setN (show j < 8 by omega) (by decide), pa_setN (show j < 8 by omega) (by decide), pa_setN (show j < 8 by omega) (by decide), eA, eA, eA]
    have eF : f_X0_remove M z (pa_ri (some j)) = M (z + 3) j := pa_atN (show j < 8 by omega) (by decide)
    refine ⟨.int (M (z + 3) j), ea_up (ea_up (ea_up (ea_up M z 1 (nI m)) (z + 1) j (M (z + 1) m)) (z + 2) j (M (z + 2) m)) (z + 3) j (M (z + 3) m), sgg s q m, ?_, fun c hc => by rw [ea_upR (by omega), ea_upR (by omega), ea_upR (by omega), ea_upR (by omega)], fun N hN => ?_⟩
    · refine ea_intro (own := RX6) (by decide +kernel) rfl (fun g => Nat.le_of_ble_eq_true rfl) (fun k C X => ?_)
      refine kb_X6_strike_b C X kz  bz (fun _ _ => sp) (fun _ _ _ => ⟨by rw [eF], by rw [eM]⟩) (fun _ _ c => absurd c c2) (fun _ c => absurd c nz) (fun c => absurd hab c)
    · obtain ⟨-, -, n3, n4, -, -⟩ := g_yes hN hq (by rw [← hz]; exact h1)
      rw [hm] at n3 n4
      rcases o_eq n4 g5 a b with ⟨c, -⟩ | ⟨j2, j', c, c5, -, c6, c7, -⟩
      · rw [ho] at c
        cases c
      rw [ho] at c
      injection c with c
      subst c
      have c8 : M (z + 3) j = N 73 (8 * q + j') := by
        have := congrArg (fun e : en => e.2.2) c7
        rw [ew, em] at this
        exact this
      have c9 : ¬ N 73 (8 * q + j') < -999 := by
        rw [← c8]
        have := g6 (wE M q j) (fl_mem.mpr ⟨j, jn, rfl⟩)
        rw [ew] at this
        exact this
      rw [c8]
      refine ⟨sh_S N q (8 * q + j') m (m - j'), sp_X7_strike1 hq (by omega) n3 hab c5 c9, fun c hc => by rw [sh_out (by omega), ea_upR (by omega)], ?_⟩
      refine Rel_g hN q m (fun c hc => by rw [ea_upR (by omega), ea_upR (by omega), ea_upR (by omega), ea_upR (by omega)]) (fun c hc => by rw [sh_out (by omega), ea_upR (by omega)]) (R_g_one hN.2.2.2.2.1 q m (fun c hc => by rw [ea_upR (by omega), ea_upR (by omega), ea_upR (by omega), ea_upR (by omega)]) (fun c hc => by rw [sh_out (by decide), ea_upK hc]) (fun c i h3 h4 h5 => by rw [sh_in h3 h4, if_neg (by omega)]) (Or.inr ?_))
      have hh := pr_del (m := m) (g := wE (ea_up (ea_up (ea_up (ea_up M z 1 (nI m)) (z + 1) j (M (z + 1) m)) (z + 2) j (M (z + 2) m)) (z + 3) j (M (z + 3) m)) q) (g' := mE (sh_S N q (8 * q + j') m (m - j')) q) n4 g5 g6 jn c6 c7 (fun i hi => ?_) (fun i hi => ?_)
      · rw [sgg_q, ← hz]
        refine ⟨by omega, ?_, ?_, ?_, hh⟩
        · rw [ea_upR (by omega), ea_upR (by omega), ea_upR (by omega), ea_upK (by decide)]
          exact h1
        · rw [ea_upR (by omega), ea_upR (by omega), ea_upR (by omega), ea_upS]
        · rw [sh_out (by decide), ea_upS]
      · rw [ew, ew, ew, ea_upR (show z + 1 ≠ z + 3 by omega), ea_upR (show z + 1 ≠ z + 2 by omega), ea_upR (show z + 2 ≠ z + 3 by omega)]
        by_cases hij : i = j
        · rw [if_pos hij, hij, ea_upS, ea_upS, ea_upS]
        · rw [if_neg hij, ea_upK hij, ea_upK hij, ea_upK hij, ea_upR (show z + 1 ≠ z by omega), ea_upR (show z + 2 ≠ z + 1 by omega), ea_upR (show z + 2 ≠ z by omega), ea_upR (show z + 3 ≠ z + 2 by omega), ea_upR (show z + 3 ≠ z + 1 by omega), ea_upR (show z + 3 ≠ z by omega)]
      · rw [em, em, em, sh_in (by decide) (by decide), sh_in (by decide) (by decide), sh_in (by decide) (by decide)]
        by_cases hij : i < j'
        · rw [if_pos hij, if_neg (by omega), if_neg (by omega), if_neg (by omega)]
        · rw [if_neg hij, if_pos (by omega), if_pos (by omega), if_pos (by omega)]
          rfl

