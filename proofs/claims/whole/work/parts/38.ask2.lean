/-! ===== write, erase, rest, resists, swapped, flow ===== -/
theorem Rel_t {s : sg} {M M' N N' : ea_M} (h : Rel s M N) (n : Nat) (hM : ∀ a, a ≠ 2 → a ≠ 3 → M' a = M a) (hN : ∀ a, a ≠ 61 → a ≠ 69 → N' a = N a) (h61 : ∀ k, k ≠ 11 → N' 61 k = N 61 k) (ht : R_t (s.1, s.2.1, n, s.2.2.2) M' N') : Rel (s.1, s.2.1, n, s.2.2.2) M' N' := by
  obtain ⟨a1, a2, a3, a4, a5, a6⟩ := h
  have n62 := hN 62 (by decide) (by decide)
  exact ⟨R_w_cg a1 rfl rfl (fun a h1 h2 h3 => hM a (by omega) (by omega)) (h61 1 (by decide)) (h61 6 (by decide)) (fun a h1 h2 => hN a (by omega) (by omega)) (fun j _ => by rw [n62]), ht, R_p_cg a3 rfl rfl (hM 24 (by decide) (by decide)) (fun a h1 h2 => hM a (by omega) (by omega)) (h61 8 (by decide)) (fun j _ _ => by rw [n62]), R_k_cg a4 (hM 27 (by decide) (by decide)) (fun a h1 h2 => hM a (by omega) (by omega)) (hN 68 (by decide) (by decide)) (fun j _ _ => by rw [n62]), R_g_cg a5 rfl (fun a h1 h2 => hM a (by omega) (by omega)) (fun a h1 h2 => hN a (by omega) (by omega)), R_c_cg a6 (hN 77 (by decide) (by decide))⟩
theorem pm_erase : pm 0 yX6_erase cX6_erase 2 0 yX7_erase cX7_erase 2 (some .int) [] := by
  intro s M N0 h0
  refine ⟨.int (M 2 1), ea_up M 2 1 0, (s.1, s.2.1, 0, s.2.2.2), sp_X6_erase, fun a ha => ea_upR (by omega), fun N hN => ⟨ea_up N 61 11 0, ?_, fun a ha => ea_upR (by omega), ?_⟩⟩
  · have e : M 2 1 = N 61 11 := hN.2.1.2.1.trans hN.2.1.2.2.1.symm
    rw [e]
    exact sp_X7_erase
  · refine Rel_t hN 0 (fun a h1 h2 => ea_upR h1) (fun a h1 h2 => ea_upR h1) (fun k hk => ea_upK hk) ⟨Nat.zero_le _, ea_upS, ea_upS, ?_⟩
    rw [ea_upR (by decide), ea_upR (by decide)]
    exact hN.2.1.2.2.2
theorem pm_write (c : Int32) : pm 2 yX6_write cX6_write 2 1 yX7_write cX7_write 2 (some .int) [.int c] := by
  intro s M N0 h0
  have ic : p_X7_in c.toInt64 0 255 ↔ (¬ c < 0 ∧ ¬ 255 < c) := in_i c 0 255
  obtain ⟨t1, t2, -, -⟩ := h0.2.1
  by_cases hc : ¬ c < 0 ∧ ¬ 255 < c
  case neg =>
    have im : ¬ p_X7_in c.toInt64 0 255 := fun z => hc (ic.mp z)
    refine ⟨.int (-2000000002), M, s, ?_, fun _ _ => rfl, fun N hN => ⟨N, ?_, fun _ _ => rfl, hN⟩⟩
    · refine ea_intro (own := RX6) (by decide +kernel) rfl (fun g => Nat.le_of_ble_eq_true rfl) (fun k C X => ?_)
      by_cases v0 : c < 0
      · refine kb_X6_write C X  (M1 := fun _ _ => 0) (fun _ => ⟨rfl, rfl⟩) (fun c _ _ => absurd v0 c) (fun c _ _ => absurd v0 c) (fun c _ _ => absurd v0 c) (fun c _ => absurd v0 c)
      · have v2 : ¬ c ≤ 255 := fun z => hc ⟨v0, Int32.not_lt.mpr z⟩
        refine kb_X6_write C X  (M1 := fun _ _ => 0) (fun c => absurd c v0) (fun _ c _ => absurd c v2) (fun _ c _ => absurd c v2) (fun _ c _ => absurd c v2) (fun _ _ => ⟨rfl, rfl⟩)
    · refine ea_intro (own := RX7) (by decide +kernel) rfl (fun g => Nat.le_of_ble_eq_true rfl) (fun k C X => ?_)
      refine km_write C X  (fun c _ => absurd c im) (fun c _ => absurd c im) (fun c _ => absurd c im) (fun _ => ⟨rfl, rfl⟩)
  have im := ic.mpr hc
  have v0 := hc.1
  have v2 : c ≤ 255 := Int32.not_lt.mp hc.2
  by_cases h2 : s.n = 200
  · refine ⟨.int (-2000000004), M, s, ?_, fun _ _ => rfl, fun N hN => ⟨N, ?_, fun _ _ => rfl, hN⟩⟩
    · have c4 : ¬ M 2 1 < 200 := by rw [t2, h2]; decide
      refine ea_intro (own := RX6) (by decide +kernel) rfl (fun g => Nat.le_of_ble_eq_true rfl) (fun k C X => ?_)
      refine kb_X6_write C X  (M1 := fun _ _ => 0) (fun c => absurd c v0) (fun _ _ c => absurd c c4) (fun _ _ c => absurd c c4) (fun _ _ _ => ⟨rfl, rfl⟩) (fun _ c => absurd v2 c)
    · have c4 : N 61 11 = 200 := by rw [hN.2.1.2.2.1, h2]; rfl
      refine ea_intro (own := RX7) (by decide +kernel) rfl (fun g => Nat.le_of_ble_eq_true rfl) (fun k C X => ?_)
      refine km_write C X  (fun _ c => absurd c4 c) (fun _ c => absurd c4 c) (fun _ _ => ⟨rfl, rfl⟩) (fun c => absurd im c)
  · have eM : g_X3_add M c = ea_up (ea_up M 3 s.n c) 2 1 (nI (s.n + 1)) := by
      unfold g_X3_add
      rw [t2, pa_setN (show s.n < 200 by omega) (by decide), nI_1]
    refine ⟨.int (nI (s.n + 1)), ea_up (ea_up M 3 s.n c) 2 1 (nI (s.n + 1)), (s.1, s.2.1, s.n + 1, s.2.2.2), ?_, fun a ha => by rw [ea_upR (by omega), ea_upR (by omega)], fun N hN => ⟨ea_up (ea_up N 69 s.n c) 61 11 (nI (s.n + 1)), ?_, fun a ha => by rw [ea_upR (by omega), ea_upR (by omega)], ?_⟩⟩
    · have c4 : M 2 1 < 200 := by
        rw [t2]
        exact nI_lt (b := 200) (by omega) (by decide)
      have sp : ea_Sp 1 yX3_add cX3_add 2 none [.ref 2, .int c] M none (ea_up (ea_up M 3 s.n c) 2 1 (nI (s.n + 1))) := eM ▸ sp_X3_add
      refine ea_intro (own := RX6) (by decide +kernel) rfl (fun g => Nat.le_of_ble_eq_true rfl) (fun k C X => ?_)
      refine kb_X6_write C X  (fun c => absurd c v0) (fun _ _ _ => sp) (fun _ _ _ => ⟨by rw [ea_upS], rfl⟩) (fun _ _ c => absurd c4 c) (fun _ c => absurd v2 c)
    · have n11 := hN.2.1.2.2.1
      have c4 : ¬ N 61 11 = 200 := by
        rw [n11]
        exact fun z => h2 ((nI_eq (b := 200) (by omega) (by decide)).mp z)
      have v3 : vp_in (N 61 11) 200 := by rw [n11]; exact vp_in_nI (by omega) (by decide)
      refine ea_intro (own := RX7) (by decide +kernel) rfl (fun g => Nat.le_of_ble_eq_true rfl) (fun k C X => ?_)
      refine km_write C X  (fun _ _ => v3) (fun _ _ => ⟨by rw [n11, nI_1], by rw [n11, nI_1, nI_clamp (show s.n < 2 ^ 31 by omega)]⟩) (fun _ c => absurd c c4) (fun c => absurd im c)
    · refine Rel_t hN (s.n + 1) (fun a h1 h2 => by rw [ea_upR h1, ea_upR h2]) (fun a h1 h2 => by rw [ea_upR h1, ea_upR h2]) (fun k hk => by rw [ea_upK hk, ea_upR (by decide)]) ⟨show s.n + 1 ≤ 200 by omega, ea_upS, ea_upS, ?_⟩
      rw [ea_upR (show 69 ≠ 61 by decide), ea_upR (show 3 ≠ 2 by decide)]
      funext j
      by_cases e : j = s.n
      · rw [e, ea_upS, ea_upS]
      · rw [ea_upK e, ea_upK e, hN.2.1.2.2.2]
theorem part_i (v : Int32) : p_X7_in v.toInt64 0 1 ↔ p_X6_isPart v := by
  refine (in_i v 0 1).trans ?_
  show (¬ v < 0 ∧ ¬ (1 : Int32) < v) ↔ (v = 0 ∨ v = 1)
  constructor
  · rintro ⟨a, b⟩
    obtain ⟨j, hj, rfl⟩ := nI_of a
    have : ¬ 1 < j := fun z => b (nI_lt (a := 1) z hj)
    rcases Nat.lt_or_ge j 1 with z | z
    · exact Or.inl (by rw [show j = 0 by omega]; rfl)
    · exact Or.inr (by rw [show j = 1 by omega]; rfl)
  · rintro (z | z)
    · rw [z]; decide
    · rw [z]; decide
theorem rs_Q (M : ea_M) (x c : Nat) : ∀ n, c < n → rs_rt (wl_p M x) c n = wl_Q M x c n := by
  intro n
  have z : ∀ m, m ≤ c → rs_rt (wl_p M x) c m = 0 := by
    intro m
    induction m with
    | zero => intro _; rfl
    | succ m ih =>
      intro h
      show rs_rt (wl_p M x) c m + (if c < m then 2 * (232792560 / wl_p M x m) else if m = c then 232792560 / wl_p M x m else 0) = 0
      rw [ih (by omega), if_neg (by omega), if_neg (by omega)]
  induction n with
  | zero => intro h; omega
  | succ n ih =>
    intro h
    show rs_rt (wl_p M x) c n + (if c < n then 2 * (232792560 / wl_p M x n) else if n = c then 232792560 / wl_p M x n else 0) = _
    by_cases e : n = c
    · subst e
      rw [z n (Nat.le_refl _), if_neg (by omega), if_pos rfl]
      unfold wl_Q
      omega
    · rw [ih (by omega), if_pos (by omega)]
      have q1 : wl_R M x (n + 1) = wl_R M x n + 2 * (232792560 / wl_p M x n) := rfl
      have q2 := wl_Rle (M := M) (x := x) (a := c + 1) n (by omega)
      unfold wl_Q
      omega
theorem pm_rest (c part : Int32) : pm 3 yX6_rest cX6_rest 9 2 yX7_rest cX7_rest 10 (some .long) [.int c, .int part] := by
  refine pm_q (fun s M N0 h0 => ?_)
  have hk : M 13 5 = nI s.nc := h0.1.1.1.2.2.2
  have hn : s.nc ≤ 10 := h0.1.1.1.2.1
  have hw := wl_of h0.1.1
  by_cases hst : ∃ j : Nat, j < s.nc ∧ c = nI j
  case neg =>
    have iw : ¬ p_X4_isCell M 13 c := fun z => hst ((iw_cell hk hn).mp z)
    refine ⟨.long (-2000000001), ?_, fun N hN => ?_⟩
    · refine ea_intro (own := RX6) (by decide +kernel) rfl (fun g => Nat.le_of_ble_eq_true rfl) (fun k C X => ?_)
      refine kb_X6_rest C X  (r1 := 0) (r2 := 0) (r3 := 0) (fun c _ => absurd c iw) (fun c _ => absurd c iw) (fun c _ => absurd c iw) (fun c _ => absurd c iw) (fun c _ => absurd c iw) (fun _ => ⟨rfl, rfl⟩)
    · refine ea_intro (own := RX7) (by decide +kernel) rfl (fun g => Nat.le_of_ble_eq_true rfl) (fun k C X => ?_)
      have im : ¬ p_X7_isCell N c := fun z => hst ((mi_cell (nW_6 hN) hn).mp z)
      refine km_rest C X  (fun c _ => absurd c im) (fun c _ => absurd c im) (fun _ => ⟨rfl, rfl⟩)
  have iw := (iw_cell hk hn).mpr hst
  obtain ⟨j, hj, rfl⟩ := hst
  by_cases hp : p_X6_isPart part
  case neg =>
    refine ⟨.long (-2000000002), ?_, fun N hN => ?_⟩
    · refine ea_intro (own := RX6) (by decide +kernel) rfl (fun g => Nat.le_of_ble_eq_true rfl) (fun k C X => ?_)
      refine kb_X6_rest C X  (r1 := 0) (r2 := 0) (r3 := 0) (fun _ c => absurd c hp) (fun _ c => absurd c hp) (fun _ c => absurd c hp) (fun _ c => absurd c hp) (fun _ _ => ⟨rfl, rfl⟩) (fun c => absurd iw c)
    · refine ea_intro (own := RX7) (by decide +kernel) rfl (fun g => Nat.le_of_ble_eq_true rfl) (fun k C X => ?_)
      have im := (mi_cell (nW_6 hN) hn).mpr ⟨j, hj, rfl⟩
      have ip : ¬ p_X7_in part.toInt64 0 1 := fun z => hp ((part_i part).mp z)
      refine km_rest C X  (fun _ c => absurd c ip) (fun _ _ => ⟨rfl, rfl⟩) (fun c => absurd im c)
  obtain ⟨-, ⟨l, l1, l2⟩, ⟨r, r1, r2⟩, -⟩ := warm_of h0.1.1
  refine ⟨.long (lN ((if part = 0 then rs_ab (wl_p M 13) j s.nc l r else rs_all (wl_p M 13) s.nc) / Nat.gcd (rs_ab (wl_p M 13) j s.nc l r) (rs_all (wl_p M 13) s.nc))), ?_, fun N hN => ?_⟩
  · refine ea_intro (own := RX6) (by decide +kernel) rfl (fun g => Nat.le_of_ble_eq_true rfl) (fun k C X => ?_)
    have eR : rs_all (wl_p M 13) s.nc = wl_R M 13 s.nc := rfl
    have eQ := rs_Q M 13 j s.nc hj
    have q1 := sp_X4_resistsRightOf M 13 s.ns s.nc j rfl hw hj
    have q2 := sp_X4_resistsInAll M 13 s.ns s.nc rfl hw
    rw [← eQ] at q1
    rw [← eR] at q2
    obtain ⟨b1, b2⟩ := rs_bd (P := wl_p M 13) (c := j) (nc := s.nc) hn l1 r1
    have q3 := sp_X6_lowest M (rs_ab (wl_p M 13) j s.nc l r) (rs_all (wl_p M 13) s.nc) part (by omega) (by omega) (rs_pos (by omega) (fun i hi => ⟨(wl_pp hw hi).2.1, (wl_pp hw hi).2.2⟩))
    have e3 : (M 20 2).toInt64 * (lN (rs_all (wl_p M 13) s.nc) - lN (rs_rt (wl_p M 13) j s.nc)) + (M 20 1).toInt64 * lN (rs_rt (wl_p M 13) j s.nc) = lN (rs_ab (wl_p M 13) j s.nc l r) := by
      have l2' : M 20 1 = nI l := l2
      have r2' : M 20 2 = nI r := r2
      rw [l2', r2', nI_l (show l < 2 ^ 31 by omega), nI_l (show r < 2 ^ 31 by omega), lN_sub (rs_le _ _ _), lN_mul, lN_mul, lN_add]
      rfl
    rw [← e3] at q3
    refine kb_X6_rest C X  (fun _ _ => q1) (fun _ _ => q2) (fun _ _ => q3) (fun _ _ => ⟨rfl, rfl⟩) (fun _ c => absurd hp c) (fun c => absurd iw c)
  · obtain ⟨-, -, -, -, -, -, -, -, -, r9⟩ := hN.1
    exact sp_X7_rest (mp_of hN.1) hj ((r9 1 (by decide) (by decide)).trans l2) ((r9 2 (by decide) (by decide)).trans r2) l1 r1 part ((part_i part).mpr hp)
theorem ns_2 (f : Nat → Nat) : ∀ n, pa_nsum (fun i => 2 * f i) n = 2 * pa_nsum f n := by
  intro n
  induction n with
  | zero => rfl
  | succ n ih => rw [pa_nsum, pa_nsum, ih, Nat.mul_add]
theorem ns_u {f g : Nat → Nat} {c : Nat} (h : ∀ i, i ≠ c → g i = f i) : ∀ n, (n ≤ c → pa_nsum g n = pa_nsum f n) ∧ (c < n → pa_nsum g n + f c = pa_nsum f n + g c) := by
  intro n
  induction n with
  | zero => exact ⟨fun _ => rfl, fun z => by omega⟩
  | succ n ih =>
    rw [pa_nsum, pa_nsum]
    refine ⟨fun z => by rw [ih.1 (by omega), h n (by omega)], fun z => ?_⟩
    by_cases e : n = c
    · rw [e] at ih ⊢
      rw [ih.1 (Nat.le_refl _)]
      omega
    · have := ih.2 (by omega)
      rw [h n e]
      omega
theorem g_2 (S : Nat) (part : Int32) : (if part = 0 then 2 * S else 465585120) / Nat.gcd (2 * S) 465585120 = (if part = 0 then S else 232792560) / Nat.gcd S 232792560 := by
  rw [show (465585120 : Nat) = 2 * 232792560 from rfl, Nat.gcd_mul_left]
  by_cases h : part = 0
  · rw [if_pos h, if_pos h, Nat.mul_div_mul_left _ _ (by decide)]
  · rw [if_neg h, if_neg h, Nat.mul_div_mul_left _ _ (by decide)]
theorem ns_le {f : Nat → Nat} {b : Nat} (h : ∀ i, f i ≤ b) : ∀ n, pa_nsum f n ≤ n * b := by
  intro n
  induction n with
  | zero => exact Nat.zero_le _
  | succ n ih =>
    rw [pa_nsum, Nat.add_mul, Nat.one_mul]
    exact Nat.add_le_add ih (h n)
theorem pm_resists (part : Int32) : pm 3 yX6_resists cX6_resists 2 2 yX7_resists cX7_resists 2 (some .int) [.int part] := by
  refine pm_q (fun s M N0 h0 => ?_)
  have hk : M 13 5 = nI s.nc := h0.1.1.1.2.2.2
  have hn : s.nc ≤ 10 := h0.1.1.1.2.1
  have hw := wl_of h0.1.1
  by_cases hp : p_X6_isPart part
  case neg =>
    refine ⟨.int (-2000000002), ?_, fun N hN => ?_⟩
    · refine ea_intro (own := RX6) (by decide +kernel) rfl (fun g => Nat.le_of_ble_eq_true rfl) (fun k C X => ?_)
      refine kb_X6_resists C X  (r1 := 0) (r2 := 0) (fun c _ => absurd c hp) (fun c _ => absurd c hp) (fun c _ => absurd c hp) (fun c _ => absurd c hp) (fun _ => ⟨rfl, rfl⟩)
    · refine ea_intro (own := RX7) (by decide +kernel) rfl (fun g => Nat.le_of_ble_eq_true rfl) (fun k C X => ?_)
      have ip : ¬ p_X7_in part.toInt64 0 1 := fun z => hp ((part_i part).mp z)
      refine km_resists C X  (r1 := 0) (r2 := 0) (fun c _ => absurd c ip) (fun c _ => absurd c ip) (fun c _ => absurd c ip) (fun c _ => absurd c ip) (fun _ => ⟨rfl, rfl⟩)
  have ip := (part_i part).mpr hp
  by_cases hc : s.nc = 0
  · have c0 : M 13 5 = 0 := by rw [hk, hc]; rfl
    refine ⟨.int (-2000000003), ?_, fun N hN => ?_⟩
    · refine ea_intro (own := RX6) (by decide +kernel) rfl (fun g => Nat.le_of_ble_eq_true rfl) (fun k C X => ?_)
      refine kb_X6_resists C X  (r1 := 0) (r2 := 0) (fun _ c => absurd c0 c) (fun _ c => absurd c0 c) (fun _ c => absurd c0 c) (fun _ _ => ⟨rfl, rfl⟩) (fun c => absurd hp c)
    · refine ea_intro (own := RX7) (by decide +kernel) rfl (fun g => Nat.le_of_ble_eq_true rfl) (fun k C X => ?_)
      have c1 : N 61 6 = 0 := by rw [nW_6 hN, hc]; rfl
      refine km_resists C X  (r1 := 0) (r2 := 0) (fun _ c => absurd c1 c) (fun _ c => absurd c1 c) (fun _ c => absurd c1 c) (fun _ _ => ⟨rfl, rfl⟩) (fun c => absurd ip c)
  have c0 : ¬ M 13 5 = 0 := by rw [hk]; exact fun z => hc ((nI_0i (by omega)).mp z)
  obtain ⟨S, hS⟩ : ∃ S, S = pa_nsum (fun i => 232792560 / wl_p M 13 i) s.nc := ⟨_, rfl⟩
  have bS : S ≤ 2327925600 := by
    have h1 := ns_le (f := fun i => 232792560 / wl_p M 13 i) (b := 232792560) (fun i => Nat.div_le_self _ _) s.nc
    have h2 := Nat.mul_le_mul hn (Nat.le_refl 232792560)
    omega
  refine ⟨.int (lN ((if part = 0 then S else 232792560) / Nat.gcd S 232792560)).toInt32, ?_, fun N hN => ?_⟩
  · refine ea_intro (own := RX6) (by decide +kernel) rfl (fun g => Nat.le_of_ble_eq_true rfl) (fun k C X => ?_)
    have q1 := sp_X4_resistsInAll M 13 s.ns s.nc rfl hw
    have e1 : wl_R M 13 s.nc = 2 * S := by rw [hS, ← ns_2]; rfl
    have q2 := sp_X6_lowest M (2 * S) 465585120 part (by omega) (by decide) (by decide)
    rw [e1] at q1
    rw [g_2] at q2
    refine kb_X6_resists C X  (fun _ _ => q1) (fun _ _ => q2) (fun _ _ => ⟨rfl, rfl⟩) (fun _ c => absurd c c0) (fun c => absurd hp c)
  · refine ea_intro (own := RX7) (by decide +kernel) rfl (fun g => Nat.le_of_ble_eq_true rfl) (fun k C X => ?_)
    have c1 : ¬ N 61 6 = 0 := by rw [nW_6 hN]; exact fun z => hc ((nI_0i (by omega)).mp z)
    have q1 := sp_X7_resistance (mp_of hN.1) (-1) 0 (wl_p M 13) (fun _ _ _ => rfl) (fun i hi z => absurd z (pa_rim i (by omega)))
    rw [← hS] at q1
    have q2 := sp_X7_told N S 232792560 part (by omega) (by decide) (by decide)
    refine km_resists C X  (fun _ _ => q1) (fun _ _ => q2) (fun _ _ => ⟨rfl, rfl⟩) (fun _ c => absurd c c1) (fun c => absurd ip c)
theorem pm_swapped (c t part : Int32) : pm 3 yX6_swapped cX6_swapped 8 2 yX7_swapped cX7_swapped 4 (some .int) [.int c, .int t, .int part] := by
  refine pm_q (fun s M N0 h0 => ?_)
  have hk : M 13 5 = nI s.nc := h0.1.1.1.2.2.2
  have hn : s.nc ≤ 10 := h0.1.1.1.2.1
  have hw := wl_of h0.1.1
  have h6 : s.ns ≤ 6 := h0.1.1.1.1
  have hs : M 13 0 = nI s.ns := h0.1.1.1.2.2.1
  by_cases hst : ∃ j : Nat, j < s.nc ∧ c = nI j
  case neg =>
    have iw : ¬ p_X4_isCell M 13 c := fun z => hst ((iw_cell hk hn).mp z)
    refine ⟨.int (-2000000001), ?_, fun N hN => ?_⟩
    · refine ea_intro (own := RX6) (by decide +kernel) rfl (fun g => Nat.le_of_ble_eq_true rfl) (fun k C X => ?_)
      refine kb_X6_swapped C X  (r1 := 0) (r2 := 0) (fun _ => ⟨rfl, rfl⟩) (fun c _ _ => absurd c iw) (fun c _ _ => absurd c iw) (fun c _ _ => absurd c iw) (fun c _ _ => absurd c iw) (fun c _ => absurd c iw)
    · refine ea_intro (own := RX7) (by decide +kernel) rfl (fun g => Nat.le_of_ble_eq_true rfl) (fun k C X => ?_)
      have im : ¬ p_X7_isCell N c := fun z => hst ((mi_cell (nW_6 hN) hn).mp z)
      refine km_swapped C X  (r1 := 0) (r2 := 0) (fun _ => ⟨rfl, rfl⟩) (fun c _ _ => absurd c im) (fun c _ _ => absurd c im) (fun c _ _ => absurd c im) (fun c _ _ => absurd c im) (fun c _ => absurd c im)
  have iw := (iw_cell hk hn).mpr hst
  obtain ⟨j, hj, rfl⟩ := hst
  by_cases hst : ∃ z : Nat, z < s.ns ∧ t = nI z
  case neg =>
    have jw : ¬ p_X4_isStuff M 13 t := fun z => hst ((iw_stuff hs h6).mp z)
    refine ⟨.int (-2000000001), ?_, fun N hN => ?_⟩
    · refine ea_intro (own := RX6) (by decide +kernel) rfl (fun g => Nat.le_of_ble_eq_true rfl) (fun k C X => ?_)
      refine kb_X6_swapped C X  (r1 := 0) (r2 := 0) (fun c => absurd iw c) (fun _ c _ => absurd c jw) (fun _ c _ => absurd c jw) (fun _ c _ => absurd c jw) (fun _ c _ => absurd c jw) (fun _ _ => ⟨rfl, rfl⟩)
    · refine ea_intro (own := RX7) (by decide +kernel) rfl (fun g => Nat.le_of_ble_eq_true rfl) (fun k C X => ?_)
      have im := (mi_cell (nW_6 hN) hn).mpr ⟨j, hj, rfl⟩
      have jm : ¬ p_X7_isStuff N t := fun z => hst ((mi_stuff (nW_1 hN) h6).mp z)
      refine km_swapped C X  (r1 := 0) (r2 := 0) (fun c => absurd im c) (fun _ c _ => absurd c jm) (fun _ c _ => absurd c jm) (fun _ c _ => absurd c jm) (fun _ c _ => absurd c jm) (fun _ _ => ⟨rfl, rfl⟩)
  have jw := (iw_stuff hs h6).mpr hst
  obtain ⟨z, hz, rfl⟩ := hst
  by_cases hp : p_X6_isPart part
  case neg =>
    refine ⟨.int (-2000000002), ?_, fun N hN => ?_⟩
    · refine ea_intro (own := RX6) (by decide +kernel) rfl (fun g => Nat.le_of_ble_eq_true rfl) (fun k C X => ?_)
      refine kb_X6_swapped C X  (r1 := 0) (r2 := 0) (fun c => absurd iw c) (fun _ _ c => absurd c hp) (fun _ _ c => absurd c hp) (fun _ _ c => absurd c hp) (fun _ _ _ => ⟨rfl, rfl⟩) (fun _ c => absurd jw c)
    · refine ea_intro (own := RX7) (by decide +kernel) rfl (fun g => Nat.le_of_ble_eq_true rfl) (fun k C X => ?_)
      have im := (mi_cell (nW_6 hN) hn).mpr ⟨j, hj, rfl⟩
      have jm := (mi_stuff (nW_1 hN) h6).mpr ⟨z, hz, rfl⟩
      have ip : ¬ p_X7_in part.toInt64 0 1 := fun z => hp ((part_i part).mp z)
      refine km_swapped C X  (r1 := 0) (r2 := 0) (fun c => absurd im c) (fun _ _ _ => ⟨rfl, rfl⟩) (fun _ _ c => absurd c ip) (fun _ _ c => absurd c ip) (fun _ _ c => absurd c ip) (fun _ c => absurd jm c)
  have ip := (part_i part).mpr hp
  obtain ⟨p, p1, p2, p3⟩ := hw.2.2.2.2.1 z hz
  obtain ⟨Q, hQ⟩ : ∃ Q : Nat → Nat, Q = fun i => if i = j then p else wl_p M 13 i := ⟨_, rfl⟩
  obtain ⟨S, hS⟩ : ∃ S, S = pa_nsum (fun i => 232792560 / Q i) s.nc := ⟨_, rfl⟩
  have bS : S ≤ 2327925600 := by
    have h1 := ns_le (f := fun i => 232792560 / Q i) (b := 232792560) (fun i => Nat.div_le_self _ _) s.nc
    have h2 := Nat.mul_le_mul hn (Nat.le_refl 232792560)
    omega
  refine ⟨.int (lN ((if part = 0 then S else 232792560) / Nat.gcd S 232792560)).toInt32, ?_, fun N hN => ?_⟩
  · refine ea_intro (own := RX6) (by decide +kernel) rfl (fun g => Nat.le_of_ble_eq_true rfl) (fun k C X => ?_)
    have q1 := sp_X4_resistsInAll M 13 s.ns s.nc rfl hw
    obtain ⟨f1, f2, f3⟩ := wl_pp hw hj
    have e1 : wl_R M 13 s.nc = 2 * pa_nsum (fun i => 232792560 / wl_p M 13 i) s.nc := by rw [← ns_2]; rfl
    have e2 := (ns_u (f := fun i => 232792560 / wl_p M 13 i) (g := fun i => 232792560 / Q i) (c := j) (fun i hi => by rw [hQ]; simp only [if_neg hi]) s.nc).2 hj
    have e4 : Q j = p := by rw [hQ]; exact if_pos rfl
    simp only [e4] at e2
    rw [← hS] at e2
    have e5 : 2 * (232792560 / wl_p M 13 j) ≤ wl_R M 13 s.nc := by
      have g1 := wl_Rle (M := M) (x := 13) (a := j + 1) s.nc hj
      have g2 : wl_R M 13 (j + 1) = wl_R M 13 j + 2 * (232792560 / wl_p M 13 j) := rfl
      omega
    have e3 : lN (wl_R M 13 s.nc) - (2 : Int64) * f_X6_halfResists (f_X4_passesAt M 13 (nI j)) + (2 : Int64) * f_X6_halfResists (pa_at (M 16) 6 (nI z)) = lN (2 * S) := by
      have p3' : M 16 z = nI p := p3
      rw [f1, pa_hr f2 f3, pa_atN (show z < 6 by omega) (by decide), p3', pa_hr p1 p2, show (2 : Int64) = lN 2 from rfl, lN_mul, lN_mul, lN_sub e5, lN_add]
      congr 1
      omega
    have q2 := sp_X6_lowest M (2 * S) 465585120 part (by omega) (by decide) (by decide)
    rw [g_2, ← e3] at q2
    refine kb_X6_swapped C X  (fun c => absurd iw c) (fun _ _ _ => q1) (fun _ _ _ => q2) (fun _ _ _ => ⟨rfl, rfl⟩) (fun _ _ c => absurd hp c) (fun _ c => absurd jw c)
  · refine ea_intro (own := RX7) (by decide +kernel) rfl (fun g => Nat.le_of_ble_eq_true rfl) (fun k C X => ?_)
    have im := (mi_cell (nW_6 hN) hn).mpr ⟨j, hj, rfl⟩
    have jm := (mi_stuff (nW_1 hN) h6).mpr ⟨z, hz, rfl⟩
    have q1 := sp_X7_resistance (mp_of hN.1) (nI j) (nI z) Q (fun i hi y => by rw [hQ]; exact if_neg (fun x => y (by rw [x]))) (fun i hi y => by
      have eij : i = j := (nI_eq (by omega) (by omega)).mp y
      have e4 : Q i = p := by rw [hQ]; exact if_pos eij
      rw [e4, nI_clamp (by omega)]
      exact ⟨vp_in_nI (by omega) (by decide), (hN.1.2.2.2.2.2.1 z (by omega)).trans p3, p1, p2⟩)
    rw [← hS] at q1
    have q2 := sp_X7_told N S 232792560 part (by omega) (by decide) (by decide)
    refine km_swapped C X  (fun c => absurd im c) (fun _ _ c => absurd ip c) (fun _ _ _ => q1) (fun _ _ _ => q2) (fun _ _ _ => ⟨rfl, rfl⟩) (fun _ c => absurd jm c)

