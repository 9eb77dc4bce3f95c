/-! ===== get, sum, common ===== -/
theorem o_eq {f f' : Nat → en} {n : Nat} (p : (fl f n).Perm (fl f' n)) (h : nd (fl f n)) (a b : Int32) : (pa_ix (kf f a b) 0 n = none ∧ pa_ix (kf f' a b) 0 n = none) ∨ ∃ j j', pa_ix (kf f a b) 0 n = some j ∧ pa_ix (kf f' a b) 0 n = some j' ∧ j < n ∧ j' < n ∧ f j = f' j' ∧ f j = (a, b, (f j).2.2) := by
  have hl := lk_p p h a b
  cases h1 : pa_ix (kf f a b) 0 n with
  | none =>
    cases h2 : pa_ix (kf f' a b) 0 n with
    | none => exact Or.inl ⟨rfl, rfl⟩
    | some j' =>
      obtain ⟨-, -, c⟩ := ix_lk1 (nd_p p h) h2
      rw [ix_lk0 h1, c] at hl
      cases hl
  | some j =>
    obtain ⟨a1, a2, a3⟩ := ix_lk1 h h1
    cases h2 : pa_ix (kf f' a b) 0 n with
    | none =>
      rw [ix_lk0 h2, a3] at hl
      cases hl
    | some j' =>
      obtain ⟨c1, c2, c3⟩ := ix_lk1 (nd_p p h) h2
      rw [a3, c3] at hl
      injection hl with hl
      exact Or.inr ⟨j, j', rfl, rfl, a1, c1, by rw [a2, c2, hl], a2⟩
theorem g_01 {s : sg} {M N : ea_M} (h : Rel s M N) {q : Nat} (hq : q < 3) : M (49 + 4 * q) 0 = 0 ∨ M (49 + 4 * q) 0 = 1 := (h.2.2.2.2.1 q hq).imp (fun c => c.1) (fun c => c.2.1)
theorem g_no {s : sg} {M N : ea_M} (h : Rel s M N) {q : Nat} (hq : q < 3) (h1 : M (49 + 4 * q) 0 = 0) : N 70 q = -1 ∧ s.g q = 0 := by
  rcases h.2.2.2.2.1 q hq with ⟨-, -, c, d⟩ | ⟨-, c, -⟩
  · exact ⟨c, d⟩
  · rw [h1] at c
    exact absurd c (by decide)
theorem g_yes {s : sg} {M N : ea_M} (h : Rel s M N) {q : Nat} (hq : q < 3) (h1 : M (49 + 4 * q) 0 = 1) : s.g q ≤ 8 ∧ M (49 + 4 * q) 1 = nI (s.g q) ∧ N 70 q = nI (s.g q) ∧ (fl (wE M q) (s.g q)).Perm (fl (mE N q) (s.g q)) ∧ nd (fl (wE M q) (s.g q)) ∧ ∀ e, e ∈ fl (wE M q) (s.g q) → ¬ e.2.2 < -999 := by
  rcases h.2.2.2.2.1 q hq with ⟨c, -⟩ | ⟨c1, -, c3⟩
  · rw [h1] at c
    exact absurd c (by decide)
  · exact ⟨c1, c3⟩
theorem m1_neg : ¬ (0 : Int32) ≤ -1 := by decide
def gt_v (N : ea_M) (q : Nat) (o : Option Nat) : Int32 := match o with
  | none => -2000000012
  | some j => N 73 (8 * q + j)
theorem sp_X7_get1 {M : ea_M} {q n : Nat} (hq : q < 3) (hn : n ≤ 8) (hk : M 70 q = nI n) {a b : Int32} (hab : p_X6_isKey a b) : ea_Sp 2 yX7_get cX7_get 5 (some .int) [.ref 61, .int (nI q), .int a, .int b] M (some (.int (gt_v M q (pa_ix (kf (mE M q) a b) 0 n)))) M := by
  refine ea_intro (own := RX7) (by decide +kernel) rfl (fun g => Nat.le_of_ble_eq_true rfl) (fun k C X => ?_)
  have cq : (nI q).toNatClampNeg = q := nI_clamp (by omega)
  have vq : vp_in (nI q) 3 := vp_in_nI hq (by decide)
  have c1 : 0 ≤ M 70 (nI q).toNatClampNeg := by rw [cq, hk]; exact nI_pos' (by omega)
  have sp := sp_X7_placeOf hq hn hk a b
  have ky := (key_i a b).mpr hab
  cases ho : pa_ix (kf (mE M q) a b) 0 n with
  | none =>
    rw [ho] at X sp
    have c2 : pl q none = -1 := rfl
    refine km_get C X  (fun _ _ => vq) (fun _ _ _ => sp) (fun _ _ _ c => absurd c2 c) (fun _ _ _ c => absurd c2 c) (fun _ _ _ _ => ⟨rfl, rfl⟩) (fun _ _ c => absurd c1 c) (fun _ c => absurd ky c) (fun c => absurd (pg_yes hq) c)
  | some j =>
    rw [ho] at X sp
    obtain ⟨-, hj, -⟩ := ix_some n 0 j ho
    have c2 : ¬ pl q (some j) = -1 := pa_rim (8 * q + j) (by omega)
    have v7 : vp_in (pl q (some j)) 24 := vp_in_nI (show 8 * q + j < 24 by omega) (by decide)
    have e7 : (pl q (some j)).toNatClampNeg = 8 * q + j := nI_clamp (show 8 * q + j < 2 ^ 31 by omega)
    refine km_get C X  (fun _ _ => vq) (fun _ _ _ => sp) (fun _ _ _ _ => v7) (fun _ _ _ _ => ⟨by rw [e7]; rfl, rfl⟩) (fun _ _ _ c => absurd c c2) (fun _ _ c => absurd c1 c) (fun _ c => absurd ky c) (fun c => absurd (pg_yes hq) c)
theorem sp_X7_get0 {M : ea_M} {q : Nat} (hq : q < 3) (hk : M 70 q = -1) {a b : Int32} (hab : p_X6_isKey a b) : ea_Sp 2 yX7_get cX7_get 5 (some .int) [.ref 61, .int (nI q), .int a, .int b] M (some (.int (-2000000011))) M := by
  refine ea_intro (own := RX7) (by decide +kernel) rfl (fun g => Nat.le_of_ble_eq_true rfl) (fun k C X => ?_)
  have cq : (nI q).toNatClampNeg = q := nI_clamp (by omega)
  have c1 : ¬ 0 ≤ M 70 (nI q).toNatClampNeg := by rw [cq, hk]; exact m1_neg
  have ky := (key_i a b).mpr hab
  refine km_get C X  (r1 := 0) (fun _ _ => vp_in_nI hq (by decide)) (fun _ _ c => absurd c c1) (fun _ _ c _ => absurd c c1) (fun _ _ c _ => absurd c c1) (fun _ _ c _ => absurd c c1) (fun _ _ _ => ⟨rfl, rfl⟩) (fun _ c => absurd ky c) (fun c => absurd (pg_yes hq) c)
theorem sp_X7_getK {M : ea_M} {q : Nat} (hq : q < 3) {a b : Int32} (hab : ¬ p_X6_isKey a b) : ea_Sp 2 yX7_get cX7_get 5 (some .int) [.ref 61, .int (nI q), .int a, .int b] M (some (.int (-2000000002))) M := by
  refine ea_intro (own := RX7) (by decide +kernel) rfl (fun g => Nat.le_of_ble_eq_true rfl) (fun k C X => ?_)
  have ky : ¬ p_X7_isKey a b := fun z => hab ((key_i a b).mp z)
  refine km_get C X  (r1 := 0) (fun _ c => absurd c ky) (fun _ c _ => absurd c ky) (fun _ c _ _ => absurd c ky) (fun _ c _ _ => absurd c ky) (fun _ c _ _ => absurd c ky) (fun _ c _ => absurd c ky) (fun _ _ => ⟨rfl, rfl⟩) (fun c => absurd (pg_yes hq) c)
theorem sp_X7_getP {M : ea_M} {p : Int32} (hp : p < 0 ∨ (3 : Int32) ≤ p) (a b : Int32) : ea_Sp 2 yX7_get cX7_get 5 (some .int) [.ref 61, .int p, .int a, .int b] M (some (.int (-2000000001))) M := by
  refine ea_intro (own := RX7) (by decide +kernel) rfl (fun g => Nat.le_of_ble_eq_true rfl) (fun k C X => ?_)
  refine km_get C X  (r1 := 0) (fun c _ => absurd c (pg_no hp)) (fun c _ _ => absurd c (pg_no hp)) (fun c _ _ _ => absurd c (pg_no hp)) (fun c _ _ _ => absurd c (pg_no hp)) (fun c _ _ _ => absurd c (pg_no hp)) (fun c _ _ => absurd c (pg_no hp)) (fun c _ => absurd c (pg_no hp)) (fun _ => ⟨rfl, rfl⟩)
theorem sp_plW {M : ea_M} {q n : Nat} (hq : q < 3) (hn : n ≤ 8) (hk : M (49 + 4 * q) 1 = nI n) (a b : Int32) : ea_Sp 1 yX0_placeOf cX0_placeOf 4 (some .int) [.ref (49 + 4 * q), .int a, .int b] M (some (.int (pa_ri (pa_ix (kf (wE M q) a b) 0 n)))) M := sp_X0_placeOf M (49 + 4 * q) n a b (kd_pg q hq) hn hk
theorem pm_get (p a b : Int32) : pm 2 yX6_get cX6_get 6 2 yX7_get cX7_get 5 (some .int) [.int p, .int a, .int b] := by
  refine pm_q (fun s M N0 h0 => ?_)
  rcases in3 p with hp | ⟨q, hq, rfl⟩
  · refine ⟨.int (-2000000001), ?_, fun N hN => sp_X7_getP hp a b⟩
    refine ea_intro (own := RX6) (by decide +kernel) rfl (fun g => Nat.le_of_ble_eq_true rfl) (fun k C X => ?_)
    exact kb_X6_get_n C X (sp_bookNo M p hp) ⟨rfl, rfl⟩
  by_cases hab : p_X6_isKey a b
  · rcases g_01 h0 hq with h1 | h1
    · refine ⟨.int (-2000000011), ?_, fun N hN => sp_X7_get0 hq (g_no hN hq h1).1 hab⟩
      refine ea_intro (own := RX6) (by decide +kernel) rfl (fun g => Nat.le_of_ble_eq_true rfl) (fun k C X => ?_)
      refine kb_X6_get_b C X (kd_pg q hq)  (r1 := 0) (sp_bookAt M q hq) (fun _ c => absurd h1 c) (fun _ c _ => absurd h1 c) (fun _ c _ => absurd h1 c) (fun _ _ => ⟨rfl, rfl⟩) (fun c => absurd hab c)
    · obtain ⟨g1, g2, -, -, g5, -⟩ := g_yes h0 hq h1
      have nz : ¬ M (49 + 4 * q) 0 = 0 := by rw [h1]; decide
      have sp := sp_plW hq g1 g2 a b
      cases ho : pa_ix (kf (wE M q) a b) 0 (s.g q) with
      | none =>
        rw [ho] at sp
        refine ⟨.int (-2000000012), ?_, fun N hN => ?_⟩
        · refine ea_intro (own := RX6) (by decide +kernel) rfl (fun g => Nat.le_of_ble_eq_true rfl) (fun k C X => ?_)
          have c2 : pa_ri none = -1 := rfl
          refine kb_X6_get_b C X (kd_pg q hq)  (sp_bookAt M q hq) (fun _ _ => sp) (fun _ _ c => absurd c2 c) (fun _ _ _ => ⟨rfl, rfl⟩) (fun _ c => absurd c nz) (fun c => absurd hab c)
        · obtain ⟨-, -, n3, n4, -, -⟩ := g_yes hN hq h1
          have := sp_X7_get1 hq g1 n3 hab
          rcases o_eq n4 g5 a b with ⟨-, c⟩ | ⟨j, j', c, -⟩
          · rw [c] at this
            exact this
          · rw [ho] at c
            cases c
      | some j =>
        rw [ho] at sp
        obtain ⟨-, hj, -⟩ := ix_some _ 0 j ho
        refine ⟨.int (M (49 + 4 * q + 3) j), ?_, fun N hN => ?_⟩
        · refine ea_intro (own := RX6) (by decide +kernel) rfl (fun g => Nat.le_of_ble_eq_true rfl) (fun k C X => ?_)
          have c2 : ¬ pa_ri (some j) = -1 := pa_rim j (by omega)
          have e3 : pa_at (M (49 + 4 * q + 3)) 8 (pa_ri (some j)) = M (49 + 4 * q + 3) j := pa_atN (show j < 8 by omega) (by decide)
          refine kb_X6_get_b C X (kd_pg q hq)  (sp_bookAt M q hq) (fun _ _ => sp) (fun _ _ _ => ⟨by rw [e3], rfl⟩) (fun _ _ c => absurd c c2) (fun _ c => absurd c nz) (fun c => absurd hab c)
        · obtain ⟨-, -, n3, n4, -, -⟩ := g_yes hN hq h1
          have := sp_X7_get1 hq g1 n3 hab
          rcases o_eq n4 g5 a b with ⟨c, -⟩ | ⟨j2, j', c, c2, -, -, c5, -⟩
          · rw [ho] at c
            cases c
          · rw [ho] at c
            injection c with c
            subst c
            rw [c2] at this
            have e : M (49 + 4 * q + 3) j = N 73 (8 * q + j') := congrArg (fun e : en => e.2.2) c5
            rw [e]
            exact this
  · refine ⟨.int (-2000000002), ?_, fun N hN => sp_X7_getK hq hab⟩
    refine ea_intro (own := RX6) (by decide +kernel) rfl (fun g => Nat.le_of_ble_eq_true rfl) (fun k C X => ?_)
    refine kb_X6_get_b C X (kd_pg q hq)  (r1 := 0) (sp_bookAt M q hq) (fun c _ => absurd c hab) (fun c _ _ => absurd c hab) (fun c _ _ => absurd c hab) (fun c _ => absurd c hab) (fun _ => ⟨rfl, rfl⟩)

/-! sum -/
def sm_h (w : Int32) (e : en) : Int32 := if w = 0 then e.2.2 else if w = 1 then 1 else e.2.1
theorem sm_1 : ∀ n, pa_sum (fun _ => (1 : Int32)) n = nI n := by
  intro n
  induction n with
  | zero => rfl
  | succ n ih => rw [pa_sum, ih, nI_1]
theorem pm_sum (p w : Int32) : pm 2 yX6_sum cX6_sum 4 2 yX7_sum cX7_sum 5 (some .int) [.int p, .int w] := by
  refine pm_q (fun s M N0 h0 => ?_)
  have iw : p_X7_in w.toInt64 0 2 ↔ (¬ w < 0 ∧ ¬ 2 < w) := in_i w 0 2
  rcases in3 p with hp | ⟨q, hq, rfl⟩
  · refine ⟨.int (-2000000001), ?_, fun N hN => ?_⟩
    · refine ea_intro (own := RX6) (by decide +kernel) rfl (fun g => Nat.le_of_ble_eq_true rfl) (fun k C X => ?_)
      exact kb_X6_sum_n C X (sp_bookNo M p hp) ⟨rfl, rfl⟩
    · refine ea_intro (own := RX7) (by decide +kernel) rfl (fun g => Nat.le_of_ble_eq_true rfl) (fun k C X => ?_)
      refine km_sum C X  (fun c _ => absurd c (pg_no hp)) (fun c _ _ => absurd c (pg_no hp)) (fun c _ _ => absurd c (pg_no hp)) (fun c _ => absurd c (pg_no hp)) (fun _ => ⟨rfl, rfl⟩)
  have cq : (nI q).toNatClampNeg = q := nI_clamp (by omega)
  have vq : vp_in (nI q) 3 := vp_in_nI hq (by decide)
  by_cases hw : ¬ w < 0 ∧ ¬ 2 < w
  · have hw7 := iw.mpr hw
    have w0 := hw.1
    have w2 : w ≤ 2 := Int32.not_lt.mp hw.2
    rcases g_01 h0 hq with h1 | h1
    · refine ⟨.int (-2000000011), ?_, fun N hN => ?_⟩
      · refine ea_intro (own := RX6) (by decide +kernel) rfl (fun g => Nat.le_of_ble_eq_true rfl) (fun k C X => ?_)
        refine kb_X6_sum_b C X (kd_pg q hq)  (r1 := 0) (r2 := 0) (sp_bookAt M q hq) (fun c => absurd c w0) (fun _ _ c _ _ => absurd h1 c) (fun _ _ c _ _ => absurd h1 c) (fun _ _ c _ _ => absurd h1 c) (fun _ _ c _ _ => absurd h1 c) (fun _ _ c _ => absurd h1 c) (fun _ _ _ => ⟨rfl, rfl⟩) (fun _ c => absurd w2 c)
      · refine ea_intro (own := RX7) (by decide +kernel) rfl (fun g => Nat.le_of_ble_eq_true rfl) (fun k C X => ?_)
        have c1 : ¬ 0 ≤ N 70 (nI q).toNatClampNeg := by rw [cq, (g_no hN hq h1).1]; exact m1_neg
        refine km_sum C X  (fun _ _ => vq) (fun _ _ c => absurd c c1) (fun _ _ _ => ⟨rfl, rfl⟩) (fun _ c => absurd hw7 c) (fun c => absurd (pg_yes hq) c)
    · obtain ⟨g1, g2, -, -, g5, -⟩ := g_yes h0 hq h1
      have nz : ¬ M (49 + 4 * q) 0 = 0 := by rw [h1]; decide
      refine ⟨.int (ls (sm_h w) (fl (wE M q) (s.g q))), ?_, fun N hN => ?_⟩
      · refine ea_intro (own := RX6) (by decide +kernel) rfl (fun g => Nat.le_of_ble_eq_true rfl) (fun k C X => ?_)
        have tot : ∀ y, ea_kd y = 1008 → ea_Sp 1 yX6_total cX6_total 4 (some .int) [.ref y, .int (M (49 + 4 * q) 1)] M (some (.int (pa_sum (M y) (s.g q)))) M := by
          intro y hy
          rw [g2]
          exact sp_X6_total M y 8 (s.g q) g1 hy (by decide)
        have e0 := ls_fl (sm_h w) (wE M q) (s.g q)
        by_cases z0 : w = 0
        · have z1 : ¬ w = 1 := by rw [z0]; decide
          have e1 : pa_sum (M (49 + 4 * q + 3)) (s.g q) = ls (sm_h w) (fl (wE M q) (s.g q)) := by
            rw [← e0]
            exact pa_sumC _ (fun j _ => by unfold sm_h; rw [if_pos z0]; rfl)
          refine kb_X6_sum_b C X (kd_pg q hq)  (r1 := 0) (sp_bookAt M q hq) (fun c => absurd c w0) (fun _ _ _ _ c => absurd z0 c) (fun _ _ _ _ c => absurd z0 c) (fun _ _ _ _ _ => tot _ (kd0_3 (kd_pg q hq))) (fun _ _ _ _ _ => ⟨by rw [e1], rfl⟩) (fun _ _ _ c => absurd c z1) (fun _ _ c => absurd c nz) (fun _ c => absurd w2 c)
        · by_cases z1 : w = 1
          · have e1 : nI (s.g q) = ls (sm_h w) (fl (wE M q) (s.g q)) := by
              rw [← e0, ← sm_1]
              exact pa_sumC _ (fun j _ => by unfold sm_h; rw [if_neg z0, if_pos z1])
            refine kb_X6_sum_b C X (kd_pg q hq)  (r1 := 0) (r2 := 0) (sp_bookAt M q hq) (fun c => absurd c w0) (fun _ _ _ c _ => absurd z1 c) (fun _ _ _ c _ => absurd z1 c) (fun _ _ _ c _ => absurd z1 c) (fun _ _ _ c _ => absurd z1 c) (fun _ _ _ _ => ⟨by rw [g2, e1], rfl⟩) (fun _ _ c => absurd c nz) (fun _ c => absurd w2 c)
          · have e1 : pa_sum (M (49 + 4 * q + 2)) (s.g q) = ls (sm_h w) (fl (wE M q) (s.g q)) := by
              rw [← e0]
              exact pa_sumC _ (fun j _ => by unfold sm_h; rw [if_neg z0, if_neg z1]; rfl)
            refine kb_X6_sum_b C X (kd_pg q hq)  (r2 := 0) (sp_bookAt M q hq) (fun c => absurd c w0) (fun _ _ _ _ _ => tot _ (kd0_2 (kd_pg q hq))) (fun _ _ _ _ _ => ⟨by rw [e1], rfl⟩) (fun _ _ _ _ c => absurd c z0) (fun _ _ _ _ c => absurd c z0) (fun _ _ _ c => absurd c z1) (fun _ _ c => absurd c nz) (fun _ c => absurd w2 c)
      · obtain ⟨-, -, n3, n4, -, -⟩ := g_yes hN hq h1
        rw [ls_p (sm_h w) n4]
        refine ea_intro (own := RX7) (by decide +kernel) rfl (fun g => Nat.le_of_ble_eq_true rfl) (fun k C X => ?_)
        have e0 := ls_fl (sm_h w) (mE N q)
        have c1 : 0 ≤ N 70 (nI q).toNatClampNeg := by rw [cq, n3]; exact nI_pos' (by omega)
        have et : (8 : Int32) * nI q + N 70 (nI q).toNatClampNeg = nI (8 * q + s.g q) := by rw [e8, cq, n3, nI_add]
        have loop : ∀ (m i : Nat), i + m = s.g q → ea_E k 45 [(0, .ref 61), (1, .int (nI q)), (2, .int w), (3, .int (pa_sum (fun j => sm_h w (mE N q j)) i)), (4, .int (nI (8 * q + i)))] [] N := by
          intro m
          induction m with
          | zero =>
            intro i hi
            have hc : (8 : Int32) * nI q + N 70 (nI q).toNatClampNeg ≤ nI (8 * q + i) := by rw [et]; exact nI_le (by omega) (by omega)
            refine km_sum_45 C X  vq (fun _ => ⟨by rw [← e0, show i = s.g q by omega], rfl⟩) (fun c _ _ => absurd hc c) (fun c _ _ => absurd hc c) (fun c _ _ => absurd hc c) (fun c _ => absurd hc c) (fun c _ => absurd hc c)
          | succ m ih =>
            intro i hi
            have hc : ¬ (8 : Int32) * nI q + N 70 (nI q).toNatClampNeg ≤ nI (8 * q + i) := by rw [et]; exact nI_ge (by omega) (by omega)
            have ej : (nI (8 * q + i)).toNatClampNeg = 8 * q + i := nI_clamp (by omega)
            have vj : vp_in (nI (8 * q + i)) 24 := vp_in_nI (by omega) (by decide)
            have h2 := ih (i + 1) (by omega)
            have es : pa_sum (fun j => sm_h w (mE N q j)) (i + 1) = pa_sum (fun j => sm_h w (mE N q j)) i + sm_h w (mE N q i) := rfl
            have h3 : ∀ v, v = sm_h w (mE N q i) → ea_E k 45 [(0, .ref 61), (1, .int (nI q)), (2, .int w), (3, .int (pa_sum (fun j => sm_h w (mE N q j)) i + v)), (4, .int (nI (8 * q + i) + 1))] [] N := by
              intro v hv
              rw [hv, ← es, nI_1]
              exact h2
            refine km_sum_45 C X  vq (fun c => absurd c hc) (fun _ _ _ => vj) (fun _ c1 c2 => ?_) (fun _ c1 c2 => ?_) (fun _ _ => vj) (fun _ c1 => ?_)
            · refine h3 _ ?_
              unfold sm_h
              rw [if_neg c1, if_neg c2, ej]
              rfl
            · refine h3 _ ?_
              unfold sm_h
              rw [if_neg c1, if_pos c2]
            · refine h3 _ ?_
              unfold sm_h
              rw [if_pos c1, ej]
              rfl
        have h5 := loop (s.g q) 0 (by omega)
        rw [show nI (8 * q + 0) = (8 : Int32) * nI q from (e8 q).symm] at h5
        refine km_sum C X  (fun _ _ => vq) (fun _ _ _ => h5) (fun _ _ c => absurd c1 c) (fun _ c => absurd hw7 c) (fun c => absurd (pg_yes hq) c)
  · have hw7 : ¬ p_X7_in w.toInt64 0 2 := fun z => hw (iw.mp z)
    refine ⟨.int (-2000000002), ?_, fun N hN => ?_⟩
    · refine ea_intro (own := RX6) (by decide +kernel) rfl (fun g => Nat.le_of_ble_eq_true rfl) (fun k C X => ?_)
      by_cases w0 : w < 0
      · refine kb_X6_sum_b C X (kd_pg q hq)  (r1 := 0) (r2 := 0) (sp_bookAt M q hq) (fun _ => ⟨rfl, rfl⟩) (fun c _ _ _ _ => absurd w0 c) (fun c _ _ _ _ => absurd w0 c) (fun c _ _ _ _ => absurd w0 c) (fun c _ _ _ _ => absurd w0 c) (fun c _ _ _ => absurd w0 c) (fun c _ _ => absurd w0 c) (fun c _ => absurd w0 c)
      · have w2 : ¬ w ≤ 2 := fun z => hw ⟨w0, Int32.not_lt.mpr z⟩
        refine kb_X6_sum_b C X (kd_pg q hq)  (r1 := 0) (r2 := 0) (sp_bookAt M q hq) (fun c => absurd c w0) (fun _ c _ _ _ => absurd c w2) (fun _ c _ _ _ => absurd c w2) (fun _ c _ _ _ => absurd c w2) (fun _ c _ _ _ => absurd c w2) (fun _ c _ _ => absurd c w2) (fun _ c _ => absurd c w2) (fun _ _ => ⟨rfl, rfl⟩)
    · refine ea_intro (own := RX7) (by decide +kernel) rfl (fun g => Nat.le_of_ble_eq_true rfl) (fun k C X => ?_)
      refine km_sum C X  (fun _ c => absurd c hw7) (fun _ c _ => absurd c hw7) (fun _ c _ => absurd c hw7) (fun _ _ => ⟨rfl, rfl⟩) (fun c => absurd (pg_yes hq) c)

