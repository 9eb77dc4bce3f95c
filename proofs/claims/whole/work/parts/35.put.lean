/-! ===== put, strike ===== -/
def rg (l : List en) : Prop := ∀ e, e ∈ l → ¬ e.2.2 < -999
theorem nd_k {e e' : en} {R : List en} (h1 : e.1 = e'.1) (h2 : e.2.1 = e'.2.1) (h : nd (e :: R)) : nd (e' :: R) := by
  unfold nd at h ⊢
  rw [List.map_cons] at h ⊢
  rw [← h1, ← h2]
  exact h
theorem rg_p {l l' : List en} (p : l.Perm l') (h : rg l) : rg l' := fun e he => h e (p.mem_iff.mpr he)
theorem pr_put {f f' g g' : Nat → en} {n j j' : Nat} {a b v : Int32} (p : (fl f n).Perm (fl f' n)) (hn : nd (fl f n)) (hr : rg (fl f n)) (hj : j < n) (hj' : j' < n) (e1 : f j = f' j') (e2 : f j = (a, b, (f j).2.2)) (hg : ∀ i, i < n → i ≠ j → g i = f i) (hgj : g j = (a, b, v)) (hg' : ∀ i, i < n → i ≠ j' → g' i = f' i) (hgj' : g' j' = (a, b, v)) (hv : ¬ v < -999) : (fl g n).Perm (fl g' n) ∧ nd (fl g n) ∧ rg (fl g n) := by
  obtain ⟨R, a1, a2⟩ := fl_up hj hg
  obtain ⟨R', b1, b2⟩ := fl_up hj' hg'
  rw [← e1] at b1
  have pR : R.Perm R' := (a1.symm.trans (p.trans b1)).cons_inv
  rw [hgj'] at b2
  rw [hgj] at a2
  refine ⟨a2.trans ((List.Perm.cons _ pR).trans b2.symm), ?_, ?_⟩
  · have := nd_p a1 hn
    rw [e2] at this
    exact nd_p a2.symm (nd_k (e := (a, b, (f j).2.2)) rfl rfl this)
  · refine rg_p a2.symm (fun e he => ?_)
    rcases List.mem_cons.mp he with z | z
    · rw [z]
      exact hv
    · exact hr e (a1.mem_iff.mpr (List.mem_cons_of_mem _ z))
theorem pr_add {f f' g g' : Nat → en} {n : Nat} {a b v : Int32} (p : (fl f n).Perm (fl f' n)) (hn : nd (fl f n)) (hr : rg (fl f n)) (ho : pa_ix (kf f a b) 0 n = none) (hg : ∀ i, i < n → g i = f i) (hgn : g n = (a, b, v)) (hg' : ∀ i, i < n → g' i = f' i) (hgn' : g' n = (a, b, v)) (hv : ¬ v < -999) : (fl g (n + 1)).Perm (fl g' (n + 1)) ∧ nd (fl g (n + 1)) ∧ rg (fl g (n + 1)) := by
  have c1 : fl g n = fl f n := fl_c n hg
  have c2 : fl g' n = fl f' n := fl_c n hg'
  have a1 := fl_last g n
  have b1 := fl_last g' n
  rw [hgn, c1] at a1
  rw [hgn', c2] at b1
  refine ⟨a1.trans ((List.Perm.cons _ p).trans b1.symm), nd_p a1.symm ?_, rg_p a1.symm (fun e he => ?_)⟩
  · unfold nd
    rw [List.map_cons]
    refine List.nodup_cons.mpr ⟨fun hm => ?_, hn⟩
    obtain ⟨e, he, hk⟩ := List.mem_map.mp hm
    obtain ⟨i, hi, hf⟩ := fl_mem.mp he
    rw [← hf] at hk
    injection hk with k1 k2
    exact ix_none n 0 ho i (by omega) (by omega) (decide_eq_true ⟨k1, k2⟩)
  · rcases List.mem_cons.mp he with z | z
    · rw [z]
      exact hv
    · exact hr e z
theorem pr_del {f f' g g' : Nat → en} {m j j' : Nat} (p : (fl f (m + 1)).Perm (fl f' (m + 1))) (hn : nd (fl f (m + 1))) (hr : rg (fl f (m + 1))) (hj : j < m + 1) (hj' : j' < m + 1) (e1 : f j = f' j') (hg : ∀ i, i < m → g i = if i = j then f m else f i) (hg' : ∀ i, i < m → g' i = if i < j' then f' i else f' (i + 1)) : (fl g m).Perm (fl g' m) ∧ nd (fl g m) ∧ rg (fl g m) := by
  have a1 := fl_sw (f := f) (g := g) (show j ≤ m by omega) hg
  have b1 := fl_sk f' m j' (by omega)
  rw [fl_c (f := sk f' j') (g := g') m (fun i hi => (hg' i hi).symm), ← e1] at b1
  refine ⟨(a1.symm.trans (p.trans b1)).cons_inv, nd_t (nd_p a1 hn), fun e he => hr e (a1.mem_iff.mpr (List.mem_cons_of_mem _ he))⟩
theorem pm_put (p a b v : Int32) : pm 2 yX6_put cX6_put 8 2 yX7_put cX7_put 7 (some .int) [.int p, .int a, .int b, .int v] := by
  intro s M N0 h0
  rcases in3 p with hp | ⟨q, hq, rfl⟩
  · refine ⟨.int (-2000000001), M, s, ?_, fun _ _ => rfl, fun N hN => ⟨N, ?_, fun _ _ => rfl, hN⟩⟩
    · refine ea_intro (own := RX6) (by decide +kernel) rfl (fun g => Nat.le_of_ble_eq_true rfl) (fun k C X => ?_)
      exact kb_X6_put_n C X (sp_bookNo M p hp) ⟨rfl, rfl⟩
    · refine ea_intro (own := RX7) (by decide +kernel) rfl (fun g => Nat.le_of_ble_eq_true rfl) (fun k C X => ?_)
      refine km_put C X  (r1 := 0) (fun c _ => absurd c (pg_no hp)) (fun c _ _ => absurd c (pg_no hp)) (fun c _ _ _ => absurd c (pg_no hp)) (fun c _ _ _ _ _ => absurd c (pg_no hp)) (fun c _ _ _ _ _ _ => absurd c (pg_no hp)) (fun c _ _ _ _ _ _ => absurd c (pg_no hp)) (fun c _ _ _ _ _ _ => absurd c (pg_no hp)) (fun c _ _ _ _ _ _ => absurd c (pg_no hp)) (fun c _ _ _ _ _ _ => absurd c (pg_no hp)) (fun c _ _ _ _ _ _ => absurd c (pg_no hp)) (fun c _ _ _ _ _ _ => absurd c (pg_no hp)) (fun c _ _ _ _ _ _ => absurd c (pg_no hp)) (fun c _ _ _ _ _ _ => absurd c (pg_no hp)) (fun c _ _ _ _ _ _ => absurd c (pg_no hp)) (fun c _ _ _ _ _ _ => absurd c (pg_no hp)) (fun c _ _ _ _ _ _ => absurd c (pg_no hp)) (fun c _ _ _ _ _ _ => absurd c (pg_no hp)) (fun c _ _ _ _ _ _ => absurd c (pg_no hp)) (fun c _ _ _ _ _ _ => absurd c (pg_no hp)) (fun c _ _ _ _ _ _ => absurd c (pg_no hp)) (fun c _ _ _ _ _ _ => absurd c (pg_no hp)) (fun c _ _ _ _ _ _ => absurd c (pg_no hp)) (fun c _ _ _ _ => absurd c (pg_no hp)) (fun c _ _ _ _ _ _ => absurd c (pg_no hp)) (fun c _ _ _ _ _ _ _ => absurd c (pg_no hp)) (fun c _ _ _ _ _ _ _ => absurd c (pg_no hp)) (fun c _ _ _ _ _ _ _ => absurd c (pg_no hp)) (fun c _ _ _ _ _ _ _ => absurd c (pg_no hp)) (fun c _ _ _ _ _ _ _ => absurd c (pg_no hp)) (fun c _ _ _ _ _ _ _ => absurd c (pg_no hp)) (fun c _ _ _ _ _ _ _ => absurd c (pg_no hp)) (fun c _ _ _ _ _ _ _ => absurd c (pg_no hp)) (fun c _ _ _ _ _ _ _ => absurd c (pg_no hp)) (fun c _ _ _ _ _ _ _ => absurd c (pg_no hp)) (fun c _ _ _ _ _ _ _ => absurd c (pg_no hp)) (fun c _ _ _ _ _ _ _ => absurd c (pg_no hp)) (fun c _ _ _ _ _ _ _ => absurd c (pg_no hp)) (fun c _ _ _ _ _ _ _ => absurd c (pg_no hp)) (fun c _ _ _ _ _ _ _ => absurd c (pg_no hp)) (fun c _ _ _ _ _ _ _ => absurd c (pg_no hp)) (fun c _ _ _ _ _ _ _ => absurd c (pg_no hp)) (fun c _ _ _ _ _ _ _ => absurd c (pg_no hp)) (fun c _ _ _ _ _ => absurd c (pg_no hp)) (fun c _ _ _ => absurd c (pg_no hp)) (fun c _ _ => absurd c (pg_no hp)) (fun _ => ⟨rfl, rfl⟩)
  have vq : vp_in (nI q) 3 := vp_in_nI hq (by decide)
  have cq : (nI q).toNatClampNeg = q := nI_clamp (by omega)
  have iv : p_X7_in v.toInt64 (-999) 999 ↔ (¬ v < -999 ∧ ¬ 999 < v) := in_i v (-999) 999
  by_cases hab : p_X6_isKey a b
  case neg =>
    have ky : ¬ p_X7_isKey a b := fun z => hab ((key_i a b).mp z)
    refine ⟨.int (-2000000002), M, s, ?_, fun _ _ => rfl, fun N hN => ⟨N, ?_, fun _ _ => rfl, hN⟩⟩
    · refine ea_intro (own := RX6) (by decide +kernel) rfl (fun g => Nat.le_of_ble_eq_true rfl) (fun k C X => ?_)
      refine kb_X6_put_b C X (kd_pg q hq)  (r1 := 0) (sp_bookAt M q hq) (fun _ => ⟨rfl, rfl⟩) (fun c _ => absurd c hab) (fun c _ _ _ => absurd c hab) (fun c _ _ _ _ _ => absurd c hab) (fun c _ _ _ _ _ => absurd c hab) (fun c _ _ _ _ _ _ => absurd c hab) (fun c _ _ _ _ _ _ => absurd c hab) (fun c _ _ _ _ _ => absurd c hab) (fun c _ _ _ => absurd c hab) (fun c _ _ => absurd c hab)
    · refine ea_intro (own := RX7) (by decide +kernel) rfl (fun g => Nat.le_of_ble_eq_true rfl) (fun k C X => ?_)
      refine km_put C X  (r1 := 0) (fun _ _ => ⟨rfl, rfl⟩) (fun _ c _ => absurd c ky) (fun _ c _ _ => absurd c ky) (fun _ c _ _ _ _ => absurd c ky) (fun _ c _ _ _ _ _ => absurd c ky) (fun _ c _ _ _ _ _ => absurd c ky) (fun _ c _ _ _ _ _ => absurd c ky) (fun _ c _ _ _ _ _ => absurd c ky) (fun _ c _ _ _ _ _ => absurd c ky) (fun _ c _ _ _ _ _ => absurd c ky) (fun _ c _ _ _ _ _ => absurd c ky) (fun _ c _ _ _ _ _ => absurd c ky) (fun _ c _ _ _ _ _ => absurd c ky) (fun _ c _ _ _ _ _ => absurd c ky) (fun _ c _ _ _ _ _ => absurd c ky) (fun _ c _ _ _ _ _ => absurd c ky) (fun _ c _ _ _ _ _ => absurd c ky) (fun _ c _ _ _ _ _ => absurd c ky) (fun _ c _ _ _ _ _ => absurd c ky) (fun _ c _ _ _ _ _ => absurd c ky) (fun _ c _ _ _ _ _ => absurd c ky) (fun _ c _ _ _ _ _ => absurd c ky) (fun _ c _ _ _ => absurd c ky) (fun _ c _ _ _ _ _ => absurd c ky) (fun _ c _ _ _ _ _ _ => absurd c ky) (fun _ c _ _ _ _ _ _ => absurd c ky) (fun _ c _ _ _ _ _ _ => absurd c ky) (fun _ c _ _ _ _ _ _ => absurd c ky) (fun _ c _ _ _ _ _ _ => absurd c ky) (fun _ c _ _ _ _ _ _ => absurd c ky) (fun _ c _ _ _ _ _ _ => absurd c ky) (fun _ c _ _ _ _ _ _ => absurd c ky) (fun _ c _ _ _ _ _ _ => absurd c ky) (fun _ c _ _ _ _ _ _ => absurd c ky) (fun _ c _ _ _ _ _ _ => absurd c ky) (fun _ c _ _ _ _ _ _ => absurd c ky) (fun _ c _ _ _ _ _ _ => absurd c ky) (fun _ c _ _ _ _ _ _ => absurd c ky) (fun _ c _ _ _ _ _ _ => absurd c ky) (fun _ c _ _ _ _ _ _ => absurd c ky) (fun _ c _ _ _ _ _ _ => absurd c ky) (fun _ c _ _ _ _ _ _ => absurd c ky) (fun _ c _ _ _ _ => absurd c ky) (fun _ c _ _ => absurd c ky) (fun _ c _ => absurd c ky) (fun c => absurd (pg_yes hq) c)
  have ky := (key_i a b).mpr hab
  by_cases hv : ¬ v < -999 ∧ ¬ 999 < v
  case neg =>
    have hv7 : ¬ p_X7_in v.toInt64 (-999) 999 := fun z => hv (iv.mp z)
    refine ⟨.int (-2000000002), M, s, ?_, fun _ _ => rfl, fun N hN => ⟨N, ?_, fun _ _ => rfl, hN⟩⟩
    · refine ea_intro (own := RX6) (by decide +kernel) rfl (fun g => Nat.le_of_ble_eq_true rfl) (fun k C X => ?_)
      by_cases v0 : v < -999
      · refine kb_X6_put_b C X (kd_pg q hq)  (r1 := 0) (sp_bookAt M q hq) (fun c => absurd hab c) (fun _ _ => ⟨rfl, rfl⟩) (fun _ c _ _ => absurd v0 c) (fun _ c _ _ _ _ => absurd v0 c) (fun _ c _ _ _ _ => absurd v0 c) (fun _ c _ _ _ _ _ => absurd v0 c) (fun _ c _ _ _ _ _ => absurd v0 c) (fun _ c _ _ _ _ => absurd v0 c) (fun _ c _ _ => absurd v0 c) (fun _ c _ => absurd v0 c)
      · have v2 : ¬ v ≤ 999 := fun z => hv ⟨v0, Int32.not_lt.mpr z⟩
        refine kb_X6_put_b C X (kd_pg q hq)  (r1 := 0) (sp_bookAt M q hq) (fun c => absurd hab c) (fun _ c => absurd c v0) (fun _ _ c _ => absurd c v2) (fun _ _ c _ _ _ => absurd c v2) (fun _ _ c _ _ _ => absurd c v2) (fun _ _ c _ _ _ _ => absurd c v2) (fun _ _ c _ _ _ _ => absurd c v2) (fun _ _ c _ _ _ => absurd c v2) (fun _ _ c _ => absurd c v2) (fun _ _ _ => ⟨rfl, rfl⟩)
    · refine ea_intro (own := RX7) (by decide +kernel) rfl (fun g => Nat.le_of_ble_eq_true rfl) (fun k C X => ?_)
      refine km_put C X  (r1 := 0) (fun _ c => absurd ky c) (fun _ _ c => absurd c hv7) (fun _ _ c _ => absurd c hv7) (fun _ _ c _ _ _ => absurd c hv7) (fun _ _ c _ _ _ _ => absurd c hv7) (fun _ _ c _ _ _ _ => absurd c hv7) (fun _ _ c _ _ _ _ => absurd c hv7) (fun _ _ c _ _ _ _ => absurd c hv7) (fun _ _ c _ _ _ _ => absurd c hv7) (fun _ _ c _ _ _ _ => absurd c hv7) (fun _ _ c _ _ _ _ => absurd c hv7) (fun _ _ c _ _ _ _ => absurd c hv7) (fun _ _ c _ _ _ _ => absurd c hv7) (fun _ _ c _ _ _ _ => absurd c hv7) (fun _ _ c _ _ _ _ => absurd c hv7) (fun _ _ c _ _ _ _ => absurd c hv7) (fun _ _ c _ _ _ _ => absurd c hv7) (fun _ _ c _ _ _ _ => absurd c hv7) (fun _ _ c _ _ _ _ => absurd c hv7) (fun _ _ c _ _ _ _ => absurd c hv7) (fun _ _ c _ _ _ _ => absurd c hv7) (fun _ _ c _ _ _ _ => absurd c hv7) (fun _ _ c _ _ => absurd c hv7) (fun _ _ c _ _ _ _ => absurd c hv7) (fun _ _ c _ _ _ _ _ => absurd c hv7) (fun _ _ c _ _ _ _ _ => absurd c hv7) (fun _ _ c _ _ _ _ _ => absurd c hv7) (fun _ _ c _ _ _ _ _ => absurd c hv7) (fun _ _ c _ _ _ _ _ => absurd c hv7) (fun _ _ c _ _ _ _ _ => absurd c hv7) (fun _ _ c _ _ _ _ _ => absurd c hv7) (fun _ _ c _ _ _ _ _ => absurd c hv7) (fun _ _ c _ _ _ _ _ => absurd c hv7) (fun _ _ c _ _ _ _ _ => absurd c hv7) (fun _ _ c _ _ _ _ _ => absurd c hv7) (fun _ _ c _ _ _ _ _ => absurd c hv7) (fun _ _ c _ _ _ _ _ => absurd c hv7) (fun _ _ c _ _ _ _ _ => absurd c hv7) (fun _ _ c _ _ _ _ _ => absurd c hv7) (fun _ _ c _ _ _ _ _ => absurd c hv7) (fun _ _ c _ _ _ _ _ => absurd c hv7) (fun _ _ c _ _ _ _ _ => absurd c hv7) (fun _ _ c _ _ _ => absurd c hv7) (fun _ _ c _ => absurd c hv7) (fun _ _ _ => ⟨rfl, rfl⟩) (fun c => absurd (pg_yes hq) c)
  have hv7 := iv.mpr hv
  have v0 := hv.1
  have v2 : v ≤ 999 := Int32.not_lt.mp hv.2
  rcases g_01 h0 hq with h1 | h1
  · refine ⟨.int (-2000000011), M, s, ?_, fun _ _ => rfl, fun N hN => ⟨N, ?_, fun _ _ => rfl, hN⟩⟩
    · refine ea_intro (own := RX6) (by decide +kernel) rfl (fun g => Nat.le_of_ble_eq_true rfl) (fun k C X => ?_)
      refine kb_X6_put_b C X (kd_pg q hq)  (r1 := 0) (sp_bookAt M q hq) (fun c => absurd hab c) (fun _ c => absurd c v0) (fun _ _ _ c => absurd h1 c) (fun _ _ _ c _ _ => absurd h1 c) (fun _ _ _ c _ _ => absurd h1 c) (fun _ _ _ c _ _ _ => absurd h1 c) (fun _ _ _ c _ _ _ => absurd h1 c) (fun _ _ _ c _ _ => absurd h1 c) (fun _ _ _ _ => ⟨rfl, rfl⟩) (fun _ _ c => absurd v2 c)
    · refine ea_intro (own := RX7) (by decide +kernel) rfl (fun g => Nat.le_of_ble_eq_true rfl) (fun k C X => ?_)
      have c1 : ¬ 0 ≤ N 70 (nI q).toNatClampNeg := by rw [cq, (g_no hN hq h1).1]; exact m1_neg
      refine km_put C X  (r1 := 0) (fun _ c => absurd ky c) (fun _ _ _ => vq) (fun _ _ _ c => absurd c c1) (fun _ _ _ c _ _ => absurd c c1) (fun _ _ _ c _ _ _ => absurd c c1) (fun _ _ _ c _ _ _ => absurd c c1) (fun _ _ _ c _ _ _ => absurd c c1) (fun _ _ _ c _ _ _ => absurd c c1) (fun _ _ _ c _ _ _ => absurd c c1) (fun _ _ _ c _ _ _ => absurd c c1) (fun _ _ _ c _ _ _ => absurd c c1) (fun _ _ _ c _ _ _ => absurd c c1) (fun _ _ _ c _ _ _ => absurd c c1) (fun _ _ _ c _ _ _ => absurd c c1) (fun _ _ _ c _ _ _ => absurd c c1) (fun _ _ _ c _ _ _ => absurd c c1) (fun _ _ _ c _ _ _ => absurd c c1) (fun _ _ _ c _ _ _ => absurd c c1) (fun _ _ _ c _ _ _ => absurd c c1) (fun _ _ _ c _ _ _ => absurd c c1) (fun _ _ _ c _ _ _ => absurd c c1) (fun _ _ _ c _ _ _ => absurd c c1) (fun _ _ _ c _ => absurd c c1) (fun _ _ _ c _ _ _ => absurd c c1) (fun _ _ _ c _ _ _ _ => absurd c c1) (fun _ _ _ c _ _ _ _ => absurd c c1) (fun _ _ _ c _ _ _ _ => absurd c c1) (fun _ _ _ c _ _ _ _ => absurd c c1) (fun _ _ _ c _ _ _ _ => absurd c c1) (fun _ _ _ c _ _ _ _ => absurd c c1) (fun _ _ _ c _ _ _ _ => absurd c c1) (fun _ _ _ c _ _ _ _ => absurd c c1) (fun _ _ _ c _ _ _ _ => absurd c c1) (fun _ _ _ c _ _ _ _ => absurd c c1) (fun _ _ _ c _ _ _ _ => absurd c c1) (fun _ _ _ c _ _ _ _ => absurd c c1) (fun _ _ _ c _ _ _ _ => absurd c c1) (fun _ _ _ c _ _ _ _ => absurd c c1) (fun _ _ _ c _ _ _ _ => absurd c c1) (fun _ _ _ c _ _ _ _ => absurd c c1) (fun _ _ _ c _ _ _ _ => absurd c c1) (fun _ _ _ c _ _ _ _ => absurd c c1) (fun _ _ _ c _ _ => absurd c c1) (fun _ _ _ _ => ⟨rfl, rfl⟩) (fun _ _ c => absurd hv7 c) (fun c => absurd (pg_yes hq) c)
  obtain ⟨g1, g2, -, -, g5, g6⟩ := g_yes h0 hq h1
  obtain ⟨z, hz⟩ : ∃ z, z = 49 + 4 * q := ⟨_, rfl⟩
  have kz : ea_kd z = 0 := by rw [hz]; exact kd_pg q hq
  have bz : ea_Sp 0 yX6_bookAt cX6_bookAt 2 (some (.object "WallHeat$Book")) [.ref 0, .int (nI q)] M (some (.ref z)) M := by rw [hz]; exact sp_bookAt M q hq
  have nz : ¬ M z 0 = 0 := by rw [hz, h1]; decide
  have sp := sp_plW hq g1 g2 a b
  rw [← hz] at sp g2 h1
  have ew : ∀ (M : ea_M) (i : Nat), wE M q i = (M (z + 1) i, M (z + 2) i, M (z + 3) i) := fun M i => by rw [hz]; rfl
  have em : ∀ (N : ea_M) (i : Nat), mE N q i = (N 71 (8 * q + i), N 72 (8 * q + i), N 73 (8 * q + i)) := fun N i => rfl
  obtain ⟨n, hen⟩ : ∃ n, n = s.g q := ⟨_, rfl⟩
  rw [← hen] at g1 g2 g5 g6 sp
  have nfacts : ∀ N, Rel s M N → N 70 (nI q).toNatClampNeg = nI n ∧ (fl (wE M q) n).Perm (fl (mE N q) n) ∧ ea_Sp 0 yX7_placeOf cX7_placeOf 5 (some .int) [.ref 61, .int (nI q), .int a, .int b] N (some (.int (pl q (pa_ix (kf (mE N q) a b) 0 n)))) N ∧ 0 ≤ N 70 (nI q).toNatClampNeg := by
    intro N hN
    obtain ⟨-, -, n3, n4, -, -⟩ := g_yes hN hq (by rw [← hz]; exact h1)
    rw [← hen] at n3 n4
    exact ⟨by rw [cq, n3], n4, sp_X7_placeOf hq g1 n3 a b, by rw [cq, n3]; exact nI_pos' (by omega)⟩
  cases ho : pa_ix (kf (wE M q) a b) 0 n with
  | some j =>
    rw [ho] at sp
    obtain ⟨jn, j1, -⟩ := ix_lk1 g5 ho
    have c2 : ¬ pa_ri (some j) = -1 := pa_rim j (by omega)
    have e3 : pa_at (M (z + 3)) 8 (pa_ri (some j)) = M (z + 3) j := pa_atN (show j < 8 by omega) (by decide)
    have e4 : pa_set M (z + 3) 8 (pa_ri (some j)) v = ea_up M (z + 3) j v := pa_setN (show j < 8 by omega) (by decide)
    refine ⟨.int (M (z + 3) j), ea_up M (z + 3) j v, sgg s q n, ?_, fun c hc => ea_upR (by omega), fun N hN => ?_⟩
    · refine ea_intro (own := RX6) (by decide +kernel) rfl (fun g => Nat.le_of_ble_eq_true rfl) (fun k C X => ?_)
      refine kb_X6_put_b C X kz  bz (fun c => absurd hab c) (fun _ c => absurd c v0) (fun _ _ _ _ => sp) (fun _ _ _ _ _ _ => ⟨by rw [e3], by rw [e4]⟩) (fun _ _ _ _ _ c => absurd c c2) (fun _ _ _ _ c _ _ => absurd c c2) (fun _ _ _ _ c _ _ => absurd c c2) (fun _ _ _ _ c _ => absurd c c2) (fun _ _ _ c => absurd c nz) (fun _ _ c => absurd v2 c)
    · obtain ⟨m3, m4, m5, c1⟩ := nfacts N hN
      rcases o_eq m4 g5 a b with ⟨c, -⟩ | ⟨j2, j', c, c5, -, c6, c7, -⟩
      · rw [ho] at c
        cases c
      rw [ho] at c
      injection c with c
      subst c
      rw [c5] at m5
      have c3 : ¬ pl q (some j') = -1 := pa_rim (8 * q + j') (by omega)
      have v7 : vp_in (pl q (some j')) 24 := vp_in_nI (show 8 * q + j' < 24 by omega) (by decide)
      have e7 : (pl q (some j')).toNatClampNeg = 8 * q + j' := nI_clamp (show 8 * q + j' < 2 ^ 31 by omega)
      have c8 : M (z + 3) j = N 73 (8 * q + j') := by
        have := congrArg (fun e : en => e.2.2) c7
        rw [ew, em] at this
        exact this
      refine ⟨ea_up N 73 (8 * q + j') v, ?_, fun c hc => ea_upR (by omega), ?_⟩
      · refine ea_intro (own := RX7) (by decide +kernel) rfl (fun g => Nat.le_of_ble_eq_true rfl) (fun k C X => ?_)
        refine km_put C X  (fun _ c => absurd ky c) (fun _ _ _ => vq) (fun _ _ _ _ => m5) (fun _ _ _ _ _ _ => v7) (fun _ _ _ _ _ _ _ => v7) (fun _ _ _ _ _ _ _ => ⟨by rw [e7, c8], by rw [e7]⟩) (fun _ _ _ _ _ _ c => absurd c c3) (fun _ _ _ _ _ _ c => absurd c c3) (fun _ _ _ _ _ _ c => absurd c c3) (fun _ _ _ _ _ _ c => absurd c c3) (fun _ _ _ _ _ _ c => absurd c c3) (fun _ _ _ _ _ _ c => absurd c c3) (fun _ _ _ _ _ _ c => absurd c c3) (fun _ _ _ _ _ c _ => absurd c c3) (fun _ _ _ _ _ c _ => absurd c c3) (fun _ _ _ _ _ c _ => absurd c c3) (fun _ _ _ _ _ c _ => absurd c c3) (fun _ _ _ _ _ c _ => absurd c c3) (fun _ _ _ _ _ c _ => absurd c c3) (fun _ _ _ _ _ c _ => absurd c c3) (fun _ _ _ _ _ c _ => absurd c c3) (fun _ _ _ _ _ c _ => absurd c c3) (fun _ _ _ _ c => absurd c c3) (fun _ _ _ _ c _ _ => absurd c c3) (fun _ _ _ _ c _ _ _ => absurd c c3) (fun _ _ _ _ c _ _ _ => absurd c c3) (fun _ _ _ _ c _ _ _ => absurd c c3) (fun _ _ _ _ c _ _ _ => absurd c c3) (fun _ _ _ _ c _ _ _ => absurd c c3) (fun _ _ _ _ c _ _ _ => absurd c c3) (fun _ _ _ _ c _ _ _ => absurd c c3) (fun _ _ _ _ c _ _ _ => absurd c c3) (fun _ _ _ _ c _ _ _ => absurd c c3) (fun _ _ _ _ c _ _ _ => absurd c c3) (fun _ _ _ _ c _ _ _ => absurd c c3) (fun _ _ _ _ c _ _ _ => absurd c c3) (fun _ _ _ _ c _ _ _ => absurd c c3) (fun _ _ _ _ c _ _ _ => absurd c c3) (fun _ _ _ _ c _ _ _ => absurd c c3) (fun _ _ _ _ c _ _ _ => absurd c c3) (fun _ _ _ _ c _ _ _ => absurd c c3) (fun _ _ _ _ c _ _ _ => absurd c c3) (fun _ _ _ _ c _ => absurd c c3) (fun _ _ _ c => absurd c1 c) (fun _ _ c => absurd hv7 c) (fun c => absurd (pg_yes hq) c)
      · refine Rel_g hN q n (fun c hc => ea_upR (by omega)) (fun c hc => ea_upR (by omega)) (R_g_one hN.2.2.2.2.1 q n (fun c hc => ea_upR (by omega)) (fun c hc => by rw [ea_upR (by decide)]) (fun c i h3 h4 h5 => ?_) (Or.inr ?_))
        · by_cases hc : c = 73
          · rw [hc, ea_upK (by omega)]
          · rw [ea_upR hc]
        · have hh := pr_put (g := wE (ea_up M (z + 3) j v) q) (g' := mE (ea_up N 73 (8 * q + j') v) q) (v := v) m4 g5 g6 jn c6 c7 j1 (fun i _ hij => ?_) ?_ (fun i _ hij => ?_) ?_ v0
          · rw [sgg_q, ← hz]
            refine ⟨g1, ?_, ?_, ?_, hh⟩
            · rw [ea_upR (by omega)]
              exact h1
            · rw [ea_upR (by omega)]
              exact g2
            · rw [ea_upR (by decide), ← cq]
              exact m3
          · rw [ew, ew, ea_upR (by omega), ea_upR (by omega), ea_upK hij]
          · rw [ew, ea_upR (by omega), ea_upR (by omega), ea_upS]
            rw [ew] at j1
            injection j1 with k1 k2
            injection k2 with k2 k3
            rw [k1, k2]
          · rw [em, em, ea_upR (by decide), ea_upR (by decide), ea_upK (by omega)]
          · rw [em, ea_upR (by decide), ea_upR (by decide), ea_upS]
            have j2 : mE N q j' = (a, b, (wE M q j).2.2) := c7.symm.trans j1
            rw [em] at j2
            injection j2 with k1 k2
            injection k2 with k2 k3
            rw [k1, k2]
  | none =>
    rw [ho] at sp
    have c2 : pa_ri none = -1 := rfl
    by_cases h8 : n = 8
    · refine ⟨.int (-2000000013), M, s, ?_, fun _ _ => rfl, fun N hN => ⟨N, ?_, fun _ _ => rfl, hN⟩⟩
      · have c4 : ¬ M z 1 < 8 := by rw [g2, h8]; decide
        refine ea_intro (own := RX6) (by decide +kernel) rfl (fun g => Nat.le_of_ble_eq_true rfl) (fun k C X => ?_)
        refine kb_X6_put_b C X kz  bz (fun c => absurd hab c) (fun _ c => absurd c v0) (fun _ _ _ _ => sp) (fun _ _ _ _ c _ => absurd c2 c) (fun _ _ _ _ c _ => absurd c2 c) (fun _ _ _ _ _ c _ => absurd c c4) (fun _ _ _ _ _ c _ => absurd c c4) (fun _ _ _ _ _ _ => ⟨rfl, rfl⟩) (fun _ _ _ c => absurd c nz) (fun _ _ c => absurd v2 c)
      · obtain ⟨m3, m4, m5, c1⟩ := nfacts N hN
        rcases o_eq m4 g5 a b with ⟨-, c5⟩ | ⟨j2, j', c, -⟩
        · rw [c5] at m5
          have c3 : pl q none = -1 := rfl
          have c4 : N 70 (nI q).toNatClampNeg = 8 := by rw [m3, h8]; rfl
          refine ea_intro (own := RX7) (by decide +kernel) rfl (fun g => Nat.le_of_ble_eq_true rfl) (fun k C X => ?_)
          refine km_put C X  (fun _ c => absurd ky c) (fun _ _ _ => vq) (fun _ _ _ _ => m5) (fun _ _ _ _ c _ => absurd c3 c) (fun _ _ _ _ c _ _ => absurd c3 c) (fun _ _ _ _ c _ _ => absurd c3 c) (fun _ _ _ _ c _ _ => absurd c3 c) (fun _ _ _ _ c _ _ => absurd c3 c) (fun _ _ _ _ c _ _ => absurd c3 c) (fun _ _ _ _ c _ _ => absurd c3 c) (fun _ _ _ _ c _ _ => absurd c3 c) (fun _ _ _ _ c _ _ => absurd c3 c) (fun _ _ _ _ c _ _ => absurd c3 c) (fun _ _ _ _ c _ _ => absurd c3 c) (fun _ _ _ _ c _ _ => absurd c3 c) (fun _ _ _ _ c _ _ => absurd c3 c) (fun _ _ _ _ c _ _ => absurd c3 c) (fun _ _ _ _ c _ _ => absurd c3 c) (fun _ _ _ _ c _ _ => absurd c3 c) (fun _ _ _ _ c _ _ => absurd c3 c) (fun _ _ _ _ c _ _ => absurd c3 c) (fun _ _ _ _ c _ _ => absurd c3 c) (fun _ _ _ _ _ => vq) (fun _ _ _ _ _ c _ => absurd c4 c) (fun _ _ _ _ _ c _ _ => absurd c4 c) (fun _ _ _ _ _ c _ _ => absurd c4 c) (fun _ _ _ _ _ c _ _ => absurd c4 c) (fun _ _ _ _ _ c _ _ => absurd c4 c) (fun _ _ _ _ _ c _ _ => absurd c4 c) (fun _ _ _ _ _ c _ _ => absurd c4 c) (fun _ _ _ _ _ c _ _ => absurd c4 c) (fun _ _ _ _ _ c _ _ => absurd c4 c) (fun _ _ _ _ _ c _ _ => absurd c4 c) (fun _ _ _ _ _ c _ _ => absurd c4 c) (fun _ _ _ _ _ c _ _ => absurd c4 c) (fun _ _ _ _ _ c _ _ => absurd c4 c) (fun _ _ _ _ _ c _ _ => absurd c4 c) (fun _ _ _ _ _ c _ _ => absurd c4 c) (fun _ _ _ _ _ c _ _ => absurd c4 c) (fun _ _ _ _ _ c _ _ => absurd c4 c) (fun _ _ _ _ _ c _ _ => absurd c4 c) (fun _ _ _ _ _ c _ _ => absurd c4 c) (fun _ _ _ _ _ _ => ⟨rfl, rfl⟩) (fun _ _ _ c => absurd c1 c) (fun _ _ c => absurd hv7 c) (fun c => absurd (pg_yes hq) c)
        · rw [ho] at c
          cases c
    · have c4 : M z 1 < 8 := by
        rw [g2]
        exact nI_lt (b := 8) (by omega) (by decide)
      have eM : g_X0_enter M z a b v = ea_up (ea_up (ea_up (ea_up M (z + 1) n a) (z + 2) n b) (z + 3) n v) z 1 (nI (n + 1)) := by
        unfold g_X0_enter
        rw [g2, pa_setN (show n < 8 by omega) (by decide), pa_setN (show n < 8 by omega) (by decide), pa_setN (show n < 8 by omega) (by decide), nI_1]
      refine ⟨.int 0, ea_up (ea_up (ea_up (ea_up M (z + 1) n a) (z + 2) n b) (z + 3) n v) z 1 (nI (n + 1)), sgg s q (n + 1), ?_, fun c hc => by rw [ea_upR (by omega), ea_upR (by omega), ea_upR (by omega), ea_upR (by omega)], fun N hN => ?_⟩
      · refine ea_intro (own := RX6) (by decide +kernel) rfl (fun g => Nat.le_of_ble_eq_true rfl) (fun k C X => ?_)
        refine kb_X6_put_b C X kz  bz (fun c => absurd hab c) (fun _ c => absurd c v0) (fun _ _ _ _ => sp) (fun _ _ _ _ c _ => absurd c2 c) (fun _ _ _ _ c _ => absurd c2 c) (fun _ _ _ _ _ _ c => absurd c2 c) (fun _ _ _ _ _ _ _ => ⟨rfl, by rw [eM]⟩) (fun _ _ _ _ _ c => absurd c4 c) (fun _ _ _ c => absurd c nz) (fun _ _ c => absurd v2 c)
      · obtain ⟨m3, m4, m5, c1⟩ := nfacts N hN
        rcases o_eq m4 g5 a b with ⟨-, c5⟩ | ⟨j2, j', c, -⟩
        case inr =>
          rw [ho] at c
          cases c
        rw [c5] at m5
        have c3 : pl q none = -1 := rfl
        have c6 : ¬ N 70 (nI q).toNatClampNeg = 8 := by
          rw [m3]
          exact fun y => h8 ((nI_eq (b := 8) (by omega) (by decide)).mp y)
        have ex : (8 : Int32) * nI q + N 70 (nI q).toNatClampNeg = nI (8 * q + n) := by rw [e8, m3, nI_add]
        have v8 : vp_in ((8 : Int32) * nI q + N 70 (nI q).toNatClampNeg) 24 := by rw [ex]; exact vp_in_nI (by omega) (by decide)
        refine ⟨ea_up (ea_up (ea_up (ea_up N 71 (8 * q + n) a) 72 (8 * q + n) b) 70 q (nI (n + 1))) 73 (8 * q + n) v, ?_, fun c hc => by rw [ea_upR (by omega), ea_upR (by omega), ea_upR (by omega), ea_upR (by omega)], ?_⟩
        · refine ea_intro (own := RX7) (by decide +kernel) rfl (fun g => Nat.le_of_ble_eq_true rfl) (fun k C X => ?_)
          refine km_put C X  (fun _ c => absurd ky c) (fun _ _ _ => vq) (fun _ _ _ _ => m5) (fun _ _ _ _ c _ => absurd c3 c) (fun _ _ _ _ c _ _ => absurd c3 c) (fun _ _ _ _ c _ _ => absurd c3 c) (fun _ _ _ _ c _ _ => absurd c3 c) (fun _ _ _ _ c _ _ => absurd c3 c) (fun _ _ _ _ c _ _ => absurd c3 c) (fun _ _ _ _ c _ _ => absurd c3 c) (fun _ _ _ _ c _ _ => absurd c3 c) (fun _ _ _ _ c _ _ => absurd c3 c) (fun _ _ _ _ c _ _ => absurd c3 c) (fun _ _ _ _ c _ _ => absurd c3 c) (fun _ _ _ _ c _ _ => absurd c3 c) (fun _ _ _ _ c _ _ => absurd c3 c) (fun _ _ _ _ c _ _ => absurd c3 c) (fun _ _ _ _ c _ _ => absurd c3 c) (fun _ _ _ _ c _ _ => absurd c3 c) (fun _ _ _ _ c _ _ => absurd c3 c) (fun _ _ _ _ c _ _ => absurd c3 c) (fun _ _ _ _ c _ _ => absurd c3 c) (fun _ _ _ _ _ => vq) (fun _ _ _ _ _ _ c => absurd c3 c) (fun _ _ _ _ _ _ c _ => absurd c3 c) (fun _ _ _ _ _ _ c _ => absurd c3 c) (fun _ _ _ _ _ _ c _ => absurd c3 c) (fun _ _ _ _ _ _ c _ => absurd c3 c) (fun _ _ _ _ _ _ c _ => absurd c3 c) (fun _ _ _ _ _ _ c _ => absurd c3 c) (fun _ _ _ _ _ _ c _ => absurd c3 c) (fun _ _ _ _ _ _ c _ => absurd c3 c) (fun _ _ _ _ _ _ c _ => absurd c3 c) (fun _ _ _ _ _ _ _ c => absurd c3 c) (fun _ _ _ _ _ _ _ c => absurd c3 c) (fun _ _ _ _ _ _ _ _ => vq) (fun _ _ _ _ _ _ _ _ => v8) (fun _ _ _ _ _ _ _ _ => v8) (fun _ _ _ _ _ _ _ _ => vq) (fun _ _ _ _ _ _ _ _ => vq) (fun _ _ _ _ _ _ _ _ => v8) (fun _ _ _ _ _ _ _ _ => ⟨rfl, by rw [ex, nI_clamp (show 8 * q + n < 2 ^ 31 by omega), m3, cq, nI_1]⟩) (fun _ _ _ _ _ c => absurd c c6) (fun _ _ _ c => absurd c1 c) (fun _ _ c => absurd hv7 c) (fun c => absurd (pg_yes hq) c)
        · refine Rel_g hN q (n + 1) (fun c hc => by rw [ea_upR (by omega), ea_upR (by omega), ea_upR (by omega), ea_upR (by omega)]) (fun c hc => by rw [ea_upR (by omega), ea_upR (by omega), ea_upR (by omega), ea_upR (by omega)]) (R_g_one hN.2.2.2.2.1 q (n + 1) (fun c hc => by rw [ea_upR (by omega), ea_upR (by omega), ea_upR (by omega), ea_upR (by omega)]) (fun c hc => by rw [ea_upR (by decide), ea_upK hc, ea_upR (by decide), ea_upR (by decide)]) (fun c i h3 h4 h5 => ?_) (Or.inr ?_))
          · have hi : i ≠ 8 * q + n := by omega
            by_cases k1 : c = 71
            · rw [k1, ea_upR (by decide), ea_upR (by decide), ea_upR (by decide), ea_upK hi]
            · by_cases k2 : c = 72
              · rw [k2, ea_upR (by decide), ea_upR (by decide), ea_upK hi, ea_upR (by decide)]
              · rw [show c = 73 by omega, ea_upK hi, ea_upR (by decide), ea_upR (by decide), ea_upR (by decide)]
          · have hh := pr_add (g := wE (ea_up (ea_up (ea_up (ea_up M (z + 1) n a) (z + 2) n b) (z + 3) n v) z 1 (nI (n + 1))) q) (g' := mE (ea_up (ea_up (ea_up (ea_up N 71 (8 * q + n) a) 72 (8 * q + n) b) 70 q (nI (n + 1))) 73 (8 * q + n) v) q) (v := v) m4 g5 g6 ho (fun i hi => ?_) ?_ (fun i hi => ?_) ?_ v0
            · rw [sgg_q, ← hz]
              refine ⟨by omega, ?_, ?_, ?_, hh⟩
              · rw [ea_upK (by decide), ea_upR (by omega), ea_upR (by omega), ea_upR (by omega)]
                exact h1
              · rw [ea_upS]
              · rw [ea_upR (by decide), ea_upS]
            · have hn : i ≠ n := by omega
              rw [ew, ew, ea_upR (show z + 1 ≠ z by omega), ea_upR (show z + 1 ≠ z + 3 by omega), ea_upR (show z + 1 ≠ z + 2 by omega), ea_upK hn, ea_upR (show z + 2 ≠ z by omega), ea_upR (show z + 2 ≠ z + 3 by omega), ea_upK hn, ea_upR (show z + 2 ≠ z + 1 by omega), ea_upR (show z + 3 ≠ z by omega), ea_upK hn, ea_upR (show z + 3 ≠ z + 2 by omega), ea_upR (show z + 3 ≠ z + 1 by omega)]
            · rw [ew, ea_upR (show z + 1 ≠ z by omega), ea_upR (show z + 1 ≠ z + 3 by omega), ea_upR (show z + 1 ≠ z + 2 by omega), ea_upS, ea_upR (show z + 2 ≠ z by omega), ea_upR (show z + 2 ≠ z + 3 by omega), ea_upS, ea_upR (show z + 3 ≠ z by omega), ea_upS]
            · have hn : 8 * q + i ≠ 8 * q + n := by omega
              rw [em, em, ea_upR (show 71 ≠ 73 by decide), ea_upR (show 71 ≠ 70 by decide), ea_upR (show 71 ≠ 72 by decide), ea_upK hn, ea_upR (show 72 ≠ 73 by decide), ea_upR (show 72 ≠ 70 by decide), ea_upK hn, ea_upR (show 72 ≠ 71 by decide), ea_upK hn, ea_upR (show 73 ≠ 70 by decide), ea_upR (show 73 ≠ 72 by decide), ea_upR (show 73 ≠ 71 by decide)]
            · rw [em, ea_upR (show 71 ≠ 73 by decide), ea_upR (show 71 ≠ 70 by decide), ea_upR (show 71 ≠ 72 by decide), ea_upS, ea_upR (show 72 ≠ 73 by decide), ea_upR (show 72 ≠ 70 by decide), ea_upS, ea_upS]

