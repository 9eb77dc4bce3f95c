/-! ===== common, put, strike ===== -/
def cm_h (l : List en) (e : en) : Int32 := match lk l e.1 e.2.1 with
  | none => 0
  | some v => if v = e.2.2 then 1 else 0
theorem ls_c {h h' : en → Int32} : ∀ l : List en, (∀ e, h e = h' e) → ls h l = ls h' l := by
  intro l
  induction l with
  | nil => intro _; rfl
  | cons x l ih => intro c; rw [ls, ls, c x, ih c]
theorem pm_common (p t : Int32) : pm 3 yX6_common cX6_common 5 2 yX7_common cX7_common 6 (some .int) [.int p, .int t] := by
  refine pm_q (fun s M N0 h0 => ?_)
  rcases in3 p with hp | ⟨q, hq, rfl⟩
  · refine ⟨.int (-2000000001), ?_, fun N hN => ?_⟩
    · refine ea_intro (own := RX6) (by decide +kernel) rfl (fun g => Nat.le_of_ble_eq_true rfl) (fun k C X => ?_)
      rcases in3 t with ht | ⟨q2, hq2, rfl⟩
      · exact kb_X6_common_nn C X (sp_bookNo M p hp) (sp_bookNo M t ht) ⟨rfl, rfl⟩
      · exact kb_X6_common_nb C X (kd_pg q2 hq2) (sp_bookNo M p hp) (sp_bookAt M q2 hq2) ⟨rfl, rfl⟩
    · refine ea_intro (own := RX7) (by decide +kernel) rfl (fun g => Nat.le_of_ble_eq_true rfl) (fun k C X => ?_)
      refine km_common C X  (fun _ => ⟨rfl, rfl⟩) (fun c _ => absurd c (pg_no hp)) (fun c _ _ => absurd c (pg_no hp)) (fun c _ _ => absurd c (pg_no hp)) (fun c _ _ _ => absurd c (pg_no hp)) (fun c _ _ _ => absurd c (pg_no hp)) (fun c _ => absurd c (pg_no hp))
  rcases in3 t with ht | ⟨q2, hq2, rfl⟩
  · refine ⟨.int (-2000000001), ?_, fun N hN => ?_⟩
    · refine ea_intro (own := RX6) (by decide +kernel) rfl (fun g => Nat.le_of_ble_eq_true rfl) (fun k C X => ?_)
      exact kb_X6_common_bn C X (kd_pg q hq) (sp_bookAt M q hq) (sp_bookNo M t ht) ⟨rfl, rfl⟩
    · refine ea_intro (own := RX7) (by decide +kernel) rfl (fun g => Nat.le_of_ble_eq_true rfl) (fun k C X => ?_)
      refine km_common C X  (fun c => absurd (pg_yes hq) c) (fun _ c => absurd c (pg_no ht)) (fun _ c _ => absurd c (pg_no ht)) (fun _ c _ => absurd c (pg_no ht)) (fun _ c _ _ => absurd c (pg_no ht)) (fun _ c _ _ => absurd c (pg_no ht)) (fun _ _ => ⟨rfl, rfl⟩)
  have cq : (nI q).toNatClampNeg = q := nI_clamp (by omega)
  have vq : vp_in (nI q) 3 := vp_in_nI hq (by decide)
  have cq2 : (nI q2).toNatClampNeg = q2 := nI_clamp (by omega)
  have vq2 : vp_in (nI q2) 3 := vp_in_nI hq2 (by decide)
  rcases g_01 h0 hq with h1 | h1
  · refine ⟨.int (-2000000011), ?_, fun N hN => ?_⟩
    · refine ea_intro (own := RX6) (by decide +kernel) rfl (fun g => Nat.le_of_ble_eq_true rfl) (fun k C X => ?_)
      refine kb_X6_common_bb C X (kd_pg q hq) (kd_pg q2 hq2)  (r1 := 0) (sp_bookAt M q hq) (sp_bookAt M q2 hq2) (fun _ => ⟨rfl, rfl⟩) (fun c _ => absurd h1 c) (fun c _ => absurd h1 c) (fun c _ => absurd h1 c)
    · refine ea_intro (own := RX7) (by decide +kernel) rfl (fun g => Nat.le_of_ble_eq_true rfl) (fun k C X => ?_)
      have c1 : N 70 (nI q).toNatClampNeg < 0 := by rw [cq, (g_no hN hq h1).1]; decide
      refine km_common C X  (fun c => absurd (pg_yes hq) c) (fun _ _ => vq) (fun _ _ _ => ⟨rfl, rfl⟩) (fun _ _ c => absurd c1 c) (fun _ _ c _ => absurd c1 c) (fun _ _ c _ => absurd c1 c) (fun _ c => absurd (pg_yes hq2) c)
  have nz : ¬ M (49 + 4 * q) 0 = 0 := by rw [h1]; decide
  obtain ⟨g1, g2, -, -, g5, -⟩ := g_yes h0 hq h1
  rcases g_01 h0 hq2 with k1 | k1
  · refine ⟨.int (-2000000011), ?_, fun N hN => ?_⟩
    · refine ea_intro (own := RX6) (by decide +kernel) rfl (fun g => Nat.le_of_ble_eq_true rfl) (fun k C X => ?_)
      refine kb_X6_common_bb C X (kd_pg q hq) (kd_pg q2 hq2)  (r1 := 0) (sp_bookAt M q hq) (sp_bookAt M q2 hq2) (fun c => absurd c nz) (fun _ c => absurd k1 c) (fun _ c => absurd k1 c) (fun _ _ => ⟨rfl, rfl⟩)
    · refine ea_intro (own := RX7) (by decide +kernel) rfl (fun g => Nat.le_of_ble_eq_true rfl) (fun k C X => ?_)
      obtain ⟨-, -, n3, -, -, -⟩ := g_yes hN hq h1
      have c1 : ¬ N 70 (nI q).toNatClampNeg < 0 := by rw [cq, n3]; exact nI_pos (by omega)
      have c2 : ¬ 0 ≤ N 70 (nI q2).toNatClampNeg := by rw [cq2, (g_no hN hq2 k1).1]; exact m1_neg
      refine km_common C X  (fun c => absurd (pg_yes hq) c) (fun _ _ => vq) (fun _ _ c => absurd c c1) (fun _ _ _ => vq2) (fun _ _ _ c => absurd c c2) (fun _ _ _ _ => ⟨rfl, rfl⟩) (fun _ c => absurd (pg_yes hq2) c)
  have kz : ¬ M (49 + 4 * q2) 0 = 0 := by rw [k1]; decide
  obtain ⟨f1, f2, -, -, f5, -⟩ := g_yes h0 hq2 k1
  refine ⟨.int (ls (cm_h (fl (wE M q2) (s.g q2))) (fl (wE M q) (s.g q))), ?_, fun N hN => ?_⟩
  · refine ea_intro (own := RX6) (by decide +kernel) rfl (fun g => Nat.le_of_ble_eq_true rfl) (fun k C X => ?_)
    have sp := sp_X0_alikeWith M (49 + 4 * q) (49 + 4 * q2) (s.g q) (s.g q2) (kd_pg q hq) (kd_pg q2 hq2) g1 f1 g2 f2
    have e1 : pa_sum (bk_al M (49 + 4 * q) (49 + 4 * q2) (s.g q2)) (s.g q) = ls (cm_h (fl (wE M q2) (s.g q2))) (fl (wE M q) (s.g q)) := by
      rw [← ls_fl]
      refine pa_sumC _ (fun j hj => ?_)
      have hb : bk_f M (49 + 4 * q2) (s.g q2) (M (49 + 4 * q + 1) j) (M (49 + 4 * q + 2) j) = pa_ix (kf (wE M q2) (M (49 + 4 * q + 1) j) (M (49 + 4 * q + 2) j)) 0 (s.g q2) := rfl
      unfold bk_al cm_h
      rw [hb]
      show _ = (match lk (fl (wE M q2) (s.g q2)) (M (49 + 4 * q + 1) j) (M (49 + 4 * q + 2) j) with | none => (0 : Int32) | some v => if v = M (49 + 4 * q + 3) j then (1 : Int32) else 0)
      cases ho : pa_ix (kf (wE M q2) (M (49 + 4 * q + 1) j) (M (49 + 4 * q + 2) j)) 0 (s.g q2) with
      | none => rw [ix_lk0 ho]
      | some j2 =>
        obtain ⟨-, -, c⟩ := ix_lk1 f5 ho
        rw [c]
        rfl
    rw [e1] at sp
    refine kb_X6_common_bb C X (kd_pg q hq) (kd_pg q2 hq2)  (sp_bookAt M q hq) (sp_bookAt M q2 hq2) (fun c => absurd c nz) (fun _ _ => sp) (fun _ _ => ⟨rfl, rfl⟩) (fun _ c => absurd c kz)
  · obtain ⟨-, -, n3, n4, -, -⟩ := g_yes hN hq h1
    obtain ⟨-, -, m3, m4, -, -⟩ := g_yes hN hq2 k1
    have e1 : ls (cm_h (fl (wE M q2) (s.g q2))) (fl (wE M q) (s.g q)) = ls (cm_h (fl (mE N q2) (s.g q2))) (fl (mE N q) (s.g q)) := by
      rw [ls_p _ n4]
      exact ls_c _ (fun e => by unfold cm_h; rw [lk_p m4 f5])
    rw [e1]
    refine ea_intro (own := RX7) (by decide +kernel) rfl (fun g => Nat.le_of_ble_eq_true rfl) (fun k C X => ?_)
    have c1 : ¬ N 70 (nI q).toNatClampNeg < 0 := by rw [cq, n3]; exact nI_pos (by omega)
    have c2 : 0 ≤ N 70 (nI q2).toNatClampNeg := by rw [cq2, m3]; exact nI_pos' (by omega)
    have e0 := ls_fl (cm_h (fl (mE N q2) (s.g q2))) (mE N q)
    have et : (8 : Int32) * nI q + N 70 (nI q).toNatClampNeg = nI (8 * q + s.g q) := by rw [e8, cq, n3, nI_add]
    obtain ⟨h, hh⟩ : ∃ h : Nat → Int32, h = fun j => cm_h (fl (mE N q2) (s.g q2)) (mE N q j) := ⟨_, rfl⟩
    rw [← hh] at e0
    have loop : ∀ (m i : Nat), i + m = s.g q → ea_E k 46 [(0, .ref 61), (1, .int (nI q)), (2, .int (nI q2)), (3, .int (pa_sum h i)), (4, .int (nI (8 * q + i)))] [] N := by
      intro m
      induction m with
      | zero =>
        intro i hi
        have hc : (8 : Int32) * nI q + N 70 (nI q).toNatClampNeg ≤ nI (8 * q + i) := by rw [et]; exact nI_le (by omega) (by omega)
        refine km_common_46 C X  (r1 := 0) vq (fun _ => ⟨by rw [← e0, show i = s.g q by omega], rfl⟩) (fun c => absurd hc c) (fun c => absurd hc c) (fun c => absurd hc c) (fun c _ => absurd hc c) (fun c _ => absurd hc c) (fun c _ => absurd hc c) (fun c _ _ => absurd hc c) (fun c _ _ => absurd hc c)
      | succ m ih =>
        intro i hi
        have hc : ¬ (8 : Int32) * nI q + N 70 (nI q).toNatClampNeg ≤ nI (8 * q + i) := by rw [et]; exact nI_ge (by omega) (by omega)
        have ej : (nI (8 * q + i)).toNatClampNeg = 8 * q + i := nI_clamp (by omega)
        have vj : vp_in (nI (8 * q + i)) 24 := vp_in_nI (by omega) (by decide)
        have h2 := ih (i + 1) (by omega)
        have h3 : ∀ v, h i = v → ea_E k 46 [(0, .ref 61), (1, .int (nI q)), (2, .int (nI q2)), (3, .int (pa_sum h i + v)), (4, .int (nI (8 * q + i) + 1))] [] N := by
          intro v hv
          rw [← hv, nI_1]
          exact h2
        have sp := sp_X7_placeOf hq2 f1 m3 (N 71 (nI (8 * q + i)).toNatClampNeg) (N 72 (nI (8 * q + i)).toNatClampNeg)
        have ehi : h i = match lk (fl (mE N q2) (s.g q2)) (N 71 (8 * q + i)) (N 72 (8 * q + i)) with
          | none => 0
          | some v => if v = N 73 (8 * q + i) then 1 else 0 := by rw [hh]; rfl
        rw [ej] at sp
        cases ho : pa_ix (kf (mE N q2) (N 71 (8 * q + i)) (N 72 (8 * q + i))) 0 (s.g q2) with
        | none =>
          rw [ho] at sp
          rw [ix_lk0 ho] at ehi
          have c3 : pl q2 none = -1 := rfl
          rw [← ej] at sp
          refine km_common_46 C X  vq (fun c => absurd c hc) (fun _ => vj) (fun _ => vj) (fun _ => sp) (fun _ _ => h3 0 ehi) (fun _ c => absurd c3 c) (fun _ c => absurd c3 c) (fun _ c _ => absurd c3 c) (fun _ c _ => absurd c3 c)
        | some j2 =>
          rw [ho] at sp
          obtain ⟨j2l, -, c4⟩ := ix_lk1 (nd_p m4 f5) ho
          rw [c4] at ehi
          have c3 : ¬ pl q2 (some j2) = -1 := pa_rim (8 * q2 + j2) (by omega)
          have v7 : vp_in (pl q2 (some j2)) 24 := vp_in_nI (show 8 * q2 + j2 < 24 by omega) (by decide)
          have e7 : (pl q2 (some j2)).toNatClampNeg = 8 * q2 + j2 := nI_clamp (show 8 * q2 + j2 < 2 ^ 31 by omega)
          have e9 : (mE N q2 j2).2.2 = N 73 (8 * q2 + j2) := rfl
          rw [e9] at ehi
          rw [← ej] at sp
          refine km_common_46 C X  vq (fun c => absurd c hc) (fun _ => vj) (fun _ => vj) (fun _ => sp) (fun _ c => absurd c c3) (fun _ _ => v7) (fun _ _ => vj) (fun _ _ c2 => ?_) (fun _ _ c2 => ?_)
          · rw [e7, ej] at c2
            exact h3 0 (ehi.trans (if_neg c2))
          · rw [e7, ej] at c2
            exact h3 1 (ehi.trans (if_pos c2))
    have h5 := loop (s.g q) 0 (by omega)
    rw [show nI (8 * q + 0) = (8 : Int32) * nI q from (e8 q).symm] at h5
    refine km_common C X  (fun c => absurd (pg_yes hq) c) (fun _ _ => vq) (fun _ _ c => absurd c c1) (fun _ _ _ => vq2) (fun _ _ _ _ => h5) (fun _ _ _ c => absurd c2 c) (fun _ c => absurd (pg_yes hq2) c)

