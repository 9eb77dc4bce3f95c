/-! ===== the calls on pages ===== -/
def pl (q : Nat) (o : Option Nat) : Int32 := match o with
  | none => -1
  | some j => nI (8 * q + j)
theorem e8 (q : Nat) : (8 : Int32) * nI q = nI (8 * q) := pk_mul 8 q
theorem sp_X7_placeOf {M : ea_M} {q n : Nat} (hq : q < 3) (hn : n ≤ 8) (hk : M 70 q = nI n) (a b : Int32) : ea_Sp 0 yX7_placeOf cX7_placeOf 5 (some .int) [.ref 61, .int (nI q), .int a, .int b] M (some (.int (pl q (pa_ix (kf (mE M q) a b) 0 n)))) M := by
  refine ea_intro (own := RX7) (by decide +kernel) rfl (fun g => Nat.le_of_ble_eq_true rfl) (fun k C X => ?_)
  obtain ⟨r, hr⟩ : ∃ r, r = pl q (pa_ix (kf (mE M q) a b) 0 n) := ⟨_, rfl⟩
  rw [← hr] at X
  have vq : vp_in (nI q) 3 := vp_in_nI hq (by decide)
  have cq : (nI q).toNatClampNeg = q := nI_clamp (by omega)
  have et : (8 : Int32) * nI q + M 70 (nI q).toNatClampNeg = nI (8 * q + n) := by rw [e8, cq, hk, nI_add]
  have loop : ∀ (m i : Nat), i + m = n → r = pl q (pa_ix (kf (mE M q) a b) i m) → ea_E k 6 [(0, .ref 61), (1, .int (nI q)), (2, .int a), (3, .int b), (4, .int (nI (8 * q + i)))] [] M := by
    intro m
    induction m with
    | zero =>
      intro i hi hri
      have hc : (8 : Int32) * nI q + M 70 (nI q).toNatClampNeg ≤ nI (8 * q + i) := by rw [et]; exact nI_le (by omega) (by omega)
      refine km_placeOf_6 C X  vq (fun _ => ⟨by rw [hri]; rfl, rfl⟩) (fun c => absurd hc c) (fun c _ => absurd hc c) (fun c _ => absurd hc c) (fun c _ _ => absurd hc c) (fun c _ _ => absurd hc c)
    | succ m ih =>
      intro i hi hri
      have hc : ¬ (8 : Int32) * nI q + M 70 (nI q).toNatClampNeg ≤ nI (8 * q + i) := by rw [et]; exact nI_ge (by omega) (by omega)
      have ej : (nI (8 * q + i)).toNatClampNeg = 8 * q + i := nI_clamp (by omega)
      have vj : vp_in (nI (8 * q + i)) 24 := vp_in_nI (by omega) (by decide)
      have key : ¬ (M 71 (8 * q + i) = a ∧ M 72 (8 * q + i) = b) → ea_E k 6 [(0, .ref 61), (1, .int (nI q)), (2, .int a), (3, .int b), (4, .int (nI (8 * q + i) + 1))] [] M := by
        intro z
        rw [nI_1]
        refine ih (i + 1) (by omega) ?_
        rw [hri, pa_ix, if_neg (show ¬ kf (mE M q) a b i = true from fun y => z (of_decide_eq_true y))]
      refine km_placeOf_6 C X  vq (fun c => absurd c hc) (fun _ => vj) (fun _ c1 => ?_) (fun _ _ => vj) (fun _ c1 c2 => ?_) (fun _ c1 c2 => ?_)
      · rw [ej] at c1
        exact key (fun z => c1 z.1)
      · rw [ej] at c2
        exact key (fun z => c2 z.2)
      · rw [ej] at c1 c2
        refine ⟨?_, rfl⟩
        rw [hri, pa_ix, if_pos (show kf (mE M q) a b i = true from decide_eq_true (And.intro c1 c2))]
        rfl
  refine km_placeOf C X ?_
  rw [e8]
  exact loop n 0 (by omega) hr
def sgg (s : sg) (q m : Nat) : sg := (s.1, s.2.1, s.2.2.1, s.2.2.2.1, s.2.2.2.2.1, fun p => if p = q then m else s.g p)
theorem R_g_one {s : sg} {M M' N N' : ea_M} (h : R_g s M N) (q m : Nat) (hM : ∀ a, a < 49 + 4 * q ∨ 52 + 4 * q < a → M' a = M a) (h70 : ∀ p, p ≠ q → N' 70 p = N 70 p) (hN : ∀ a j, 71 ≤ a → a ≤ 73 → (j < 8 * q ∨ 8 * q + 8 ≤ j) → N' a j = N a j) (h1 : R_g1 (sgg s q m) M' N' q) : R_g (sgg s q m) M' N' := by
  intro p hp
  by_cases e : p = q
  · rw [e]
    exact h1
  · refine R_g1_cg (h p hp) (if_neg e) (fun a h1 h2 => hM a (by omega)) (h70 p e) (fun a j h1 h2 h3 h4 => hN a j h1 h2 (by omega))
theorem Rel_g {s : sg} {M M' N N' : ea_M} (h : Rel s M N) (q m : Nat) (hM : ∀ a, a < 49 → M' a = M a) (hN : ∀ a, a < 70 ∨ 73 < a → N' a = N a) (hg : R_g (sgg s q m) M' N') : Rel (sgg s q m) M' N' := by
  obtain ⟨a1, a2, a3, a4, -, a6⟩ := h
  have n61 := hN 61 (by decide)
  have n62 := hN 62 (by decide)
  exact ⟨R_w_cg a1 rfl rfl (fun a h1 h2 h3 => hM a (by omega)) (by rw [n61]) (by rw [n61]) (fun a h1 h2 => hN a (by omega)) (fun j _ => by rw [n62]), R_t_cg a2 rfl (by rw [hM 2 (by decide)]) (hM 3 (by decide)) (by rw [n61]) (hN 69 (by decide)), R_p_cg a3 rfl rfl (hM 24 (by decide)) (fun a h1 h2 => hM a (by omega)) (by rw [n61]) (fun j _ _ => by rw [n62]), R_k_cg a4 (hM 27 (by decide)) (fun a h1 h2 => hM a (by omega)) (hN 68 (by decide)) (fun j _ _ => by rw [n62]), hg, R_c_cg a6 (hN 77 (by decide))⟩
theorem sgg_q (s : sg) (q m : Nat) : (sgg s q m).g q = m := if_pos rfl
theorem pm_page (p : Int32) : pm 1 yX6_page cX6_page 3 2 yX7_page cX7_page 2 (some .int) [.int p] := by
  intro s M N0 h0
  rcases in3 p with hp | ⟨q, hq, rfl⟩
  · refine ⟨.int (-2000000001), M, s, ?_, fun _ _ => rfl, fun N hN => ⟨N, ?_, fun _ _ => rfl, hN⟩⟩
    · refine ea_intro (own := RX6) (by decide +kernel) rfl (fun g => Nat.le_of_ble_eq_true rfl) (fun k C X => ?_)
      exact kb_X6_page_n C X (sp_bookNo M p hp) ⟨rfl, rfl⟩
    · refine ea_intro (own := RX7) (by decide +kernel) rfl (fun g => Nat.le_of_ble_eq_true rfl) (fun k C X => ?_)
      refine km_page C X  (fun c => absurd c (pg_no hp)) (fun c => absurd c (pg_no hp)) (fun _ => ⟨rfl, rfl⟩)
  · obtain ⟨z, hz⟩ : ∃ z, z = 49 + 4 * q := ⟨_, rfl⟩
    have cq : (nI q).toNatClampNeg = q := nI_clamp (by omega)
    refine ⟨.int 0, ea_up (ea_up M z 0 1) z 1 0, sgg s q 0, ?_, fun a ha => ?_, fun N hN => ⟨ea_up N 70 q 0, ?_, fun a ha => ea_upR (by omega), ?_⟩⟩
    · refine ea_intro (own := RX6) (by decide +kernel) rfl (fun g => Nat.le_of_ble_eq_true rfl) (fun k C X => ?_)
      rw [hz] at X
      exact kb_X6_page_b C X (kd_pg q hq) (sp_bookAt M q hq) ⟨rfl, rfl⟩
    · rw [ea_upR (by omega), ea_upR (by omega)]
    · refine ea_intro (own := RX7) (by decide +kernel) rfl (fun g => Nat.le_of_ble_eq_true rfl) (fun k C X => ?_)
      refine km_page C X  (fun _ => vp_in_nI hq (by decide)) (fun _ => ⟨rfl, by rw [cq]⟩) (fun c => absurd (pg_yes hq) c)
    · refine Rel_g hN q 0 (fun a ha => by rw [ea_upR (by omega), ea_upR (by omega)]) (fun a ha => ea_upR (by omega)) (R_g_one hN.2.2.2.2.1 q 0 (fun a ha => by rw [ea_upR (by omega), ea_upR (by omega)]) (fun p hp => ea_upK hp) (fun a j h1 h2 h3 => by rw [ea_upR (by omega)]) (Or.inr ?_))
      rw [sgg_q, ← hz]
      exact ⟨by decide, by rw [ea_upK (by decide), ea_upS], ea_upS, ea_upS, List.Perm.refl _, List.nodup_nil, fun e he => absurd he List.not_mem_nil⟩
theorem pm_drop (p : Int32) : pm 2 yX6_drop cX6_drop 4 2 yX7_drop cX7_drop 3 (some .int) [.int p] := by
  intro s M N0 h0
  rcases in3 p with hp | ⟨q, hq, rfl⟩
  · refine ⟨.int (-2000000001), M, s, ?_, fun _ _ => rfl, fun N hN => ⟨N, ?_, fun _ _ => rfl, hN⟩⟩
    · refine ea_intro (own := RX6) (by decide +kernel) rfl (fun g => Nat.le_of_ble_eq_true rfl) (fun k C X => ?_)
      exact kb_X6_drop_n C X (sp_bookNo M p hp) ⟨rfl, rfl⟩
    · refine ea_intro (own := RX7) (by decide +kernel) rfl (fun g => Nat.le_of_ble_eq_true rfl) (fun k C X => ?_)
      refine km_drop C X  (fun c => absurd c (pg_no hp)) (fun c => absurd c (pg_no hp)) (fun c _ => absurd c (pg_no hp)) (fun c _ => absurd c (pg_no hp)) (fun _ => ⟨rfl, rfl⟩)
  · obtain ⟨z, hz⟩ : ∃ z, z = 49 + 4 * q := ⟨_, rfl⟩
    have cq : (nI q).toNatClampNeg = q := nI_clamp (by omega)
    have vq : vp_in (nI q) 3 := vp_in_nI hq (by decide)
    have fin : ∀ (N : ea_M) (M' : ea_M), Rel s M N → (∀ a, a < 49 + 4 * q ∨ 52 + 4 * q < a → M' a = M a) → M' z 0 = 0 → M' z 1 = 0 → Rel (sgg s q 0) M' (ea_up N 70 q (-1)) := by
      intro N M' hN h1 h2 h3
      refine Rel_g hN q 0 (fun a ha => h1 a (by omega)) (fun a ha => ea_upR (by omega)) (R_g_one hN.2.2.2.2.1 q 0 h1 (fun p hp => ea_upK hp) (fun a j h1 h2 h3 => by rw [ea_upR (by omega)]) (Or.inl ?_))
      rw [sgg_q, ← hz]
      exact ⟨h2, h3, ea_upS, rfl⟩
    rcases h0.2.2.2.2.1 q hq with ⟨a1, a2, -, -⟩ | ⟨a1, a2, a3, -⟩
    · refine ⟨.int (-2000000011), M, sgg s q 0, ?_, fun a ha => rfl, fun N hN => ⟨ea_up N 70 q (-1), ?_, fun a ha => ea_upR (by omega), fin N M hN (fun _ _ => rfl) (by rw [hz]; exact a1) (by rw [hz]; exact a2)⟩⟩
      · refine ea_intro (own := RX6) (by decide +kernel) rfl (fun g => Nat.le_of_ble_eq_true rfl) (fun k C X => ?_)
        refine kb_X6_drop_b C X (kd_pg q hq) (z := 49 + 4 * q) (M1 := fun _ _ => 0) (sp_bookAt M q hq) (fun c => absurd a1 c) (fun c => absurd a1 c) (fun _ => ⟨rfl, rfl⟩)
      · refine ea_intro (own := RX7) (by decide +kernel) rfl (fun g => Nat.le_of_ble_eq_true rfl) (fun k C X => ?_)
        have c1 : ¬ 0 ≤ N 70 (nI q).toNatClampNeg := by
          rw [cq]
          rcases hN.2.2.2.2.1 q hq with ⟨-, -, b3, -⟩ | ⟨-, b2, -⟩
          · rw [b3]
            decide
          · rw [a1] at b2
            exact absurd b2 (by decide)
        refine km_drop C X  (fun _ => vq) (fun _ => vq) (fun _ c => absurd c c1) (fun _ _ => ⟨rfl, by rw [cq]⟩) (fun c => absurd (pg_yes hq) c)
    · refine ⟨.int (nI (s.g q)), pg_mis M q, sgg s q 0, ?_, fun a ha => ?_, fun N hN => ⟨ea_up N 70 q (-1), ?_, fun a ha => ea_upR (by omega), fin N _ hN (fun a ha => ?_) ?_ ?_⟩⟩
      · refine ea_intro (own := RX6) (by decide +kernel) rfl (fun g => Nat.le_of_ble_eq_true rfl) (fun k C X => ?_)
        have c1 : ¬ M (49 + 4 * q) 0 = 0 := by rw [a2]; decide
        refine kb_X6_drop_b C X (kd_pg q hq) (z := 49 + 4 * q) (sp_bookAt M q hq) (fun _ => sp_X6_missPage M q hq) (fun _ => ⟨by rw [a3], rfl⟩) (fun c => absurd c c1)
      · unfold pg_mis
        rw [ea_upR (by omega), ea_upR (by omega)]
      · refine ea_intro (own := RX7) (by decide +kernel) rfl (fun g => Nat.le_of_ble_eq_true rfl) (fun k C X => ?_)
        have e70 : N 70 q = nI (s.g q) := by
          rcases hN.2.2.2.2.1 q hq with ⟨b1, -⟩ | ⟨-, -, -, b4, -⟩
          · rw [a2] at b1
            exact absurd b1 (by decide)
          · exact b4
        have c1 : 0 ≤ N 70 (nI q).toNatClampNeg := by
          rw [cq, e70]
          exact nI_pos' (by omega)
        refine km_drop C X  (fun _ => vq) (fun _ => vq) (fun _ _ => ⟨by rw [cq, e70], by rw [cq]⟩) (fun _ c => absurd c1 c) (fun c => absurd (pg_yes hq) c)
      · unfold pg_mis
        rw [ea_upR (by omega), ea_upR (by omega)]
      · rw [hz]
        unfold pg_mis
        rw [ea_upK (by decide), ea_upS]
      · rw [hz]
        unfold pg_mis
        rw [ea_upS]

