/-! ===== the model's alike, keys, rest ===== -/
theorem pa_sumC {f g : Nat → Int32} : ∀ c, (∀ j, j < c → f j = g j) → pa_sum f c = pa_sum g c := by
  intro c
  induction c with
  | zero => intro _; rfl
  | succ c ih =>
    intro h
    rw [pa_sum, pa_sum, ih (fun j hj => h j (by omega)), h c (by omega)]
theorem pa_sumA (f g : Nat → Int32) : ∀ c, pa_sum (fun j => f j + g j) c = pa_sum f c + pa_sum g c := by
  intro c
  induction c with
  | zero => rfl
  | succ c ih =>
    rw [pa_sum, pa_sum, pa_sum, ih]
    rw [Int32.add_assoc, Int32.add_assoc, ← Int32.add_assoc (pa_sum g c), Int32.add_comm (pa_sum g c) (f c), Int32.add_assoc]
def pr_b (p : Nat → Nat → Bool) (i j : Nat) : Int32 := if p i j = true then 1 else 0
theorem pr_eq (p : Nat → Nat → Bool) (hp : ∀ i j, p i j = p j i) : ∀ n, pa_pr p n = pa_sum (fun i => pa_sum (pr_b p i) i) n := by
  intro n
  induction n with
  | zero => rfl
  | succ n ih =>
    show pa_sum (fun i => pa_sum (fun j => if i < j ∧ p i j = true then (1 : Int32) else 0) (n + 1)) n + pa_sum (fun j => if n < j ∧ p n j = true then (1 : Int32) else 0) (n + 1) = pa_sum (fun i => pa_sum (pr_b p i) i) n + pa_sum (pr_b p n) n
    have h1 : pa_sum (fun j => if n < j ∧ p n j = true then (1 : Int32) else 0) (n + 1) = 0 := pa_sum0 (n + 1) (fun j hj => if_neg (fun z => by omega))
    have h2 : pa_sum (fun i => pa_sum (fun j => if i < j ∧ p i j = true then (1 : Int32) else 0) (n + 1)) n = pa_sum (fun i => pa_sum (fun j => if i < j ∧ p i j = true then (1 : Int32) else 0) n + pr_b p n i) n := by
      refine pa_sumC n (fun i hi => ?_)
      rw [pa_sum]
      congr 1
      unfold pr_b
      rw [hp n i]
      by_cases z : p i n = true
      · rw [if_pos z, if_pos ⟨hi, z⟩]
      · rw [if_neg z, if_neg (fun q => z q.2)]
    rw [h1, h2, pa_sumA, Int32.add_zero]
    show pa_pr p n + _ = _
    rw [ih]
theorem sp_X7_alike {M : ea_M} {nc : Nat} (hk : M 61 6 = nI nc) (hn : nc ≤ 10) : ea_Sp 0 yX7_alike cX7_alike 4 (some .int) [.ref 61] M (some (.int (pa_pr (fun i j => decide (M 67 i = M 67 j ∧ M 62 i = M 62 j)) nc))) M := by
  obtain ⟨p, hp⟩ : ∃ p : Nat → Nat → Bool, p = (fun i j => decide (M 67 i = M 67 j ∧ M 62 i = M 62 j)) := ⟨_, rfl⟩
  rw [← hp, pr_eq p (fun i j => by rw [hp]; exact decide_eq_decide.mpr ⟨fun z => ⟨z.1.symm, z.2.symm⟩, fun z => ⟨z.1.symm, z.2.symm⟩⟩)]
  refine ea_intro (own := RX7) (by decide +kernel) rfl (fun g => Nat.le_of_ble_eq_true rfl) (fun k C X => ?_)
  have hpe : ∀ i j, p i j = true ↔ (M 67 i = M 67 j ∧ M 62 i = M 62 j) := fun i j => by rw [hp]; exact decide_eq_true_iff
  have outer : ∀ (m i : Nat), i + m = nc → ea_E k 4 [(0, .ref 61), (1, .int (pa_sum (fun i => pa_sum (pr_b p i) i) i)), (2, .int (nI i))] [] M := by
    intro m
    induction m with
    | zero =>
      intro i hi
      have hc : M 61 6 ≤ nI i := by rw [hk]; exact nI_le (by omega) (by omega)
      refine km_alike_4 C X  (fun _ => ⟨by rw [show i = nc by omega], rfl⟩) (fun c => absurd hc c)
    | succ m ih =>
      intro i hi
      have hc : ¬ M 61 6 ≤ nI i := by rw [hk]; exact nI_ge (by omega) (by omega)
      have inner : ∀ (q j : Nat), j + q = i → ea_E k 14 [(0, .ref 61), (1, .int (pa_sum (fun i => pa_sum (pr_b p i) i) i + pa_sum (pr_b p i) j)), (2, .int (nI i)), (3, .int (nI j))] [] M := by
        intro q
        induction q with
        | zero =>
          intro j hj
          have hc2 : nI i ≤ nI j := nI_le (by omega) (by omega)
          refine km_alike_14 C X  (fun _ => ?_) (fun c => absurd hc2 c) (fun c => absurd hc2 c) (fun c _ => absurd hc2 c) (fun c _ => absurd hc2 c) (fun c _ => absurd hc2 c) (fun c _ _ => absurd hc2 c) (fun c _ _ => absurd hc2 c)
          have := ih (i + 1) (by omega)
          rw [show j = i by omega, nI_1]
          exact this
        | succ q ihq =>
          intro j hj
          have hc2 : ¬ nI i ≤ nI j := nI_ge (by omega) (by omega)
          have h3 := ihq (j + 1) (by omega)
          have e3 : pa_sum (pr_b p i) (j + 1) = pa_sum (pr_b p i) j + pr_b p i j := rfl
          rw [e3, ← Int32.add_assoc] at h3
          have ei : (nI i).toNatClampNeg = i := nI_clamp (by omega)
          have ej : (nI j).toNatClampNeg = j := nI_clamp (by omega)
          have zi : ((0 : Int32) + nI i).toNatClampNeg = i := by rw [Int32.zero_add, ei]
          have zj : ((0 : Int32) + nI j).toNatClampNeg = j := by rw [Int32.zero_add, ej]
          have vi : vp_in ((0 : Int32) + nI i) 192 := by rw [Int32.zero_add]; exact vp_in_nI (by omega) (by decide)
          have vj : vp_in ((0 : Int32) + nI j) 192 := by rw [Int32.zero_add]; exact vp_in_nI (by omega) (by decide)
          refine km_alike_14 C X  (fun c => absurd c hc2) (fun _ => vp_in_nI (by omega) (by decide)) (fun _ => vp_in_nI (by omega) (by decide)) (fun _ c1 => ?_) (fun _ _ => vi) (fun _ _ => vj) (fun _ c1 c2 => ?_) (fun _ c1 c2 => ?_)
          · rw [ei, ej] at c1
            have e4 : pr_b p i j = 0 := if_neg (fun z => c1 ((hpe i j).mp z).1)
            rw [e4] at h3
            rw [nI_1]
            exact h3
          · rw [zi, zj] at c2
            have e4 : pr_b p i j = 0 := if_neg (fun z => c2 ((hpe i j).mp z).2)
            rw [e4] at h3
            rw [nI_1]
            exact h3
          · rw [ei, ej] at c1
            rw [zi, zj] at c2
            have e4 : pr_b p i j = 1 := if_pos ((hpe i j).mpr ⟨c1, c2⟩)
            rw [e4] at h3
            rw [nI_1]
            exact h3
      have h5 := inner i 0 (by omega)
      have e5 : pa_sum (pr_b p i) 0 = 0 := rfl
      rw [e5, Int32.add_zero] at h5
      refine km_alike_4 C X  (fun c => absurd c hc) (fun _ => h5)
  exact km_alike C X (outer nc 0 (by omega))
theorem sp_X7_allKeys (M : ea_M) : ea_Sp 0 yX7_allKeys cX7_allKeys 3 (some .int) [.ref 61] M (some (.int (pa_sum (fun t => if 0 ≤ M 70 t then M 70 t else 0) 3))) M := by
  refine ea_intro (own := RX7) (by decide +kernel) rfl (fun g => Nat.le_of_ble_eq_true rfl) (fun k C X => ?_)
  have loop : ∀ (m i : Nat), i + m = 3 → ea_E k 4 [(0, .ref 61), (1, .int (pa_sum (fun t => if 0 ≤ M 70 t then M 70 t else 0) i)), (2, .int (nI i))] [] M := by
    intro m
    induction m with
    | zero =>
      intro i hi
      have hc : (3 : Int32) ≤ nI i := by rw [show i = 3 by omega]; decide
      refine km_allKeys_4 C X  (fun _ => ⟨by rw [show i = 3 by omega], rfl⟩) (fun c => absurd hc c) (fun c _ => absurd hc c) (fun c _ => absurd hc c) (fun c _ => absurd hc c)
    | succ m ih =>
      intro i hi
      have hc : ¬ (3 : Int32) ≤ nI i := nI_ge (b := 3) (show i < 3 by omega) (by decide)
      have h2 := ih (i + 1) (by omega)
      rw [pa_sum] at h2
      have e : (nI i).toNatClampNeg = i := nI_clamp (by omega)
      refine km_allKeys_4 C X  (fun c => absurd c hc) (fun _ => vp_in_nI (by omega) (by decide)) (fun _ _ => vp_in_nI (by omega) (by decide)) (fun _ c1 => ?_) (fun _ c1 => ?_)
      · rw [e] at c1
        rw [if_pos c1] at h2
        rw [e, nI_1]
        exact h2
      · rw [e] at c1
        rw [if_neg c1] at h2
        rw [nI_1]
        exact h2
  exact km_allKeys C X (loop 3 0 (by omega))
def rs_ab (P : Nat → Nat) (c nc l r : Nat) : Nat := r * (rs_all P nc - rs_rt P c nc) + l * rs_rt P c nc
theorem rs_pos {P : Nat → Nat} {nc : Nat} (h0 : 0 < nc) (hP : ∀ i, i < nc → 1 ≤ P i ∧ P i ≤ 20) : 0 < rs_all P nc := by
  obtain ⟨n, rfl⟩ : ∃ n, nc = n + 1 := ⟨nc - 1, by omega⟩
  obtain ⟨h1, h2⟩ := hP n (by omega)
  have h3 : 232792560 / 20 ≤ 232792560 / P n := Nat.div_le_div_left h2 h1
  show 0 < rs_all P n + 2 * (232792560 / P n)
  omega
theorem rs_bd {P : Nat → Nat} {c nc l r : Nat} (hn : nc ≤ 10) (hl : l ≤ 999) (hr : r ≤ 999) : rs_all P nc ≤ 4655851200 ∧ rs_ab P c nc l r < 2 ^ 62 := by
  have h1 := rs_all_le (P := P) nc
  have h2 := rs_le P c nc
  have h3 := Nat.mul_le_mul hn (Nat.le_refl 465585120)
  have h4 := Nat.mul_le_mul hr (show rs_all P nc - rs_rt P c nc ≤ 4655851200 by omega)
  have h5 := Nat.mul_le_mul hl (show rs_rt P c nc ≤ 4655851200 by omega)
  unfold rs_ab
  omega
theorem sp_X7_rest {M : ea_M} {nc c l r : Nat} {P Ch : Nat → Nat} (hm : mp_ok M nc P Ch) (hc : c < nc) (hl : M 62 10 = nI l) (hr : M 62 11 = nI r) (hl9 : l ≤ 999) (hr9 : r ≤ 999) (part : Int32) (hpt : p_X7_in part.toInt64 0 1) : ea_Sp 2 yX7_rest cX7_rest 10 (some .long) [.ref 61, .int (nI c), .int part] M (some (.long (lN ((if part = 0 then rs_ab P c nc l r else rs_all P nc) / Nat.gcd (rs_ab P c nc l r) (rs_all P nc))))) M := by
  refine ea_intro (own := RX7) (by decide +kernel) rfl (fun g => Nat.le_of_ble_eq_true rfl) (fun k C X => ?_)
  have hk := hm.1
  have hn := hm.2.1
  have hP := mp_PC hm
  have isc : p_X7_isCell M (nI c) := (mi_cell hk hn).mpr ⟨c, hc, rfl⟩
  obtain ⟨b1, b2⟩ := rs_bd (P := P) (c := c) hn hl9 hr9
  have loop : ∀ (m i : Nat), i + m = nc → ea_E k 34 [(0, .ref 61), (1, .int (nI c)), (2, .int part), (3, .long (lN (rs_all P i))), (5, .long (lN (rs_rt P c i))), (7, .int (nI i))] [] M := by
    intro m
    induction m with
    | zero =>
      intro i hi
      have ei : i = nc := by omega
      subst ei
      have hc : M 61 6 ≤ nI i := by rw [hk]; exact nI_le (by omega) (by omega)
      have q := sp_X7_told M (rs_ab P c i l r) (rs_all P i) part (by omega) (by omega) (rs_pos (by omega) (fun i hi => (hP i hi).1))
      unfold rs_ab at q
      rw [← rs_num l r _ _ (rs_le P c i) hl9 hr9, ← hl, ← hr] at q
      refine km_rest_34 C X  (r2 := 0) (fun _ => q) (fun _ => ⟨rfl, rfl⟩) (fun c => absurd hc c) (fun c => absurd hc c) (fun c _ _ => absurd hc c) (fun c _ _ => absurd hc c) (fun c _ => absurd hc c)
    | succ m ih =>
      intro i hi
      have hc2 : ¬ M 61 6 ≤ nI i := by rw [hk]; exact nI_ge (by omega) (by omega)
      have h2 := ih (i + 1) (by omega)
      obtain ⟨⟨p1, p2⟩, -⟩ := hP i (by omega)
      have ne : ¬ (nI (P i)).toInt64 = 0 := by
        rw [nI_l (by omega)]
        exact fun q => absurd (pa_l0 (by omega) q) (by omega)
      have ev : (465585120 : Int64) / (nI (P i)).toInt64 = lN (2 * (232792560 / P i)) := by
        rw [nI_l (by omega), show (465585120 : Int64) = lN 465585120 from rfl, pk_lDiv (by decide) (by omega) (by omega), rs_dv _ p2 p1]
      have hd := Nat.div_le_self 232792560 (P i)
      have eh : lN (2 * (232792560 / P i)) / (2 : Int64) = lN (232792560 / P i) := by
        rw [show (2 : Int64) = lN 2 from rfl, pk_lDiv (by omega) (by decide) (by decide), Nat.mul_div_cancel_left _ (by decide)]
      have ea : rs_all P (i + 1) = rs_all P i + 2 * (232792560 / P i) := rfl
      have er : rs_rt P c (i + 1) = rs_rt P c i + (if c < i then 2 * (232792560 / P i) else if i = c then 232792560 / P i else 0) := rfl
      rw [ea] at h2
      have sp := sp_X7_passesOf hm (show i < nc by omega)
      refine km_rest_34 C X  (r1 := 0) (fun c => absurd c hc2) (fun c => absurd c hc2) (fun _ => sp) (fun _ => ne) (fun _ c1 c2 => ?_) (fun _ c1 c2 => ?_) (fun _ c1 => ?_)
      · have q1 := (nI_leI (by omega) (by omega)).mp c1
        have q2 : ¬ i = c := fun z => c2 (by rw [z])
        rw [er, if_neg (by omega), if_neg q2] at h2
        rw [ev, lN_add, nI_1, Int64.add_zero]
        exact h2
      · have q1 := (nI_leI (by omega) (by omega)).mp c1
        have q2 : i = c := (nI_eq (by omega) (by omega)).mp c2
        rw [er, if_neg (by omega), if_pos q2] at h2
        rw [ev, eh, lN_add, lN_add, nI_1]
        exact h2
      · have q1 : ¬ i ≤ c := fun z => c1 (nI_le z (by omega))
        rw [er, if_pos (by omega)] at h2
        rw [ev, lN_add, lN_add, nI_1]
        exact h2
  refine km_rest C X  (fun _ _ => loop nc 0 (by omega)) (fun _ c => absurd hpt c) (fun c => absurd isc c)


