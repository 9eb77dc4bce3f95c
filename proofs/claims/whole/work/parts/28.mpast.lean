/-! ===== the model's past, extreme, alike, keys, rest ===== -/
/-- what keepPast leaves: u pasts before -/
def kp_r (M N : ea_M) (u : Nat) : Prop := (∀ a, a ≠ 61 → a ≠ 62 → N a = M a) ∧ (∀ f, f ≠ 8 → N 61 f = M 61 f) ∧ N 61 8 = nI (min (u + 1) 8) ∧ (∀ j, j < 16 ∨ 144 ≤ j → N 62 j = M 62 j) ∧ (∀ k, k < 16 → N 62 (16 + 16 * (min u 7) + k) = M 62 k) ∧ ∀ e, e < min u 7 → ∀ k, k < 16 → N 62 (16 + 16 * e + k) = M 62 (16 + 16 * (e + (u - 7)) + k)
theorem pa_segI {M : ea_M} {y a m j : Nat} {f : Nat → Int32} (h1 : a ≤ j) (h2 : j < a + m) : pa_seg M y a f m y j = f (j - a) := by
  simp only [pa_seg, if_true, if_pos (And.intro h1 h2)]
theorem pa_segO {M : ea_M} {y a m j : Nat} {f : Nat → Int32} (h : j < a ∨ a + m ≤ j) : pa_seg M y a f m y j = M y j := by
  have : ¬ (a ≤ j ∧ j < a + m) := by omega
  simp only [pa_seg, if_true, if_neg this]
theorem sp_X7_keepPast {M : ea_M} {u : Nat} (hu : u ≤ 8) (h8 : M 61 8 = nI u) : ∃ N, ea_Sp 1 yX7_keepPast cX7_keepPast 2 none [.ref 61] M none N ∧ kp_r M N u := by
  by_cases hc : u = 8
  · subst hc
    obtain ⟨S, hS⟩ : ∃ S, S = fun i => pa_seg M 62 16 (fun k => M 62 (32 + k)) i := ⟨_, rfl⟩
    have s61 : ∀ i, S i 61 = M 61 := fun i => by rw [hS]; exact pa_segR (by decide)
    refine ⟨ea_up (pa_seg (ea_up (S 112) 61 8 (nI 7)) 62 128 (fun k => ea_up (S 112) 61 8 (nI 7) 62 (0 + k)) 16) 61 8 (nI 8), ?_, ?_⟩
    · refine ea_intro (own := RX7) (by decide +kernel) rfl (fun g => Nat.le_of_ble_eq_true rfl) (fun k C X => ?_)
      have loop : ∀ (m i : Nat), i + m = 112 → ea_E k 2 [(0, .ref 61), (1, .int (nI i))] [] (S i) := by
        intro m
        induction m with
        | zero =>
          intro i hi
          have ei : i = 112 := by omega
          subst ei
          have c1 : (112 : Int32) ≤ nI 112 := by decide
          have c2 : S 112 61 8 = 8 := by rw [s61, h8]; rfl
          have q := sp_X7_copyRow (ea_up (S 112) 61 8 (nI 7)) 0 128 (by decide) (by decide) (by decide)
          have e1 : S 112 61 8 - (1 : Int32) = nI 7 := by rw [c2]; rfl
          have e2 : (16 : Int32) + ((16 : Int32) * nI 7) = nI 128 := by decide
          rw [← e2, ← e1] at q
          refine km_keepPast_2 C X  (M1 := fun _ _ => 0) (M3 := fun _ _ => 0) (M4 := fun _ _ => 0) (fun _ c => absurd c2 c) (fun _ c => absurd c2 c) (fun _ _ => q) (fun _ _ => ?_) (fun c _ _ => absurd c1 c) (fun c _ _ => absurd c1 c) (fun c _ _ => absurd c1 c) (fun c _ _ => absurd c1 c) (fun c _ => absurd c1 c) (fun c _ => absurd c1 c) (fun c _ => absurd c1 c)
          refine ⟨rfl, ?_⟩
          rw [e1, pa_segR (by decide), ea_upS]
          rfl
        | succ m ih =>
          intro i hi
          have c1 : ¬ (112 : Int32) ≤ nI i := nI_ge (b := 112) (show i < 112 by omega) (by decide)
          have c2 : S i 61 8 = 8 := by rw [s61, h8]; rfl
          have e1 : (32 : Int32) + nI i = nI (32 + i) := nI_add 32 i
          have e2 : (16 : Int32) + nI i = nI (16 + i) := nI_add 16 i
          have v1 : vp_in ((32 : Int32) + nI i) 192 := by rw [e1]; exact vp_in_nI (by omega) (by decide)
          have v2 : vp_in ((16 : Int32) + nI i) 192 := by rw [e2]; exact vp_in_nI (by omega) (by decide)
          have hx := ih (i + 1) (by omega)
          refine km_keepPast_2 C X  (M1 := fun _ _ => 0) (M2 := fun _ _ => 0) (M3 := fun _ _ => 0) (M4 := fun _ _ => 0) (fun c _ => absurd c c1) (fun c _ => absurd c c1) (fun c _ => absurd c c1) (fun c _ => absurd c c1) (fun _ c _ => absurd c2 c) (fun _ c _ => absurd c2 c) (fun _ c _ => absurd c2 c) (fun _ c _ => absurd c2 c) (fun _ _ => v1) (fun _ _ => v2) (fun _ _ => ?_)
          have e3 : S i 62 (32 + i) = M 62 (32 + i) := by rw [hS]; exact pa_segO (by omega)
          rw [e1, e2, nI_clamp (by omega), nI_clamp (by omega), e3, nI_1]
          rw [hS] at hx ⊢
          rw [pa_segS rfl]
          exact hx
      have h0 := loop 112 0 (by omega)
      rw [show S 0 = M by rw [hS]; exact pa_seg0 _ _ _ _] at h0
      exact km_keepPast C X h0
    · have s62 : ∀ j, S 112 62 j = if 16 ≤ j ∧ j < 128 then M 62 (32 + (j - 16)) else M 62 j := by
        intro j
        rw [hS]
        simp only [pa_seg, if_true]
      refine ⟨fun a h1 h2 => ?_, fun f hf => ?_, ?_, fun j hj => ?_, fun k hk => ?_, fun e he k hk => ?_⟩
      · rw [ea_upR h1, pa_segR h2, ea_upR h1, hS]
        exact pa_segR h2
      · rw [ea_upK hf, pa_segR (by decide), ea_upK hf, s61]
      · rw [ea_upS]
        rfl
      · rw [ea_upR (by decide), pa_segO (by omega), ea_upR (by decide), s62, if_neg (by omega)]
      · rw [ea_upR (by decide), show 16 + 16 * min 8 7 + k = 128 + k by omega, pa_segI (by omega) (by omega), ea_upR (by decide), s62, if_neg (by omega), show 0 + (128 + k - 128) = k by omega]
      · have e1 : e < 7 := he
        rw [ea_upR (by decide), pa_segO (by omega), ea_upR (by decide), s62, if_pos (by omega), show 32 + (16 + 16 * e + k - 16) = 16 + 16 * (e + (8 - 7)) + k by omega]
  · have h9 : ¬ M 61 8 = 8 := by
      rw [h8]
      exact fun q => hc ((nI_eq (b := 8) (by omega) (by decide)).mp q)
    have hm : min u 7 = u := by omega
    refine ⟨ea_up (pa_seg (ea_up M 61 8 (nI u)) 62 (16 + 16 * u) (fun k => ea_up M 61 8 (nI u) 62 (0 + k)) 16) 61 8 (nI (u + 1)), ?_, ?_⟩
    · refine ea_intro (own := RX7) (by decide +kernel) rfl (fun g => Nat.le_of_ble_eq_true rfl) (fun k C X => ?_)
      have q := sp_X7_copyRow (ea_up M 61 8 (nI u)) 0 (16 + 16 * u) (by decide) (by omega) (by omega)
      have e1 : M 61 8 - (0 : Int32) = nI u := by rw [h8, Int32.sub_zero]
      have e2 : (16 : Int32) + ((16 : Int32) * nI u) = nI (16 + 16 * u) := by rw [show (16 : Int32) = nI 16 from rfl, pk_mul, nI_add]
      rw [← e2, ← e1] at q
      have c1 : ¬ (112 : Int32) ≤ 0 := by decide
      refine km_keepPast C X ?_
      refine km_keepPast_2 C X  (M1 := fun _ _ => 0) (M2 := fun _ _ => 0) (M4 := fun _ _ => 0) (fun c _ => absurd c c1) (fun c _ => absurd c c1) (fun c _ => absurd c c1) (fun c _ => absurd c c1) (fun _ _ _ => q) (fun _ _ _ => ?_) (fun _ _ c => absurd c h9) (fun _ _ c => absurd c h9) (fun _ c => absurd c h9) (fun _ c => absurd c h9) (fun _ c => absurd c h9)
      refine ⟨rfl, ?_⟩
      rw [e1, pa_segR (by decide), ea_upS, nI_1]
    · refine ⟨fun a h1 h2 => ?_, fun f hf => ?_, ?_, fun j hj => ?_, fun k hk => ?_, fun e he k hk => ?_⟩
      · rw [ea_upR h1, pa_segR h2, ea_upR h1]
      · rw [ea_upK hf, pa_segR (by decide), ea_upK hf]
      · rw [ea_upS, show min (u + 1) 8 = u + 1 by omega]
      · rw [ea_upR (by decide), pa_segO (by omega), ea_upR (by decide)]
      · rw [hm, ea_upR (by decide), pa_segI (by omega) (by omega), ea_upR (by decide), show 0 + (16 + 16 * u + k - (16 + 16 * u)) = k by omega]
      · have e1 : e < u := by omega
        rw [ea_upR (by decide), pa_segO (by omega), ea_upR (by decide), show e + (u - 7) = e by omega]
/-- the best cell -/
def xt_h (M : ea_M) (Ch : Nat → Nat) (i b : Nat) : Int32 := M 62 i * nI (Ch b)
theorem sp_X7_extreme {M : ea_M} {nc : Nat} {P Ch : Nat → Nat} (hm : mp_ok M nc P Ch) (w : Int32) (bt : Nat → Nat → Bool) (hb0 : ∀ i b, i < nc → b < nc → w = 0 → (bt i b = true ↔ xt_h M Ch i b < xt_h M Ch b i)) (hb1 : ∀ i b, i < nc → b < nc → ¬ w = 0 → (bt i b = true ↔ xt_h M Ch b i < xt_h M Ch i b)) : ea_Sp 1 yX7_extreme cX7_extreme 6 (some .int) [.ref 61, .int w] M (some (.int (pa_ri (pa_bs bt nc)))) M := by
  refine ea_intro (own := RX7) (by decide +kernel) rfl (fun g => Nat.le_of_ble_eq_true rfl) (fun k C X => ?_)
  have hk := hm.1
  have hn := hm.2.1
  have e0 : ∀ i : Nat, i < 192 → ((0 : Int32) + nI i).toNatClampNeg = i := fun i hi => by rw [Int32.zero_add]; exact nI_clamp (by omega)
  have v0 : ∀ i : Nat, i < 192 → vp_in ((0 : Int32) + nI i) 192 := fun i hi => by rw [Int32.zero_add]; exact vp_in_nI hi (by decide)
  have loop : ∀ (m i : Nat), i + m = nc → ea_E k 4 [(0, .ref 61), (1, .int w), (2, .int (pa_ri (pa_bs bt i))), (3, .int (nI i))] [] M := by
    intro m
    induction m with
    | zero =>
      intro i hi
      have hc : M 61 6 ≤ nI i := by rw [hk]; exact nI_le (by omega) (by omega)
      refine km_extreme_4 C X (r1 := 0) (r2 := 0) (r3 := 0) (fun _ => ⟨by rw [show i = nc by omega], rfl⟩) (fun c _ => absurd hc c) (fun c _ => absurd hc c) (fun c _ _ => absurd hc c) (fun c _ _ => absurd hc c) (fun c _ _ _ => absurd hc c) (fun c _ _ _ _ _ => absurd hc c) (fun c _ _ _ _ _ => absurd hc c) (fun c _ _ _ _ _ => absurd hc c) (fun c _ _ _ _ _ => absurd hc c) (fun c _ _ _ => absurd hc c) (fun c _ _ _ _ _ => absurd hc c) (fun c _ _ _ _ _ => absurd hc c) (fun c _ _ _ _ _ => absurd hc c) (fun c _ _ _ _ _ => absurd hc c) (fun c _ _ => absurd hc c) (fun c _ _ => absurd hc c) (fun c _ _ _ => absurd hc c) (fun c _ _ _ _ _ => absurd hc c) (fun c _ _ _ _ _ => absurd hc c) (fun c _ _ _ _ _ => absurd hc c) (fun c _ _ _ _ _ => absurd hc c) (fun c _ _ _ => absurd hc c) (fun c _ _ _ _ _ => absurd hc c) (fun c _ _ _ _ _ => absurd hc c) (fun c _ _ _ _ _ => absurd hc c) (fun c _ _ _ _ _ => absurd hc c)
    | succ m ih =>
      intro i hi
      have hc : ¬ M 61 6 ≤ nI i := by rw [hk]; exact nI_ge (by omega) (by omega)
      have h2 := ih (i + 1) (by omega)
      rw [pa_bs] at h2
      cases hq : pa_bs bt i with
      | none =>
        rw [hq] at h2
        have rf : pa_ri none = (-1 : Int32) := rfl
        have h3 : ea_E k 4 [(0, .ref 61), (1, .int w), (2, .int (nI i)), (3, .int (nI i + 1))] [] M := by
          rw [nI_1]
          exact h2
        refine km_extreme_4 C X (r1 := 0) (r2 := 0) (r3 := 0) (fun c => absurd c hc) (fun _ c => absurd rf c) (fun _ c => absurd rf c) (fun _ c _ => absurd rf c) (fun _ c _ => absurd rf c) (fun _ c _ _ => absurd rf c) (fun _ c _ _ _ _ => absurd rf c) (fun _ c _ _ _ _ => absurd rf c) (fun _ c _ _ _ _ => absurd rf c) (fun _ c _ _ _ _ => absurd rf c) (fun _ c _ _ => absurd rf c) (fun _ c _ _ _ _ => absurd rf c) (fun _ c _ _ _ _ => absurd rf c) (fun _ c _ _ _ _ => absurd rf c) (fun _ c _ _ _ _ => absurd rf c) (fun _ _ c => absurd rf c) (fun _ _ c => absurd rf c) (fun _ _ c _ => absurd rf c) (fun _ _ c _ _ _ => absurd rf c) (fun _ _ c _ _ _ => absurd rf c) (fun _ _ c _ _ _ => absurd rf c) (fun _ _ c _ _ _ => absurd rf c) (fun _ _ _ _ => h3) (fun _ _ _ c _ _ => absurd rf c) (fun _ _ _ c _ _ => absurd rf c) (fun _ _ _ c _ _ => absurd rf c) (fun _ _ _ c _ _ => absurd rf c)
      | some b =>
        have hb := pa_bs_lt i b hq
        rw [hq] at h2
        have hne : ¬ nI b = (-1 : Int32) := pa_rim b (by omega)
        have sb := sp_X7_holdsOf hm (show b < nc by omega)
        have si := sp_X7_holdsOf hm (show i < nc by omega)
        have yes : bt i b = true → ea_E k 4 [(0, .ref 61), (1, .int w), (2, .int (nI i)), (3, .int (nI i + 1))] [] M := by
          intro z
          simp only [z, if_true] at h2
          rw [nI_1]
          exact h2
        have no : ¬ bt i b = true → ea_E k 4 [(0, .ref 61), (1, .int w), (2, .int (nI b)), (3, .int (nI i + 1))] [] M := by
          intro z
          simp only [if_neg z] at h2
          rw [nI_1]
          exact h2
        by_cases hw : w = 0
        · have hbt := hb0 i b (by omega) (by omega) hw
          refine km_extreme_4 C X (r1 := nI (Ch b)) (r2 := nI (Ch i)) (r3 := 0) (fun c => absurd c hc) (fun _ _ => v0 i (by omega)) (fun _ _ => sb) (fun _ _ _ => v0 b (by omega)) (fun _ _ _ => si) (fun _ _ _ c => absurd c hne) (fun _ _ _ _ _ c5 => ?_) (fun _ _ _ _ _ c5 => ?_) (fun _ _ _ _ c _ => absurd hw c) (fun _ _ _ _ c _ => absurd hw c) (fun _ _ c _ => absurd c hne) (fun _ _ c _ _ _ => absurd c hne) (fun _ _ c _ _ _ => absurd c hne) (fun _ _ c _ _ _ => absurd c hne) (fun _ _ c _ _ _ => absurd c hne) (fun _ c _ => absurd c hne) (fun _ c _ => absurd c hne) (fun _ c _ _ => absurd c hne) (fun _ c _ _ _ _ => absurd c hne) (fun _ c _ _ _ _ => absurd c hne) (fun _ c _ _ _ _ => absurd c hne) (fun _ c _ _ _ _ => absurd c hne) (fun _ c _ _ => absurd c hne) (fun _ c _ _ _ _ => absurd c hne) (fun _ c _ _ _ _ => absurd c hne) (fun _ c _ _ _ _ => absurd c hne) (fun _ c _ _ _ _ => absurd c hne)
          · refine no (fun z => ?_)
            have c := c5
            rw [show pa_ri (some b) = nI b from rfl, e0 i (by omega), e0 b (by omega)] at c
            exact Int32.not_lt.mpr c (hbt.mp z)
          · refine yes (hbt.mpr ?_)
            have c := c5
            rw [show pa_ri (some b) = nI b from rfl, e0 i (by omega), e0 b (by omega)] at c
            exact Int32.not_le.mp c
        · have hbt := hb1 i b (by omega) (by omega) hw
          refine km_extreme_4 C X (r1 := nI (Ch b)) (r2 := nI (Ch i)) (r3 := 0) (fun c => absurd c hc) (fun _ _ => v0 i (by omega)) (fun _ _ => sb) (fun _ _ _ => v0 b (by omega)) (fun _ _ _ => si) (fun _ _ _ c => absurd c hne) (fun _ _ _ _ c _ => absurd c hw) (fun _ _ _ _ c _ => absurd c hw) (fun _ _ _ _ _ c5 => ?_) (fun _ _ _ _ _ c5 => ?_) (fun _ _ c _ => absurd c hne) (fun _ _ c _ _ _ => absurd c hne) (fun _ _ c _ _ _ => absurd c hne) (fun _ _ c _ _ _ => absurd c hne) (fun _ _ c _ _ _ => absurd c hne) (fun _ c _ => absurd c hne) (fun _ c _ => absurd c hne) (fun _ c _ _ => absurd c hne) (fun _ c _ _ _ _ => absurd c hne) (fun _ c _ _ _ _ => absurd c hne) (fun _ c _ _ _ _ => absurd c hne) (fun _ c _ _ _ _ => absurd c hne) (fun _ c _ _ => absurd c hne) (fun _ c _ _ _ _ => absurd c hne) (fun _ c _ _ _ _ => absurd c hne) (fun _ c _ _ _ _ => absurd c hne) (fun _ c _ _ _ _ => absurd c hne)
          · refine no (fun z => ?_)
            have c := c5
            rw [show pa_ri (some b) = nI b from rfl, e0 i (by omega), e0 b (by omega)] at c
            exact Int32.not_lt.mpr c (hbt.mp z)
          · refine yes (hbt.mpr ?_)
            have c := c5
            rw [show pa_ri (some b) = nI b from rfl, e0 i (by omega), e0 b (by omega)] at c
            exact Int32.not_le.mp c
  exact km_extreme C X (loop nc 0 (by omega))

