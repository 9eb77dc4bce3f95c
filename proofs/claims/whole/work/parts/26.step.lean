/-! ===== the model's step ===== -/
theorem mp_cg {M N : ea_M} {nc : Nat} {P Ch : Nat → Nat} (h : mp_ok M nc P Ch) (a : N 61 = M 61) (b : N 67 = M 67) (c : N 63 = M 63) (d : N 64 = M 64) : mp_ok N nc P Ch := by
  unfold mp_ok
  rw [a, b, c, d]
  exact h
theorem mr_cg {M N : ea_M} {b nc l r t : Nat} {h : Nat → Nat} (H : mr_ok M b nc h l r t) (e : N 62 = M 62) : mr_ok N b nc h l r t := by
  unfold mr_ok
  rw [e]
  exact H
def st_g (M : ea_M) (b : Nat) (F : Nat → Int32) : Nat → Int32 := fun j => M 62 (b + j) + F j - F (j + 1)
def st_ok (M : ea_M) (b nc : Nat) (F : Nat → Int32) : Prop := ∀ j, j < nc → p_X6_isHeat (st_g M b F j)
def st_M1 (M : ea_M) (nc : Nat) (F : Nat → Int32) : ea_M := pa_row M 78 F (nc + 1)
def st_N (M : ea_M) (b nc : Nat) (F : Nat → Int32) (i : Nat) : ea_M := pa_seg (st_M1 M nc F) 62 b (st_g M b F) i
def st_adv (M : ea_M) (b nc : Nat) (F : Nat → Int32) : ea_M := ea_up (ea_up (ea_up (st_N M b nc F nc) 62 (b + 13) (M 62 (b + 13) + F 0)) 62 (b + 14) (M 62 (b + 14) + F nc)) 62 (b + 15) (M 62 (b + 15) + 1)
theorem st_heat (v : Int32) : p_X7_in v.toInt64 0 20000 ↔ p_X6_isHeat v := by
  rw [show (0 : Int64) = (0 : Int32).toInt64 from rfl, show (20000 : Int64) = (20000 : Int32).toInt64 from rfl]
  exact in_i v 0 20000
theorem st_fl {M : ea_M} {nc b l r t : Nat} {P Ch h : Nat → Nat} {k : ea_K} {o : Option Value} {M' : ea_M} (C : ea_C k RX7 cX7_steps 4 2) (X : ea_X k (some .boolean) o M') (hm : mp_ok M nc P Ch) (H : fl_ok P Ch h l r t nc) (hR : mr_ok M b nc h l r t) (h' : ea_E k 32 [(0, .ref 61), (1, .int (nI b)), (2, .int 1), (3, .int 0)] [] (st_M1 M nc (fl_I P Ch h l r t nc))) : ea_E k 0 [(0, .ref 61), (1, .int (nI b))] [] M := by
  obtain ⟨F, hF⟩ : ∃ F, F = fl_I P Ch h l r t nc := ⟨_, rfl⟩
  have hk := hm.1
  have hn := hm.2.1
  have loop : ∀ (m i : Nat), i + m = nc + 1 → ea_E k 4 [(0, .ref 61), (1, .int (nI b)), (2, .int 1), (3, .int (nI i))] [] (pa_row M 78 F i) := by
    intro m
    induction m with
    | zero =>
      intro i hi
      have e0 : pa_row M 78 F i 61 = M 61 := pa_rowR (by decide)
      have hc : pa_row M 78 F i 61 6 < nI i := by rw [e0, hk]; exact nI_lt (by omega) (by omega)
      refine km_steps_4 C X (r1 := 0) (fun _ => ?_) (fun c => absurd hc c) (fun c => absurd hc c) (fun c => absurd hc c)
      rw [show i = nc + 1 by omega, hF]
      exact h'
    | succ m ih =>
      intro i hi
      have e0 : pa_row M 78 F i 61 = M 61 := pa_rowR (by decide)
      have hc : ¬ pa_row M 78 F i 61 6 < nI i := by rw [e0, hk]; exact nI_nlt (by omega) (by omega)
      have q := sp_X7_flowAt (M := pa_row M 78 F i) (mp_cg hm e0 (pa_rowR (by decide)) (pa_rowR (by decide)) (pa_rowR (by decide))) H (mr_cg hR (pa_rowR (by decide))) (show i ≤ nc by omega)
      rw [← hF] at q
      refine km_steps_4 C X  (fun c => absurd c hc) (fun _ => q) (fun _ => vp_in_nI (by omega) (by decide)) (fun _ => ?_)
      rw [nI_clamp (by omega), pa_rowS rfl, nI_1]
      exact ih (i + 1) (by omega)
  have h0 := loop (nc + 1) 0 (by omega)
  rw [pa_row0] at h0
  exact km_steps C X h0
section STP
variable {M : ea_M} {nc b l r t : Nat} {P Ch h : Nat → Nat}
theorem st_N62 {F : Nat → Int32} {i j : Nat} (hj : i ≤ j) : st_N M b nc F i 62 (b + j) = M 62 (b + j) := by
  have : ¬ (b ≤ b + j ∧ b + j < b + i) := by omega
  unfold st_N st_M1
  simp only [pa_seg, if_true, if_neg this]
  rw [pa_rowR (by decide)]
theorem st_N78 {F : Nat → Int32} {i j : Nat} (hj : j ≤ nc) : st_N M b nc F i 78 j = F j := by
  unfold st_N st_M1
  rw [pa_segR (by decide), pa_rowI (by omega)]
theorem st_NR {F : Nat → Int32} {i a : Nat} (h1 : a ≠ 62) (h2 : a ≠ 78) : st_N M b nc F i a = M a := by
  unfold st_N st_M1
  rw [pa_segR h1, pa_rowR h2]
theorem sp_st1 (hm : mp_ok M nc P Ch) (H : fl_ok P Ch h l r t nc) (hR : mr_ok M b nc h l r t) (hok : st_ok M b nc (fl_I P Ch h l r t nc)) : ea_Sp 2 yX7_steps cX7_steps 4 (some .boolean) [.ref 61, .int (nI b)] M (some (.int 1)) (st_adv M b nc (fl_I P Ch h l r t nc)) := by
  refine ea_intro (own := RX7) (by decide +kernel) rfl (fun g => Nat.le_of_ble_eq_true rfl) (fun k C X => ?_)
  refine st_fl C X hm H hR ?_
  obtain ⟨F, hF⟩ : ∃ F, F = fl_I P Ch h l r t nc := ⟨_, rfl⟩
  rw [← hF] at X hok ⊢
  have hk := hm.1
  have hn := hm.2.1
  have hb : b ≤ 176 := by
    obtain ⟨q, -⟩ := hR
    omega
  have ci : ∀ j, j < 192 → (nI j).toNatClampNeg = j := fun j hj => nI_clamp (by omega)
  have eb : ∀ i : Nat, nI b + (0 : Int32) + nI i = nI (b + i) := fun i => by rw [Int32.add_zero, nI_add]
  have e13 : nI b + (13 : Int32) = nI (b + 13) := nI_add b 13
  have e14 : nI b + (14 : Int32) = nI (b + 14) := nI_add b 14
  have e15 : nI b + (15 : Int32) = nI (b + 15) := nI_add b 15
  have s13 : vp_in (nI b + (13 : Int32)) 192 := by rw [e13]; exact vp_in_nI (by omega) (by decide)
  have s14 : vp_in (nI b + (14 : Int32)) 192 := by rw [e14]; exact vp_in_nI (by omega) (by decide)
  have s15 : vp_in (nI b + (15 : Int32)) 192 := by rw [e15]; exact vp_in_nI (by omega) (by decide)
  have ne : ¬ (1 : Int32) = 0 := by decide
  have l3 : ∀ (m i : Nat), i + m = nc → ea_E k 95 [(0, .ref 61), (1, .int (nI b)), (2, .int 1), (3, .int (nI i))] [] (st_N M b nc F i) := by
    intro m
    induction m with
    | zero =>
      intro i hi
      have hin : i = nc := by omega
      subst hin
      have e0 : st_N M b i F i 61 = M 61 := st_NR (by decide) (by decide)
      have hc : st_N M b i F i 61 6 ≤ nI i := by rw [e0, hk]; exact nI_le (by omega) (by omega)
      have sk : vp_in (st_N M b i F i 61 6) 11 := by rw [e0, hk]; exact vp_in_nI (by omega) (by decide)
      refine km_steps_95 C X  (fun _ c => absurd c ne) (fun _ c => absurd c ne) (fun _ _ => s13) (fun _ _ => s13) (fun _ _ => s14) (fun _ _ => sk) (fun _ _ => s14) (fun _ _ => s15) (fun _ _ => s15) (fun _ _ => ?_) (fun _ _ => Or.inr rfl) (fun c _ _ => absurd hc c) (fun c _ _ => absurd hc c) (fun c _ _ => absurd hc c) (fun c _ _ => absurd hc c) (fun c _ _ => absurd hc c) (fun c _ _ => absurd hc c) (fun c _ _ => absurd hc c) (fun c _ _ => absurd hc c) (fun c _ _ => absurd hc c) (fun c _ _ => absurd hc c) (fun c _ _ => absurd hc c) (fun c _ => absurd hc c) (fun c _ => absurd hc c) (fun c _ => absurd hc c) (fun c _ => absurd hc c) (fun c _ => absurd hc c)
      refine ⟨rfl, ?_⟩
      rw [e0, hk, e13, e14, e15, ci (b + 13) (by omega), ci (b + 14) (by omega), ci (b + 15) (by omega), ci i (by omega), ea_upK (show b + 14 ≠ b + 13 by omega), ea_upK (show b + 15 ≠ b + 14 by omega), ea_upK (show b + 15 ≠ b + 13 by omega), st_N62 (by omega), st_N62 (by omega), st_N62 (by omega), st_N78 (by omega), st_N78 (by omega)]
      rfl
    | succ m ih =>
      intro i hi
      have e0 : st_N M b nc F i 61 = M 61 := st_NR (by decide) (by decide)
      have hc : ¬ st_N M b nc F i 61 6 ≤ nI i := by rw [e0, hk]; exact nI_ge (by omega) (by omega)
      have sb : vp_in (nI b + (0 : Int32) + nI i) 192 := by rw [eb]; exact vp_in_nI (by omega) (by decide)
      have s1 : vp_in (nI i + (1 : Int32)) 11 := by rw [nI_1]; exact vp_in_nI (by omega) (by decide)
      have hx := ih (i + 1) (by omega)
      refine km_steps_95 C X  (fun c _ => absurd c hc) (fun c _ => absurd c hc) (fun c _ => absurd c hc) (fun c _ => absurd c hc) (fun c _ => absurd c hc) (fun c _ => absurd c hc) (fun c _ => absurd c hc) (fun c _ => absurd c hc) (fun c _ => absurd c hc) (fun c _ => absurd c hc) (fun c _ => absurd c hc) (fun _ c _ => absurd c ne) (fun _ c _ => absurd c ne) (fun _ c _ => absurd c ne) (fun _ c _ => absurd c ne) (fun _ c _ => absurd c ne) (fun _ c _ => absurd c ne) (fun _ c _ => absurd c ne) (fun _ c _ => absurd c ne) (fun _ c _ => absurd c ne) (fun _ c _ => absurd c ne) (fun _ c _ => absurd c ne) (fun _ _ => sb) (fun _ _ => vp_in_nI (by omega) (by decide)) (fun _ _ => s1) (fun _ _ => sb) (fun _ _ => ?_)
      rw [eb, show nI i + (1 : Int32) = nI (i + 1) from nI_1 i, ci (b + i) (by omega), ci i (by omega), ci (i + 1) (by omega), st_N62 (by omega), st_N78 (by omega), st_N78 (by omega)]
      have eg : M 62 (b + i) + (F i - F (i + 1)) = st_g M b F i := by
        unfold st_g
        rw [Int32.sub_eq_add_neg, Int32.sub_eq_add_neg, Int32.add_assoc]
      rw [st_N, pa_segS eg]
      exact hx
  have h3 := l3 nc 0 (by omega)
  rw [st_N, pa_seg0] at h3
  have e0 : st_M1 M nc F 61 = M 61 := pa_rowR (by decide)
  have e62 : st_M1 M nc F 62 = M 62 := pa_rowR (by decide)
  have e78 : ∀ j, j ≤ nc → st_M1 M nc F 78 j = F j := fun j hj => pa_rowI (by omega)
  have l2 : ∀ (m i : Nat), i + m = nc → ea_E k 32 [(0, .ref 61), (1, .int (nI b)), (2, .int 1), (3, .int (nI i))] [] (st_M1 M nc F) := by
    intro m
    induction m with
    | zero =>
      intro i hi
      have hc : st_M1 M nc F 61 6 ≤ nI i := by rw [e0, hk]; exact nI_le (by omega) (by omega)
      refine km_steps_32 C X  (fun _ => h3) (fun c _ => absurd hc c) (fun c _ => absurd hc c) (fun c _ => absurd hc c) (fun c _ => absurd hc c) (fun c _ _ => absurd hc c) (fun c _ _ => absurd hc c)
    | succ m ih =>
      intro i hi
      have hc : ¬ st_M1 M nc F 61 6 ≤ nI i := by rw [e0, hk]; exact nI_ge (by omega) (by omega)
      have sb : vp_in (nI b + (0 : Int32) + nI i) 192 := by rw [eb]; exact vp_in_nI (by omega) (by decide)
      have s1 : vp_in (nI i + (1 : Int32)) 11 := by rw [nI_1]; exact vp_in_nI (by omega) (by decide)
      have hq : p_X7_in ((st_M1 M nc F 62 (nI b + 0 + nI i).toNatClampNeg + st_M1 M nc F 78 (nI i).toNatClampNeg - st_M1 M nc F 78 (nI i + 1).toNatClampNeg)).toInt64 0 20000 := by
        rw [eb, nI_1, ci (b + i) (by omega), ci i (by omega), ci (i + 1) (by omega), e62, e78 i (by omega), e78 (i + 1) (by omega), st_heat]
        exact hok i (by omega)
      refine km_steps_32 C X  (fun c => absurd c hc) (fun _ c => absurd c ne) (fun _ _ => sb) (fun _ _ => vp_in_nI (by omega) (by decide)) (fun _ _ => s1) (fun _ _ c => absurd hq c) (fun _ _ _ => ?_)
      rw [nI_1]
      exact ih (i + 1) (by omega)
  exact l2 nc 0 (by omega)
theorem sp_st0 (hm : mp_ok M nc P Ch) (H : fl_ok P Ch h l r t nc) (hR : mr_ok M b nc h l r t) (hok : ¬ st_ok M b nc (fl_I P Ch h l r t nc)) : ea_Sp 2 yX7_steps cX7_steps 4 (some .boolean) [.ref 61, .int (nI b)] M (some (.int 0)) (st_M1 M nc (fl_I P Ch h l r t nc)) := by
  refine ea_intro (own := RX7) (by decide +kernel) rfl (fun g => Nat.le_of_ble_eq_true rfl) (fun k C X => ?_)
  refine st_fl C X hm H hR ?_
  obtain ⟨F, hF⟩ : ∃ F, F = fl_I P Ch h l r t nc := ⟨_, rfl⟩
  rw [← hF] at X hok ⊢
  have hk := hm.1
  have hn := hm.2.1
  have hb : b ≤ 176 := by
    obtain ⟨q, -⟩ := hR
    omega
  have ci : ∀ j, j < 192 → (nI j).toNatClampNeg = j := fun j hj => nI_clamp (by omega)
  have eb : ∀ i : Nat, nI b + (0 : Int32) + nI i = nI (b + i) := fun i => by rw [Int32.add_zero, nI_add]
  have e0 : st_M1 M nc F 61 = M 61 := pa_rowR (by decide)
  have e62 : st_M1 M nc F 62 = M 62 := pa_rowR (by decide)
  have e78 : ∀ j, j ≤ nc → st_M1 M nc F 78 j = F j := fun j hj => pa_rowI (by omega)
  have ne : ¬ (1 : Int32) = 0 := by decide
  have h3 : ea_E k 95 [(0, .ref 61), (1, .int (nI b)), (2, .int 0), (3, .int 0)] [] (st_M1 M nc F) := by
    by_cases hc : st_M1 M nc F 61 6 ≤ 0
    · refine km_steps_95 C X  (fun _ _ => ⟨rfl, rfl⟩) (fun _ _ => Or.inl rfl) (fun _ c => absurd rfl c) (fun _ c => absurd rfl c) (fun _ c => absurd rfl c) (fun _ c => absurd rfl c) (fun _ c => absurd rfl c) (fun _ c => absurd rfl c) (fun _ c => absurd rfl c) (fun _ c => absurd rfl c) (fun _ c => absurd rfl c) (fun c _ _ => absurd hc c) (fun c _ _ => absurd hc c) (fun c _ _ => absurd hc c) (fun c _ _ => absurd hc c) (fun c _ _ => absurd hc c) (fun c _ _ => absurd hc c) (fun c _ _ => absurd hc c) (fun c _ _ => absurd hc c) (fun c _ _ => absurd hc c) (fun c _ _ => absurd hc c) (fun c _ _ => absurd hc c) (fun c _ => absurd hc c) (fun c _ => absurd hc c) (fun c _ => absurd hc c) (fun c _ => absurd hc c) (fun c _ => absurd hc c)
    · refine km_steps_95 C X  (fun c _ => absurd c hc) (fun c _ => absurd c hc) (fun c _ => absurd c hc) (fun c _ => absurd c hc) (fun c _ => absurd c hc) (fun c _ => absurd c hc) (fun c _ => absurd c hc) (fun c _ => absurd c hc) (fun c _ => absurd c hc) (fun c _ => absurd c hc) (fun c _ => absurd c hc) (fun _ _ _ => ⟨rfl, rfl⟩) (fun _ _ _ => Or.inl rfl) (fun _ _ c => absurd rfl c) (fun _ _ c => absurd rfl c) (fun _ _ c => absurd rfl c) (fun _ _ c => absurd rfl c) (fun _ _ c => absurd rfl c) (fun _ _ c => absurd rfl c) (fun _ _ c => absurd rfl c) (fun _ _ c => absurd rfl c) (fun _ _ c => absurd rfl c) (fun _ c => absurd rfl c) (fun _ c => absurd rfl c) (fun _ c => absurd rfl c) (fun _ c => absurd rfl c) (fun _ c => absurd rfl c)
  have l0 : ∀ (m i : Nat), i + m = nc → ea_E k 32 [(0, .ref 61), (1, .int (nI b)), (2, .int 0), (3, .int (nI i))] [] (st_M1 M nc F) := by
    intro m
    induction m with
    | zero =>
      intro i hi
      have hc : st_M1 M nc F 61 6 ≤ nI i := by rw [e0, hk]; exact nI_le (by omega) (by omega)
      refine km_steps_32 C X  (fun _ => h3) (fun c _ => absurd hc c) (fun c _ => absurd hc c) (fun c _ => absurd hc c) (fun c _ => absurd hc c) (fun c _ _ => absurd hc c) (fun c _ _ => absurd hc c)
    | succ m ih =>
      intro i hi
      have hc : ¬ st_M1 M nc F 61 6 ≤ nI i := by rw [e0, hk]; exact nI_ge (by omega) (by omega)
      refine km_steps_32 C X  (fun c => absurd c hc) (fun _ _ => ?_) (fun _ c => absurd rfl c) (fun _ c => absurd rfl c) (fun _ c => absurd rfl c) (fun _ c _ => absurd rfl c) (fun _ c _ => absurd rfl c)
      rw [nI_1]
      exact ih (i + 1) (by omega)
  have l2 : ∀ (m i : Nat), i + m = nc → (∀ j, j < i → p_X6_isHeat (st_g M b F j)) → ea_E k 32 [(0, .ref 61), (1, .int (nI b)), (2, .int 1), (3, .int (nI i))] [] (st_M1 M nc F) := by
    intro m
    induction m with
    | zero =>
      intro i hi h
      exact absurd (fun j hj => h j (by omega)) hok
    | succ m ih =>
      intro i hi h
      have hc : ¬ st_M1 M nc F 61 6 ≤ nI i := by rw [e0, hk]; exact nI_ge (by omega) (by omega)
      have sb : vp_in (nI b + (0 : Int32) + nI i) 192 := by rw [eb]; exact vp_in_nI (by omega) (by decide)
      have s1 : vp_in (nI i + (1 : Int32)) 11 := by rw [nI_1]; exact vp_in_nI (by omega) (by decide)
      have hq : p_X7_in ((st_M1 M nc F 62 (nI b + 0 + nI i).toNatClampNeg + st_M1 M nc F 78 (nI i).toNatClampNeg - st_M1 M nc F 78 (nI i + 1).toNatClampNeg)).toInt64 0 20000 ↔ p_X6_isHeat (st_g M b F i) := by
        rw [eb, nI_1, ci (b + i) (by omega), ci i (by omega), ci (i + 1) (by omega), e62, e78 i (by omega), e78 (i + 1) (by omega), st_heat]
        exact Iff.rfl
      refine km_steps_32 C X  (fun c => absurd c hc) (fun _ c => absurd c ne) (fun _ _ => sb) (fun _ _ => vp_in_nI (by omega) (by decide)) (fun _ _ => s1) (fun _ _ c2 => ?_) (fun _ _ c2 => ?_)
      · rw [nI_1]
        exact l0 m (i + 1) (by omega)
      · rw [nI_1]
        refine ih (i + 1) (by omega) (fun j hj => ?_)
        rcases Nat.lt_or_ge j i with q | q
        · exact h j q
        · rw [show j = i by omega]
          exact hq.mp ‹_›
  exact l2 nc 0 (by omega) (fun j hj => absurd hj (Nat.not_lt_zero j))
end STP

