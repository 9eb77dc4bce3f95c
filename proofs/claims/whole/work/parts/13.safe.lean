set_option maxRecDepth 100000 in
set_option maxHeartbeats 4000000 in
theorem kb_X5_allHeat_0 {k : ea_K} {o : Option Value} {M' : ea_M} (C : ea_C k RX5 cX5_allHeat 2 2) (X : ea_X k (some .int) o M') {M : ea_M} {x : Nat} {c r : Int32} (hx : ea_kd x = 5)  (q1 : ea_Sp 1 yX6_total cX6_total 4 (some .int) [.ref (x + 1), .int c] M (some (.int r)) M) (h2 : o = some (.int r) ∧ M' = M) : ea_E k 0 [(0, .ref x), (1, .int c)] [] M := by
  refine e_aload_n (n := 0) C dX5_allHeat_0 rfl rfl ?_
  refine e_get (v := .ref (x + 1)) C fd_X5_9 (ea_ltO (by decide) hx) hx rfl dX5_allHeat_1 ?_
  refine e_iload_n (n := 1) C dX5_allHeat_4 rfl rfl ?_
  refine e_callN1 (as := [.ref (x + 1), .int c]) (rest := []) C lk_X5_38 q1 (by decide) rfl rfl (Nat.le_of_ble_eq_true rfl) dX5_allHeat_5 ?_
  exact e_iret C X rfl (vp_nar_int _) dX5_allHeat_8 h2
/-- the first of the best, among the first n places -/
def pa_bs (better : Nat → Nat → Bool) : Nat → Option Nat
  | 0 => none
  | c + 1 => match pa_bs better c with
    | none => some c
    | some b => if better c b = true then some c else some b
theorem pa_bs_lt {better : Nat → Nat → Bool} : ∀ (c b : Nat), pa_bs better c = some b → b < c := by
  intro c
  induction c with
  | zero => intro b h; cases h
  | succ c ih =>
    intro b h
    rw [pa_bs] at h
    cases hq : pa_bs better c with
    | none => rw [hq] at h; cases h; omega
    | some z =>
      rw [hq] at h
      have hz := ih z hq
      by_cases hb : better c z = true
      · simp only [hb, if_true] at h
        cases h
        omega
      · simp only [if_neg hb] at h
        cases h
        omega
theorem pa_rim (b : Nat) (h : b < 2 ^ 31) : ¬ nI b = (-1 : Int32) := by
  intro q
  have h1 := nI_pos (n := b) h
  rw [q] at h1
  exact h1 (by decide)
theorem sp_X4_mostOf (M : ea_M) (x ns nc : Nat) (s : Int32) (bt : Nat → Nat → Bool) (hx : ea_kd x = 4) (hw : wl_ok M x ns nc) (hs : ∀ i b, i < nc → b < nc → ((s * (f_X4_compareDegrees M x (nI i) (nI b))) ≤ 0 ↔ ¬ bt i b = true)) : ea_Sp 3 yX4_mostOf cX4_mostOf 4 (some .int) [.ref x, .int s] M (some (.int (pa_ri (pa_bs bt nc)))) M := by
  refine ea_intro (own := RX4) (by decide +kernel) rfl (fun g => Nat.le_of_ble_eq_true rfl) (fun k C X => ?_)
  have hk := hw.2.2.2.1
  have hn := hw.2.1
  have loop : ∀ (m i : Nat), i + m = nc → ea_E k 4 [(0, .ref x), (1, .int s), (2, .int (pa_ri (pa_bs bt i))), (3, .int (nI i))] [] M := by
    intro m
    induction m with
    | zero =>
      intro i hi
      have hc : M x 5 ≤ nI i := by rw [hk]; exact nI_le (by omega) (by omega)
      exact kb_X4_mostOf_4 C X hx (fun _ => ⟨by rw [show i = nc by omega], rfl⟩) (fun c => absurd hc c) (fun c => absurd hc c) (fun c => absurd hc c)
    | succ m ih =>
      intro i hi
      have hc : ¬ M x 5 ≤ nI i := by rw [hk]; exact nI_ge (by omega) (by omega)
      have h2 := ih (i + 1) (by omega)
      rw [pa_bs] at h2
      cases hq : pa_bs bt i with
      | none =>
        rw [hq] at h2
        refine kb_X4_mostOf_4 C X hx (fun c => absurd c hc) (fun _ _ => ?_) (fun _ c => absurd rfl c) (fun _ c => absurd rfl c)
        rw [nI_1]
        exact h2
      | some b =>
        have hb := pa_bs_lt i b hq
        rw [hq] at h2
        refine kb_X4_mostOf_4 C X hx (fun c => absurd c hc) (fun _ c => absurd c (pa_rim b (by omega))) (fun _ _ c => ?_) (fun _ _ c => ?_)
        · have := (hs i b (by omega) (by omega)).mp c
          simp only [if_neg this] at h2
          rw [nI_1]
          exact h2
        · have : bt i b = true := Classical.byContradiction (fun z => c ((hs i b (by omega) (by omega)).mpr z))
          simp only [this, if_true] at h2
          rw [nI_1]
          exact h2
  exact kb_X4_mostOf_0 C X hx (loop nc 0 (by omega))
/-- more (or fewer) degrees -/
def wl_hc (M : ea_M) (x i b : Nat) : Int32 := M (x + 8) i * f_X4_holdsAt M x (nI b)
theorem pa_cmp1 (a b : Int32) : ((1 : Int32) * f_J6_compare_7cf53 a b) ≤ 0 ↔ ¬ b < a := by
  rw [Int32.one_mul]
  unfold f_J6_compare_7cf53
  by_cases h1 : b ≤ a
  · rw [if_pos h1]
    by_cases h2 : a = b
    · subst h2
      simp
    · rw [if_neg h2]
      have : b < a := Int32.lt_of_le_of_ne h1 (fun e => h2 e.symm)
      simp [this]
  · rw [if_neg h1]
    have : ¬ b < a := fun z => h1 (Int32.le_of_lt z)
    simp [this]
theorem pa_cmp2 (a b : Int32) : ((-1 : Int32) * f_J6_compare_7cf53 a b) ≤ 0 ↔ ¬ a < b := by
  unfold f_J6_compare_7cf53
  by_cases h1 : b ≤ a
  · rw [if_pos h1]
    have : ¬ a < b := Int32.not_lt.mpr h1
    by_cases h2 : a = b
    · rw [if_pos h2]
      simp [this]
    · rw [if_neg h2]
      simp [this]
  · rw [if_neg h1]
    have : a < b := Int32.not_le.mp h1
    simp [this]
theorem wl_cmp {M : ea_M} {x ns nc i b : Nat} (hw : wl_ok M x ns nc) (hi : i < nc) (hb : b < nc) : f_X4_compareDegrees M x (nI i) (nI b) = f_J6_compare_7cf53 (wl_hc M x i b) (wl_hc M x b i) := by
  have hn := hw.2.1
  unfold f_X4_compareDegrees wl_hc
  rw [pa_atN (show i < 10 by omega) (by decide), pa_atN (show b < 10 by omega) (by decide)]
theorem sp_X4_most (M : ea_M) (x ns nc : Nat) (hx : ea_kd x = 4) (hw : wl_ok M x ns nc) : ea_Sp 3 yX4_mostOf cX4_mostOf 4 (some .int) [.ref x, .int 1] M (some (.int (pa_ri (pa_bs (fun i b => decide (wl_hc M x b i < wl_hc M x i b)) nc)))) M :=
  sp_X4_mostOf M x ns nc 1 _ hx hw (fun i b hi hb => by rw [wl_cmp hw hi hb, pa_cmp1]; simp)
theorem sp_X4_least (M : ea_M) (x ns nc : Nat) (hx : ea_kd x = 4) (hw : wl_ok M x ns nc) : ea_Sp 3 yX4_mostOf cX4_mostOf 4 (some .int) [.ref x, .int (-1)] M (some (.int (pa_ri (pa_bs (fun i b => decide (wl_hc M x i b < wl_hc M x b i)) nc)))) M :=
  sp_X4_mostOf M x ns nc (-1) _ hx hw (fun i b hi hb => by rw [wl_cmp hw hi hb, pa_cmp2]; simp)
/-! safe -/
def pa_max (f : Nat → Nat) : Nat → Nat
  | 0 => 1
  | c + 1 => max (pa_max f c) (f c)
def wl_A (M : ea_M) (x nc i : Nat) : Nat := if i = 0 then 2 * wl_p M x 0 else if i = nc then 2 * wl_p M x (nc - 1) else 2 * wl_p M x (i - 1) * wl_p M x i
def wl_B (M : ea_M) (x nc i : Nat) : Nat := if i = 0 then 1 else if i = nc then 1 else wl_p M x (i - 1) + wl_p M x i
theorem nI_0i {i : Nat} (h : i < 2 ^ 31) : nI i = 0 ↔ i = 0 := by
  have := nI_eq (a := i) (b := 0) h (by decide)
  rw [nI_0] at this
  exact this
theorem wl_AA {M : ea_M} {x ns nc i : Nat} (hw : wl_ok M x ns nc) (h0 : 0 < nc) (hi : i ≤ nc) : f_X4_betweenAbove M x (nI i) = lN (wl_A M x nc i) ∧ wl_A M x nc i ≤ 800 := by
  have hn := hw.2.1
  have hk := hw.2.2.2.1
  unfold f_X4_betweenAbove wl_A
  by_cases hz : i = 0
  · subst hz
    obtain ⟨e, e1, e2⟩ := wl_pp hw h0
    rw [nI_0] at e
    rw [if_pos nI_0, if_pos rfl, e, nI_l (by omega), show (2 : Int64) = lN 2 from rfl, lN_mul]
    exact ⟨rfl, by omega⟩
  · rw [if_neg (fun q => hz ((nI_0i (by omega)).mp q)), if_neg hz, hk]
    by_cases hz2 : i = nc
    · subst hz2
      obtain ⟨e, e1, e2⟩ := wl_pp hw (show i - 1 < i by omega)
      have e9 : nI i - (1 : Int32) = nI (i - 1) := pk_sub (a := i) (b := 1) (by omega)
      rw [if_pos rfl, if_pos rfl, e9, e, nI_l (by omega), show (2 : Int64) = lN 2 from rfl, lN_mul]
      exact ⟨rfl, by omega⟩
    · obtain ⟨e, e1, e2⟩ := wl_pp hw (show i - 1 < nc by omega)
      obtain ⟨f, f1, f2⟩ := wl_pp hw (show i < nc by omega)
      have e9 : nI i - (1 : Int32) = nI (i - 1) := pk_sub (a := i) (b := 1) (by omega)
      rw [if_neg (fun q => hz2 ((nI_eq (by omega) (by omega)).mp q)), if_neg hz2, e9, e, f, nI_l (by omega), nI_l (by omega), show (2 : Int64) = lN 2 from rfl, lN_mul, lN_mul]
      refine ⟨rfl, ?_⟩
      have := Nat.mul_le_mul (show 2 * wl_p M x (i - 1) ≤ 40 by omega) f2
      omega
theorem wl_BB {M : ea_M} {x ns nc i : Nat} (hw : wl_ok M x ns nc) (h0 : 0 < nc) (hi : i ≤ nc) : f_X4_betweenBelow M x (nI i) = lN (wl_B M x nc i) ∧ 1 ≤ wl_B M x nc i ∧ wl_B M x nc i ≤ 40 := by
  have hn := hw.2.1
  have hk := hw.2.2.2.1
  unfold f_X4_betweenBelow wl_B
  by_cases hz : i = 0
  · subst hz
    rw [if_pos nI_0, if_pos rfl]
    exact ⟨rfl, by omega, by omega⟩
  · rw [if_neg (fun q => hz ((nI_0i (by omega)).mp q)), if_neg hz, hk]
    by_cases hz2 : i = nc
    · subst hz2
      rw [if_pos rfl, if_pos rfl]
      exact ⟨rfl, by omega, by omega⟩
    · obtain ⟨e, e1, e2⟩ := wl_pp hw (show i - 1 < nc by omega)
      obtain ⟨f, f1, f2⟩ := wl_pp hw (show i < nc by omega)
      have e9 : nI i - (1 : Int32) = nI (i - 1) := pk_sub (a := i) (b := 1) (by omega)
      rw [if_neg (fun q => hz2 ((nI_eq (by omega) (by omega)).mp q)), if_neg hz2, e9, e, f, nI_add, nI_l (by omega)]
      exact ⟨rfl, by omega, by omega⟩
/-- the least step for a cell -/
def wl_sf (M : ea_M) (x nc i : Nat) : Nat := (wl_A M x nc i * wl_B M x nc (i + 1) + wl_A M x nc (i + 1) * wl_B M x nc i + wl_B M x nc i * wl_B M x nc (i + 1) * wl_c M x i - 1) / (wl_B M x nc i * wl_B M x nc (i + 1) * wl_c M x i)
theorem pa_m3 {a b c d A B : Nat} (h1 : a ≤ A) (h2 : b ≤ B) (h : A * B = d) : a * b ≤ d := by
  rw [← h]
  exact Nat.mul_le_mul h1 h2
theorem wl_sfB {M : ea_M} {x ns nc i : Nat} (hw : wl_ok M x ns nc) (hi : i < nc) : 1 ≤ wl_B M x nc i * wl_B M x nc (i + 1) * wl_c M x i ∧ wl_B M x nc i * wl_B M x nc (i + 1) * wl_c M x i ≤ 32000 ∧ wl_A M x nc i * wl_B M x nc (i + 1) + wl_A M x nc (i + 1) * wl_B M x nc i ≤ 64000 := by
  obtain ⟨-, a2⟩ := wl_AA hw (show 0 < nc by omega) (show i ≤ nc by omega)
  obtain ⟨-, b2⟩ := wl_AA hw (show 0 < nc by omega) (show i + 1 ≤ nc by omega)
  obtain ⟨-, c1, c2⟩ := wl_BB hw (show 0 < nc by omega) (show i ≤ nc by omega)
  obtain ⟨-, d1, d2⟩ := wl_BB hw (show 0 < nc by omega) (show i + 1 ≤ nc by omega)
  obtain ⟨-, f1, f2⟩ := wl_cc hw hi
  have g1 := Nat.mul_le_mul c2 d2
  have g2 := Nat.mul_le_mul g1 f2
  have g3 := Nat.mul_le_mul a2 d2
  have g4 := Nat.mul_le_mul b2 c2
  have g5 := Nat.mul_le_mul c1 d1
  have g6 := Nat.mul_le_mul g5 f1
  refine ⟨by omega, by omega, by omega⟩
theorem sp_X4_safe (M : ea_M) (x ns nc : Nat) (hx : ea_kd x = 4) (hw : wl_ok M x ns nc) : ea_Sp 3 yX4_safe cX4_safe 8 (some .int) [.ref x] M (some (.int (nI (pa_max (wl_sf M x nc) nc)))) M := by
  refine ea_intro (own := RX4) (by decide +kernel) rfl (fun g => Nat.le_of_ble_eq_true rfl) (fun k C X => ?_)
  have hk := hw.2.2.2.1
  have hn := hw.2.1
  have bnd : ∀ i, i ≤ nc → pa_max (wl_sf M x nc) i ≤ 100000 := by
    intro i
    induction i with
    | zero => intro _; exact (by decide : (1 : Nat) ≤ 100000)
    | succ i ih =>
      intro hi
      rw [pa_max]
      obtain ⟨h1, h2, h3⟩ := wl_sfB hw (show i < nc by omega)
      refine Nat.max_le.mpr ⟨ih (by omega), ?_⟩
      unfold wl_sf
      refine Nat.le_trans (Nat.div_le_self _ _) ?_
      omega
  have loop : ∀ (m i : Nat), i + m = nc → ea_E k 4 [(0, .ref x), (1, .long (lN (pa_max (wl_sf M x nc) i))), (3, .int (nI i))] [] M := by
    intro m
    induction m with
    | zero =>
      intro i hi
      have hc : M x 5 ≤ nI i := by rw [hk]; exact nI_le (by omega) (by omega)
      exact kb_X4_safe_4 C X hx (fun _ => ⟨by rw [lN_i, show i = nc by omega], rfl⟩) (fun c => absurd hc c)
    | succ m ih =>
      intro i hi
      have hc : ¬ M x 5 ≤ nI i := by rw [hk]; exact nI_ge (by omega) (by omega)
      have h2 := ih (i + 1) (by omega)
      obtain ⟨a1, -⟩ := wl_AA hw (show 0 < nc by omega) (show i ≤ nc by omega)
      obtain ⟨b1, -⟩ := wl_AA hw (show 0 < nc by omega) (show i + 1 ≤ nc by omega)
      obtain ⟨c1, -⟩ := wl_BB hw (show 0 < nc by omega) (show i ≤ nc by omega)
      obtain ⟨d1, -⟩ := wl_BB hw (show 0 < nc by omega) (show i + 1 ≤ nc by omega)
      obtain ⟨f1, g1, g2⟩ := wl_cc hw (show i < nc by omega)
      obtain ⟨h5, h6, h7⟩ := wl_sfB hw (show i < nc by omega)
      have hb := bnd i (by omega)
      have hb2 := bnd (i + 1) (by omega)
      have hsf : wl_sf M x nc i ≤ 100000 := Nat.le_trans (Nat.le_max_right _ _) hb2
      have hcut : f_X6_cut (lN (wl_A M x nc i * wl_B M x nc (i + 1) + wl_A M x nc (i + 1) * wl_B M x nc i + wl_B M x nc i * wl_B M x nc (i + 1) * wl_c M x i - 1)) (lN (wl_B M x nc i * wl_B M x nc (i + 1) * wl_c M x i)) = lN (wl_sf M x nc i) := by
        unfold f_X6_cut
        rw [if_neg (fun q => absurd (pa_l0 (by omega) q) (by omega)), pk_lDiv (by omega) (by omega) (by omega)]
        rfl
      refine kb_X4_safe_4 C X hx (fun c => absurd c hc) (fun _ => ?_)
      rw [show nI i + (1 : Int32) = nI (i + 1) from nI_1 i, a1, b1, c1, d1, f1, nI_l (by omega)]
      simp only [lN_mul, lN_add]
      rw [show (1 : Int64) = lN 1 from rfl, lN_sub (by omega), hcut]
      rw [pa_max] at h2
      by_cases hlt : wl_sf M x nc i < pa_max (wl_sf M x nc) i
      · rw [if_pos ((lN_lt (by omega) (by omega)).mpr hlt)]
        rw [Nat.max_eq_left (by omega)] at h2
        exact h2
      · rw [if_neg (fun q => hlt ((lN_lt (by omega) (by omega)).mp q))]
        rw [Nat.max_eq_right (by omega)] at h2
        exact h2
  exact kb_X4_safe_0 C X hx (loop nc 0 (by omega))
theorem sp_X5_allHeat (M : ea_M) (x c : Nat) (hx : ea_kd x = 5) (hc : c ≤ 10) : ea_Sp 2 yX5_allHeat cX5_allHeat 2 (some .int) [.ref x, .int (nI c)] M (some (.int (pa_sum (M (x + 1)) c))) M := by
  refine ea_intro (own := RX5) (by decide +kernel) rfl (fun g => Nat.le_of_ble_eq_true rfl) (fun k C X => ?_)
  exact kb_X5_allHeat_0 C X (r := pa_sum (M (x + 1)) c) hx (sp_X6_total M (x + 1) 10 c hc (kd5_1 hx) (by decide)) ⟨rfl, rfl⟩

