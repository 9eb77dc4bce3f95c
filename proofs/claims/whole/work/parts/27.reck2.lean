/-! ===== safe, resistance, rest, extreme, alike ===== -/
def sf_A (P : Nat → Nat) (nc i : Nat) : Nat := if i = 0 then 2 * P 0 else if i = nc then 2 * P (nc - 1) else 2 * P (i - 1) * P i
def sf_B (P : Nat → Nat) (nc i : Nat) : Nat := if i = 0 then 1 else if i = nc then 1 else P (i - 1) + P i
def sf (P C : Nat → Nat) (nc i : Nat) : Nat := (sf_A P nc i * sf_B P nc (i + 1) + sf_A P nc (i + 1) * sf_B P nc i + sf_B P nc i * sf_B P nc (i + 1) * C i - 1) / (sf_B P nc i * sf_B P nc (i + 1) * C i)
theorem wl_sfE (M : ea_M) (x nc i : Nat) : wl_sf M x nc i = sf (wl_p M x) (wl_c M x) nc i := rfl
theorem sf_AB {P : Nat → Nat} {nc i : Nat} (hP : ∀ i, i < nc → 1 ≤ P i ∧ P i ≤ 20) (h0 : 0 < nc) (hi : i ≤ nc) : sf_A P nc i ≤ 800 ∧ 1 ≤ sf_B P nc i ∧ sf_B P nc i ≤ 40 := by
  unfold sf_A sf_B
  by_cases z : i = 0
  · rw [if_pos z, if_pos z]
    have := hP 0 h0
    omega
  · rw [if_neg z, if_neg z]
    by_cases y : i = nc
    · rw [if_pos y, if_pos y]
      have := hP (nc - 1) (by omega)
      omega
    · rw [if_neg y, if_neg y]
      have h1 := hP (i - 1) (by omega)
      have h2 := hP i (by omega)
      have := Nat.mul_le_mul (show 2 * P (i - 1) ≤ 40 by omega) h2.2
      omega
theorem sf_b {P C : Nat → Nat} {nc i : Nat} (hP : ∀ i, i < nc → (1 ≤ P i ∧ P i ≤ 20) ∧ 1 ≤ C i ∧ C i ≤ 20) (hi : i < nc) : 1 ≤ sf_B P nc i * sf_B P nc (i + 1) * C i ∧ sf_B P nc i * sf_B P nc (i + 1) * C i ≤ 32000 ∧ sf_A P nc i * sf_B P nc (i + 1) + sf_A P nc (i + 1) * sf_B P nc i ≤ 64000 := by
  obtain ⟨a2, c1, c2⟩ := sf_AB (P := P) (fun i hi => (hP i hi).1) (show 0 < nc by omega) (show i ≤ nc by omega)
  obtain ⟨b2, d1, d2⟩ := sf_AB (P := P) (fun i hi => (hP i hi).1) (show 0 < nc by omega) (show i + 1 ≤ nc by omega)
  obtain ⟨-, f1, f2⟩ := hP i hi
  have g1 := Nat.mul_le_mul c2 d2
  have g2 := Nat.mul_le_mul g1 f2
  have g3 := Nat.mul_le_mul a2 d2
  have g4 := Nat.mul_le_mul b2 c2
  have g5 := Nat.mul_le_mul c1 d1
  have g6 := Nat.mul_le_mul g5 f1
  refine ⟨by omega, by omega, by omega⟩
theorem sf_le {P C : Nat → Nat} {nc i : Nat} (hP : ∀ i, i < nc → (1 ≤ P i ∧ P i ≤ 20) ∧ 1 ≤ C i ∧ C i ≤ 20) (hi : i < nc) : sf P C nc i ≤ 96000 := by
  obtain ⟨h1, h2, h3⟩ := sf_b hP hi
  unfold sf
  refine Nat.le_trans (Nat.div_le_self _ _) ?_
  omega
theorem mp_PC {M : ea_M} {nc : Nat} {P Ch : Nat → Nat} (hm : mp_ok M nc P Ch) : ∀ i, i < nc → (1 ≤ P i ∧ P i ≤ 20) ∧ 1 ≤ Ch i ∧ Ch i ≤ 20 := by
  intro i hi
  obtain ⟨s, -, -, -, -, h1, h2, h3⟩ := hm.2.2 i hi
  exact ⟨h1, h2, h3⟩
theorem sp_X7_safeFor {M : ea_M} {nc i : Nat} {P Ch : Nat → Nat} (hm : mp_ok M nc P Ch) (hi : i < nc) : ea_Sp 1 yX7_safeFor cX7_safeFor 7 (some .int) [.ref 61, .int (nI i)] M (some (.int (nI (sf P Ch nc i)))) M := by
  refine ea_intro (own := RX7) (by decide +kernel) rfl (fun g => Nat.le_of_ble_eq_true rfl) (fun k C X => ?_)
  have hk := hm.1
  have hn := hm.2.1
  have hP := mp_PC hm
  obtain ⟨b1, b2, b3⟩ := sf_b hP hi
  have sp := sp_X7_passesOf hm hi
  have sh := sp_X7_holdsOf hm hi
  have c0 : nI i = 0 ↔ i = 0 := nI_0i (by omega)
  have cl : nI i = M 61 6 - (1 : Int32) ↔ i + 1 = nc := by
    rw [hk, nI_m1 (show nc ≠ 0 by omega), nI_eq (by omega) (by omega)]
    omega
  obtain ⟨L, hL⟩ : ∃ L, L = sf_B P nc i := ⟨_, rfl⟩
  obtain ⟨R, hR⟩ : ∃ R, R = sf_B P nc (i + 1) := ⟨_, rfl⟩
  obtain ⟨a, ha⟩ : ∃ a : Nat, a = if i = 0 then 1 else P (i - 1) := ⟨_, rfl⟩
  obtain ⟨e, he⟩ : ∃ e : Nat, e = if i + 1 = nc then 1 else P (i + 1) := ⟨_, rfl⟩
  have hA : sf_A P nc i = 2 * P i * a := by
    rw [ha]
    unfold sf_A
    by_cases z : i = 0
    · rw [if_pos z, if_pos z, z, Nat.mul_one]
    · rw [if_neg z, if_neg z, if_neg (show ¬ i = nc by omega), Nat.mul_right_comm]
  have hE : sf_A P nc (i + 1) = 2 * P i * e := by
    rw [he]
    unfold sf_A
    rw [if_neg (show ¬ i + 1 = 0 by omega)]
    by_cases z : i + 1 = nc
    · rw [if_pos z, if_pos z, Nat.mul_one, show nc - 1 = i by omega]
    · rw [if_neg z, if_neg z, Nat.add_sub_cancel]
  have jL : (if nI i = 0 then (1 : Int32) else nI (P i) + nI (P (i - 1))) = nI L := by
    rw [hL]
    unfold sf_B
    by_cases z : i = 0
    · rw [if_pos (c0.mpr z), if_pos z]
      rfl
    · rw [if_neg (fun q => z (c0.mp q)), if_neg z, if_neg (show ¬ i = nc by omega), nI_add, Nat.add_comm]
  have jR : (if nI i = M 61 6 - (1 : Int32) then (1 : Int32) else nI (P i) + nI (P (i + 1))) = nI R := by
    rw [hR]
    unfold sf_B
    rw [if_neg (show ¬ i + 1 = 0 by omega)]
    by_cases z : i + 1 = nc
    · rw [if_pos (cl.mpr z), if_pos z]
      rfl
    · rw [if_neg (fun q => z (cl.mp q)), if_neg z, nI_add, Nat.add_sub_cancel]
  have ja : (if nI i = 0 then (1 : Int32) else nI (P (i - 1))) = nI a := by
    rw [ha]
    by_cases z : i = 0
    · rw [if_pos (c0.mpr z), if_pos z]
      rfl
    · rw [if_neg (fun q => z (c0.mp q)), if_neg z]
  have je : (if nI i = M 61 6 - (1 : Int32) then (1 : Int32) else nI (P (i + 1))) = nI e := by
    rw [he]
    by_cases z : i + 1 = nc
    · rw [if_pos (cl.mpr z), if_pos z]
      rfl
    · rw [if_neg (fun q => z (cl.mp q)), if_neg z]
  have sl : ¬ nI i = 0 → ea_Sp 0 yX7_passesOf cX7_passesOf 2 (some .int) [.ref 61, .int (nI i - (1 : Int32))] M (some (.int (nI (P (i - 1))))) M := by
    intro c
    have z : i ≠ 0 := fun q => c (c0.mpr q)
    rw [nI_m1 z]
    exact sp_X7_passesOf hm (by omega)
  have sr : ¬ nI i = M 61 6 - (1 : Int32) → ea_Sp 0 yX7_passesOf cX7_passesOf 2 (some .int) [.ref 61, .int (nI i + (1 : Int32))] M (some (.int (nI (P (i + 1))))) M := by
    intro c
    have z : ¬ i + 1 = nc := fun q => c (cl.mpr q)
    rw [nI_1]
    exact sp_X7_passesOf hm (by omega)
  rw [← hL, ← hR] at b1 b2
  have b3' : sf_A P nc i * R + sf_A P nc (i + 1) * L ≤ 64000 := by rw [hL, hR]; exact b3
  refine km_safeFor C X (r1 := nI (P i)) (r2 := nI (P (i - 1))) (r3 := nI (P (i + 1))) (r4 := nI (P (i - 1))) (r5 := nI (P (i + 1))) (r6 := nI (Ch i)) sp sl sr sl sr sh ?_ ⟨?_, rfl⟩
  · rw [jL, jR, pk_mul, pk_mul]
    exact fl_ne b1 (by omega)
  · rw [ja, jR, je, jL, show (2 : Int32) = nI 2 from rfl, pk_mul, pk_mul, pk_mul, pk_mul, pk_mul, pk_mul, pk_mul, nI_add, nI_add, show (1 : Int32) = nI 1 from rfl, ← hA, ← hE, pk_sub (by omega), pk_div (by omega) b1 (by omega)]
    unfold sf
    rw [← hL, ← hR]
theorem sp_X7_safe {M : ea_M} {nc : Nat} {P Ch : Nat → Nat} (hm : mp_ok M nc P Ch) : ea_Sp 2 yX7_safe cX7_safe 3 (some .int) [.ref 61] M (some (.int (nI (pa_max (sf P Ch nc) nc)))) M := by
  refine ea_intro (own := RX7) (by decide +kernel) rfl (fun g => Nat.le_of_ble_eq_true rfl) (fun k C X => ?_)
  have hk := hm.1
  have hn := hm.2.1
  have hP := mp_PC hm
  have bnd : ∀ i, i ≤ nc → pa_max (sf P Ch nc) i ≤ 100000 := by
    intro i
    induction i with
    | zero => intro _; exact (by decide : (1 : Nat) ≤ 100000)
    | succ i ih =>
      intro hi
      rw [pa_max]
      have := sf_le hP (show i < nc by omega)
      exact Nat.max_le.mpr ⟨ih (by omega), by omega⟩
  have loop : ∀ (m i : Nat), i + m = nc → ea_E k 4 [(0, .ref 61), (1, .int (nI (pa_max (sf P Ch nc) i))), (2, .int (nI i))] [] M := by
    intro m
    induction m with
    | zero =>
      intro i hi
      have hc : M 61 6 ≤ nI i := by rw [hk]; exact nI_le (by omega) (by omega)
      refine km_safe_4 C X (r1 := 0) (r2 := 0) (fun _ => ⟨by rw [show i = nc by omega], rfl⟩) (fun c => absurd hc c) (fun c _ => absurd hc c) (fun c _ => absurd hc c) (fun c _ => absurd hc c)
    | succ m ih =>
      intro i hi
      have hc : ¬ M 61 6 ≤ nI i := by rw [hk]; exact nI_ge (by omega) (by omega)
      have h2 := ih (i + 1) (by omega)
      have s := sp_X7_safeFor hm (show i < nc by omega)
      have b1 := bnd i (by omega)
      have b2 := sf_le hP (show i < nc by omega)
      rw [pa_max] at h2
      refine km_safe_4 C X (r1 := nI (sf P Ch nc i)) (r2 := nI (sf P Ch nc i)) (fun c => absurd c hc) (fun _ => s) (fun _ c => ?_) (fun _ _ => s) (fun _ c => ?_)
      · rw [Nat.max_eq_left ((nI_leI (by omega) (by omega)).mp c)] at h2
        rw [nI_1]
        exact h2
      · have q9 : ¬ sf P Ch nc i ≤ pa_max (sf P Ch nc) i := fun q => c ((nI_leI (a := sf P Ch nc i) (b := pa_max (sf P Ch nc) i) (by omega) (by omega)).mpr q)
        rw [Nat.max_eq_right (by omega)] at h2
        rw [nI_1]
        exact h2
  exact km_safe C X (loop nc 0 (by omega))
/-- what resists -/
theorem sp_X7_resistance {M : ea_M} {nc : Nat} {P Ch : Nat → Nat} (hm : mp_ok M nc P Ch) (but s : Int32) (Q : Nat → Nat) (h1 : ∀ i, i < nc → ¬ nI i = but → Q i = P i) (h2 : ∀ i, i < nc → nI i = but → vp_in s 6 ∧ M 63 s.toNatClampNeg = nI (Q i) ∧ 1 ≤ Q i ∧ Q i ≤ 20) : ea_Sp 0 yX7_resistance cX7_resistance 6 (some .long) [.ref 61, .int but, .int s] M (some (.long (lN (pa_nsum (fun i => 232792560 / Q i) nc)))) M := by
  refine ea_intro (own := RX7) (by decide +kernel) rfl (fun g => Nat.le_of_ble_eq_true rfl) (fun k C X => ?_)
  have hk := hm.1
  have hn := hm.2.1
  have hP := mp_PC hm
  have loop : ∀ (m i : Nat), i + m = nc → ea_E k 5 [(0, .ref 61), (1, .int but), (2, .int s), (3, .long (lN (pa_nsum (fun i => 232792560 / Q i) i))), (5, .int (nI i))] [] M := by
    intro m
    induction m with
    | zero =>
      intro i hi
      have hc : M 61 6 ≤ nI i := by rw [hk]; exact nI_le (by omega) (by omega)
      refine km_resistance_5 C X  (fun _ => ⟨by rw [show i = nc by omega], rfl⟩) (fun c _ => absurd hc c) (fun c _ => absurd hc c) (fun c _ => absurd hc c) (fun c _ => absurd hc c) (fun c _ => absurd hc c) (fun c _ => absurd hc c) (fun c _ => absurd hc c)
    | succ m ih =>
      intro i hi
      have hc : ¬ M 61 6 ≤ nI i := by rw [hk]; exact nI_ge (by omega) (by omega)
      have h5 := ih (i + 1) (by omega)
      have hQ : 1 ≤ Q i ∧ Q i ≤ 20 := by
        by_cases z : nI i = but
        · exact (h2 i (by omega) z).2.2
        · rw [h1 i (by omega) z]
          exact (hP i (by omega)).1
      have ne : ¬ lN (Q i) = 0 := fun q => absurd (pa_l0 (by omega) q) (by omega)
      have key : ∀ v : Int32, v = nI (Q i) → ¬ v.toInt64 = 0 ∧ ea_E k 5 [(0, .ref 61), (1, .int but), (2, .int s), (3, .long (lN (pa_nsum (fun i => 232792560 / Q i) i) + (232792560 : Int64) / v.toInt64)), (5, .int (nI i + 1))] [] M := by
        intro v hv
        rw [hv, nI_l (by omega), show (232792560 : Int64) = lN 232792560 from rfl, pk_lDiv (by decide) (by omega) (by omega), lN_add, nI_1]
        exact ⟨ne, h5⟩
      by_cases z : nI i = but
      · obtain ⟨a1, a2, -⟩ := h2 i (by omega) z
        obtain ⟨k1, k2⟩ := key _ a2
        refine km_resistance_5 C X  (fun c => absurd c hc) (fun _ c => absurd z c) (fun _ c => absurd z c) (fun _ c => absurd z c) (fun _ c => absurd z c) (fun _ _ => a1) (fun _ _ => k1) (fun _ _ => k2)
      · obtain ⟨u, a1, a2, a3, -⟩ := hm.2.2 i (by omega)
        have e : (nI i).toNatClampNeg = i := nI_clamp (by omega)
        obtain ⟨k1, k2⟩ := key (M 63 (M 67 (nI i).toNatClampNeg).toNatClampNeg) (by rw [e, a2, nI_clamp (by omega), a3, h1 i (by omega) z])
        have s5 : vp_in (M 67 (nI i).toNatClampNeg) 6 := by rw [e, a2]; exact vp_in_nI a1 (by decide)
        refine km_resistance_5 C X  (fun c => absurd c hc) (fun _ _ => vp_in_nI (by omega) (by decide)) (fun _ _ => s5) (fun _ _ => k1) (fun _ _ => k2) (fun _ c => absurd c z) (fun _ c => absurd c z) (fun _ c => absurd c z)
  exact km_resistance C X (loop nc 0 (by omega))
/-- rest -/
def rs_all (P : Nat → Nat) (c : Nat) : Nat := pa_nsum (fun i => 2 * (232792560 / P i)) c
def rs_rt (P : Nat → Nat) (c : Nat) : Nat → Nat := pa_nsum (fun i => if c < i then 2 * (232792560 / P i) else if i = c then 232792560 / P i else 0)
theorem rs_le (P : Nat → Nat) (c : Nat) : ∀ n, rs_rt P c n ≤ rs_all P n := by
  intro n
  induction n with
  | zero => exact Nat.le_refl _
  | succ n ih =>
    show rs_rt P c n + _ ≤ rs_all P n + 2 * (232792560 / P n)
    by_cases h : c < n
    · simp only [if_pos h]
      omega
    · simp only [if_neg h]
      by_cases h2 : n = c
      · simp only [if_pos h2]
        omega
      · simp only [if_neg h2]
        omega
theorem rs_all_le {P : Nat → Nat} (n : Nat) : rs_all P n ≤ n * 465585120 := by
  induction n with
  | zero => exact Nat.zero_le _
  | succ n ih =>
    show rs_all P n + 2 * (232792560 / P n) ≤ _
    have := Nat.div_le_self 232792560 (P n)
    omega
theorem rs_dv : ∀ p : Nat, p ≤ 20 → 1 ≤ p → 465585120 / p = 2 * (232792560 / p) := by decide +kernel
theorem rs_num (l r t A : Nat) (h : t ≤ A) (hl : l ≤ 999) (hr : r ≤ 999) : (nI r).toInt64 * lN A + (nI l - nI r).toInt64 * lN t = lN (r * (A - t) + l * t) := by
  have e1 : (nI l - nI r).toInt64 = lN l - lN r := by
    apply Int64.toInt_inj.mp
    rw [Int32.toInt_toInt64, pk_sub_toInt (by omega) (by omega), lN_subz, Int64.toInt_ofInt_of_le (by omega) (by omega)]
  rw [e1, nI_l (by omega)]
  obtain ⟨B, rfl⟩ : ∃ B, A = B + t := ⟨A - t, by omega⟩
  rw [Nat.add_sub_cancel, ← lN_add, ← lN_add, ← lN_mul, ← lN_mul, Int64.mul_add, Int64.sub_mul, Int64.add_assoc]
  congr 1
  rw [Int64.add_comm, Int64.sub_add_cancel]

