/-! ===== the flow ===== -/
def fl_u (C h : Nat → Nat) (l nc i : Nat) : Nat := if i = 0 then l * C 0 else if i = nc then h (nc - 1) else h (i - 1) * C i
def fl_v (C h : Nat → Nat) (r nc i : Nat) : Nat := if i = 0 then h 0 else if i = nc then r * C (nc - 1) else h i * C (i - 1)
def fl_w (P : Nat → Nat) (nc i : Nat) : Nat := if i = 0 then 2 * P 0 else if i = nc then 2 * P (nc - 1) else 2 * P (i - 1) * P i
def fl_b (P C : Nat → Nat) (t nc i : Nat) : Nat := if i = 0 then C 0 * t else if i = nc then C (nc - 1) * t else C (i - 1) * C i * (P (i - 1) + P i) * t
def fl_x (u v w b : Nat) : Int32 := Int32.ofInt ((((u : Int) - v) * w).tdiv b)
def fl_I (P C h : Nat → Nat) (l r t nc i : Nat) : Int32 := fl_x (fl_u C h l nc i) (fl_v C h r nc i) (fl_w P nc i) (fl_b P C t nc i)
theorem nI_z (n : Nat) : nI n = Int32.ofInt (n : Int) := Int32.ofInt_eq_ofNat.symm
theorem lN_z (n : Nat) : lN n = Int64.ofInt (n : Int) := Int64.ofInt_eq_ofNat.symm
theorem fl_bd {u v w : Nat} (hu : u ≤ 400000) (hv : v ≤ 400000) (hw : w ≤ 800) : -320000000 ≤ ((u : Int) - v) * w ∧ ((u : Int) - v) * w ≤ 320000000 := by
  have h1 := Nat.mul_le_mul hu hw
  have h2 := Nat.mul_le_mul hv hw
  have e : ((u : Int) - v) * w = ((u * w : Nat) : Int) - ((v * w : Nat) : Int) := by
    rw [Int.sub_mul, Int.natCast_mul, Int.natCast_mul]
  rw [e]
  omega
theorem fl_32 {u v w b : Nat} (hu : u ≤ 400000) (hv : v ≤ 400000) (hw : w ≤ 800) (hb : b < 2 ^ 31) : Int32.ofInt (((u : Int) - v) * w) / nI b = fl_x u v w b := by
  obtain ⟨h1, h2⟩ := fl_bd hu hv hw
  have m1 : Int32.minValue.toInt = -2147483648 := by decide
  have m2 : Int32.maxValue.toInt = 2147483647 := by decide
  unfold fl_x
  rw [nI_z, Int32.ofInt_tdiv (by rw [m1]; omega) (by rw [m2]; omega) (by rw [m1]; omega) (by rw [m2]; omega)]
theorem fl_64 {u v w b : Nat} (hu : u ≤ 400000) (hv : v ≤ 400000) (hw : w ≤ 800) (hb : b < 2 ^ 31) : (Int64.ofInt (((u : Int) - v) * w) / lN b).toInt32 = fl_x u v w b := by
  obtain ⟨h1, h2⟩ := fl_bd hu hv hw
  have m1 : Int64.minValue.toInt = -9223372036854775808 := by decide
  have m2 : Int64.maxValue.toInt = 9223372036854775807 := by decide
  unfold fl_x
  rw [lN_z, ← Int64.ofInt_tdiv (by rw [m1]; omega) (by rw [m2]; omega) (by rw [m1]; omega) (by rw [m2]; omega), Int64.toInt32_ofInt]
theorem nI_sub (u v : Nat) : nI u - nI v = Int32.ofInt ((u : Int) - v) := by rw [Int32.ofInt_sub, nI_z, nI_z]
theorem lN_subz (u v : Nat) : lN u - lN v = Int64.ofInt ((u : Int) - v) := by rw [Int64.ofInt_sub, lN_z, lN_z]
theorem zI_mul (a : Int) (w : Nat) : Int32.ofInt a * nI w = Int32.ofInt (a * w) := by rw [Int32.ofInt_mul, nI_z]
theorem zL_mul (a : Int) (w : Nat) : Int64.ofInt a * lN w = Int64.ofInt (a * w) := by rw [Int64.ofInt_mul, lN_z]
/-- what the flow leans on, in bounds -/
def fl_ok (P C h : Nat → Nat) (l r t nc : Nat) : Prop := 1 ≤ nc ∧ nc ≤ 10 ∧ (∀ i, i < nc → (1 ≤ P i ∧ P i ≤ 20) ∧ (1 ≤ C i ∧ C i ≤ 20) ∧ h i ≤ 20000) ∧ l ≤ 999 ∧ r ≤ 999 ∧ 1 ≤ t ∧ t ≤ 999
theorem fl_bb {P C h : Nat → Nat} {l r t nc i : Nat} (H : fl_ok P C h l r t nc) (hi : i ≤ nc) : fl_u C h l nc i ≤ 400000 ∧ fl_v C h r nc i ≤ 400000 ∧ fl_w P nc i ≤ 800 ∧ 1 ≤ fl_b P C t nc i ∧ fl_b P C t nc i < 2 ^ 31 := by
  obtain ⟨h1, h2, h3, h4, h5, h6, h7⟩ := H
  unfold fl_u fl_v fl_w fl_b
  by_cases z : i = 0
  · rw [if_pos z, if_pos z, if_pos z, if_pos z]
    obtain ⟨⟨p1, p2⟩, ⟨c1, c2⟩, e⟩ := h3 0 (by omega)
    have g1 := Nat.mul_le_mul h4 c2
    have g2 := Nat.mul_le_mul c2 h7
    have g3 := Nat.mul_le_mul c1 h6
    refine ⟨by omega, by omega, by omega, by omega, by omega⟩
  · rw [if_neg z, if_neg z, if_neg z, if_neg z]
    by_cases y : i = nc
    · rw [if_pos y, if_pos y, if_pos y, if_pos y]
      obtain ⟨⟨p1, p2⟩, ⟨c1, c2⟩, e⟩ := h3 (nc - 1) (by omega)
      have g1 := Nat.mul_le_mul h5 c2
      have g2 := Nat.mul_le_mul c2 h7
      have g3 := Nat.mul_le_mul c1 h6
      refine ⟨by omega, by omega, by omega, by omega, by omega⟩
    · rw [if_neg y, if_neg y, if_neg y, if_neg y]
      obtain ⟨⟨p1, p2⟩, ⟨c1, c2⟩, e⟩ := h3 (i - 1) (by omega)
      obtain ⟨⟨q1, q2⟩, ⟨d1, d2⟩, f⟩ := h3 i (by omega)
      have g1 := Nat.mul_le_mul e d2
      have g2 := Nat.mul_le_mul f c2
      have g3 := Nat.mul_le_mul (show 2 * P (i - 1) ≤ 40 by omega) q2
      have g4 := Nat.mul_le_mul (Nat.mul_le_mul (Nat.mul_le_mul c2 d2) (show P (i - 1) + P i ≤ 40 by omega)) h7
      have g5 := Nat.mul_le_mul (Nat.mul_le_mul (Nat.mul_le_mul c1 d1) (show 1 ≤ P (i - 1) + P i by omega)) h6
      refine ⟨by omega, by omega, by omega, by omega, by omega⟩
theorem nI_m1 {i : Nat} (h : i ≠ 0) : nI i - (1 : Int32) = nI (i - 1) := pk_sub (a := i) (b := 1) (by omega)
theorem nI_mz : nI 0 - (1 : Int32) = -1 := by decide
/-- WallHeat's flow -/
theorem fl_W {M : ea_M} {x w ns nc l r t i : Nat} {h : Nat → Nat} (hw : wl_ok M x ns nc) (H : fl_ok (wl_p M x) (wl_c M x) h l r t nc) (hh : ∀ j, j < nc → M (w + 1) j = nI (h j)) (hl : M w 1 = nI l) (hr : M w 2 = nI r) (ht : M w 3 = nI t) (hi : i ≤ nc) : f_X4_flowAt M x w (nI i) = fl_I (wl_p M x) (wl_c M x) h l r t nc i := by
  obtain ⟨b1, b2, b3, b4, b5⟩ := fl_bb H hi
  obtain ⟨h1, h2, h3, h4, h5, h6, h7⟩ := H
  have hk := hw.2.2.2.1
  have dAm : f_X4_degreesAbove M x w (-1) = lN l := by
    unfold f_X4_degreesAbove
    rw [if_neg (by decide), hl, nI_l (by omega)]
  have dA : ∀ j, j < nc → f_X4_degreesAbove M x w (nI j) = lN (h j) := by
    intro j hj
    have e := (h3 j hj).2.2
    unfold f_X4_degreesAbove
    rw [if_pos (nI_pos' (by omega)), if_neg (by rw [hk]; exact nI_ge hj (by omega)), pa_atN (show j < 10 by omega) (by decide), hh j hj, nI_l (by omega)]
  have dAn : f_X4_degreesAbove M x w (nI nc) = lN r := by
    unfold f_X4_degreesAbove
    rw [if_pos (nI_pos' (by omega)), if_pos (by rw [hk]; exact Int32.le_refl _), hr, nI_l (by omega)]
  have dBm : f_X4_degreesBelow M x (-1) = lN 1 := by
    unfold f_X4_degreesBelow
    rw [if_neg (fun z => z.1 (by decide))]
    rfl
  have dB : ∀ j, j < nc → f_X4_degreesBelow M x (nI j) = lN (wl_c M x j) := by
    intro j hj
    obtain ⟨e, e1, e2⟩ := wl_cc hw hj
    unfold f_X4_degreesBelow
    rw [if_pos ⟨nI_pos (by omega), by rw [hk]; exact nI_ge hj (by omega)⟩, e, nI_l (by omega)]
  have dBn : f_X4_degreesBelow M x (nI nc) = lN 1 := by
    unfold f_X4_degreesBelow
    rw [if_neg (fun z => z.2 (by rw [hk]; exact Int32.le_refl _))]
    rfl
  obtain ⟨A1, -⟩ := wl_AA hw h1 hi
  obtain ⟨B1, -⟩ := wl_BB hw h1 hi
  have cut : ∀ (a : Int64) (b : Nat), 1 ≤ b → b < 2 ^ 31 → f_X6_cut a (lN b) = a / lN b := by
    intro a b hb hb2
    unfold f_X6_cut
    rw [if_neg (fun q => absurd (pa_l0 (by omega) q) (by omega))]
  have key : ∀ (u v W b : Nat), u ≤ 400000 → v ≤ 400000 → W ≤ 800 → 1 ≤ b → b < 2 ^ 31 → (f_X6_cut ((lN u - lN v) * lN W) (lN b)).toInt32 = fl_x u v W b := by
    intro u v W b q1 q2 q3 q4 q5
    rw [cut _ b q4 q5, lN_subz, zL_mul, fl_64 q1 q2 q3 q5]
  unfold f_X4_flowAt fl_I
  rw [A1, B1, ht, nI_l (by omega)]
  by_cases z : i = 0
  · subst z
    rw [nI_mz, dAm, dBm, dA 0 (by omega), dB 0 (by omega), lN_mul, lN_mul, lN_mul, lN_mul, lN_mul]
    have e1 : l * wl_c M x 0 = fl_u (wl_c M x) h l nc 0 := rfl
    have e2 : h 0 * 1 = fl_v (wl_c M x) h r nc 0 := Nat.mul_one _
    have e3 : wl_A M x nc 0 = fl_w (wl_p M x) nc 0 := rfl
    have e4 : 1 * wl_c M x 0 * wl_B M x nc 0 * t = fl_b (wl_p M x) (wl_c M x) t nc 0 := by
      rw [Nat.one_mul, show wl_B M x nc 0 = 1 from rfl, Nat.mul_one]
      rfl
    rw [e1, e2, e3, e4]
    exact key _ _ _ _ b1 b2 b3 b4 b5
  · by_cases y : i = nc
    · rw [nI_m1 z, dA (i - 1) (by omega), dB (i - 1) (by omega)]
      subst y
      rw [dAn, dBn, lN_mul, lN_mul, lN_mul, lN_mul, lN_mul]
      have e1 : h (i - 1) * 1 = fl_u (wl_c M x) h l i i := by
        unfold fl_u
        rw [if_neg z, if_pos rfl, Nat.mul_one]
      have e2 : r * wl_c M x (i - 1) = fl_v (wl_c M x) h r i i := by
        unfold fl_v
        rw [if_neg z, if_pos rfl]
      have e3 : wl_A M x i i = fl_w (wl_p M x) i i := rfl
      have e4 : wl_c M x (i - 1) * 1 * wl_B M x i i * t = fl_b (wl_p M x) (wl_c M x) t i i := by
        unfold wl_B fl_b
        rw [if_neg z, if_pos rfl, if_neg z, if_pos rfl, Nat.mul_one, Nat.mul_one]
      rw [e1, e2, e3, e4]
      exact key _ _ _ _ b1 b2 b3 b4 b5
    · rw [nI_m1 z, dA (i - 1) (by omega), dB (i - 1) (by omega), dA i (by omega), dB i (by omega), lN_mul, lN_mul, lN_mul, lN_mul, lN_mul]
      have e1 : h (i - 1) * wl_c M x i = fl_u (wl_c M x) h l nc i := by
        unfold fl_u
        rw [if_neg z, if_neg y]
      have e2 : h i * wl_c M x (i - 1) = fl_v (wl_c M x) h r nc i := by
        unfold fl_v
        rw [if_neg z, if_neg y]
      have e3 : wl_A M x nc i = fl_w (wl_p M x) nc i := rfl
      have e4 : wl_c M x (i - 1) * wl_c M x i * wl_B M x nc i * t = fl_b (wl_p M x) (wl_c M x) t nc i := by
        unfold wl_B fl_b
        rw [if_neg z, if_neg y, if_neg z, if_neg y]
      rw [e1, e2, e3, e4]
      exact key _ _ _ _ b1 b2 b3 b4 b5
/-- the model's row at b -/
def mr_ok (M : ea_M) (b nc : Nat) (h : Nat → Nat) (l r t : Nat) : Prop := (b = 0 ∨ b = 176) ∧ (∀ j, j < nc → M 62 (b + j) = nI (h j)) ∧ M 62 (b + 10) = nI l ∧ M 62 (b + 11) = nI r ∧ M 62 (b + 12) = nI t
theorem fl_ne {b : Nat} (h1 : 1 ≤ b) (h2 : b < 2 ^ 31) : ¬ nI b = 0 := fun q => absurd ((nI_0i (by omega)).mp q) (by omega)
theorem sp_X7_flowAt {M : ea_M} {nc b l r t i : Nat} {P Ch h : Nat → Nat} (hm : mp_ok M nc P Ch) (H : fl_ok P Ch h l r t nc) (hR : mr_ok M b nc h l r t) (hi : i ≤ nc) : ea_Sp 1 yX7_flowAt cX7_flowAt 8 (some .int) [.ref 61, .int (nI b), .int (nI i)] M (some (.int (fl_I P Ch h l r t nc i))) M := by
  refine ea_intro (own := RX7) (by decide +kernel) rfl (fun g => Nat.le_of_ble_eq_true rfl) (fun k C X => ?_)
  obtain ⟨b1, b2, b3, b4, b5⟩ := fl_bb H hi
  obtain ⟨h1, h2, h3, h4, h5, h6, h7⟩ := H
  obtain ⟨r1, r2, r3, r4, r5⟩ := hR
  have hb : b ≤ 176 := by omega
  have hk := hm.1
  have two : (2 : Int32) = nI 2 := rfl
  have eb0 : nI b + (0 : Int32) = nI b := Int32.add_zero _
  have e10 : nI b + (10 : Int32) = nI (b + 10) := nI_add b 10
  have e11 : nI b + (11 : Int32) = nI (b + 11) := nI_add b 11
  have e12 : nI b + (12 : Int32) = nI (b + 12) := nI_add b 12
  have e1a : nI b + (10 : Int32) + (1 : Int32) = nI (b + 11) := by rw [e10, nI_1]
  have ci : ∀ j, j < 192 → (nI j).toNatClampNeg = j := fun j hj => nI_clamp (by omega)
  have v12 : M 62 (nI b + (12 : Int32)).toNatClampNeg = nI t := by rw [e12, ci _ (by omega), r5]
  have s12 : vp_in (nI b + (12 : Int32)) 192 := by rw [e12]; exact vp_in_nI (by omega) (by decide)
  have m2 : ∀ (a : Int) (p : Nat), Int32.ofInt a * nI 2 * nI p = Int32.ofInt (a * ((2 * p : Nat) : Int)) := by
    intro a p
    rw [zI_mul, zI_mul, Int.mul_assoc, ← Int.natCast_mul]
  have m3 : ∀ (a : Int) (p q : Nat), Int32.ofInt a * nI 2 * nI p * nI q = Int32.ofInt (a * ((2 * p * q : Nat) : Int)) := by
    intro a p q
    rw [m2, zI_mul, Int.mul_assoc, ← Int.natCast_mul]
  by_cases z : i = 0
  · subst z
    have hz : nI 0 = 0 := nI_0
    have sp := sp_X7_passesOf hm (i := 0) (by omega)
    have sh := sp_X7_holdsOf hm (i := 0) (by omega)
    rw [hz] at sp sh
    rw [hz]
    have v10 : M 62 (nI b + (10 : Int32)).toNatClampNeg = nI l := by rw [e10, ci _ (by omega), r3]
    have v0 : M 62 (nI b + (0 : Int32)).toNatClampNeg = nI (h 0) := by rw [eb0, ci _ (by omega), ← r2 0 (by omega)]; rfl
    have s10 : vp_in (nI b + (10 : Int32)) 192 := by rw [e10]; exact vp_in_nI (by omega) (by decide)
    have s0 : vp_in (nI b + (0 : Int32)) 192 := by rw [eb0]; exact vp_in_nI (by omega) (by decide)
    refine km_flowAt C X (r1 := 0) (r2 := 0) (r3 := 0) (r4 := 0) (r5 := nI (Ch 0)) (r6 := nI (P 0)) (fun c => absurd rfl c) (fun c => absurd rfl c) (fun c => absurd rfl c) (fun c _ => absurd rfl c) (fun c _ => absurd rfl c) (fun c _ => absurd rfl c) (fun c _ => absurd rfl c) (fun c _ => absurd rfl c) (fun c _ => absurd rfl c) (fun c _ => absurd rfl c) (fun c _ => absurd rfl c) (fun c _ => absurd rfl c) (fun c _ => absurd rfl c) (fun _ => sh) (fun _ => s10) (fun _ => s0) (fun _ => sp) (fun _ => s12) (fun _ => ?_) (fun _ => ?_)
    · rw [v12, pk_mul]
      exact fl_ne b4 b5
    · refine ⟨?_, rfl⟩
      rw [v12, v10, v0, pk_mul, nI_sub, two, m2, pk_mul]
      exact congrArg (fun q => some (Value.int q)) (fl_32 b1 b2 b3 b5).symm
  · have hzi : ¬ nI i = 0 := fun q => z ((nI_0i (by omega)).mp q)
    have sp := sp_X7_passesOf hm (i := i - 1) (by omega)
    have sh := sp_X7_holdsOf hm (i := i - 1) (by omega)
    rw [← nI_m1 z] at sp sh
    have eh : nI b + (0 : Int32) + nI i - (1 : Int32) = nI (b + (i - 1)) := by
      rw [eb0, nI_add, show nI (b + i) - (1 : Int32) = nI (b + i - 1) from pk_sub (a := b + i) (b := 1) (by omega), show b + i - 1 = b + (i - 1) by omega]
    have vh : M 62 (nI b + (0 : Int32) + nI i - (1 : Int32)).toNatClampNeg = nI (h (i - 1)) := by rw [eh, ci _ (by omega), r2 _ (by omega)]
    have s0 : vp_in (nI b + (0 : Int32) + nI i - (1 : Int32)) 192 := by rw [eh]; exact vp_in_nI (by omega) (by decide)
    by_cases y : i = nc
    · have hy : nI i = M 61 6 := by rw [hk, y]
      have v11 : M 62 (nI b + (10 : Int32) + (1 : Int32)).toNatClampNeg = nI r := by rw [e1a, ci _ (by omega), r4]
      have s11 : vp_in (nI b + (10 : Int32) + (1 : Int32)) 192 := by rw [e1a]; exact vp_in_nI (by omega) (by decide)
      have v11' : M 62 (nI b + (11 : Int32)).toNatClampNeg = nI r := by rw [e11, ci _ (by omega), r4]
      have s11' : vp_in (nI b + (11 : Int32)) 192 := by rw [e11]; exact vp_in_nI (by omega) (by decide)
      have fu : fl_u Ch h l nc i = h (i - 1) := by
        unfold fl_u
        rw [if_neg z, if_pos y, y]
      have fv : fl_v Ch h r nc i = r * Ch (i - 1) := by
        unfold fl_v
        rw [if_neg z, if_pos y, y]
      have fw : fl_w P nc i = 2 * P (i - 1) := by
        unfold fl_w
        rw [if_neg z, if_pos y, y]
      have fb : fl_b P Ch t nc i = Ch (i - 1) * t := by
        unfold fl_b
        rw [if_neg z, if_pos y, y]
      unfold fl_I at X
      rw [fu, fv, fw, fb] at X
      rw [fu] at b1
      rw [fv] at b2
      rw [fw] at b3
      rw [fb] at b4 b5
      refine km_flowAt C X (r1 := nI (P (i - 1))) (r2 := nI (Ch (i - 1))) (r3 := 0) (r4 := 0) (r5 := 0) (r6 := 0) (fun _ => sp) (fun _ => sh) (fun _ => s0) (fun _ c => absurd hy c) (fun _ c => absurd hy c) (fun _ c => absurd hy c) (fun _ c => absurd hy c) (fun _ c => absurd hy c) (fun _ c => absurd hy c) (fun _ _ => s11) (fun _ _ => s12) (fun _ _ => ?_) (fun _ _ => ?_) (fun c => absurd c hzi) (fun c => absurd c hzi) (fun c => absurd c hzi) (fun c => absurd c hzi) (fun c => absurd c hzi) (fun c => absurd c hzi) (fun c => absurd c hzi)
      · rw [v12, pk_mul]
        exact fl_ne b4 b5
      · refine ⟨?_, rfl⟩
        rw [v12, vh]
        first | rw [v11] | rw [v11']
        rw [pk_mul, nI_sub, two, m2, pk_mul]
        exact congrArg (fun q => some (Value.int q)) (fl_32 b1 b2 b3 b5).symm
    · have hy : ¬ nI i = M 61 6 := by
        rw [hk]
        exact fun q => y ((nI_eq (by omega) (by omega)).mp q)
      have sp2 := sp_X7_passesOf hm (i := i) (by omega)
      have sh2 := sp_X7_holdsOf hm (i := i) (by omega)
      have ei : nI b + (0 : Int32) + nI i = nI (b + i) := by rw [eb0, nI_add]
      have vi : M 62 (nI b + (0 : Int32) + nI i).toNatClampNeg = nI (h i) := by rw [ei, ci _ (by omega), r2 _ (by omega)]
      have si : vp_in (nI b + (0 : Int32) + nI i) 192 := by rw [ei]; exact vp_in_nI (by omega) (by decide)
      have fu : fl_u Ch h l nc i = h (i - 1) * Ch i := by
        unfold fl_u
        rw [if_neg z, if_neg y]
      have fv : fl_v Ch h r nc i = h i * Ch (i - 1) := by
        unfold fl_v
        rw [if_neg z, if_neg y]
      have fw : fl_w P nc i = 2 * P (i - 1) * P i := by
        unfold fl_w
        rw [if_neg z, if_neg y]
      have fb : fl_b P Ch t nc i = Ch (i - 1) * Ch i * (P (i - 1) + P i) * t := by
        unfold fl_b
        rw [if_neg z, if_neg y]
      unfold fl_I at X
      rw [fu, fv, fw, fb] at X
      rw [fu] at b1
      rw [fv] at b2
      rw [fw] at b3
      rw [fb] at b4 b5
      refine km_flowAt C X (r1 := nI (P (i - 1))) (r2 := nI (Ch (i - 1))) (r3 := nI (P i)) (r4 := nI (Ch i)) (r5 := 0) (r6 := 0) (fun _ => sp) (fun _ => sh) (fun _ => s0) (fun _ _ => sp2) (fun _ _ => sh2) (fun _ _ => si) (fun _ _ => s12) (fun _ _ => ?_) (fun _ _ => ?_) (fun _ c => absurd c hy) (fun _ c => absurd c hy) (fun _ c => absurd c hy) (fun _ c => absurd c hy) (fun c => absurd c hzi) (fun c => absurd c hzi) (fun c => absurd c hzi) (fun c => absurd c hzi) (fun c => absurd c hzi) (fun c => absurd c hzi) (fun c => absurd c hzi)
      · rw [v12, pk_mul, nI_add, pk_mul, pk_mul]
        exact fl_ne b4 b5
      · refine ⟨?_, rfl⟩
        rw [v12, vh, vi, pk_mul, pk_mul, nI_sub, two, m3, pk_mul, nI_add, pk_mul, pk_mul]
        exact congrArg (fun q => some (Value.int q)) (fl_32 b1 b2 b3 b5).symm

