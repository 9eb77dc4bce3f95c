/-! ===== the calls that ask ===== -/
theorem wl_of {M : ea_M} {ns nc : Nat} (h : vv_ok (vw_s M) ns nc) : wl_ok M 13 ns nc := ⟨h.1.1, h.1.2.1, h.1.2.2.1, h.1.2.2.2, h.2.2.1, h.2.2.2.1, h.2.2.2.2.1⟩
theorem warm_of {M : ea_M} {ns nc : Nat} (h : vv_ok (vw_s M) ns nc) : warm M 20 := h.2.2.2.2.2
theorem nW_6 {s : sg} {M N : ea_M} (h : Rel s M N) : N 61 6 = nI s.nc := h.1.2.2.1.trans h.1.1.1.2.2.2
theorem nW_1 {s : sg} {M N : ea_M} (h : Rel s M N) : N 61 1 = nI s.ns := h.1.2.1.trans h.1.1.1.2.2.1
theorem mp_of {s : sg} {M N : ea_M} (h : R_w s M N) : mp_ok N s.nc (wl_p M 13) (wl_c M 13) := by
  have hw := wl_of h.1
  obtain ⟨h1, -, h3, -, -, h6, h7, h8, -⟩ := h
  refine ⟨h3.trans h1.1.2.2.2, h1.1.2.1, fun i hi => ?_⟩
  have hn := hw.2.1
  obtain ⟨z, hz, ez⟩ := hw.2.2.2.2.2.2 i hi
  have z6 : z < 6 := by have := hw.1; omega
  obtain ⟨e, e1, e2⟩ := wl_pp hw hi
  obtain ⟨f, f1, f2⟩ := wl_cc hw hi
  unfold f_X4_passesAt at e
  unfold f_X4_holdsAt at f
  rw [pa_atN (show i < 10 by omega) (by decide), ez, pa_atN z6 (by decide)] at e f
  exact ⟨z, z6, (h8 i (by omega)).trans ez, (h6 z z6).trans e, (h7 z z6).trans f, ⟨e1, e2⟩, f1, f2⟩
theorem ge_i {n : Nat} {v : Int32} (hn : n < 2 ^ 31) : (¬ v < 0 ∧ ¬ nI n ≤ v) ↔ ∃ j : Nat, j < n ∧ v = nI j := by
  constructor
  · rintro ⟨a, b⟩
    obtain ⟨j, hj, rfl⟩ := nI_of a
    refine ⟨j, ?_, rfl⟩
    exact Classical.byContradiction (fun q => b (nI_le (by omega) hj))
  · rintro ⟨j, hj, rfl⟩
    exact ⟨nI_pos (by omega), nI_ge hj hn⟩
theorem iw_cell {M : ea_M} {nc : Nat} {i : Int32} (h : M 13 5 = nI nc) (hn : nc ≤ 10) : p_X4_isCell M 13 i ↔ ∃ j : Nat, j < nc ∧ i = nI j := by
  show (¬ i < 0 ∧ ¬ M 13 5 ≤ i) ↔ _
  rw [h]
  exact ge_i (by omega)
theorem iw_stuff {M : ea_M} {ns : Nat} {i : Int32} (h : M 13 0 = nI ns) (hn : ns ≤ 6) : p_X4_isStuff M 13 i ↔ ∃ j : Nat, j < ns ∧ i = nI j := by
  show (¬ i < 0 ∧ ¬ M 13 0 ≤ i) ↔ _
  rw [h]
  exact ge_i (by omega)
theorem mi_stuff {M : ea_M} {nc : Nat} {i : Int32} (h : M 61 1 = nI nc) (hn : nc ≤ 6) : p_X7_isStuff M i ↔ ∃ j : Nat, j < nc ∧ i = nI j := by
  show p_X7_in i.toInt64 (0 : Int64) ((M 61 1 - 1).toInt64) ↔ _
  rw [show (0 : Int64) = (0 : Int32).toInt64 from rfl, in_i, h, ← ge_i (show nc < 2 ^ 31 by omega)]
  rcases Nat.eq_zero_or_pos nc with z | z
  · subst z
    constructor
    · rintro ⟨a, b⟩
      obtain ⟨j, hj, rfl⟩ := nI_of a
      exact absurd (Int32.lt_of_lt_of_le (show nI 0 - 1 < 0 by decide) (nI_pos' hj)) b
    · rintro ⟨a, b⟩
      obtain ⟨j, hj, rfl⟩ := nI_of a
      exact absurd (nI_le (Nat.zero_le _) hj) b
  · rw [nI_m1 (show nc ≠ 0 by omega)]
    constructor
    · rintro ⟨a, b⟩
      obtain ⟨j, hj, rfl⟩ := nI_of a
      exact ⟨a, fun q => b (nI_lt (by have := (nI_leI (by omega) hj).mp q; omega) hj)⟩
    · rintro ⟨a, b⟩
      obtain ⟨j, hj, rfl⟩ := nI_of a
      exact ⟨a, fun q => b (nI_le (by have := (nI_ltI (by omega) hj).mp q; omega) hj)⟩
theorem bt_c {p q : Nat → Bool} : ∀ n, (∀ i, i < n → p i = q i) → pa_bt p n = pa_bt q n := by
  intro n
  induction n with
  | zero => intro _; rfl
  | succ n ih =>
    intro h
    rw [pa_bt, pa_bt, ih (fun i hi => h i (by omega)), h n (by omega)]
theorem pm_stuff (s w : Int32) : pm 2 yX6_stuff cX6_stuff 3 2 yX7_stuff cX7_stuff 3 (some .int) [.int s, .int w] := by
  obtain ⟨s0, hs0⟩ : ∃ s0, s0 = s := ⟨_, rfl⟩
  rw [← hs0]
  clear hs0
  refine pm_q (fun s M N0 h0 => ?_)
  have hk : M 13 5 = nI s.nc := h0.1.1.1.2.2.2
  have hn : s.nc ≤ 10 := h0.1.1.1.2.1
  have h6 : s.ns ≤ 6 := h0.1.1.1.1
  have hs : M 13 0 = nI s.ns := h0.1.1.1.2.2.1
  by_cases hst : ∃ j : Nat, j < s.ns ∧ s0 = nI j
  case neg =>
    have iw : ¬ p_X4_isStuff M 13 s0 := fun z => hst ((iw_stuff hs h6).mp z)
    refine ⟨.int (-2000000001), ?_, fun N hN => ?_⟩
    · refine ea_intro (own := RX6) (by decide +kernel) rfl (fun g => Nat.le_of_ble_eq_true rfl) (fun k C X => ?_)
      refine kb_X6_stuff C X  (r1 := 0) (fun c _ => absurd c iw) (fun c _ _ => absurd c iw) (fun c _ _ _ => absurd c iw) (fun c _ _ _ _ => absurd c iw) (fun c _ _ _ _ => absurd c iw) (fun c _ _ _ _ => absurd c iw) (fun _ => ⟨rfl, rfl⟩)
    · refine ea_intro (own := RX7) (by decide +kernel) rfl (fun g => Nat.le_of_ble_eq_true rfl) (fun k C X => ?_)
      have im : ¬ p_X7_isStuff N s0 := fun z => hst ((mi_stuff (nW_1 hN) h6).mp z)
      refine km_stuff C X  (r1 := 0) (fun c _ => absurd c im) (fun c _ => absurd c im) (fun c _ _ => absurd c im) (fun c _ _ => absurd c im) (fun c _ _ _ => absurd c im) (fun c _ _ _ => absurd c im) (fun c _ _ _ _ => absurd c im) (fun c _ _ _ _ => absurd c im) (fun c _ _ _ _ => absurd c im) (fun _ => ⟨rfl, rfl⟩)
  have iw := (iw_stuff hs h6).mpr hst
  obtain ⟨j, hj, rfl⟩ := hst
  have a6 : ∀ r, pa_at r 6 (nI j) = r j := fun r => pa_atN (show j < 6 by omega) (by decide)
  have cj : (nI j).toNatClampNeg = j := nI_clamp (by omega)
  have vj : vp_in (nI j) 6 := vp_in_nI (by omega) (by decide)
  by_cases w0 : w = 0
  · refine ⟨.int (M 16 j), ?_, fun N hN => ?_⟩
    · refine ea_intro (own := RX6) (by decide +kernel) rfl (fun g => Nat.le_of_ble_eq_true rfl) (fun k C X => ?_)
      refine kb_X6_stuff C X  (r1 := 0) (fun _ _ => ⟨by rw [a6], rfl⟩) (fun _ c _ => absurd w0 c) (fun _ c _ _ => absurd w0 c) (fun _ c _ _ _ => absurd w0 c) (fun _ c _ _ _ => absurd w0 c) (fun _ c _ _ _ => absurd w0 c) (fun c => absurd iw c)
    · refine ea_intro (own := RX7) (by decide +kernel) rfl (fun g => Nat.le_of_ble_eq_true rfl) (fun k C X => ?_)
      have im := (mi_stuff (nW_1 hN) h6).mpr ⟨j, hj, rfl⟩
      obtain ⟨-, -, -, -, r5, r6, r7, -, -⟩ := hN.1
      refine km_stuff C X  (r1 := 0) (fun _ _ => vj) (fun _ _ => ⟨by rw [cj, r6 j (by omega)], rfl⟩) (fun _ c _ => absurd w0 c) (fun _ c _ => absurd w0 c) (fun _ c _ _ => absurd w0 c) (fun _ c _ _ => absurd w0 c) (fun _ c _ _ _ => absurd w0 c) (fun _ c _ _ _ => absurd w0 c) (fun _ c _ _ _ => absurd w0 c) (fun c => absurd im c)
  · by_cases w1 : w = 1
    · refine ⟨.int (M 17 j), ?_, fun N hN => ?_⟩
      · refine ea_intro (own := RX6) (by decide +kernel) rfl (fun g => Nat.le_of_ble_eq_true rfl) (fun k C X => ?_)
        refine kb_X6_stuff C X  (r1 := 0) (fun _ c => absurd c w0) (fun _ _ _ => ⟨by rw [a6], rfl⟩) (fun _ _ c _ => absurd w1 c) (fun _ _ c _ _ => absurd w1 c) (fun _ _ c _ _ => absurd w1 c) (fun _ _ c _ _ => absurd w1 c) (fun c => absurd iw c)
      · refine ea_intro (own := RX7) (by decide +kernel) rfl (fun g => Nat.le_of_ble_eq_true rfl) (fun k C X => ?_)
        have im := (mi_stuff (nW_1 hN) h6).mpr ⟨j, hj, rfl⟩
        obtain ⟨-, -, -, -, r5, r6, r7, -, -⟩ := hN.1
        refine km_stuff C X  (r1 := 0) (fun _ c => absurd c w0) (fun _ c => absurd c w0) (fun _ _ _ => vj) (fun _ _ _ => ⟨by rw [cj, r7 j (by omega)], rfl⟩) (fun _ _ c _ => absurd w1 c) (fun _ _ c _ => absurd w1 c) (fun _ _ c _ _ => absurd w1 c) (fun _ _ c _ _ => absurd w1 c) (fun _ _ c _ _ => absurd w1 c) (fun c => absurd im c)
    · by_cases w2 : w = 2
      · refine ⟨.int (M 15 j), ?_, fun N hN => ?_⟩
        · refine ea_intro (own := RX6) (by decide +kernel) rfl (fun g => Nat.le_of_ble_eq_true rfl) (fun k C X => ?_)
          refine kb_X6_stuff C X  (r1 := 0) (fun _ c => absurd c w0) (fun _ _ c => absurd c w1) (fun _ _ _ _ => ⟨by rw [a6], rfl⟩) (fun _ _ _ c _ => absurd w2 c) (fun _ _ _ c _ => absurd w2 c) (fun _ _ _ c _ => absurd w2 c) (fun c => absurd iw c)
        · refine ea_intro (own := RX7) (by decide +kernel) rfl (fun g => Nat.le_of_ble_eq_true rfl) (fun k C X => ?_)
          have im := (mi_stuff (nW_1 hN) h6).mpr ⟨j, hj, rfl⟩
          obtain ⟨-, -, -, -, r5, r6, r7, -, -⟩ := hN.1
          refine km_stuff C X  (r1 := 0) (fun _ c => absurd c w0) (fun _ c => absurd c w0) (fun _ _ c => absurd c w1) (fun _ _ c => absurd c w1) (fun _ _ _ _ => vj) (fun _ _ _ _ => ⟨by rw [cj, r5 j (by omega)], rfl⟩) (fun _ _ _ c _ => absurd w2 c) (fun _ _ _ c _ => absurd w2 c) (fun _ _ _ c _ => absurd w2 c) (fun c => absurd im c)
      · by_cases w3 : w = 3
        · refine ⟨.int (pa_bt (fun i => decide (M 18 i = nI j)) s.nc), ?_, fun N hN => ?_⟩
          · refine ea_intro (own := RX6) (by decide +kernel) rfl (fun g => Nat.le_of_ble_eq_true rfl) (fun k C X => ?_)
            refine kb_X6_stuff C X  (fun _ c => absurd c w0) (fun _ _ c => absurd c w1) (fun _ _ _ c => absurd c w2) (fun _ _ _ _ _ => sp_X4_cellsOf M 13 s.nc (nI j) rfl hn hk) (fun _ _ _ _ _ => ⟨rfl, rfl⟩) (fun _ _ _ _ c => absurd w3 c) (fun c => absurd iw c)
          · refine ea_intro (own := RX7) (by decide +kernel) rfl (fun g => Nat.le_of_ble_eq_true rfl) (fun k C X => ?_)
            have im := (mi_stuff (nW_1 hN) h6).mpr ⟨j, hj, rfl⟩
            have sp := sp_X7_cellsOf N s.nc (nI j) (nW_6 hN) hn
            rw [bt_c s.nc (fun i hi => by rw [hN.1.2.2.2.2.2.2.2.1 i (by omega)])] at sp
            refine km_stuff C X  (fun _ c => absurd c w0) (fun _ c => absurd c w0) (fun _ _ c => absurd c w1) (fun _ _ c => absurd c w1) (fun _ _ _ c => absurd c w2) (fun _ _ _ c => absurd c w2) (fun _ _ _ _ _ => sp) (fun _ _ _ _ _ => ⟨rfl, rfl⟩) (fun _ _ _ _ c => absurd w3 c) (fun c => absurd im c)
        · refine ⟨.int (-2000000002), ?_, fun N hN => ?_⟩
          · refine ea_intro (own := RX6) (by decide +kernel) rfl (fun g => Nat.le_of_ble_eq_true rfl) (fun k C X => ?_)
            refine kb_X6_stuff C X  (r1 := 0) (fun _ c => absurd c w0) (fun _ _ c => absurd c w1) (fun _ _ _ c => absurd c w2) (fun _ _ _ _ c => absurd c w3) (fun _ _ _ _ c => absurd c w3) (fun _ _ _ _ _ => ⟨rfl, rfl⟩) (fun c => absurd iw c)
          · refine ea_intro (own := RX7) (by decide +kernel) rfl (fun g => Nat.le_of_ble_eq_true rfl) (fun k C X => ?_)
            have im := (mi_stuff (nW_1 hN) h6).mpr ⟨j, hj, rfl⟩
            refine km_stuff C X  (r1 := 0) (fun _ c => absurd c w0) (fun _ c => absurd c w0) (fun _ _ c => absurd c w1) (fun _ _ c => absurd c w1) (fun _ _ _ c => absurd c w2) (fun _ _ _ c => absurd c w2) (fun _ _ _ _ c => absurd c w3) (fun _ _ _ _ c => absurd c w3) (fun _ _ _ _ _ => ⟨rfl, rfl⟩) (fun c => absurd im c)
theorem pm_cell (c w : Int32) : pm 2 yX6_cell cX6_cell 4 2 yX7_cell cX7_cell 3 (some .int) [.int c, .int w] := by
  refine pm_q (fun s M N0 h0 => ?_)
  have hk : M 13 5 = nI s.nc := h0.1.1.1.2.2.2
  have hn : s.nc ≤ 10 := h0.1.1.1.2.1
  have hw := wl_of h0.1.1
  by_cases hst : ∃ j : Nat, j < s.nc ∧ c = nI j
  case neg =>
    have iw : ¬ p_X4_isCell M 13 c := fun z => hst ((iw_cell hk hn).mp z)
    refine ⟨.int (-2000000001), ?_, fun N hN => ?_⟩
    · refine ea_intro (own := RX6) (by decide +kernel) rfl (fun g => Nat.le_of_ble_eq_true rfl) (fun k C X => ?_)
      refine kb_X6_cell C X  (r1 := 0) (r2 := 0) (fun c _ => absurd c iw) (fun c _ _ => absurd c iw) (fun c _ _ _ => absurd c iw) (fun c _ _ _ => absurd c iw) (fun c _ _ _ _ => absurd c iw) (fun c _ _ _ _ => absurd c iw) (fun c _ _ _ _ => absurd c iw) (fun _ => ⟨rfl, rfl⟩)
    · refine ea_intro (own := RX7) (by decide +kernel) rfl (fun g => Nat.le_of_ble_eq_true rfl) (fun k C X => ?_)
      have im : ¬ p_X7_isCell N c := fun z => hst ((mi_cell (nW_6 hN) hn).mp z)
      refine km_cell C X  (r1 := 0) (r3 := 0) (r2 := 0) (r4 := 0) (fun c _ => absurd c im) (fun c _ => absurd c im) (fun c _ _ => absurd c im) (fun c _ _ => absurd c im) (fun c _ _ _ => absurd c im) (fun c _ _ _ => absurd c im) (fun c _ _ _ => absurd c im) (fun c _ _ _ => absurd c im) (fun c _ _ _ _ => absurd c im) (fun c _ _ _ _ => absurd c im) (fun c _ _ _ _ => absurd c im) (fun c _ _ _ _ => absurd c im) (fun c _ _ _ _ => absurd c im) (fun _ => ⟨rfl, rfl⟩)
  have iw := (iw_cell hk hn).mpr hst
  obtain ⟨j, hj, rfl⟩ := hst
  have aj : ∀ r, pa_at r 10 (nI j) = r j := fun r => pa_atN (show j < 10 by omega) (by decide)
  have cj : (nI j).toNatClampNeg = j := nI_clamp (by omega)
  have vj : vp_in (nI j) 10 := vp_in_nI (by omega) (by decide)
  have v0 : vp_in ((0 : Int32) + nI j) 192 := by rw [Int32.zero_add]; exact vp_in_nI (by omega) (by decide)
  obtain ⟨c1, c2, c3⟩ := wl_cc hw hj
  obtain ⟨x, hx1, hx2⟩ := (warm_of h0.1.1).1 j (by omega)
  by_cases w0 : w = 0
  · refine ⟨.int (M 18 j), ?_, fun N hN => ?_⟩
    · refine ea_intro (own := RX6) (by decide +kernel) rfl (fun g => Nat.le_of_ble_eq_true rfl) (fun k C X => ?_)
      refine kb_X6_cell C X  (r1 := 0) (r2 := 0) (fun _ _ => ⟨by rw [aj], rfl⟩) (fun _ c _ => absurd w0 c) (fun _ c _ _ => absurd w0 c) (fun _ c _ _ => absurd w0 c) (fun _ c _ _ _ => absurd w0 c) (fun _ c _ _ _ => absurd w0 c) (fun _ c _ _ _ => absurd w0 c) (fun c => absurd iw c)
    · refine ea_intro (own := RX7) (by decide +kernel) rfl (fun g => Nat.le_of_ble_eq_true rfl) (fun k C X => ?_)
      have im := (mi_cell (nW_6 hN) hn).mpr ⟨j, hj, rfl⟩
      obtain ⟨-, -, -, -, -, -, -, r8, r9, -⟩ := hN.1
      have sh := sp_X7_holdsOf (mp_of hN.1) hj
      have eh : N 62 ((0 : Int32) + nI j).toNatClampNeg = M 21 j := by rw [Int32.zero_add, cj, ← r9 j (by omega), Nat.zero_add]
      refine km_cell C X  (r1 := 0) (r3 := 0) (r2 := 0) (r4 := 0) (fun _ _ => vj) (fun _ _ => ⟨by rw [cj, r8 j (by omega)], rfl⟩) (fun _ c _ => absurd w0 c) (fun _ c _ => absurd w0 c) (fun _ c _ _ => absurd w0 c) (fun _ c _ _ => absurd w0 c) (fun _ c _ _ => absurd w0 c) (fun _ c _ _ => absurd w0 c) (fun _ c _ _ _ => absurd w0 c) (fun _ c _ _ _ => absurd w0 c) (fun _ c _ _ _ => absurd w0 c) (fun _ c _ _ _ => absurd w0 c) (fun _ c _ _ _ => absurd w0 c) (fun c => absurd im c)
  · by_cases w1 : w = 1
    · refine ⟨.int (M 21 j), ?_, fun N hN => ?_⟩
      · refine ea_intro (own := RX6) (by decide +kernel) rfl (fun g => Nat.le_of_ble_eq_true rfl) (fun k C X => ?_)
        refine kb_X6_cell C X  (r1 := 0) (r2 := 0) (fun _ c => absurd c w0) (fun _ _ _ => ⟨by rw [aj], rfl⟩) (fun _ _ c _ => absurd w1 c) (fun _ _ c _ => absurd w1 c) (fun _ _ c _ _ => absurd w1 c) (fun _ _ c _ _ => absurd w1 c) (fun _ _ c _ _ => absurd w1 c) (fun c => absurd iw c)
      · refine ea_intro (own := RX7) (by decide +kernel) rfl (fun g => Nat.le_of_ble_eq_true rfl) (fun k C X => ?_)
        have im := (mi_cell (nW_6 hN) hn).mpr ⟨j, hj, rfl⟩
        obtain ⟨-, -, -, -, -, -, -, r8, r9, -⟩ := hN.1
        have sh := sp_X7_holdsOf (mp_of hN.1) hj
        have eh : N 62 ((0 : Int32) + nI j).toNatClampNeg = M 21 j := by rw [Int32.zero_add, cj, ← r9 j (by omega), Nat.zero_add]
        refine km_cell C X  (r1 := 0) (r3 := 0) (r2 := 0) (r4 := 0) (fun _ c => absurd c w0) (fun _ c => absurd c w0) (fun _ _ _ => v0) (fun _ _ _ => ⟨by rw [eh], rfl⟩) (fun _ _ c _ => absurd w1 c) (fun _ _ c _ => absurd w1 c) (fun _ _ c _ => absurd w1 c) (fun _ _ c _ => absurd w1 c) (fun _ _ c _ _ => absurd w1 c) (fun _ _ c _ _ => absurd w1 c) (fun _ _ c _ _ => absurd w1 c) (fun _ _ c _ _ => absurd w1 c) (fun _ _ c _ _ => absurd w1 c) (fun c => absurd im c)
    · by_cases w2 : w = 2
      · refine ⟨.int (lN ((if (0 : Int32) = 0 then x else wl_c M 13 j) / Nat.gcd x (wl_c M 13 j))).toInt32, ?_, fun N hN => ?_⟩
        · refine ea_intro (own := RX6) (by decide +kernel) rfl (fun g => Nat.le_of_ble_eq_true rfl) (fun k C X => ?_)
          have sl := sp_X6_lowest M x (wl_c M 13 j) 0 (by omega) (by omega) (by omega)
          rw [← nI_l (show x < 2 ^ 31 by omega), ← nI_l (show wl_c M 13 j < 2 ^ 31 by omega), ← hx2, ← c1, ← aj (M 21)] at sl
          refine kb_X6_cell C X  (r2 := 0) (fun _ c => absurd c w0) (fun _ _ c => absurd c w1) (fun _ _ _ _ => sl) (fun _ _ _ _ => ⟨rfl, rfl⟩) (fun _ _ _ c _ => absurd w2 c) (fun _ _ _ c _ => absurd w2 c) (fun _ _ _ c _ => absurd w2 c) (fun c => absurd iw c)
        · refine ea_intro (own := RX7) (by decide +kernel) rfl (fun g => Nat.le_of_ble_eq_true rfl) (fun k C X => ?_)
          have im := (mi_cell (nW_6 hN) hn).mpr ⟨j, hj, rfl⟩
          obtain ⟨-, -, -, -, -, -, -, r8, r9, -⟩ := hN.1
          have sh := sp_X7_holdsOf (mp_of hN.1) hj
          have eh : N 62 ((0 : Int32) + nI j).toNatClampNeg = M 21 j := by rw [Int32.zero_add, cj, ← r9 j (by omega), Nat.zero_add]
          have ec : (if w - 2 = 0 then x else wl_c M 13 j) = (if (0 : Int32) = 0 then x else wl_c M 13 j) := by rw [w2]; rfl
          have sl := sp_X7_told N x (wl_c M 13 j) (w - 2) (by omega) (by omega) (by omega)
          rw [← nI_l (show x < 2 ^ 31 by omega), ← nI_l (show wl_c M 13 j < 2 ^ 31 by omega), ← hx2, ← eh, ec] at sl
          refine km_cell C X  (r3 := 0) (r4 := 0) (fun _ c => absurd c w0) (fun _ c => absurd c w0) (fun _ _ c => absurd c w1) (fun _ _ c => absurd c w1) (fun _ _ _ _ => v0) (fun _ _ _ _ => sh) (fun _ _ _ _ => sl) (fun _ _ _ _ => ⟨rfl, rfl⟩) (fun _ _ _ c _ => absurd w2 c) (fun _ _ _ c _ => absurd w2 c) (fun _ _ _ c _ => absurd w2 c) (fun _ _ _ c _ => absurd w2 c) (fun _ _ _ c _ => absurd w2 c) (fun c => absurd im c)
      · by_cases w3 : w = 3
        · refine ⟨.int (lN ((if (1 : Int32) = 0 then x else wl_c M 13 j) / Nat.gcd x (wl_c M 13 j))).toInt32, ?_, fun N hN => ?_⟩
          · refine ea_intro (own := RX6) (by decide +kernel) rfl (fun g => Nat.le_of_ble_eq_true rfl) (fun k C X => ?_)
            have sl := sp_X6_lowest M x (wl_c M 13 j) 1 (by omega) (by omega) (by omega)
            rw [← nI_l (show x < 2 ^ 31 by omega), ← nI_l (show wl_c M 13 j < 2 ^ 31 by omega), ← hx2, ← c1, ← aj (M 21)] at sl
            refine kb_X6_cell C X  (r1 := 0) (fun _ c => absurd c w0) (fun _ _ c => absurd c w1) (fun _ _ _ c => absurd c w2) (fun _ _ _ c => absurd c w2) (fun _ _ _ _ _ => sl) (fun _ _ _ _ _ => ⟨rfl, rfl⟩) (fun _ _ _ _ c => absurd w3 c) (fun c => absurd iw c)
          · refine ea_intro (own := RX7) (by decide +kernel) rfl (fun g => Nat.le_of_ble_eq_true rfl) (fun k C X => ?_)
            have im := (mi_cell (nW_6 hN) hn).mpr ⟨j, hj, rfl⟩
            obtain ⟨-, -, -, -, -, -, -, r8, r9, -⟩ := hN.1
            have sh := sp_X7_holdsOf (mp_of hN.1) hj
            have eh : N 62 ((0 : Int32) + nI j).toNatClampNeg = M 21 j := by rw [Int32.zero_add, cj, ← r9 j (by omega), Nat.zero_add]
            have ec : (if w - 2 = 0 then x else wl_c M 13 j) = (if (1 : Int32) = 0 then x else wl_c M 13 j) := by rw [w3]; rfl
            have sl := sp_X7_told N x (wl_c M 13 j) (w - 2) (by omega) (by omega) (by omega)
            rw [← nI_l (show x < 2 ^ 31 by omega), ← nI_l (show wl_c M 13 j < 2 ^ 31 by omega), ← hx2, ← eh, ec] at sl
            refine km_cell C X  (r1 := 0) (r2 := 0) (fun _ c => absurd c w0) (fun _ c => absurd c w0) (fun _ _ c => absurd c w1) (fun _ _ c => absurd c w1) (fun _ _ _ c => absurd c w2) (fun _ _ _ c => absurd c w2) (fun _ _ _ c => absurd c w2) (fun _ _ _ c => absurd c w2) (fun _ _ _ _ _ => v0) (fun _ _ _ _ _ => sh) (fun _ _ _ _ _ => sl) (fun _ _ _ _ _ => ⟨rfl, rfl⟩) (fun _ _ _ _ c => absurd w3 c) (fun c => absurd im c)
        · refine ⟨.int (-2000000002), ?_, fun N hN => ?_⟩
          · refine ea_intro (own := RX6) (by decide +kernel) rfl (fun g => Nat.le_of_ble_eq_true rfl) (fun k C X => ?_)
            refine kb_X6_cell C X  (r1 := 0) (r2 := 0) (fun _ c => absurd c w0) (fun _ _ c => absurd c w1) (fun _ _ _ c => absurd c w2) (fun _ _ _ c => absurd c w2) (fun _ _ _ _ c => absurd c w3) (fun _ _ _ _ c => absurd c w3) (fun _ _ _ _ _ => ⟨rfl, rfl⟩) (fun c => absurd iw c)
          · refine ea_intro (own := RX7) (by decide +kernel) rfl (fun g => Nat.le_of_ble_eq_true rfl) (fun k C X => ?_)
            have im := (mi_cell (nW_6 hN) hn).mpr ⟨j, hj, rfl⟩
            obtain ⟨-, -, -, -, -, -, -, r8, r9, -⟩ := hN.1
            have sh := sp_X7_holdsOf (mp_of hN.1) hj
            have eh : N 62 ((0 : Int32) + nI j).toNatClampNeg = M 21 j := by rw [Int32.zero_add, cj, ← r9 j (by omega), Nat.zero_add]
            refine km_cell C X  (r1 := 0) (r3 := 0) (r2 := 0) (r4 := 0) (fun _ c => absurd c w0) (fun _ c => absurd c w0) (fun _ _ c => absurd c w1) (fun _ _ c => absurd c w1) (fun _ _ _ c => absurd c w2) (fun _ _ _ c => absurd c w2) (fun _ _ _ c => absurd c w2) (fun _ _ _ c => absurd c w2) (fun _ _ _ _ c => absurd c w3) (fun _ _ _ _ c => absurd c w3) (fun _ _ _ _ c => absurd c w3) (fun _ _ _ _ c => absurd c w3) (fun _ _ _ _ _ => ⟨rfl, rfl⟩) (fun c => absurd im c)

