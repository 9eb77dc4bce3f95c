/-! ===== readsNewWord, readsTold, readsRest ===== -/
theorem tx_w0 {N V : ea_M} {L : Nat → Int32} {n q ns : Nat} (h : tx_ok N L n q) (hs : rd_s N V ns) (hc : ¬ (tk_k L n q = 1 ∧ tk_b L n q - tk_f L n q ≤ 7 ∧ cz_s L (V 1) (V 2) n q ns = none)) : ea_Sp 3 yX7_readsNewWord cX7_readsNewWord 2 (some .boolean) [.ref 61] N (some (.int 0)) N := by
  refine ea_intro (own := RX7) (by decide +kernel) rfl (fun g => Nat.le_of_ble_eq_true rfl) (fun k C X => ?_)

  obtain ⟨e69, hn, hp, e11, e16, e17⟩ := id h
  have hfb := tk_fb L hp
  have e4 : N 61 17 - N 61 16 = nI (tk_b L n q - tk_f L n q) := by rw [e16, e17]; exact pk_sub (by omega)
  by_cases c0 : N 61 16 = N 61 11
  · refine km_readsNewWord C X  (r1 := 0) (fun _ => ⟨rfl, rfl⟩) (fun c => absurd c0 c) (fun c _ => absurd c0 c) (fun c _ _ => absurd c0 c) (fun c _ _ => absurd c0 c) (fun c _ _ _ => absurd c0 c) (fun c _ _ _ => absurd c0 c) (fun c _ _ _ => absurd c0 c)
  · have hlt : tk_f L n q < n := by
      rcases Nat.lt_or_ge (tk_f L n q) n with z | z
      · exact z
      · exact absurd (by rw [e16, e11, show tk_f L n q = n by omega]) c0
    have v0 : vp_in (N 61 16) 200 := by rw [e16]; exact vp_in_nI (by omega) (by decide)
    have hk : tk_k L n q = f_X3_kindOf (N 69 (N 61 16).toNatClampNeg) := by
      unfold tk_k
      rw [if_pos hlt, e69, e16, nI_clamp (by omega)]
    by_cases c1 : p_X7_isSmall (N 69 (N 61 16).toNatClampNeg)
    · by_cases c2 : 7 < N 61 17 - N 61 16
      · refine km_readsNewWord C X  (r1 := 0) (fun c => absurd c c0) (fun _ => v0) (fun _ c => absurd c1 c) (fun _ _ _ => ⟨rfl, rfl⟩) (fun _ _ c => absurd c2 c) (fun _ _ c _ => absurd c2 c) (fun _ _ c _ => absurd c2 c) (fun _ _ c _ => absurd c2 c)
      · have sp := sp_X7_stuffHere h hs
        have c3 : ¬ pa_ri (cz_s L (V 1) (V 2) n q ns) = -1 := fun z => hc ⟨by rw [hk]; exact (kd_s _).mp c1, ?_, ?_⟩
        rotate_left
        · rw [e4] at c2
          exact Nat.le_of_not_lt (fun z => c2 (nI_lt (a := 7) z (by omega)))
        · cases hz : cz_s L (V 1) (V 2) n q ns with
          | none => rfl
          | some j =>
            rw [hz] at z
            have hj : j < 2 ^ 31 := by have := (pa_ix_lt _ _ _ hz).2.1; have := hs.2.1; omega
            exact absurd z (pa_ri1 rfl hj).2
        refine km_readsNewWord C X  (fun c => absurd c c0) (fun _ => v0) (fun _ c => absurd c1 c) (fun _ _ c => absurd c c2) (fun _ _ _ => sp) (fun _ _ _ c => absurd c c3) (fun _ _ _ c => absurd c c3) (fun _ _ _ _ => ⟨rfl, rfl⟩)
    · refine km_readsNewWord C X  (r1 := 0) (fun c => absurd c c0) (fun _ => v0) (fun _ _ => ⟨rfl, rfl⟩) (fun _ c _ => absurd c c1) (fun _ c _ => absurd c c1) (fun _ c _ _ => absurd c c1) (fun _ c _ _ => absurd c c1) (fun _ c _ _ => absurd c c1)
theorem tx_w1 {N V : ea_M} {L : Nat → Int32} {n q ns : Nat} (h : tx_ok N L n q) (hs : rd_s N V ns) (h6 : ns < 6) (hc : tk_k L n q = 1 ∧ tk_b L n q - tk_f L n q ≤ 7 ∧ cz_s L (V 1) (V 2) n q ns = none) : ∃ N', ea_Sp 3 yX7_readsNewWord cX7_readsNewWord 2 (some .boolean) [.ref 61] N (some (.int 1)) N' ∧ tx_ok N' L n (tk_b L n q) ∧ (∀ a, a ≠ 61 → a ≠ 74 → a ≠ 75 → N' a = N a) ∧ (∀ j, j ≠ 16 → j ≠ 17 → N' 61 j = N 61 j) ∧ (∀ j, N' 75 j = if j = ns then nI (tk_b L n q - tk_f L n q) else N 75 j) ∧ ∀ j, N' 74 j = if 7 * ns ≤ j ∧ j < 7 * ns + (tk_b L n q - tk_f L n q) then L (tk_f L n q + (j - 7 * ns)) else N 74 j := by
  obtain ⟨e69, hn, hp, e11, e16, e17⟩ := id h
  obtain ⟨hk1, hl7, hcs⟩ := hc
  have hfb := tk_fb L hp
  have hlt : tk_f L n q < n := by
    rcases Nat.lt_or_ge (tk_f L n q) n with z | z
    · exact z
    · unfold tk_k at hk1
      rw [if_neg (by omega)] at hk1
      exact absurd hk1 (by decide)
  have e4 : N 61 17 - N 61 16 = nI (tk_b L n q - tk_f L n q) := by rw [e16, e17]; exact pk_sub (by omega)
  have hk : tk_k L n q = f_X3_kindOf (N 69 (N 61 16).toNatClampNeg) := by
    unfold tk_k
    rw [if_pos hlt, e69, e16, nI_clamp (by omega)]
  have sp := sp_X7_stuffHere h hs
  obtain ⟨t, ht⟩ : ∃ t, t = tk_b L n q - tk_f L n q := ⟨_, rfl⟩
  rw [← ht] at hl7 e4 ⊢
  obtain ⟨N2, hN2⟩ : ∃ z, z = pa_seg (ea_up N 75 ns (nI t)) 74 (7 * ns) (fun j => L (tk_f L n q + j)) t := ⟨_, rfl⟩
  have fr2 : ∀ a, a ≠ 74 → a ≠ 75 → N2 a = N a := fun a h1 h2 => by rw [hN2, pa_segR h1, ea_upR h2]
  obtain ⟨N', s1, t1, f1⟩ := tx_next (tx_mv (N2 := N2) h (fr2 69 (by decide) (by decide)) (fr2 61 (by decide) (by decide)))
  refine ⟨N', ?_, t1, fun a h1 h2 h3 => by rw [f1.1 a h1, fr2 a h2 h3], fun j h1 h2 => by rw [f1.2 j h1 h2, fr2 61 (by decide) (by decide)], fun j => ?_, fun j => ?_⟩
  · refine ea_intro (own := RX7) (by decide +kernel) rfl (fun g => Nat.le_of_ble_eq_true rfl) (fun k C X => ?_)
    have l73 : ∀ (c i : Nat), i + c = t → ea_E k 73 [(0, .ref 61), (1, .int (nI (tk_f L n q + i)))] [] (pa_seg (ea_up N 75 ns (nI t)) 74 (7 * ns) (fun j => L (tk_f L n q + j)) i) := by
      intro c
      induction c with
      | zero =>
        intro i hi
        have ei : i = t := by omega
        rw [ei, ← hN2]
        have cj : N2 61 17 ≤ nI (tk_f L n q + t) := by rw [fr2 61 (by decide) (by decide), e17]; exact nI_le (by omega) (by omega)
        refine km_readsNewWord_73 C X  (fun _ => s1) (fun _ => ⟨rfl, rfl⟩) (fun c => absurd cj c) (fun c => absurd cj c) (fun c => absurd cj c)
      | succ c ih =>
        intro i hi
        obtain ⟨N3, hN3⟩ : ∃ z, z = pa_seg (ea_up N 75 ns (nI t)) 74 (7 * ns) (fun j => L (tk_f L n q + j)) i := ⟨_, rfl⟩
        have fr3 : ∀ a, a ≠ 74 → a ≠ 75 → N3 a = N a := fun a h1 h2 => by rw [hN3, pa_segR h1, ea_upR h2]
        have nx := ih (i + 1) (by omega)
        have es := pa_segS (M := ea_up N 75 ns (nI t)) (y := 74) (a := 7 * ns) (m := i) (f := fun j => L (tk_f L n q + j)) (v := L (tk_f L n q + i)) rfl
        rw [← es, ← hN3] at nx
        rw [← hN3]
        have cj : ¬ N3 61 17 ≤ nI (tk_f L n q + i) := by rw [fr3 61 (by decide) (by decide), e17]; exact nI_ge (by omega) (by omega)
        have vj : vp_in (nI (tk_f L n q + i)) 200 := vp_in_nI (by omega) (by decide)
        have ei : 7 * N3 61 18 + nI (tk_f L n q + i) - N3 61 16 = nI (7 * ns + i) := by
          rw [fr3 61 (by decide) (by decide), hs.1, e16, show (7 : Int32) = nI 7 from rfl, pk_mul, nI_add, pk_sub (by omega)]
          exact congrArg nI (by omega)
        have v42 : vp_in (7 * N3 61 18 + nI (tk_f L n q + i) - N3 61 16) 42 := by rw [ei]; exact vp_in_nI (by omega) (by decide)
        refine km_readsNewWord_73 C X  (M1 := fun _ _ => 0) (fun c => absurd c cj) (fun c => absurd c cj) (fun _ => vj) (fun _ => v42) (fun _ => by rw [ei, nI_clamp (show 7 * ns + i < 2 ^ 31 by omega), nI_clamp (show tk_f L n q + i < 2 ^ 31 by omega), fr3 69 (by decide) (by decide), e69, nI_1]; exact nx)
    have nx := l73 t 0 (by omega)
    rw [pa_seg0] at nx
    have c0 : ¬ N 61 16 = N 61 11 := by rw [e16, e11]; exact fun z => absurd ((nI_eq (by omega) (show n < 2 ^ 31 by omega)).mp z) (by omega)
    have v0 : vp_in (N 61 16) 200 := by rw [e16]; exact vp_in_nI (by omega) (by decide)
    have c1 : p_X7_isSmall (N 69 (N 61 16).toNatClampNeg) := by rw [kd_s, ← hk]; exact hk1
    have c2 : ¬ 7 < N 61 17 - N 61 16 := by rw [e4]; exact nI_nlt (a := 7) hl7 (by omega)
    rw [hcs] at sp
    have c3 : pa_ri none = -1 := rfl
    have v6 : vp_in (N 61 18) 6 := by rw [hs.1]; exact vp_in_nI h6 (by decide)
    refine km_readsNewWord C X  (fun c => absurd c c0) (fun _ => v0) (fun _ c => absurd c1 c) (fun _ _ c => absurd c c2) (fun _ _ _ => sp) (fun _ _ _ _ => v6) (fun _ _ _ _ => by rw [e4, hs.1, nI_clamp (show ns < 2 ^ 31 by omega), e16]; exact nx) (fun _ _ _ c => absurd c3 c)
  · rw [f1.1 75 (by decide), hN2, pa_segR (by decide), pa_up, if_pos rfl]
  · rw [f1.1 74 (by decide), hN2]
    by_cases z : 7 * ns ≤ j ∧ j < 7 * ns + t
    · rw [pa_segI z.1 z.2, if_pos z]
    · rw [pa_segO (by omega), if_neg z, ea_upR (by decide)]
theorem tx_t0 {N V : ea_M} {L : Nat → Int32} {n q ns : Nat} (h : tx_ok N L n q) (hs : rd_s N V ns) (hc : cz_s L (V 1) (V 2) n q ns = none) : ea_Sp 3 yX7_readsTold cX7_readsTold 2 (some .boolean) [.ref 61] N (some (.int 0)) N := by
  refine ea_intro (own := RX7) (by decide +kernel) rfl (fun g => Nat.le_of_ble_eq_true rfl) (fun k C X => ?_)

  have sp := sp_X7_stuffHere h hs
  rw [hc] at sp
  have m1 : pa_ri none = -1 := rfl
  have m2 : (-1 : Int32) = -1 := rfl
  by_cases c0 : N 61 16 = N 61 11
  · refine km_readsTold C X  (M2 := fun _ _ => 0) (M3 := fun _ _ => 0) (r1 := 0) (fun c => absurd c0 c) (fun c _ _ => absurd c0 c) (fun c _ _ => absurd c0 c) (fun c _ => absurd c0 c) (fun c _ _ => absurd c0 c) (fun c _ _ => absurd c0 c) (fun _ _ _ => ⟨rfl, rfl⟩) (fun _ _ c => absurd m2 c) (fun _ c => absurd m2 c) (fun _ c _ => absurd m2 c) (fun _ c _ => absurd m2 c)
  · refine km_readsTold C X  (M2 := fun _ _ => 0) (M3 := fun _ _ => 0) (fun _ => sp) (fun _ _ _ => ⟨rfl, rfl⟩) (fun _ _ c => absurd m1 c) (fun _ c => absurd m1 c) (fun _ c _ => absurd m1 c) (fun _ c _ => absurd m1 c) (fun c _ _ => absurd c c0) (fun c _ _ => absurd c c0) (fun c _ => absurd c c0) (fun c _ _ => absurd c c0) (fun c _ _ => absurd c c0)
theorem tx_t1 {N V : ea_M} {L : Nat → Int32} {n p ns s : Nat} (h : tx_ok N L n p) (hs : rd_s N V ns) (hc : cz_s L (V 1) (V 2) n p ns = some s) : ∃ N', ea_Sp 3 yX7_readsTold cX7_readsTold 2 (some .boolean) [.ref 61] N (some (.int 1)) N' ∧ tx_ok N' L n (tk_b L n p) ∧ (∀ a, a ≠ 61 → a ≠ 76 → N' a = N a) ∧ (∀ j, j ≠ 16 → j ≠ 17 → N' 61 j = N 61 j) ∧ N' 76 = upd (N 76) 0 (nI s) := by
  obtain ⟨e69, hn, hp, e11, e16, e17⟩ := id h
  obtain ⟨-, hns, -, -, hl⟩ := id hs
  obtain ⟨-, hs1, hs2⟩ := pa_ix_lt _ _ _ hc
  have hfb := tk_fb L hp
  have c0 : ¬ N 61 16 = N 61 11 := by
    rw [e16, e11]
    intro z
    have z2 := (nI_eq (by omega) (show n < 2 ^ 31 by omega)).mp z
    have e : tk_b L n p - tk_f L n p = 0 := by omega
    rw [e, tk_nm] at hs2
    have := of_decide_eq_true hs2
    obtain ⟨l, l1, l7, el⟩ := hl s (by omega)
    rw [el, nI_clamp (by omega)] at this
    omega
  have sp := sp_X7_stuffHere h hs
  obtain ⟨er, hr⟩ := pa_ri1 hc (show s < 2 ^ 31 by omega)
  rw [er] at hr
  rw [er] at sp
  obtain ⟨N', s1, t1, f1⟩ := tx_next (tx_mv (N2 := ea_up N 76 0 (nI s)) h (ea_upR (by decide)) (ea_upR (by decide)))
  refine ⟨N', ?_, t1, fun x hx hy => by rw [f1.1 x hx, ea_upR hy], fun j h6 h7 => by rw [f1.2 j h6 h7, ea_upR (by decide)], by rw [f1.1 76 (by decide)]; exact pa_ups⟩
  refine ea_intro (own := RX7) (by decide +kernel) rfl (fun g => Nat.le_of_ble_eq_true rfl) (fun k C X => ?_)

  refine km_readsTold C X  (M3 := fun _ _ => 0) (fun _ => sp) (fun _ c _ => absurd c hr) (fun _ c _ => absurd c hr) (fun _ _ => s1) (fun _ _ c => absurd c hr) (fun _ _ _ => ⟨rfl, rfl⟩) (fun c _ _ => absurd c c0) (fun c _ _ => absurd c c0) (fun c _ => absurd c c0) (fun c _ _ => absurd c c0) (fun c _ _ => absurd c c0)
/-- what a clause's words leave -/
def rr_R (N N' V : ea_M) (L : Nat → Int32) (n ns nc : Nat) (r : cz_T) : Prop := tx_ok N' L n r.2.1 ∧ (∀ a, a ≠ 61 → a ≠ 74 → a ≠ 75 → a ≠ 76 → N' a = N a) ∧ (∀ j, j ≠ 16 → j ≠ 17 → N' 61 j = N 61 j) ∧ (r.1 = true → N' 76 0 = r.2.2.2.1 ∧ (r.2.2.1 ≠ 0 → N' 76 1 = r.2.2.2.2.1) ∧ (∀ j, j < 42 → N' 74 j = ef_V V L n r.2.2.1 r.2.2.2.1 r.2.2.2.2.1 r.2.2.2.2.2 ns nc 1 j) ∧ ∀ j, j < 6 → N' 75 j = ef_V V L n r.2.2.1 r.2.2.2.1 r.2.2.2.2.1 r.2.2.2.2.2 ns nc 2 j)
theorem ef_12 {V : ea_M} {L : Nat → Int32} {n w ns nc q : Nat} {a0 a1 : Int32} (hw : w ≠ 1) : ef_V V L n w a0 a1 q ns nc 1 = V 1 ∧ ef_V V L n w a0 a1 q ns nc 2 = V 2 := by
  unfold ef_V
  by_cases h0 : w = 0
  · rw [if_pos h0]
    exact ⟨fr_X4_clear (by decide) (by decide), fr_X4_clear (by decide) (by decide)⟩
  · rw [if_neg h0, if_neg hw]
    by_cases h2 : w = 2
    · rw [if_pos h2]
      unfold ef_l
      exact ⟨by rw [ea_upR (by decide), pa_segR (by decide), pa_segR (by decide)], by rw [ea_upR (by decide), pa_segR (by decide), pa_segR (by decide)]⟩
    · rw [if_neg h2]
      by_cases h3 : w = 3
      · rw [if_pos h3]
        exact ⟨by rw [ea_upR (by decide), ea_upR (by decide)], by rw [ea_upR (by decide), ea_upR (by decide)]⟩
      · rw [if_neg h3]
        exact ⟨by rw [ea_upR (by decide)], by rw [ea_upR (by decide)]⟩
theorem rr_f {N N' V : ea_M} {L : Nat → Int32} {n q ns nc : Nat} (h : tx_ok N' L n q) (h1 : ∀ a, a ≠ 61 → a ≠ 74 → a ≠ 75 → a ≠ 76 → N' a = N a) (h2 : ∀ j, j ≠ 16 → j ≠ 17 → N' 61 j = N 61 j) : rr_R N N' V L n ns nc (cz_f q) := ⟨h, h1, h2, fun z => absurd (show false = true from z) (by decide)⟩
/-- a clause without a new word -/
theorem rr_t {N N' V : ea_M} {L : Nat → Int32} {n q ns nc w : Nat} {a0 a1 : Int32} (hs : rd_s N V ns) (hw : w ≠ 1) (h : tx_ok N' L n q) (h1 : ∀ a, a ≠ 61 → a ≠ 76 → N' a = N a) (h2 : ∀ j, j ≠ 16 → j ≠ 17 → N' 61 j = N 61 j) (h3 : N' 76 0 = a0) (h4 : w ≠ 0 → N' 76 1 = a1) : rr_R N N' V L n ns nc (true, q, w, a0, a1, 0) := by
  refine ⟨h, fun a p1 p2 p3 p4 => h1 a p1 p4, h2, fun _ => ⟨h3, h4, fun j hj => ?_, fun j hj => ?_⟩⟩
  · rw [(ef_12 hw).1, h1 74 (by decide) (by decide)]
    exact hs.2.2.1 j hj
  · rw [(ef_12 hw).2, h1 75 (by decide) (by decide)]
    exact hs.2.2.2.1 j hj
theorem rr_0 {N V : ea_M} {L : Nat → Int32} {n q ns nc : Nat} (h : tx_ok N L n q) (hs : rd_s N V ns) : ∃ N', ea_Sp 4 yX7_readsRest cX7_readsRest 2 (some .boolean) [.ref 61, .int 0] N (some (.int (cl_1 (cz_0 L n q).1))) N' ∧ rr_R N N' V L n ns nc (cz_0 L n q) := by
  unfold cz_0
  have w0 : (0 : Int32) = 0 := rfl
  cases hr : rn_o L n q 1 999 with
  | none =>
    refine ⟨N, ?_, rr_f h (fun _ _ _ _ _ => rfl) (fun _ _ _ => rfl)⟩
    refine ea_intro (own := RX7) (by decide +kernel) rfl (fun g => Nat.le_of_ble_eq_true rfl) (fun k C X => ?_)

    refine km_readsRest C X  (M2 := fun _ _ => 0) (M3 := fun _ _ => 0) (M4 := fun _ _ => 0) (M5 := fun _ _ => 0) (M6 := fun _ _ => 0) (M7 := fun _ _ => 0) (M8 := fun _ _ => 0) (M9 := fun _ _ => 0) (M10 := fun _ _ => 0) (r2 := 0) (r3 := 0) (r4 := 0) (r5 := 0) (r6 := 0) (r7 := 0) (r8 := 0) (r9 := 0) (r10 := 0) (fun _ => tx_n0 h (by decide) hr) (fun _ => ⟨rfl, rfl⟩) (fun _ => Or.inl rfl) (fun c _ => absurd w0 c) (fun c _ _ => absurd w0 c) (fun c _ _ => absurd w0 c) (fun c _ _ _ => absurd w0 c) (fun c _ _ _ => absurd w0 c) (fun c _ _ _ _ => absurd w0 c) (fun c _ _ _ _ => absurd w0 c) (fun c _ _ => absurd w0 c) (fun c _ _ _ => absurd w0 c) (fun c _ _ _ => absurd w0 c) (fun c _ _ _ _ => absurd w0 c) (fun c _ _ _ _ => absurd w0 c) (fun c _ _ _ => absurd w0 c) (fun c _ _ _ _ => absurd w0 c) (fun c _ _ _ _ => absurd w0 c) (fun c _ _ _ _ _ => absurd w0 c) (fun c _ _ _ _ _ => absurd w0 c) (fun c _ _ _ => absurd w0 c) (fun c _ _ _ _ => absurd w0 c) (fun c _ _ _ _ => absurd w0 c) (fun c _ _ _ _ _ => absurd w0 c) (fun c _ _ _ _ _ => absurd w0 c)
  | some t =>
    obtain ⟨N1, s1, t1, f1, g1, k1⟩ := tx_n1 (k0 := 0) (kk := 0) h rfl (by decide) hr
    refine ⟨N1, ?_, rr_t hs (by decide) t1 f1 g1 (by rw [k1]; rfl) (fun z => absurd rfl z)⟩
    refine ea_intro (own := RX7) (by decide +kernel) rfl (fun g => Nat.le_of_ble_eq_true rfl) (fun k C X => ?_)

    refine km_readsRest C X  (M2 := fun _ _ => 0) (M3 := fun _ _ => 0) (M4 := fun _ _ => 0) (M5 := fun _ _ => 0) (M6 := fun _ _ => 0) (M7 := fun _ _ => 0) (M8 := fun _ _ => 0) (M9 := fun _ _ => 0) (M10 := fun _ _ => 0) (r2 := 0) (r3 := 0) (r4 := 0) (r5 := 0) (r6 := 0) (r7 := 0) (r8 := 0) (r9 := 0) (r10 := 0) (fun _ => s1) (fun _ => ⟨rfl, rfl⟩) (fun _ => Or.inr rfl) (fun c _ => absurd w0 c) (fun c _ _ => absurd w0 c) (fun c _ _ => absurd w0 c) (fun c _ _ _ => absurd w0 c) (fun c _ _ _ => absurd w0 c) (fun c _ _ _ _ => absurd w0 c) (fun c _ _ _ _ => absurd w0 c) (fun c _ _ => absurd w0 c) (fun c _ _ _ => absurd w0 c) (fun c _ _ _ => absurd w0 c) (fun c _ _ _ _ => absurd w0 c) (fun c _ _ _ _ => absurd w0 c) (fun c _ _ _ => absurd w0 c) (fun c _ _ _ _ => absurd w0 c) (fun c _ _ _ _ => absurd w0 c) (fun c _ _ _ _ _ => absurd w0 c) (fun c _ _ _ _ _ => absurd w0 c) (fun c _ _ _ => absurd w0 c) (fun c _ _ _ _ => absurd w0 c) (fun c _ _ _ _ => absurd w0 c) (fun c _ _ _ _ _ => absurd w0 c) (fun c _ _ _ _ _ => absurd w0 c)
theorem rr_3 {N V : ea_M} {L : Nat → Int32} {n q ns nc : Nat} (h : tx_ok N L n q) (hs : rd_s N V ns) : ∃ N', ea_Sp 4 yX7_readsRest cX7_readsRest 2 (some .boolean) [.ref 61, .int 3] N (some (.int (cl_1 (cz_3 L n q).1))) N' ∧ rr_R N N' V L n ns nc (cz_3 L n q) := by
  unfold cz_3
  have w0 : ¬ (3 : Int32) = 0 := by decide
  have w1 : ¬ (3 : Int32) = 1 := by decide
  have w2 : ¬ (3 : Int32) = 2 := by decide
  have w3 : (3 : Int32) = 3 := rfl
  have z0 : (0 : Int32) = 0 := rfl
  have n1 : ¬ (1 : Int32) = 0 := by decide
  cases hr : rn_o L n q 0 999 with
  | none =>
    refine ⟨N, ?_, rr_f h (fun _ _ _ _ _ => rfl) (fun _ _ _ => rfl)⟩
    have s1 := tx_n0 (k0 := 0) h (by decide) hr
    refine ea_intro (own := RX7) (by decide +kernel) rfl (fun g => Nat.le_of_ble_eq_true rfl) (fun k C X => ?_)

    refine km_readsRest C X  (M1 := fun _ _ => 0) (M2 := fun _ _ => 0) (M3 := fun _ _ => 0) (M4 := fun _ _ => 0) (M5 := fun _ _ => 0) (M6 := fun _ _ => 0) (M8 := fun _ _ => 0) (M9 := fun _ _ => 0) (M10 := fun _ _ => 0) (r1 := 0) (r2 := 0) (r3 := 0) (r4 := 0) (r5 := 0) (r6 := 0) (r8 := 0) (r9 := 0) (r10 := 0) (fun c => absurd c w0) (fun c => absurd c w0) (fun c => absurd c w0) (fun _ c => absurd c w1) (fun _ c _ => absurd c w1) (fun _ c _ => absurd c w1) (fun _ c _ _ => absurd c w1) (fun _ c _ _ => absurd c w1) (fun _ c _ _ _ => absurd c w1) (fun _ c _ _ _ => absurd c w1) (fun _ _ c => absurd c w2) (fun _ _ c _ => absurd c w2) (fun _ _ c _ => absurd c w2) (fun _ _ c _ _ => absurd c w2) (fun _ _ c _ _ => absurd c w2) (fun _ _ _ _ => s1) (fun _ _ _ _ _ => ⟨rfl, rfl⟩) (fun _ _ _ _ c => absurd z0 c) (fun _ _ _ _ c _ => absurd z0 c) (fun _ _ _ _ c _ => absurd z0 c) (fun _ _ _ c => absurd w3 c) (fun _ _ _ c _ => absurd w3 c) (fun _ _ _ c _ => absurd w3 c) (fun _ _ _ c _ _ => absurd w3 c) (fun _ _ _ c _ _ => absurd w3 c)
  | some a =>
    obtain ⟨N1, s1, t1, f1, g1, k1⟩ := tx_n1 (k0 := 0) (kk := 0) h rfl (by decide) hr
    cases hr2 : rn_o L n (tk_b L n q) 0 999 with
    | none =>
      have s2 := tx_n0 (k0 := 1) t1 (by decide) hr2
      refine ⟨N1, ?_, rr_f t1 (fun x h1 h2 h3 h4 => f1 x h1 h4) g1⟩
      refine ea_intro (own := RX7) (by decide +kernel) rfl (fun g => Nat.le_of_ble_eq_true rfl) (fun k C X => ?_)

      refine km_readsRest C X  (M1 := fun _ _ => 0) (M2 := fun _ _ => 0) (M3 := fun _ _ => 0) (M4 := fun _ _ => 0) (M5 := fun _ _ => 0) (M6 := fun _ _ => 0) (M9 := fun _ _ => 0) (M10 := fun _ _ => 0) (r1 := 0) (r2 := 0) (r3 := 0) (r4 := 0) (r5 := 0) (r6 := 0) (r9 := 0) (r10 := 0) (fun c => absurd c w0) (fun c => absurd c w0) (fun c => absurd c w0) (fun _ c => absurd c w1) (fun _ c _ => absurd c w1) (fun _ c _ => absurd c w1) (fun _ c _ _ => absurd c w1) (fun _ c _ _ => absurd c w1) (fun _ c _ _ _ => absurd c w1) (fun _ c _ _ _ => absurd c w1) (fun _ _ c => absurd c w2) (fun _ _ c _ => absurd c w2) (fun _ _ c _ => absurd c w2) (fun _ _ c _ _ => absurd c w2) (fun _ _ c _ _ => absurd c w2) (fun _ _ _ _ => s1) (fun _ _ _ _ c => absurd c n1) (fun _ _ _ _ _ => s2) (fun _ _ _ _ _ _ => ⟨rfl, rfl⟩) (fun _ _ _ _ _ c => absurd z0 c) (fun _ _ _ c => absurd w3 c) (fun _ _ _ c _ => absurd w3 c) (fun _ _ _ c _ => absurd w3 c) (fun _ _ _ c _ _ => absurd w3 c) (fun _ _ _ c _ _ => absurd w3 c)
    | some b =>
      obtain ⟨N2, s2, t2, f2, g2, k2⟩ := tx_n1 (k0 := 1) (kk := 1) t1 rfl (by decide) hr2
      refine ⟨N2, ?_, rr_t hs (by decide) t2 (fun x h1 h2 => by rw [f2 x h1 h2, f1 x h1 h2]) (fun j h1 h2 => by rw [g2 j h1 h2, g1 j h1 h2]) (by rw [k2, k1]; rfl) (fun _ => by rw [k2]; rfl)⟩
      refine ea_intro (own := RX7) (by decide +kernel) rfl (fun g => Nat.le_of_ble_eq_true rfl) (fun k C X => ?_)

      refine km_readsRest C X  (M1 := fun _ _ => 0) (M2 := fun _ _ => 0) (M3 := fun _ _ => 0) (M4 := fun _ _ => 0) (M5 := fun _ _ => 0) (M6 := fun _ _ => 0) (M9 := fun _ _ => 0) (M10 := fun _ _ => 0) (r1 := 0) (r2 := 0) (r3 := 0) (r4 := 0) (r5 := 0) (r6 := 0) (r9 := 0) (r10 := 0) (fun c => absurd c w0) (fun c => absurd c w0) (fun c => absurd c w0) (fun _ c => absurd c w1) (fun _ c _ => absurd c w1) (fun _ c _ => absurd c w1) (fun _ c _ _ => absurd c w1) (fun _ c _ _ => absurd c w1) (fun _ c _ _ _ => absurd c w1) (fun _ c _ _ _ => absurd c w1) (fun _ _ c => absurd c w2) (fun _ _ c _ => absurd c w2) (fun _ _ c _ => absurd c w2) (fun _ _ c _ _ => absurd c w2) (fun _ _ c _ _ => absurd c w2) (fun _ _ _ _ => s1) (fun _ _ _ _ c => absurd c n1) (fun _ _ _ _ _ => s2) (fun _ _ _ _ _ c => absurd c n1) (fun _ _ _ _ _ _ => ⟨rfl, rfl⟩) (fun _ _ _ c => absurd w3 c) (fun _ _ _ c _ => absurd w3 c) (fun _ _ _ c _ => absurd w3 c) (fun _ _ _ c _ _ => absurd w3 c) (fun _ _ _ c _ _ => absurd w3 c)
theorem rr_4 {N V : ea_M} {L : Nat → Int32} {n q ns nc : Nat} (h : tx_ok N L n q) (hs : rd_s N V ns) (h19 : N 61 19 = nI nc) : ∃ N', ea_Sp 4 yX7_readsRest cX7_readsRest 2 (some .boolean) [.ref 61, .int 4] N (some (.int (cl_1 (cz_4 L n q nc).1))) N' ∧ rr_R N N' V L n ns nc (cz_4 L n q nc) := by
  unfold cz_4
  have w0 : ¬ (4 : Int32) = 0 := by decide
  have w1 : ¬ (4 : Int32) = 1 := by decide
  have w2 : ¬ (4 : Int32) = 2 := by decide
  have w3 : ¬ (4 : Int32) = 3 := by decide
  have z0 : (0 : Int32) = 0 := rfl
  have n1 : ¬ (1 : Int32) = 0 := by decide
  cases hr : rn_o L n q 0 (nI nc - 1) with
  | none =>
    refine ⟨N, ?_, rr_f h (fun _ _ _ _ _ => rfl) (fun _ _ _ => rfl)⟩
    have s1 := tx_n0 (k0 := 0) h (by decide) hr
    rw [← h19] at s1
    refine ea_intro (own := RX7) (by decide +kernel) rfl (fun g => Nat.le_of_ble_eq_true rfl) (fun k C X => ?_)

    refine km_readsRest C X  (M1 := fun _ _ => 0) (M2 := fun _ _ => 0) (M3 := fun _ _ => 0) (M4 := fun _ _ => 0) (M5 := fun _ _ => 0) (M6 := fun _ _ => 0) (M7 := fun _ _ => 0) (M8 := fun _ _ => 0) (M10 := fun _ _ => 0) (r1 := 0) (r2 := 0) (r3 := 0) (r4 := 0) (r5 := 0) (r6 := 0) (r7 := 0) (r8 := 0) (r10 := 0) (fun c => absurd c w0) (fun c => absurd c w0) (fun c => absurd c w0) (fun _ c => absurd c w1) (fun _ c _ => absurd c w1) (fun _ c _ => absurd c w1) (fun _ c _ _ => absurd c w1) (fun _ c _ _ => absurd c w1) (fun _ c _ _ _ => absurd c w1) (fun _ c _ _ _ => absurd c w1) (fun _ _ c => absurd c w2) (fun _ _ c _ => absurd c w2) (fun _ _ c _ => absurd c w2) (fun _ _ c _ _ => absurd c w2) (fun _ _ c _ _ => absurd c w2) (fun _ _ _ c => absurd c w3) (fun _ _ _ c _ => absurd c w3) (fun _ _ _ c _ => absurd c w3) (fun _ _ _ c _ _ => absurd c w3) (fun _ _ _ c _ _ => absurd c w3) (fun _ _ _ _ => s1) (fun _ _ _ _ _ => ⟨rfl, rfl⟩) (fun _ _ _ _ c => absurd z0 c) (fun _ _ _ _ c _ => absurd z0 c) (fun _ _ _ _ c _ => absurd z0 c)
  | some a =>
    obtain ⟨N1, s1, t1, f1, g1, k1⟩ := tx_n1 (k0 := 0) (kk := 0) h rfl (by decide) hr
    rw [← h19] at s1
    cases hr2 : rn_o L n (tk_b L n q) 0 9999 with
    | none =>
      have s2 := tx_n0 (k0 := 1) t1 (by decide) hr2
      refine ⟨N1, ?_, rr_f t1 (fun x h1 h2 h3 h4 => f1 x h1 h4) g1⟩
      refine ea_intro (own := RX7) (by decide +kernel) rfl (fun g => Nat.le_of_ble_eq_true rfl) (fun k C X => ?_)

      refine km_readsRest C X  (M1 := fun _ _ => 0) (M2 := fun _ _ => 0) (M3 := fun _ _ => 0) (M4 := fun _ _ => 0) (M5 := fun _ _ => 0) (M6 := fun _ _ => 0) (M7 := fun _ _ => 0) (M8 := fun _ _ => 0) (r1 := 0) (r2 := 0) (r3 := 0) (r4 := 0) (r5 := 0) (r6 := 0) (r7 := 0) (r8 := 0) (fun c => absurd c w0) (fun c => absurd c w0) (fun c => absurd c w0) (fun _ c => absurd c w1) (fun _ c _ => absurd c w1) (fun _ c _ => absurd c w1) (fun _ c _ _ => absurd c w1) (fun _ c _ _ => absurd c w1) (fun _ c _ _ _ => absurd c w1) (fun _ c _ _ _ => absurd c w1) (fun _ _ c => absurd c w2) (fun _ _ c _ => absurd c w2) (fun _ _ c _ => absurd c w2) (fun _ _ c _ _ => absurd c w2) (fun _ _ c _ _ => absurd c w2) (fun _ _ _ c => absurd c w3) (fun _ _ _ c _ => absurd c w3) (fun _ _ _ c _ => absurd c w3) (fun _ _ _ c _ _ => absurd c w3) (fun _ _ _ c _ _ => absurd c w3) (fun _ _ _ _ => s1) (fun _ _ _ _ c => absurd c n1) (fun _ _ _ _ _ => s2) (fun _ _ _ _ _ _ => ⟨rfl, rfl⟩) (fun _ _ _ _ _ c => absurd z0 c)
    | some b =>
      obtain ⟨N2, s2, t2, f2, g2, k2⟩ := tx_n1 (k0 := 1) (kk := 1) t1 rfl (by decide) hr2
      refine ⟨N2, ?_, rr_t hs (by decide) t2 (fun x h1 h2 => by rw [f2 x h1 h2, f1 x h1 h2]) (fun j h1 h2 => by rw [g2 j h1 h2, g1 j h1 h2]) (by rw [k2, k1]; rfl) (fun _ => by rw [k2]; rfl)⟩
      refine ea_intro (own := RX7) (by decide +kernel) rfl (fun g => Nat.le_of_ble_eq_true rfl) (fun k C X => ?_)

      refine km_readsRest C X  (M1 := fun _ _ => 0) (M2 := fun _ _ => 0) (M3 := fun _ _ => 0) (M4 := fun _ _ => 0) (M5 := fun _ _ => 0) (M6 := fun _ _ => 0) (M7 := fun _ _ => 0) (M8 := fun _ _ => 0) (r1 := 0) (r2 := 0) (r3 := 0) (r4 := 0) (r5 := 0) (r6 := 0) (r7 := 0) (r8 := 0) (fun c => absurd c w0) (fun c => absurd c w0) (fun c => absurd c w0) (fun _ c => absurd c w1) (fun _ c _ => absurd c w1) (fun _ c _ => absurd c w1) (fun _ c _ _ => absurd c w1) (fun _ c _ _ => absurd c w1) (fun _ c _ _ _ => absurd c w1) (fun _ c _ _ _ => absurd c w1) (fun _ _ c => absurd c w2) (fun _ _ c _ => absurd c w2) (fun _ _ c _ => absurd c w2) (fun _ _ c _ _ => absurd c w2) (fun _ _ c _ _ => absurd c w2) (fun _ _ _ c => absurd c w3) (fun _ _ _ c _ => absurd c w3) (fun _ _ _ c _ => absurd c w3) (fun _ _ _ c _ _ => absurd c w3) (fun _ _ _ c _ _ => absurd c w3) (fun _ _ _ _ => s1) (fun _ _ _ _ c => absurd c n1) (fun _ _ _ _ _ => s2) (fun _ _ _ _ _ c => absurd c n1) (fun _ _ _ _ _ _ => ⟨rfl, rfl⟩)
theorem lesser_ly : ∀ nc, nc ≤ 10 → f_X7_lesser 9 (10 - nI nc) = ly_m nc := by decide
theorem rr_2 {N V : ea_M} {L : Nat → Int32} {n q ns nc : Nat} (h : tx_ok N L n q) (hs : rd_s N V ns) (h19 : N 61 19 = nI nc) (hn : nc ≤ 10) : ∃ N', ea_Sp 4 yX7_readsRest cX7_readsRest 2 (some .boolean) [.ref 61, .int 2] N (some (.int (cl_1 (cz_2 L (V 1) (V 2) n q ns nc).1))) N' ∧ rr_R N N' V L n ns nc (cz_2 L (V 1) (V 2) n q ns nc) := by
  unfold cz_2
  have w0 : ¬ (2 : Int32) = 0 := by decide
  have w1 : ¬ (2 : Int32) = 1 := by decide
  have w2 : (2 : Int32) = 2 := rfl
  have z0 : (0 : Int32) = 0 := rfl
  have n1 : ¬ (1 : Int32) = 0 := by decide
  cases hr : cz_s L (V 1) (V 2) n q ns with
  | none =>
    have s1 := tx_t0 h hs hr
    refine ⟨N, ?_, rr_f h (fun _ _ _ _ _ => rfl) (fun _ _ _ => rfl)⟩
    refine ea_intro (own := RX7) (by decide +kernel) rfl (fun g => Nat.le_of_ble_eq_true rfl) (fun k C X => ?_)

    refine km_readsRest C X  (M1 := fun _ _ => 0) (M2 := fun _ _ => 0) (M3 := fun _ _ => 0) (M4 := fun _ _ => 0) (M6 := fun _ _ => 0) (M7 := fun _ _ => 0) (M8 := fun _ _ => 0) (M9 := fun _ _ => 0) (M10 := fun _ _ => 0) (r1 := 0) (r2 := 0) (r3 := 0) (r4 := 0) (r6 := 0) (r7 := 0) (r8 := 0) (r9 := 0) (r10 := 0) (fun c => absurd c w0) (fun c => absurd c w0) (fun c => absurd c w0) (fun _ c => absurd c w1) (fun _ c _ => absurd c w1) (fun _ c _ => absurd c w1) (fun _ c _ _ => absurd c w1) (fun _ c _ _ => absurd c w1) (fun _ c _ _ _ => absurd c w1) (fun _ c _ _ _ => absurd c w1) (fun _ _ _ => s1) (fun _ _ _ _ => ⟨rfl, rfl⟩) (fun _ _ _ c => absurd z0 c) (fun _ _ _ c _ => absurd z0 c) (fun _ _ _ c _ => absurd z0 c) (fun _ _ c _ => absurd w2 c) (fun _ _ c _ _ => absurd w2 c) (fun _ _ c _ _ => absurd w2 c) (fun _ _ c _ _ _ => absurd w2 c) (fun _ _ c _ _ _ => absurd w2 c) (fun _ _ c _ => absurd w2 c) (fun _ _ c _ _ => absurd w2 c) (fun _ _ c _ _ => absurd w2 c) (fun _ _ c _ _ _ => absurd w2 c) (fun _ _ c _ _ _ => absurd w2 c)
  | some a =>
    obtain ⟨N1, s1, t1, f1, g1, k1⟩ := tx_t1 h hs hr
    have el : f_X7_lesser 9 (10 - N1 61 19) = ly_m nc := by rw [g1 19 (by decide) (by decide), h19]; exact lesser_ly nc hn
    cases hr2 : rn_o L n (tk_b L n q) 1 (ly_m nc) with
    | none =>
      have s2 := tx_n0 (k0 := 1) t1 (by decide) hr2
      rw [← el] at s2
      refine ⟨N1, ?_, rr_f t1 (fun x h1 h2 h3 h4 => f1 x h1 h4) g1⟩
      refine ea_intro (own := RX7) (by decide +kernel) rfl (fun g => Nat.le_of_ble_eq_true rfl) (fun k C X => ?_)

      refine km_readsRest C X  (M1 := fun _ _ => 0) (M2 := fun _ _ => 0) (M3 := fun _ _ => 0) (M4 := fun _ _ => 0) (M7 := fun _ _ => 0) (M8 := fun _ _ => 0) (M9 := fun _ _ => 0) (M10 := fun _ _ => 0) (r1 := 0) (r2 := 0) (r3 := 0) (r4 := 0) (r7 := 0) (r8 := 0) (r9 := 0) (r10 := 0) (fun c => absurd c w0) (fun c => absurd c w0) (fun c => absurd c w0) (fun _ c => absurd c w1) (fun _ c _ => absurd c w1) (fun _ c _ => absurd c w1) (fun _ c _ _ => absurd c w1) (fun _ c _ _ => absurd c w1) (fun _ c _ _ _ => absurd c w1) (fun _ c _ _ _ => absurd c w1) (fun _ _ _ => s1) (fun _ _ _ c => absurd c n1) (fun _ _ _ _ => s2) (fun _ _ _ _ _ => ⟨rfl, rfl⟩) (fun _ _ _ _ c => absurd z0 c) (fun _ _ c _ => absurd w2 c) (fun _ _ c _ _ => absurd w2 c) (fun _ _ c _ _ => absurd w2 c) (fun _ _ c _ _ _ => absurd w2 c) (fun _ _ c _ _ _ => absurd w2 c) (fun _ _ c _ => absurd w2 c) (fun _ _ c _ _ => absurd w2 c) (fun _ _ c _ _ => absurd w2 c) (fun _ _ c _ _ _ => absurd w2 c) (fun _ _ c _ _ _ => absurd w2 c)
    | some b =>
      obtain ⟨N2, s2, t2, f2, g2, k2⟩ := tx_n1 (k0 := 1) (kk := 1) t1 rfl (by decide) hr2
      rw [← el] at s2
      refine ⟨N2, ?_, rr_t hs (by decide) t2 (fun x h1 h2 => by rw [f2 x h1 h2, f1 x h1 h2]) (fun j h1 h2 => by rw [g2 j h1 h2, g1 j h1 h2]) (by rw [k2, k1]; rfl) (fun _ => by rw [k2]; rfl)⟩
      refine ea_intro (own := RX7) (by decide +kernel) rfl (fun g => Nat.le_of_ble_eq_true rfl) (fun k C X => ?_)

      refine km_readsRest C X  (M1 := fun _ _ => 0) (M2 := fun _ _ => 0) (M3 := fun _ _ => 0) (M4 := fun _ _ => 0) (M7 := fun _ _ => 0) (M8 := fun _ _ => 0) (M9 := fun _ _ => 0) (M10 := fun _ _ => 0) (r1 := 0) (r2 := 0) (r3 := 0) (r4 := 0) (r7 := 0) (r8 := 0) (r9 := 0) (r10 := 0) (fun c => absurd c w0) (fun c => absurd c w0) (fun c => absurd c w0) (fun _ c => absurd c w1) (fun _ c _ => absurd c w1) (fun _ c _ => absurd c w1) (fun _ c _ _ => absurd c w1) (fun _ c _ _ => absurd c w1) (fun _ c _ _ _ => absurd c w1) (fun _ c _ _ _ => absurd c w1) (fun _ _ _ => s1) (fun _ _ _ c => absurd c n1) (fun _ _ _ _ => s2) (fun _ _ _ _ c => absurd c n1) (fun _ _ _ _ _ => ⟨rfl, rfl⟩) (fun _ _ c _ => absurd w2 c) (fun _ _ c _ _ => absurd w2 c) (fun _ _ c _ _ => absurd w2 c) (fun _ _ c _ _ _ => absurd w2 c) (fun _ _ c _ _ _ => absurd w2 c) (fun _ _ c _ => absurd w2 c) (fun _ _ c _ _ => absurd w2 c) (fun _ _ c _ _ => absurd w2 c) (fun _ _ c _ _ _ => absurd w2 c) (fun _ _ c _ _ _ => absurd w2 c)
theorem rr_1 {N V : ea_M} {L : Nat → Int32} {n q ns nc : Nat} (h : tx_ok N L n q) (hs : rd_s N V ns) (h6 : ns < 6) : ∃ N', ea_Sp 4 yX7_readsRest cX7_readsRest 2 (some .boolean) [.ref 61, .int 1] N (some (.int (cl_1 (cz_1 L (V 1) (V 2) n q ns).1))) N' ∧ rr_R N N' V L n ns nc (cz_1 L (V 1) (V 2) n q ns) := by
  unfold cz_1
  have w0 : ¬ (1 : Int32) = 0 := by decide
  have w1 : (1 : Int32) = 1 := rfl
  have z0 : (0 : Int32) = 0 := rfl
  have n1 : ¬ (1 : Int32) = 0 := by decide
  by_cases hc : tk_k L n q = 1 ∧ tk_b L n q - tk_f L n q ≤ 7 ∧ cz_s L (V 1) (V 2) n q ns = none
  case neg =>
    rw [if_neg hc]
    have s1 := tx_w0 h hs hc
    refine ⟨N, ?_, rr_f h (fun _ _ _ _ _ => rfl) (fun _ _ _ => rfl)⟩
    refine ea_intro (own := RX7) (by decide +kernel) rfl (fun g => Nat.le_of_ble_eq_true rfl) (fun k C X => ?_)

    refine km_readsRest C X  (M1 := fun _ _ => 0) (M3 := fun _ _ => 0) (M4 := fun _ _ => 0) (M5 := fun _ _ => 0) (M6 := fun _ _ => 0) (M7 := fun _ _ => 0) (M8 := fun _ _ => 0) (M9 := fun _ _ => 0) (M10 := fun _ _ => 0) (r1 := 0) (r3 := 0) (r4 := 0) (r5 := 0) (r6 := 0) (r7 := 0) (r8 := 0) (r9 := 0) (r10 := 0) (fun c => absurd c w0) (fun c => absurd c w0) (fun c => absurd c w0) (fun _ _ => s1) (fun _ _ _ => ⟨rfl, rfl⟩) (fun _ _ c => absurd z0 c) (fun _ _ c _ => absurd z0 c) (fun _ _ c _ => absurd z0 c) (fun _ _ c _ _ => absurd z0 c) (fun _ _ c _ _ => absurd z0 c) (fun _ c _ => absurd w1 c) (fun _ c _ _ => absurd w1 c) (fun _ c _ _ => absurd w1 c) (fun _ c _ _ _ => absurd w1 c) (fun _ c _ _ _ => absurd w1 c) (fun _ c _ _ => absurd w1 c) (fun _ c _ _ _ => absurd w1 c) (fun _ c _ _ _ => absurd w1 c) (fun _ c _ _ _ _ => absurd w1 c) (fun _ c _ _ _ _ => absurd w1 c) (fun _ c _ _ => absurd w1 c) (fun _ c _ _ _ => absurd w1 c) (fun _ c _ _ _ => absurd w1 c) (fun _ c _ _ _ _ => absurd w1 c) (fun _ c _ _ _ _ => absurd w1 c)
  rw [if_pos hc]
  obtain ⟨N1, s1, t1, f1, g1, k75, k74⟩ := tx_w1 h hs h6 hc
  cases hr : rn_o L n (tk_b L n q) 1 20 with
  | none =>
    have s2 := tx_n0 (k0 := 0) t1 (by decide) hr
    refine ⟨N1, ?_, rr_f t1 (fun x h1 h2 h3 h4 => f1 x h1 h2 h3) g1⟩
    refine ea_intro (own := RX7) (by decide +kernel) rfl (fun g => Nat.le_of_ble_eq_true rfl) (fun k C X => ?_)

    refine km_readsRest C X  (M1 := fun _ _ => 0) (M4 := fun _ _ => 0) (M5 := fun _ _ => 0) (M6 := fun _ _ => 0) (M7 := fun _ _ => 0) (M8 := fun _ _ => 0) (M9 := fun _ _ => 0) (M10 := fun _ _ => 0) (r1 := 0) (r4 := 0) (r5 := 0) (r6 := 0) (r7 := 0) (r8 := 0) (r9 := 0) (r10 := 0) (fun c => absurd c w0) (fun c => absurd c w0) (fun c => absurd c w0) (fun _ _ => s1) (fun _ _ c => absurd c n1) (fun _ _ _ => s2) (fun _ _ _ _ => ⟨rfl, rfl⟩) (fun _ _ _ c => absurd z0 c) (fun _ _ _ c _ => absurd z0 c) (fun _ _ _ c _ => absurd z0 c) (fun _ c _ => absurd w1 c) (fun _ c _ _ => absurd w1 c) (fun _ c _ _ => absurd w1 c) (fun _ c _ _ _ => absurd w1 c) (fun _ c _ _ _ => absurd w1 c) (fun _ c _ _ => absurd w1 c) (fun _ c _ _ _ => absurd w1 c) (fun _ c _ _ _ => absurd w1 c) (fun _ c _ _ _ _ => absurd w1 c) (fun _ c _ _ _ _ => absurd w1 c) (fun _ c _ _ => absurd w1 c) (fun _ c _ _ _ => absurd w1 c) (fun _ c _ _ _ => absurd w1 c) (fun _ c _ _ _ _ => absurd w1 c) (fun _ c _ _ _ _ => absurd w1 c)
  | some a =>
    obtain ⟨N2, s2, t2, f2, g2, k2⟩ := tx_n1 (k0 := 0) (kk := 0) t1 rfl (by decide) hr
    cases hr2 : rn_o L n (tk_b L n (tk_b L n q)) 1 20 with
    | none =>
      have s3 := tx_n0 (k0 := 1) t2 (by decide) hr2
      refine ⟨N2, ?_, rr_f t2 (fun x h1 h2 h3 h4 => by rw [f2 x h1 h4, f1 x h1 h2 h3]) (fun j h1 h2 => by rw [g2 j h1 h2, g1 j h1 h2])⟩
      refine ea_intro (own := RX7) (by decide +kernel) rfl (fun g => Nat.le_of_ble_eq_true rfl) (fun k C X => ?_)

      refine km_readsRest C X  (M1 := fun _ _ => 0) (M5 := fun _ _ => 0) (M6 := fun _ _ => 0) (M7 := fun _ _ => 0) (M8 := fun _ _ => 0) (M9 := fun _ _ => 0) (M10 := fun _ _ => 0) (r1 := 0) (r5 := 0) (r6 := 0) (r7 := 0) (r8 := 0) (r9 := 0) (r10 := 0) (fun c => absurd c w0) (fun c => absurd c w0) (fun c => absurd c w0) (fun _ _ => s1) (fun _ _ c => absurd c n1) (fun _ _ _ => s2) (fun _ _ _ c => absurd c n1) (fun _ _ _ _ => s3) (fun _ _ _ _ _ => ⟨rfl, rfl⟩) (fun _ _ _ _ c => absurd z0 c) (fun _ c _ => absurd w1 c) (fun _ c _ _ => absurd w1 c) (fun _ c _ _ => absurd w1 c) (fun _ c _ _ _ => absurd w1 c) (fun _ c _ _ _ => absurd w1 c) (fun _ c _ _ => absurd w1 c) (fun _ c _ _ _ => absurd w1 c) (fun _ c _ _ _ => absurd w1 c) (fun _ c _ _ _ _ => absurd w1 c) (fun _ c _ _ _ _ => absurd w1 c) (fun _ c _ _ => absurd w1 c) (fun _ c _ _ _ => absurd w1 c) (fun _ c _ _ _ => absurd w1 c) (fun _ c _ _ _ _ => absurd w1 c) (fun _ c _ _ _ _ => absurd w1 c)
    | some b =>
      obtain ⟨N3, s3, t3, f3, g3, k3⟩ := tx_n1 (k0 := 1) (kk := 1) t2 rfl (by decide) hr2
      refine ⟨N3, ?_, t3, fun x h1 h2 h3 h4 => by rw [f3 x h1 h4, f2 x h1 h4, f1 x h1 h2 h3], fun j h1 h2 => by rw [g3 j h1 h2, g2 j h1 h2, g1 j h1 h2], fun _ => ⟨by rw [k3, k2]; rfl, fun _ => by rw [k3]; rfl, fun j hj => ?_, fun j hj => ?_⟩⟩
      · refine ea_intro (own := RX7) (by decide +kernel) rfl (fun g => Nat.le_of_ble_eq_true rfl) (fun k C X => ?_)

        refine km_readsRest C X  (M1 := fun _ _ => 0) (M5 := fun _ _ => 0) (M6 := fun _ _ => 0) (M7 := fun _ _ => 0) (M8 := fun _ _ => 0) (M9 := fun _ _ => 0) (M10 := fun _ _ => 0) (r1 := 0) (r5 := 0) (r6 := 0) (r7 := 0) (r8 := 0) (r9 := 0) (r10 := 0) (fun c => absurd c w0) (fun c => absurd c w0) (fun c => absurd c w0) (fun _ _ => s1) (fun _ _ c => absurd c n1) (fun _ _ _ => s2) (fun _ _ _ c => absurd c n1) (fun _ _ _ _ => s3) (fun _ _ _ _ c => absurd c n1) (fun _ _ _ _ _ => ⟨rfl, rfl⟩) (fun _ c _ => absurd w1 c) (fun _ c _ _ => absurd w1 c) (fun _ c _ _ => absurd w1 c) (fun _ c _ _ _ => absurd w1 c) (fun _ c _ _ _ => absurd w1 c) (fun _ c _ _ => absurd w1 c) (fun _ c _ _ _ => absurd w1 c) (fun _ c _ _ _ => absurd w1 c) (fun _ c _ _ _ _ => absurd w1 c) (fun _ c _ _ _ _ => absurd w1 c) (fun _ c _ _ => absurd w1 c) (fun _ c _ _ _ => absurd w1 c) (fun _ c _ _ _ => absurd w1 c) (fun _ c _ _ _ _ => absurd w1 c) (fun _ c _ _ _ _ => absurd w1 c)
      · rw [f3 74 (by decide) (by decide), f2 74 (by decide) (by decide), k74]
        show _ = ef_s V L (tk_f L n q) (tk_b L n q - tk_f L n q) ns a b 1 j
        unfold ef_s
        rw [ea_upR (by decide), ea_upR (by decide), ea_upR (by decide)]
        by_cases z : 7 * ns ≤ j ∧ j < 7 * ns + (tk_b L n q - tk_f L n q)
        · rw [if_pos z, pa_segI z.1 z.2]
        · rw [if_neg z, pa_segO (by omega), ea_upR (by decide)]
          exact hs.2.2.1 j hj
      · rw [f3 75 (by decide) (by decide), f2 75 (by decide) (by decide), k75]
        show _ = ef_s V L (tk_f L n q) (tk_b L n q - tk_f L n q) ns a b 2 j
        unfold ef_s
        rw [ea_upR (by decide), ea_upR (by decide), ea_upR (by decide), pa_segR (by decide), pa_up, if_pos rfl]
        by_cases z : j = ns
        · rw [if_pos z, if_pos z]
        · rw [if_neg z, if_neg z]
          exact hs.2.2.2.1 j hj
