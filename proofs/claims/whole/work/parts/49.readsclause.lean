/-! ===== readsClause ===== -/
theorem do_w {N V : ea_M} {L : Nat → Int32} {n w q ns nc : Nat} {a0 a1 : Int32} (hV : RV V N ns nc) (hn : nc ≤ 10) (hw : cz_W L n w a0 a1 q ns nc) (h0 : N 76 0 = a0) (h1 : w ≠ 0 → N 76 1 = a1) (h74 : ∀ j, j < 42 → N 74 j = ef_V V L n w a0 a1 q ns nc 1 j) (h75 : ∀ j, j < 6 → N 75 j = ef_V V L n w a0 a1 q ns nc 2 j) : ∃ N', ea_Sp 0 yX7_does cX7_does 3 none [.ref 61, .int (nI w)] N none N' ∧ RV (ef_V V L n w a0 a1 q ns nc) N' (ef_ns w ns) (ef_nc w a1 nc) ∧ df N N' := by
  rcases hw with ⟨rfl, t, t1, t2, -⟩ | ⟨rfl, n6, l1, l7, -, -⟩ | ⟨rfl, -, m, m1, m2, e⟩ | ⟨rfl, -, -⟩ | ⟨rfl, ⟨i, i1, e⟩, -⟩
  · exact do_0 hV h0
  · exact do_1 hV n6 h0 (h1 (by decide)) h74 h75 l7
  · have e2 : ef_nc 2 a1 nc = nc + m := by
      show nc + a1.toNatClampNeg = _
      rw [e, nI_clamp (by omega)]
    rw [e2]
    exact do_2 hV h0 (h1 (by decide)) e m2
  · exact do_3 hV h0 (h1 (by decide))
  · exact do_4 hV h0 (h1 (by decide)) e (by omega)
def fc (N N' : ea_M) : Prop := (∀ a, (a < 61 ∨ (67 < a ∧ a < 74) ∨ 76 < a) → N' a = N a) ∧ (∀ j, j = 8 ∨ j = 11 ∨ j = 22 ∨ j = 23 → N' 61 j = N 61 j) ∧ ∀ j, 13 ≤ j → N' 62 j = N 62 j
def st0 (N N' : ea_M) : Prop := (∀ a, 62 ≤ a → a ≤ 67 → N' a = N a) ∧ N' 61 1 = N 61 1 ∧ N' 61 6 = N 61 6
def rdr (N V : ea_M) (L : Nat → Int32) (n p ns nc : Nat) : Prop := tx_ok N L n p ∧ rd_s N V ns ∧ N 61 19 = nI nc ∧ R_c N
/-- what readsClause leaves -/
def rc_R (N N' V : ea_M) (L : Nat → Int32) (n ns nc : Nat) (r : cz_T) : Prop := tx_ok N' L n r.2.1 ∧ R_c N' ∧ fc N N' ∧ (N 61 23 = 0 → st0 N N') ∧ (r.1 = true → rd_s N' (ef_V V L n r.2.2.1 r.2.2.2.1 r.2.2.2.2.1 r.2.2.2.2.2 ns nc) (ef_ns r.2.2.1 ns) ∧ N' 61 19 = nI (ef_nc r.2.2.1 r.2.2.2.2.1 nc) ∧ vv_ok (ef_V V L n r.2.2.1 r.2.2.2.1 r.2.2.2.2.1 r.2.2.2.2.2 ns nc) (ef_ns r.2.2.1 ns) (ef_nc r.2.2.1 r.2.2.2.2.1 nc) ∧ (N 61 23 = 1 → RV (ef_V V L n r.2.2.1 r.2.2.2.1 r.2.2.2.2.1 r.2.2.2.2.2 ns nc) N' (ef_ns r.2.2.1 ns) (ef_nc r.2.2.1 r.2.2.2.2.1 nc)))
theorem iw_ex {L : Nat → Int32} {n p : Nat} (h : iw_b L n p 1 = true) : iw_b L n p 2 = false ∧ iw_b L n p 3 = false ∧ iw_b L n p 4 = false := by
  unfold iw_b at *
  rw [Bool.and_eq_true, decide_eq_true_iff] at h
  obtain ⟨h1, h2⟩ := h
  rw [iw_iff] at h2
  rw [h1]
  have e := h2 0 (by decide) (by decide)
  refine ⟨?_, rfl, rfl⟩
  rw [Bool.and_eq_false_iff]
  right
  rw [Bool.eq_false_iff]
  intro z
  rw [iw_iff] at z
  have e2 := z 0 (by decide) (by decide)
  rw [e] at e2
  exact absurd e2 (by decide +kernel)
theorem wz_0 {L : Nat → Int32} {n q : Nat} (h : (cz_0 L n q).1 = true) : (cz_0 L n q).2.2.1 = 0 := by
  unfold cz_0 at *
  repeat' split
  all_goals first | rfl | (rename_i z; rw [z] at h; exact absurd h (by decide))
theorem wz_1 {L W Ln : Nat → Int32} {n q ns : Nat} (h : (cz_1 L W Ln n q ns).1 = true) : (cz_1 L W Ln n q ns).2.2.1 = 1 := by
  unfold cz_1 at *
  by_cases c : tk_k L n q = 1 ∧ tk_b L n q - tk_f L n q ≤ 7 ∧ cz_s L W Ln n q ns = none
  · rw [if_pos c] at h ⊢
    revert h
    cases rn_o L n (tk_b L n q) 1 20 with
    | none => intro h; exact absurd (show false = true from h) (by decide)
    | some k =>
      cases rn_o L n (tk_b L n (tk_b L n q)) 1 20 with
      | none => intro h; exact absurd (show false = true from h) (by decide)
      | some c => intro _; rfl
  · rw [if_neg c] at h
    exact absurd (show false = true from h) (by decide)
theorem wz_2 {L W Ln : Nat → Int32} {n q ns nc : Nat} (h : (cz_2 L W Ln n q ns nc).1 = true) : (cz_2 L W Ln n q ns nc).2.2.1 = 2 := by
  unfold cz_2 at *
  revert h
  cases cz_s L W Ln n q ns with
  | none => intro h; exact absurd (show false = true from h) (by decide)
  | some k =>
    cases rn_o L n (tk_b L n q) 1 (ly_m nc) with
    | none => intro h; exact absurd (show false = true from h) (by decide)
    | some c => intro _; rfl
theorem wz_3 {L : Nat → Int32} {n q : Nat} (h : (cz_3 L n q).1 = true) : (cz_3 L n q).2.2.1 = 3 := by
  unfold cz_3 at *
  revert h
  cases rn_o L n q 0 999 with
  | none => intro h; exact absurd (show false = true from h) (by decide)
  | some k =>
    cases rn_o L n (tk_b L n q) 0 999 with
    | none => intro h; exact absurd (show false = true from h) (by decide)
    | some c => intro _; rfl
theorem wz_4 {L : Nat → Int32} {n q nc : Nat} (h : (cz_4 L n q nc).1 = true) : (cz_4 L n q nc).2.2.1 = 4 := by
  unfold cz_4 at *
  revert h
  cases rn_o L n q 0 (nI nc - 1) with
  | none => intro h; exact absurd (show false = true from h) (by decide)
  | some k =>
    cases rn_o L n (tk_b L n q) 0 9999 with
    | none => intro h; exact absurd (show false = true from h) (by decide)
    | some c => intro _; rfl
/-- a clause that fails -/
theorem rc_no {N N1 N2 V : ea_M} {L : Nat → Int32} {n p ns nc : Nat} {r : cz_T} (h : rdr N V L n p ns nc) (f1 : tx_fr N N1) (hr : rr_R N1 N2 V L n ns nc r) (hf : r.1 = false) : rc_R N N2 V L n ns nc r := by
  obtain ⟨t2, g1, g2, -⟩ := hr
  have e : ∀ a, a ≠ 61 → a ≠ 74 → a ≠ 75 → a ≠ 76 → N2 a = N a := fun a z1 z2 z3 z4 => by rw [g1 a z1 z2 z3 z4, f1.1 a z1]
  have e6 : ∀ j, j ≠ 16 → j ≠ 17 → N2 61 j = N 61 j := fun j z1 z2 => by rw [g2 j z1 z2, f1.2 j z1 z2]
  refine ⟨t2, R_c_cg h.2.2.2 (e 77 (by decide) (by decide) (by decide) (by decide)), ⟨fun a z => e a (by omega) (by omega) (by omega) (by omega), fun j z => e6 j (by omega) (by omega), fun j _ => by rw [e 62 (by decide) (by decide) (by decide) (by decide)]⟩, fun _ => ⟨fun a z1 z2 => e a (by omega) (by omega) (by omega) (by omega), e6 1 (by decide) (by decide), e6 6 (by decide) (by decide)⟩, fun z => ?_⟩
  rw [hf] at z
  exact absurd z (by decide)
/-- a good clause -/
theorem rc_yes {N N1 N2 V : ea_M} {L : Nat → Int32} {n p ns nc : Nat} {r : cz_T} (h : rdr N V L n p ns nc) (hv : vv_ok V ns nc) (f1 : tx_fr N N1) (hr : rr_R N1 N2 V L n ns nc r) (hc : cz_c L (V 1) (V 2) n p ns nc = r) (ht : r.1 = true) : (N 61 23 = 0 → rc_R N (ea_up (ea_up N2 61 19 (nI (ef_nc r.2.2.1 r.2.2.2.2.1 nc))) 61 18 (nI (ef_ns r.2.2.1 ns))) V L n ns nc r) ∧ (N 61 23 = 1 → RV V N ns nc → ∃ N4, ea_Sp 0 yX7_does cX7_does 3 none [.ref 61, .int (nI r.2.2.1)] (ea_up N2 61 19 (nI (ef_nc r.2.2.1 r.2.2.2.2.1 nc))) none N4 ∧ rc_R N (ea_up N4 61 18 (nI (ef_ns r.2.2.1 ns))) V L n ns nc r ∧ N4 61 18 = N 61 18) := by
  have hW := (cz_good (L := L) (W := V 1) (Ln := V 2) (p := p) (p' := r.2.1) (w := r.2.2.1) (a0 := r.2.2.2.1) (a1 := r.2.2.2.2.1) (q := r.2.2.2.2.2) h.1.2.2.1 hv.1.1 hv.1.2.1 (by rw [hc, ← ht])).1
  have hv2 := vv_ef (L := L) hv hW
  obtain ⟨t2, g1, g2, g3⟩ := hr
  obtain ⟨k0, k1, k74, k75⟩ := g3 ht
  have e : ∀ a, a ≠ 61 → a ≠ 74 → a ≠ 75 → a ≠ 76 → N2 a = N a := fun a z1 z2 z3 z4 => by rw [g1 a z1 z2 z3 z4, f1.1 a z1]
  have e6 : ∀ j, j ≠ 16 → j ≠ 17 → N2 61 j = N 61 j := fun j z1 z2 => by rw [g2 j z1 z2, f1.2 j z1 z2]
  obtain ⟨V', hV'⟩ : ∃ z, z = (ef_V V L n r.2.2.1 r.2.2.2.1 r.2.2.2.2.1 r.2.2.2.2.2 ns nc) := ⟨_, rfl⟩
  obtain ⟨ns', hns'⟩ : ∃ z, z = (ef_ns r.2.2.1 ns) := ⟨_, rfl⟩
  obtain ⟨nc', hnc'⟩ : ∃ z, z = (ef_nc r.2.2.1 r.2.2.2.2.1 nc) := ⟨_, rfl⟩
  obtain ⟨N3, hN3⟩ : ∃ z, z = ea_up N2 61 19 (nI nc') := ⟨_, rfl⟩
  have c3 : ∀ a, a ≠ 61 → N3 a = N2 a := fun a z => by rw [hN3, ea_upR z]
  have d3 : ∀ j, j ≠ 19 → N3 61 j = N2 61 j := fun j z => by rw [hN3, ea_upK z]
  have d19 : N3 61 19 = nI nc' := by rw [hN3, ea_upS]
  -- what is left, at the end
  have fin : ∀ N4, (∀ a, a ≠ 61 → (a < 62 ∨ 67 < a) → N4 a = N3 a) → (∀ j, j ≠ 1 → j ≠ 6 → N4 61 j = N3 61 j) → (∀ j, 13 ≤ j → N4 62 j = N3 62 j) → (N 61 23 = 0 → st0 N N4) → (N 61 23 = 1 → RV V' N4 ns' nc') → rc_R N (ea_up N4 61 18 (nI ns')) V L n ns nc r := by
    intro N4 x1 x2 x3 x4 x5
    have y : ∀ a, a ≠ 61 → ea_up N4 61 18 (nI ns') a = N4 a := fun a z => ea_upR z
    have y6 : ∀ j, j ≠ 18 → ea_up N4 61 18 (nI ns') 61 j = N4 61 j := fun j z => ea_upK z
    unfold rc_R
    rw [← hV', ← hns', ← hnc']
    rw [← hV'] at k74 k75
    rw [← hV', ← hns', ← hnc'] at hv2
    refine ⟨?_, ?_, ⟨fun a z => ?_, fun j z => ?_, fun j z => ?_⟩, fun z => ?_, fun _ => ⟨⟨ea_upS, hv2.1.1, fun j hj => ?_, fun j hj => ?_, hv2.2.1⟩, ?_, hv2, fun z => ?_⟩⟩
    · obtain ⟨q1, q2, q3, q4, q5, q6⟩ := t2
      exact ⟨by rw [y 69 (by decide), x1 69 (by decide) (by decide), c3 69 (by decide)]; exact q1, q2, q3, by rw [y6 11 (by decide), x2 11 (by decide) (by decide), d3 11 (by decide)]; exact q4, by rw [y6 16 (by decide), x2 16 (by decide) (by decide), d3 16 (by decide)]; exact q5, by rw [y6 17 (by decide), x2 17 (by decide) (by decide), d3 17 (by decide)]; exact q6⟩
    · exact R_c_cg h.2.2.2 (by rw [y 77 (by decide), x1 77 (by decide) (by decide), c3 77 (by decide), e 77 (by decide) (by decide) (by decide) (by decide)])
    · rw [y a (by omega), x1 a (by omega) (by omega), c3 a (by omega), e a (by omega) (by omega) (by omega) (by omega)]
    · rw [y6 j (by omega), x2 j (by omega) (by omega), d3 j (by omega), e6 j (by omega) (by omega)]
    · rw [y 62 (by decide), x3 j z, c3 62 (by decide), e 62 (by decide) (by decide) (by decide) (by decide)]
    · obtain ⟨s1, s2, s3⟩ := x4 z
      exact ⟨fun a z1 z2 => by rw [y a (by omega)]; exact s1 a z1 z2, by rw [y6 1 (by decide)]; exact s2, by rw [y6 6 (by decide)]; exact s3⟩
    · rw [y 74 (by decide), x1 74 (by decide) (by decide), c3 74 (by decide)]
      exact k74 j hj
    · rw [y 75 (by decide), x1 75 (by decide) (by decide), c3 75 (by decide)]
      exact k75 j hj
    · rw [y6 19 (by decide), x2 19 (by decide) (by decide), d19]
    · obtain ⟨s1, s2, s3, s4, s5, s6, s7, s8, s9, s10, s11⟩ := x5 z
      exact ⟨by rw [y6 1 (by decide)]; exact s1, by rw [y6 6 (by decide)]; exact s2, by rw [y 65 (by decide)]; exact s3, by rw [y 66 (by decide)]; exact s4, by rw [y 63 (by decide)]; exact s5, by rw [y 64 (by decide)]; exact s6, by rw [y 67 (by decide)]; exact s7, by rw [y 62 (by decide)]; exact s8, by rw [y 62 (by decide)]; exact s9, by rw [y 62 (by decide)]; exact s10, by rw [y 62 (by decide)]; exact s11⟩
  rw [← hns', ← hnc', ← hN3]
  refine ⟨fun z => fin N3 (fun _ _ _ => rfl) (fun _ _ _ => rfl) (fun _ _ => rfl) (fun _ => ⟨fun a z1 z2 => ?_, ?_, ?_⟩) (fun z1 => ?_), fun z hRV => ?_⟩
  · rw [c3 a (by omega), e a (by omega) (by omega) (by omega) (by omega)]
  · rw [d3 1 (by decide), e6 1 (by decide) (by decide)]
  · rw [d3 6 (by decide), e6 6 (by decide) (by decide)]
  · rw [z] at z1
    exact absurd z1 (by decide)
  · obtain ⟨s1, s2, s3, s4, s5, s6, s7, s8, s9, s10, s11⟩ := hRV
    have rv3 : RV V N3 ns nc := by
      have b : ∀ a, 62 ≤ a → a ≤ 67 → N3 a = N a := fun a z1 z2 => by rw [c3 a (by omega), e a (by omega) (by omega) (by omega) (by omega)]
      refine ⟨by rw [d3 1 (by decide), e6 1 (by decide) (by decide)]; exact s1, by rw [d3 6 (by decide), e6 6 (by decide) (by decide)]; exact s2, by rw [b 65 (by decide) (by decide)]; exact s3, by rw [b 66 (by decide) (by decide)]; exact s4, by rw [b 63 (by decide) (by decide)]; exact s5, by rw [b 64 (by decide) (by decide)]; exact s6, by rw [b 67 (by decide) (by decide)]; exact s7, ?_⟩
      rw [b 62 (by decide) (by decide)]
      exact ⟨s8, s9, s10, s11⟩
    obtain ⟨N4, sp, rv4, d1, d2, d4⟩ := do_w rv3 hv.1.2.1 hW (by rw [c3 76 (by decide)]; exact k0) (by rw [c3 76 (by decide)]; exact k1) (by rw [c3 74 (by decide)]; exact k74) (by rw [c3 75 (by decide)]; exact k75)
    rw [← hV', ← hns', ← hnc'] at rv4
    refine ⟨N4, sp, fin N4 d1 d2 d4 (fun z0 => ?_) (fun _ => rv4), by rw [d2 18 (by decide) (by decide), d3 18 (by decide), e6 18 (by decide) (by decide)]⟩
    rw [z] at z0
    exact absurd z0 (by decide)
theorem sp_X7_readsClause {N V : ea_M} {L : Nat → Int32} {n p ns nc : Nat} (h : rdr N V L n p ns nc) (hv : vv_ok V ns nc) (hd : N 61 23 = 0 ∨ (N 61 23 = 1 ∧ RV V N ns nc)) : ∃ N', ea_Sp 5 yX7_readsClause cX7_readsClause 2 (some .boolean) [.ref 61] N (some (.int (cl_1 (cz_c L (V 1) (V 2) n p ns nc).1))) N' ∧ rc_R N N' V L n ns nc (cz_c L (V 1) (V 2) n p ns nc) := by
  have hp := h.1.2.2.1
  have hWH := sp_X7_wordHere h.1 h.2.2.2
  have h18 : N 61 18 = nI ns := h.2.1.1
  have h6 : ns ≤ 6 := hv.1.1
  have hn : nc ≤ 10 := hv.1.2.1
  obtain ⟨N1, s1, t1, f1⟩ := tx_next h.1
  have hs1 : rd_s N1 V ns := by
    obtain ⟨a1, a2, a3, a4, a5⟩ := h.2.1
    exact ⟨by rw [f1.2 18 (by decide) (by decide)]; exact a1, a2, by rw [f1.1 74 (by decide)]; exact a3, by rw [f1.1 75 (by decide)]; exact a4, a5⟩
  have n19 : N1 61 19 = nI nc := by rw [f1.2 19 (by decide) (by decide)]; exact h.2.2.1
  cases i0 : iw_b L n p 0
  case true =>
    have ec : cz_c L (V 1) (V 2) n p ns nc = cz_0 L n (tk_b L n p) := by
      unfold cz_c
      rw [if_pos i0]
    have ew : pa_ri (wd_o L n p) = 0 := by
      unfold wd_o
      simp only [pa_ix, i0, if_true, if_false, Bool.false_eq_true]
      rfl
    rw [ew] at hWH
    rw [ec]
    obtain ⟨N2, s2, r2⟩ := rr_0 (nc := nc) t1 hs1
    have hwz : (cz_0 L n (tk_b L n p)).1 = true → (cz_0 L n (tk_b L n p)).2.2.1 = 0 := wz_0
    obtain ⟨r, hr⟩ : ∃ z, z = cz_0 L n (tk_b L n p) := ⟨_, rfl⟩
    rw [← hr] at ec s2 r2 hwz ⊢
    have x0 : (0 : Int32) = 0 := rfl
    have x1 : ¬ (0 : Int32) = 1 := by decide
    have x2 : ¬ (0 : Int32) = 2 := by decide
    have xm : ¬ (0 : Int32) = -1 := by decide
    cases hb : r.1 with
    | false =>
      rw [hb] at s2
      have z3 : cl_1 false = 0 := rfl
      refine ⟨N2, ?_, rc_no h f1 r2 hb⟩
      refine ea_intro (own := RX7) (by decide +kernel) rfl (fun g => Nat.le_of_ble_eq_true rfl) (fun k C X => ?_)

      refine km_readsClause C X  (M4 := fun _ _ => 0) (M5 := fun _ _ => 0) (M6 := fun _ _ => 0) (M7 := fun _ _ => 0) (M8 := fun _ _ => 0) (M9 := fun _ _ => 0) (M10 := fun _ _ => 0) (M11 := fun _ _ => 0) (r8 := 0) hWH (fun c => absurd c xm) (fun _ _ => s1) (fun _ _ => s2) (fun _ _ c _ _ _ _ _ => absurd z3 c) (fun _ _ c _ _ _ _ _ => absurd z3 c) (fun _ _ c _ _ _ _ => absurd z3 c) (fun _ _ c _ _ _ => absurd z3 c) (fun _ _ c _ _ _ _ _ => absurd z3 c) (fun _ _ c _ _ _ _ _ => absurd z3 c) (fun _ _ c _ _ _ _ => absurd z3 c) (fun _ _ c _ _ _ _ _ => absurd z3 c) (fun _ _ c _ _ _ _ _ => absurd z3 c) (fun _ _ c _ _ _ _ => absurd z3 c) (fun _ _ c _ _ _ => absurd z3 c) (fun _ _ c _ _ _ _ _ => absurd z3 c) (fun _ _ c _ _ _ _ _ => absurd z3 c) (fun _ _ c _ _ _ _ => absurd z3 c) (fun _ _ c _ _ _ _ => absurd z3 c) (fun _ _ c _ _ _ _ => absurd z3 c) (fun _ _ c _ _ _ => absurd z3 c) (fun _ _ c _ _ => absurd z3 c) (fun _ _ c _ _ _ _ => absurd z3 c) (fun _ _ c _ _ _ _ => absurd z3 c) (fun _ _ c _ _ _ => absurd z3 c) (fun _ _ _ => ⟨rfl, rfl⟩) (fun _ c _ => absurd c x1) (fun _ c _ => absurd c x1) (fun _ c _ _ _ _ _ _ _ => absurd c x1) (fun _ c _ _ _ _ _ _ _ => absurd c x1) (fun _ c _ _ _ _ _ _ => absurd c x1) (fun _ c _ _ _ _ _ => absurd c x1) (fun _ c _ _ _ _ _ _ _ => absurd c x1) (fun _ c _ _ _ _ _ _ _ => absurd c x1) (fun _ c _ _ _ _ _ _ => absurd c x1) (fun _ c _ _ _ _ _ _ _ => absurd c x1) (fun _ c _ _ _ _ _ _ _ => absurd c x1) (fun _ c _ _ _ _ _ _ => absurd c x1) (fun _ c _ _ _ _ _ => absurd c x1) (fun _ c _ _ _ _ _ _ _ => absurd c x1) (fun _ c _ _ _ _ _ _ _ => absurd c x1) (fun _ c _ _ _ _ _ _ => absurd c x1) (fun _ c _ _ _ _ _ _ => absurd c x1) (fun _ c _ _ _ _ _ _ => absurd c x1) (fun _ c _ _ _ _ _ => absurd c x1) (fun _ c _ _ _ _ => absurd c x1) (fun _ c _ _ _ _ _ _ => absurd c x1) (fun _ c _ _ _ _ _ _ => absurd c x1) (fun _ c _ _ _ _ _ => absurd c x1) (fun _ c _ _ => absurd c x1) (fun _ c _ => absurd c x1)
    | true =>
      have ww := hwz hb
      obtain ⟨y1, y2⟩ := rc_yes h hv f1 r2 ec hb
      have z3 : ¬ cl_1 true = 0 := by decide
      have e6 : ∀ j, j ≠ 16 → j ≠ 17 → N2 61 j = N 61 j := fun j z1 z2 => by rw [r2.2.2.1 j z1 z2, f1.2 j z1 z2]
      have k76 := (r2.2.2.2 hb).2.1
      rw [hb] at s2
      have e19 : (0 : Int32) = nI (ef_nc r.2.2.1 r.2.2.2.2.1 nc) := by
        rw [ww]; rfl
      have e18 : (0 : Int32) = nI (ef_ns r.2.2.1 ns) := by
        rw [ww]; rfl
      rcases hd with hd | ⟨hd, hRV⟩
      · refine ⟨_, ?_, y1 hd⟩
        have c23 : N2 61 23 = 0 := by rw [e6 23 (by decide) (by decide)]; exact hd
        rw [← e19, ← e18]
        refine ea_intro (own := RX7) (by decide +kernel) rfl (fun g => Nat.le_of_ble_eq_true rfl) (fun k C X => ?_)

        refine km_readsClause C X  (M4 := fun _ _ => 0) (M5 := fun _ _ => 0) (M6 := fun _ _ => 0) (M7 := fun _ _ => 0) (M8 := fun _ _ => 0) (M9 := fun _ _ => 0) (M10 := fun _ _ => 0) (M11 := fun _ _ => 0) (r8 := 0) hWH (fun c => absurd c xm) (fun _ _ => s1) (fun _ _ => s2) (fun _ _ _ c _ _ _ _ => absurd x0 c) (fun _ _ _ c _ _ _ _ => absurd x0 c) (fun _ _ _ c _ _ _ => absurd x0 c) (fun _ _ _ c _ _ => absurd x0 c) (fun _ _ _ c _ _ _ _ => absurd x0 c) (fun _ _ _ c _ _ _ _ => absurd x0 c) (fun _ _ _ c _ _ _ => absurd x0 c) (fun _ _ _ c _ _ _ _ => absurd x0 c) (fun _ _ _ c _ _ _ _ => absurd x0 c) (fun _ _ _ c _ _ _ => absurd x0 c) (fun _ _ _ c _ _ => absurd x0 c) (fun _ _ _ c _ _ _ _ => absurd x0 c) (fun _ _ _ c _ _ _ _ => absurd x0 c) (fun _ _ _ c _ _ _ => absurd x0 c) (fun _ _ _ _ _ c _ => absurd x0 c) (fun _ _ _ _ _ c _ => absurd x0 c) (fun _ _ _ _ _ _ => ⟨rfl, rfl⟩) (fun _ _ _ _ c => absurd c23 c) (fun _ _ _ _ c _ _ => absurd c23 c) (fun _ _ _ _ c _ _ => absurd c23 c) (fun _ _ _ _ c _ => absurd c23 c) (fun _ _ c => absurd c z3) (fun _ c _ => absurd c x1) (fun _ c _ => absurd c x1) (fun _ c _ _ _ _ _ _ _ => absurd c x1) (fun _ c _ _ _ _ _ _ _ => absurd c x1) (fun _ c _ _ _ _ _ _ => absurd c x1) (fun _ c _ _ _ _ _ => absurd c x1) (fun _ c _ _ _ _ _ _ _ => absurd c x1) (fun _ c _ _ _ _ _ _ _ => absurd c x1) (fun _ c _ _ _ _ _ _ => absurd c x1) (fun _ c _ _ _ _ _ _ _ => absurd c x1) (fun _ c _ _ _ _ _ _ _ => absurd c x1) (fun _ c _ _ _ _ _ _ => absurd c x1) (fun _ c _ _ _ _ _ => absurd c x1) (fun _ c _ _ _ _ _ _ _ => absurd c x1) (fun _ c _ _ _ _ _ _ _ => absurd c x1) (fun _ c _ _ _ _ _ _ => absurd c x1) (fun _ c _ _ _ _ _ _ => absurd c x1) (fun _ c _ _ _ _ _ _ => absurd c x1) (fun _ c _ _ _ _ _ => absurd c x1) (fun _ c _ _ _ _ => absurd c x1) (fun _ c _ _ _ _ _ _ => absurd c x1) (fun _ c _ _ _ _ _ _ => absurd c x1) (fun _ c _ _ _ _ _ => absurd c x1) (fun _ c _ _ => absurd c x1) (fun _ c _ => absurd c x1)
      · obtain ⟨N4, s4, r4, k18⟩ := y2 hd hRV
        have c23 : ¬ N2 61 23 = 0 := by rw [e6 23 (by decide) (by decide), hd]; decide
        have d18 : (0 : Int32) = nI (ef_ns r.2.2.1 ns) := by exact e18
        rw [← e19, ww] at s4
        have s4' : ea_Sp 0 yX7_does cX7_does 3 none [.ref 61, .int 0] (ea_up N2 61 19 ((0 : Int32))) none N4 := s4
        refine ⟨_, ?_, r4⟩
        rw [← d18]
        refine ea_intro (own := RX7) (by decide +kernel) rfl (fun g => Nat.le_of_ble_eq_true rfl) (fun k C X => ?_)

        refine km_readsClause C X  (M4 := fun _ _ => 0) (M5 := fun _ _ => 0) (M7 := fun _ _ => 0) (M8 := fun _ _ => 0) (M9 := fun _ _ => 0) (M10 := fun _ _ => 0) (M11 := fun _ _ => 0) (r8 := 0) hWH (fun c => absurd c xm) (fun _ _ => s1) (fun _ _ => s2) (fun _ _ _ c _ _ _ _ => absurd x0 c) (fun _ _ _ c _ _ _ _ => absurd x0 c) (fun _ _ _ c _ _ _ => absurd x0 c) (fun _ _ _ c _ _ => absurd x0 c) (fun _ _ _ c _ _ _ _ => absurd x0 c) (fun _ _ _ c _ _ _ _ => absurd x0 c) (fun _ _ _ c _ _ _ => absurd x0 c) (fun _ _ _ c _ _ _ _ => absurd x0 c) (fun _ _ _ c _ _ _ _ => absurd x0 c) (fun _ _ _ c _ _ _ => absurd x0 c) (fun _ _ _ c _ _ => absurd x0 c) (fun _ _ _ c _ _ _ _ => absurd x0 c) (fun _ _ _ c _ _ _ _ => absurd x0 c) (fun _ _ _ c _ _ _ => absurd x0 c) (fun _ _ _ _ c _ _ => absurd c c23) (fun _ _ _ _ c _ _ => absurd c c23) (fun _ _ _ _ c _ => absurd c c23) (fun _ _ _ _ _ => s4') (fun _ _ _ _ _ c _ => absurd x0 c) (fun _ _ _ _ _ c _ => absurd x0 c) (fun _ _ _ _ _ _ => ⟨rfl, rfl⟩) (fun _ _ c => absurd c z3) (fun _ c _ => absurd c x1) (fun _ c _ => absurd c x1) (fun _ c _ _ _ _ _ _ _ => absurd c x1) (fun _ c _ _ _ _ _ _ _ => absurd c x1) (fun _ c _ _ _ _ _ _ => absurd c x1) (fun _ c _ _ _ _ _ => absurd c x1) (fun _ c _ _ _ _ _ _ _ => absurd c x1) (fun _ c _ _ _ _ _ _ _ => absurd c x1) (fun _ c _ _ _ _ _ _ => absurd c x1) (fun _ c _ _ _ _ _ _ _ => absurd c x1) (fun _ c _ _ _ _ _ _ _ => absurd c x1) (fun _ c _ _ _ _ _ _ => absurd c x1) (fun _ c _ _ _ _ _ => absurd c x1) (fun _ c _ _ _ _ _ _ _ => absurd c x1) (fun _ c _ _ _ _ _ _ _ => absurd c x1) (fun _ c _ _ _ _ _ _ => absurd c x1) (fun _ c _ _ _ _ _ _ => absurd c x1) (fun _ c _ _ _ _ _ _ => absurd c x1) (fun _ c _ _ _ _ _ => absurd c x1) (fun _ c _ _ _ _ => absurd c x1) (fun _ c _ _ _ _ _ _ => absurd c x1) (fun _ c _ _ _ _ _ _ => absurd c x1) (fun _ c _ _ _ _ _ => absurd c x1) (fun _ c _ _ => absurd c x1) (fun _ c _ => absurd c x1)
  cases i1 : iw_b L n p 1
  case true =>
    by_cases c6 : ns = 6
    case pos =>
      obtain ⟨i2, i3, i4⟩ := iw_ex i1
      have ec : cz_c L (V 1) (V 2) n p ns nc = cz_f p := by
        unfold cz_c
        rw [if_neg (by rw [i0]; decide), if_neg (by omega), if_neg (by rw [i2]; decide), if_neg (by rw [i3]; decide), if_neg (by rw [i4]; decide)]
      have ew : pa_ri (wd_o L n p) = 1 := by
        unfold wd_o
        simp only [pa_ix, i0, i1, if_true, if_false, Bool.false_eq_true]
        rfl
      rw [ew] at hWH
      rw [ec]
      have xm : ¬ (1 : Int32) = -1 := by decide
      have x1 : (1 : Int32) = 1 := rfl
      have y6 : N 61 18 = 6 := by rw [h18, c6]; rfl
      refine ⟨N, ?_, h.1, h.2.2.2, ⟨fun _ _ => rfl, fun _ _ => rfl, fun _ _ => rfl⟩, fun _ => ⟨fun _ _ _ => rfl, rfl, rfl⟩, fun z => absurd (show false = true from z) (by decide)⟩
      refine ea_intro (own := RX7) (by decide +kernel) rfl (fun g => Nat.le_of_ble_eq_true rfl) (fun k C X => ?_)

      refine km_readsClause C X  (M2 := fun _ _ => 0) (M3 := fun _ _ => 0) (M4 := fun _ _ => 0) (M5 := fun _ _ => 0) (M6 := fun _ _ => 0) (M7 := fun _ _ => 0) (M8 := fun _ _ => 0) (M9 := fun _ _ => 0) (M10 := fun _ _ => 0) (M11 := fun _ _ => 0) (r3 := 0) (r8 := 0) hWH (fun c => absurd c xm) (fun _ c => absurd x1 c) (fun _ c => absurd x1 c) (fun _ c _ _ _ _ _ _ => absurd x1 c) (fun _ c _ _ _ _ _ _ => absurd x1 c) (fun _ c _ _ _ _ _ => absurd x1 c) (fun _ c _ _ _ _ => absurd x1 c) (fun _ c _ _ _ _ _ _ => absurd x1 c) (fun _ c _ _ _ _ _ _ => absurd x1 c) (fun _ c _ _ _ _ _ => absurd x1 c) (fun _ c _ _ _ _ _ _ => absurd x1 c) (fun _ c _ _ _ _ _ _ => absurd x1 c) (fun _ c _ _ _ _ _ => absurd x1 c) (fun _ c _ _ _ _ => absurd x1 c) (fun _ c _ _ _ _ _ _ => absurd x1 c) (fun _ c _ _ _ _ _ _ => absurd x1 c) (fun _ c _ _ _ _ _ => absurd x1 c) (fun _ c _ _ _ _ _ => absurd x1 c) (fun _ c _ _ _ _ _ => absurd x1 c) (fun _ c _ _ _ _ => absurd x1 c) (fun _ c _ _ _ => absurd x1 c) (fun _ c _ _ _ _ _ => absurd x1 c) (fun _ c _ _ _ _ _ => absurd x1 c) (fun _ c _ _ _ _ => absurd x1 c) (fun _ c _ => absurd x1 c) (fun _ _ c => absurd y6 c) (fun _ _ c => absurd y6 c) (fun _ _ c _ _ _ _ _ _ => absurd y6 c) (fun _ _ c _ _ _ _ _ _ => absurd y6 c) (fun _ _ c _ _ _ _ _ => absurd y6 c) (fun _ _ c _ _ _ _ => absurd y6 c) (fun _ _ c _ _ _ _ _ _ => absurd y6 c) (fun _ _ c _ _ _ _ _ _ => absurd y6 c) (fun _ _ c _ _ _ _ _ => absurd y6 c) (fun _ _ c _ _ _ _ _ _ => absurd y6 c) (fun _ _ c _ _ _ _ _ _ => absurd y6 c) (fun _ _ c _ _ _ _ _ => absurd y6 c) (fun _ _ c _ _ _ _ => absurd y6 c) (fun _ _ c _ _ _ _ _ _ => absurd y6 c) (fun _ _ c _ _ _ _ _ _ => absurd y6 c) (fun _ _ c _ _ _ _ _ => absurd y6 c) (fun _ _ c _ _ _ _ _ => absurd y6 c) (fun _ _ c _ _ _ _ _ => absurd y6 c) (fun _ _ c _ _ _ _ => absurd y6 c) (fun _ _ c _ _ _ => absurd y6 c) (fun _ _ c _ _ _ _ _ => absurd y6 c) (fun _ _ c _ _ _ _ _ => absurd y6 c) (fun _ _ c _ _ _ _ => absurd y6 c) (fun _ _ c _ => absurd y6 c) (fun _ _ _ => ⟨rfl, rfl⟩)
    have ec : cz_c L (V 1) (V 2) n p ns nc = cz_1 L (V 1) (V 2) n (tk_b L n p) ns := by
      unfold cz_c
      rw [if_neg (by rw [i0]; decide), if_pos ⟨by omega, i1⟩]
    have ew : pa_ri (wd_o L n p) = 1 := by
      unfold wd_o
      simp only [pa_ix, i0, i1, if_true, if_false, Bool.false_eq_true]
      rfl
    rw [ew] at hWH
    rw [ec]
    obtain ⟨N2, s2, r2⟩ := rr_1 (nc := nc) t1 hs1 (by omega)
    have hwz : (cz_1 L (V 1) (V 2) n (tk_b L n p) ns).1 = true → (cz_1 L (V 1) (V 2) n (tk_b L n p) ns).2.2.1 = 1 := wz_1
    obtain ⟨r, hr⟩ : ∃ z, z = cz_1 L (V 1) (V 2) n (tk_b L n p) ns := ⟨_, rfl⟩
    rw [← hr] at ec s2 r2 hwz ⊢
    have x0 : ¬ (1 : Int32) = 0 := by decide
    have x1 : (1 : Int32) = 1 := rfl
    have x2 : ¬ (1 : Int32) = 2 := by decide
    have xm : ¬ (1 : Int32) = -1 := by decide
    have y6 : ¬ N 61 18 = 6 := by rw [h18]; exact fun z => absurd ((nI_eq (a := ns) (b := 6) (by omega) (by decide)).mp z) (by omega)
    cases hb : r.1 with
    | false =>
      rw [hb] at s2
      have z3 : cl_1 false = 0 := rfl
      refine ⟨N2, ?_, rc_no h f1 r2 hb⟩
      refine ea_intro (own := RX7) (by decide +kernel) rfl (fun g => Nat.le_of_ble_eq_true rfl) (fun k C X => ?_)

      refine km_readsClause C X  (M2 := fun _ _ => 0) (M3 := fun _ _ => 0) (M4 := fun _ _ => 0) (M5 := fun _ _ => 0) (M6 := fun _ _ => 0) (M9 := fun _ _ => 0) (M10 := fun _ _ => 0) (M11 := fun _ _ => 0) (r3 := 0) hWH (fun c => absurd c xm) (fun _ c => absurd x1 c) (fun _ c => absurd x1 c) (fun _ c _ _ _ _ _ _ => absurd x1 c) (fun _ c _ _ _ _ _ _ => absurd x1 c) (fun _ c _ _ _ _ _ => absurd x1 c) (fun _ c _ _ _ _ => absurd x1 c) (fun _ c _ _ _ _ _ _ => absurd x1 c) (fun _ c _ _ _ _ _ _ => absurd x1 c) (fun _ c _ _ _ _ _ => absurd x1 c) (fun _ c _ _ _ _ _ _ => absurd x1 c) (fun _ c _ _ _ _ _ _ => absurd x1 c) (fun _ c _ _ _ _ _ => absurd x1 c) (fun _ c _ _ _ _ => absurd x1 c) (fun _ c _ _ _ _ _ _ => absurd x1 c) (fun _ c _ _ _ _ _ _ => absurd x1 c) (fun _ c _ _ _ _ _ => absurd x1 c) (fun _ c _ _ _ _ _ => absurd x1 c) (fun _ c _ _ _ _ _ => absurd x1 c) (fun _ c _ _ _ _ => absurd x1 c) (fun _ c _ _ _ => absurd x1 c) (fun _ c _ _ _ _ _ => absurd x1 c) (fun _ c _ _ _ _ _ => absurd x1 c) (fun _ c _ _ _ _ => absurd x1 c) (fun _ c _ => absurd x1 c) (fun _ _ _ => s1) (fun _ _ _ => s2) (fun _ _ _ c _ _ _ _ _ => absurd z3 c) (fun _ _ _ c _ _ _ _ _ => absurd z3 c) (fun _ _ _ c _ _ _ _ => absurd z3 c) (fun _ _ _ c _ _ _ => absurd z3 c) (fun _ _ _ c _ _ _ _ _ => absurd z3 c) (fun _ _ _ c _ _ _ _ _ => absurd z3 c) (fun _ _ _ c _ _ _ _ => absurd z3 c) (fun _ _ _ c _ _ _ _ _ => absurd z3 c) (fun _ _ _ c _ _ _ _ _ => absurd z3 c) (fun _ _ _ c _ _ _ _ => absurd z3 c) (fun _ _ _ c _ _ _ => absurd z3 c) (fun _ _ _ c _ _ _ _ _ => absurd z3 c) (fun _ _ _ c _ _ _ _ _ => absurd z3 c) (fun _ _ _ c _ _ _ _ => absurd z3 c) (fun _ _ _ c _ _ _ _ => absurd z3 c) (fun _ _ _ c _ _ _ _ => absurd z3 c) (fun _ _ _ c _ _ _ => absurd z3 c) (fun _ _ _ c _ _ => absurd z3 c) (fun _ _ _ c _ _ _ _ => absurd z3 c) (fun _ _ _ c _ _ _ _ => absurd z3 c) (fun _ _ _ c _ _ _ => absurd z3 c) (fun _ _ _ _ => ⟨rfl, rfl⟩) (fun _ _ c => absurd c y6)
    | true =>
      have ww := hwz hb
      obtain ⟨y1, y2⟩ := rc_yes h hv f1 r2 ec hb
      have z3 : ¬ cl_1 true = 0 := by decide
      have e6 : ∀ j, j ≠ 16 → j ≠ 17 → N2 61 j = N 61 j := fun j z1 z2 => by rw [r2.2.2.1 j z1 z2, f1.2 j z1 z2]
      have k76 := (r2.2.2.2 hb).2.1
      rw [hb] at s2
      have e19 : N2 61 19 = nI (ef_nc r.2.2.1 r.2.2.2.2.1 nc) := by
        rw [e6 19 (by decide) (by decide), h.2.2.1, ww]; rfl
      have e18 : N2 61 18 + 1 = nI (ef_ns r.2.2.1 ns) := by
        rw [e6 18 (by decide) (by decide), h18, ww]; exact nI_1 ns
      rcases hd with hd | ⟨hd, hRV⟩
      · refine ⟨_, ?_, y1 hd⟩
        have c23 : N2 61 23 = 0 := by rw [e6 23 (by decide) (by decide)]; exact hd
        rw [← e19, ← e18]
        refine ea_intro (own := RX7) (by decide +kernel) rfl (fun g => Nat.le_of_ble_eq_true rfl) (fun k C X => ?_)

        refine km_readsClause C X  (M2 := fun _ _ => 0) (M3 := fun _ _ => 0) (M4 := fun _ _ => 0) (M5 := fun _ _ => 0) (M6 := fun _ _ => 0) (M9 := fun _ _ => 0) (M10 := fun _ _ => 0) (M11 := fun _ _ => 0) (r3 := 0) hWH (fun c => absurd c xm) (fun _ c => absurd x1 c) (fun _ c => absurd x1 c) (fun _ c _ _ _ _ _ _ => absurd x1 c) (fun _ c _ _ _ _ _ _ => absurd x1 c) (fun _ c _ _ _ _ _ => absurd x1 c) (fun _ c _ _ _ _ => absurd x1 c) (fun _ c _ _ _ _ _ _ => absurd x1 c) (fun _ c _ _ _ _ _ _ => absurd x1 c) (fun _ c _ _ _ _ _ => absurd x1 c) (fun _ c _ _ _ _ _ _ => absurd x1 c) (fun _ c _ _ _ _ _ _ => absurd x1 c) (fun _ c _ _ _ _ _ => absurd x1 c) (fun _ c _ _ _ _ => absurd x1 c) (fun _ c _ _ _ _ _ _ => absurd x1 c) (fun _ c _ _ _ _ _ _ => absurd x1 c) (fun _ c _ _ _ _ _ => absurd x1 c) (fun _ c _ _ _ _ _ => absurd x1 c) (fun _ c _ _ _ _ _ => absurd x1 c) (fun _ c _ _ _ _ => absurd x1 c) (fun _ c _ _ _ => absurd x1 c) (fun _ c _ _ _ _ _ => absurd x1 c) (fun _ c _ _ _ _ _ => absurd x1 c) (fun _ c _ _ _ _ => absurd x1 c) (fun _ c _ => absurd x1 c) (fun _ _ _ => s1) (fun _ _ _ => s2) (fun _ _ _ _ _ _ _ _ c => absurd x1 c) (fun _ _ _ _ _ _ _ _ _ => ⟨rfl, rfl⟩) (fun _ _ _ _ _ _ _ c => absurd c x0) (fun _ _ _ _ _ _ c => absurd c23 c) (fun _ _ _ _ _ _ c _ _ => absurd c23 c) (fun _ _ _ _ _ _ c _ _ => absurd c23 c) (fun _ _ _ _ _ _ c _ => absurd c23 c) (fun _ _ _ _ _ c _ _ _ => absurd c x2) (fun _ _ _ _ _ c _ _ _ => absurd c x2) (fun _ _ _ _ _ c _ _ => absurd c x2) (fun _ _ _ _ _ c _ => absurd c x2) (fun _ _ _ _ _ c _ _ _ => absurd c x2) (fun _ _ _ _ _ c _ _ _ => absurd c x2) (fun _ _ _ _ _ c _ _ => absurd c x2) (fun _ _ _ _ c _ _ _ => absurd c x0) (fun _ _ _ _ c _ _ _ => absurd c x0) (fun _ _ _ _ c _ _ => absurd c x0) (fun _ _ _ _ c _ => absurd c x0) (fun _ _ _ _ c _ _ _ => absurd c x0) (fun _ _ _ _ c _ _ _ => absurd c x0) (fun _ _ _ _ c _ _ => absurd c x0) (fun _ _ _ c => absurd c z3) (fun _ _ c => absurd c y6)
      · obtain ⟨N4, s4, r4, k18⟩ := y2 hd hRV
        have c23 : ¬ N2 61 23 = 0 := by rw [e6 23 (by decide) (by decide), hd]; decide
        have d18 : N4 61 18 + 1 = nI (ef_ns r.2.2.1 ns) := by rw [k18, ← e6 18 (by decide) (by decide)]; exact e18
        rw [← e19, ww] at s4
        have s4' : ea_Sp 0 yX7_does cX7_does 3 none [.ref 61, .int 1] (ea_up N2 61 19 (N2 61 19)) none N4 := s4
        refine ⟨_, ?_, r4⟩
        rw [← d18]
        refine ea_intro (own := RX7) (by decide +kernel) rfl (fun g => Nat.le_of_ble_eq_true rfl) (fun k C X => ?_)

        refine km_readsClause C X  (M2 := fun _ _ => 0) (M3 := fun _ _ => 0) (M4 := fun _ _ => 0) (M5 := fun _ _ => 0) (M6 := fun _ _ => 0) (M10 := fun _ _ => 0) (M11 := fun _ _ => 0) (r3 := 0) hWH (fun c => absurd c xm) (fun _ c => absurd x1 c) (fun _ c => absurd x1 c) (fun _ c _ _ _ _ _ _ => absurd x1 c) (fun _ c _ _ _ _ _ _ => absurd x1 c) (fun _ c _ _ _ _ _ => absurd x1 c) (fun _ c _ _ _ _ => absurd x1 c) (fun _ c _ _ _ _ _ _ => absurd x1 c) (fun _ c _ _ _ _ _ _ => absurd x1 c) (fun _ c _ _ _ _ _ => absurd x1 c) (fun _ c _ _ _ _ _ _ => absurd x1 c) (fun _ c _ _ _ _ _ _ => absurd x1 c) (fun _ c _ _ _ _ _ => absurd x1 c) (fun _ c _ _ _ _ => absurd x1 c) (fun _ c _ _ _ _ _ _ => absurd x1 c) (fun _ c _ _ _ _ _ _ => absurd x1 c) (fun _ c _ _ _ _ _ => absurd x1 c) (fun _ c _ _ _ _ _ => absurd x1 c) (fun _ c _ _ _ _ _ => absurd x1 c) (fun _ c _ _ _ _ => absurd x1 c) (fun _ c _ _ _ => absurd x1 c) (fun _ c _ _ _ _ _ => absurd x1 c) (fun _ c _ _ _ _ _ => absurd x1 c) (fun _ c _ _ _ _ => absurd x1 c) (fun _ c _ => absurd x1 c) (fun _ _ _ => s1) (fun _ _ _ => s2) (fun _ _ _ _ _ _ c _ _ => absurd c c23) (fun _ _ _ _ _ _ c _ _ => absurd c c23) (fun _ _ _ _ _ _ c _ => absurd c c23) (fun _ _ _ _ _ _ _ => s4') (fun _ _ _ _ _ _ _ _ c => absurd x1 c) (fun _ _ _ _ _ _ _ _ _ => ⟨rfl, rfl⟩) (fun _ _ _ _ _ _ _ c => absurd c x0) (fun _ _ _ _ _ c _ _ _ => absurd c x2) (fun _ _ _ _ _ c _ _ _ => absurd c x2) (fun _ _ _ _ _ c _ _ => absurd c x2) (fun _ _ _ _ _ c _ => absurd c x2) (fun _ _ _ _ _ c _ _ _ => absurd c x2) (fun _ _ _ _ _ c _ _ _ => absurd c x2) (fun _ _ _ _ _ c _ _ => absurd c x2) (fun _ _ _ _ c _ _ _ => absurd c x0) (fun _ _ _ _ c _ _ _ => absurd c x0) (fun _ _ _ _ c _ _ => absurd c x0) (fun _ _ _ _ c _ => absurd c x0) (fun _ _ _ _ c _ _ _ => absurd c x0) (fun _ _ _ _ c _ _ _ => absurd c x0) (fun _ _ _ _ c _ _ => absurd c x0) (fun _ _ _ c => absurd c z3) (fun _ _ c => absurd c y6)
  cases i2 : iw_b L n p 2
  case true =>
    have ec : cz_c L (V 1) (V 2) n p ns nc = cz_2 L (V 1) (V 2) n (tk_b L n p) ns nc := by
      unfold cz_c
      rw [if_neg (by rw [i0]; decide), if_neg (fun z => absurd z.2 (by rw [i1]; decide)), if_pos i2]
    have ew : pa_ri (wd_o L n p) = 2 := by
      unfold wd_o
      simp only [pa_ix, i0, i1, i2, if_true, if_false, Bool.false_eq_true]
      rfl
    rw [ew] at hWH
    rw [ec]
    obtain ⟨N2, s2, r2⟩ := rr_2 t1 hs1 n19 hn
    have hwz : (cz_2 L (V 1) (V 2) n (tk_b L n p) ns nc).1 = true → (cz_2 L (V 1) (V 2) n (tk_b L n p) ns nc).2.2.1 = 2 := wz_2
    obtain ⟨r, hr⟩ : ∃ z, z = cz_2 L (V 1) (V 2) n (tk_b L n p) ns nc := ⟨_, rfl⟩
    rw [← hr] at ec s2 r2 hwz ⊢
    have x0 : ¬ (2 : Int32) = 0 := by decide
    have x1 : ¬ (2 : Int32) = 1 := by decide
    have x2 : (2 : Int32) = 2 := rfl
    have xm : ¬ (2 : Int32) = -1 := by decide
    cases hb : r.1 with
    | false =>
      rw [hb] at s2
      have z3 : cl_1 false = 0 := rfl
      refine ⟨N2, ?_, rc_no h f1 r2 hb⟩
      refine ea_intro (own := RX7) (by decide +kernel) rfl (fun g => Nat.le_of_ble_eq_true rfl) (fun k C X => ?_)

      refine km_readsClause C X  (M4 := fun _ _ => 0) (M5 := fun _ _ => 0) (M6 := fun _ _ => 0) (M7 := fun _ _ => 0) (M8 := fun _ _ => 0) (M9 := fun _ _ => 0) (M10 := fun _ _ => 0) (M11 := fun _ _ => 0) (r8 := 0) hWH (fun c => absurd c xm) (fun _ _ => s1) (fun _ _ => s2) (fun _ _ c _ _ _ _ _ => absurd z3 c) (fun _ _ c _ _ _ _ _ => absurd z3 c) (fun _ _ c _ _ _ _ => absurd z3 c) (fun _ _ c _ _ _ => absurd z3 c) (fun _ _ c _ _ _ _ _ => absurd z3 c) (fun _ _ c _ _ _ _ _ => absurd z3 c) (fun _ _ c _ _ _ _ => absurd z3 c) (fun _ _ c _ _ _ _ _ => absurd z3 c) (fun _ _ c _ _ _ _ _ => absurd z3 c) (fun _ _ c _ _ _ _ => absurd z3 c) (fun _ _ c _ _ _ => absurd z3 c) (fun _ _ c _ _ _ _ _ => absurd z3 c) (fun _ _ c _ _ _ _ _ => absurd z3 c) (fun _ _ c _ _ _ _ => absurd z3 c) (fun _ _ c _ _ _ _ => absurd z3 c) (fun _ _ c _ _ _ _ => absurd z3 c) (fun _ _ c _ _ _ => absurd z3 c) (fun _ _ c _ _ => absurd z3 c) (fun _ _ c _ _ _ _ => absurd z3 c) (fun _ _ c _ _ _ _ => absurd z3 c) (fun _ _ c _ _ _ => absurd z3 c) (fun _ _ _ => ⟨rfl, rfl⟩) (fun _ c _ => absurd c x1) (fun _ c _ => absurd c x1) (fun _ c _ _ _ _ _ _ _ => absurd c x1) (fun _ c _ _ _ _ _ _ _ => absurd c x1) (fun _ c _ _ _ _ _ _ => absurd c x1) (fun _ c _ _ _ _ _ => absurd c x1) (fun _ c _ _ _ _ _ _ _ => absurd c x1) (fun _ c _ _ _ _ _ _ _ => absurd c x1) (fun _ c _ _ _ _ _ _ => absurd c x1) (fun _ c _ _ _ _ _ _ _ => absurd c x1) (fun _ c _ _ _ _ _ _ _ => absurd c x1) (fun _ c _ _ _ _ _ _ => absurd c x1) (fun _ c _ _ _ _ _ => absurd c x1) (fun _ c _ _ _ _ _ _ _ => absurd c x1) (fun _ c _ _ _ _ _ _ _ => absurd c x1) (fun _ c _ _ _ _ _ _ => absurd c x1) (fun _ c _ _ _ _ _ _ => absurd c x1) (fun _ c _ _ _ _ _ _ => absurd c x1) (fun _ c _ _ _ _ _ => absurd c x1) (fun _ c _ _ _ _ => absurd c x1) (fun _ c _ _ _ _ _ _ => absurd c x1) (fun _ c _ _ _ _ _ _ => absurd c x1) (fun _ c _ _ _ _ _ => absurd c x1) (fun _ c _ _ => absurd c x1) (fun _ c _ => absurd c x1)
    | true =>
      have ww := hwz hb
      obtain ⟨y1, y2⟩ := rc_yes h hv f1 r2 ec hb
      have z3 : ¬ cl_1 true = 0 := by decide
      have e6 : ∀ j, j ≠ 16 → j ≠ 17 → N2 61 j = N 61 j := fun j z1 z2 => by rw [r2.2.2.1 j z1 z2, f1.2 j z1 z2]
      have k76 := (r2.2.2.2 hb).2.1
      rw [hb] at s2
      have e19 : N2 61 19 + N2 76 1 = nI (ef_nc r.2.2.1 r.2.2.2.2.1 nc) := by
        obtain ⟨w', hw2⟩ : ∃ z, z = r.2.2.2.2.1 := ⟨_, rfl⟩
        have hW := (cz_good (L := L) (W := V 1) (Ln := V 2) (p := p) (p' := r.2.1) (w := r.2.2.1) (a0 := r.2.2.2.1) (a1 := r.2.2.2.2.1) (q := r.2.2.2.2.2) hp h6 hn (by rw [ec, ← hb])).1
        rw [e6 19 (by decide) (by decide), h.2.2.1, k76 (by rw [ww]; decide), ww]
        rw [ww] at hW
        rcases hW with ⟨z, -⟩ | ⟨z, -⟩ | ⟨-, -, m, m1, m2, em⟩ | ⟨z, -⟩ | ⟨z, -⟩
        · exact absurd z (by decide)
        · exact absurd z (by decide)
        · show nI nc + r.2.2.2.2.1 = nI (nc + r.2.2.2.2.1.toNatClampNeg)
          rw [em, nI_clamp (by omega), nI_add]
        · exact absurd z (by decide)
        · exact absurd z (by decide)
      have e18 : N2 61 18 = nI (ef_ns r.2.2.1 ns) := by
        rw [e6 18 (by decide) (by decide), h18, ww]; rfl
      rcases hd with hd | ⟨hd, hRV⟩
      · refine ⟨_, ?_, y1 hd⟩
        have c23 : N2 61 23 = 0 := by rw [e6 23 (by decide) (by decide)]; exact hd
        rw [← e19, ← e18]
        refine ea_intro (own := RX7) (by decide +kernel) rfl (fun g => Nat.le_of_ble_eq_true rfl) (fun k C X => ?_)

        refine km_readsClause C X  (M4 := fun _ _ => 0) (M5 := fun _ _ => 0) (M6 := fun _ _ => 0) (M7 := fun _ _ => 0) (M8 := fun _ _ => 0) (M9 := fun _ _ => 0) (M10 := fun _ _ => 0) (M11 := fun _ _ => 0) (r8 := 0) hWH (fun c => absurd c xm) (fun _ _ => s1) (fun _ _ => s2) (fun _ _ _ _ c _ _ _ => absurd x2 c) (fun _ _ _ _ c _ _ _ => absurd x2 c) (fun _ _ _ _ c _ _ => absurd x2 c) (fun _ _ _ _ c _ => absurd x2 c) (fun _ _ _ _ c _ _ _ => absurd x2 c) (fun _ _ _ _ c _ _ _ => absurd x2 c) (fun _ _ _ _ c _ _ => absurd x2 c) (fun _ _ _ _ _ _ _ _ => ⟨rfl, rfl⟩) (fun _ _ _ _ _ _ _ c => absurd c x1) (fun _ _ _ _ _ _ c => absurd c x0) (fun _ _ _ _ _ c => absurd c23 c) (fun _ _ _ _ _ c _ _ => absurd c23 c) (fun _ _ _ _ _ c _ _ => absurd c23 c) (fun _ _ _ _ _ c _ => absurd c23 c) (fun _ _ _ c _ _ _ => absurd c x0) (fun _ _ _ c _ _ _ => absurd c x0) (fun _ _ _ c _ _ => absurd c x0) (fun _ _ _ c _ => absurd c x0) (fun _ _ _ c _ _ _ => absurd c x0) (fun _ _ _ c _ _ _ => absurd c x0) (fun _ _ _ c _ _ => absurd c x0) (fun _ _ c => absurd c z3) (fun _ c _ => absurd c x1) (fun _ c _ => absurd c x1) (fun _ c _ _ _ _ _ _ _ => absurd c x1) (fun _ c _ _ _ _ _ _ _ => absurd c x1) (fun _ c _ _ _ _ _ _ => absurd c x1) (fun _ c _ _ _ _ _ => absurd c x1) (fun _ c _ _ _ _ _ _ _ => absurd c x1) (fun _ c _ _ _ _ _ _ _ => absurd c x1) (fun _ c _ _ _ _ _ _ => absurd c x1) (fun _ c _ _ _ _ _ _ _ => absurd c x1) (fun _ c _ _ _ _ _ _ _ => absurd c x1) (fun _ c _ _ _ _ _ _ => absurd c x1) (fun _ c _ _ _ _ _ => absurd c x1) (fun _ c _ _ _ _ _ _ _ => absurd c x1) (fun _ c _ _ _ _ _ _ _ => absurd c x1) (fun _ c _ _ _ _ _ _ => absurd c x1) (fun _ c _ _ _ _ _ _ => absurd c x1) (fun _ c _ _ _ _ _ _ => absurd c x1) (fun _ c _ _ _ _ _ => absurd c x1) (fun _ c _ _ _ _ => absurd c x1) (fun _ c _ _ _ _ _ _ => absurd c x1) (fun _ c _ _ _ _ _ _ => absurd c x1) (fun _ c _ _ _ _ _ => absurd c x1) (fun _ c _ _ => absurd c x1) (fun _ c _ => absurd c x1)
      · obtain ⟨N4, s4, r4, k18⟩ := y2 hd hRV
        have c23 : ¬ N2 61 23 = 0 := by rw [e6 23 (by decide) (by decide), hd]; decide
        have d18 : N4 61 18 = nI (ef_ns r.2.2.1 ns) := by rw [k18, ← e6 18 (by decide) (by decide)]; exact e18
        rw [← e19, ww] at s4
        have s4' : ea_Sp 0 yX7_does cX7_does 3 none [.ref 61, .int 2] (ea_up N2 61 19 (N2 61 19 + N2 76 1)) none N4 := s4
        refine ⟨_, ?_, r4⟩
        rw [← d18]
        refine ea_intro (own := RX7) (by decide +kernel) rfl (fun g => Nat.le_of_ble_eq_true rfl) (fun k C X => ?_)

        refine km_readsClause C X  (M4 := fun _ _ => 0) (M6 := fun _ _ => 0) (M7 := fun _ _ => 0) (M8 := fun _ _ => 0) (M9 := fun _ _ => 0) (M10 := fun _ _ => 0) (M11 := fun _ _ => 0) (r8 := 0) hWH (fun c => absurd c xm) (fun _ _ => s1) (fun _ _ => s2) (fun _ _ _ _ c _ _ _ => absurd x2 c) (fun _ _ _ _ c _ _ _ => absurd x2 c) (fun _ _ _ _ c _ _ => absurd x2 c) (fun _ _ _ _ c _ => absurd x2 c) (fun _ _ _ _ c _ _ _ => absurd x2 c) (fun _ _ _ _ c _ _ _ => absurd x2 c) (fun _ _ _ _ c _ _ => absurd x2 c) (fun _ _ _ _ _ c _ _ => absurd c c23) (fun _ _ _ _ _ c _ _ => absurd c c23) (fun _ _ _ _ _ c _ => absurd c c23) (fun _ _ _ _ _ _ => s4') (fun _ _ _ _ _ _ _ _ => ⟨rfl, rfl⟩) (fun _ _ _ _ _ _ _ c => absurd c x1) (fun _ _ _ _ _ _ c => absurd c x0) (fun _ _ _ c _ _ _ => absurd c x0) (fun _ _ _ c _ _ _ => absurd c x0) (fun _ _ _ c _ _ => absurd c x0) (fun _ _ _ c _ => absurd c x0) (fun _ _ _ c _ _ _ => absurd c x0) (fun _ _ _ c _ _ _ => absurd c x0) (fun _ _ _ c _ _ => absurd c x0) (fun _ _ c => absurd c z3) (fun _ c _ => absurd c x1) (fun _ c _ => absurd c x1) (fun _ c _ _ _ _ _ _ _ => absurd c x1) (fun _ c _ _ _ _ _ _ _ => absurd c x1) (fun _ c _ _ _ _ _ _ => absurd c x1) (fun _ c _ _ _ _ _ => absurd c x1) (fun _ c _ _ _ _ _ _ _ => absurd c x1) (fun _ c _ _ _ _ _ _ _ => absurd c x1) (fun _ c _ _ _ _ _ _ => absurd c x1) (fun _ c _ _ _ _ _ _ _ => absurd c x1) (fun _ c _ _ _ _ _ _ _ => absurd c x1) (fun _ c _ _ _ _ _ _ => absurd c x1) (fun _ c _ _ _ _ _ => absurd c x1) (fun _ c _ _ _ _ _ _ _ => absurd c x1) (fun _ c _ _ _ _ _ _ _ => absurd c x1) (fun _ c _ _ _ _ _ _ => absurd c x1) (fun _ c _ _ _ _ _ _ => absurd c x1) (fun _ c _ _ _ _ _ _ => absurd c x1) (fun _ c _ _ _ _ _ => absurd c x1) (fun _ c _ _ _ _ => absurd c x1) (fun _ c _ _ _ _ _ _ => absurd c x1) (fun _ c _ _ _ _ _ _ => absurd c x1) (fun _ c _ _ _ _ _ => absurd c x1) (fun _ c _ _ => absurd c x1) (fun _ c _ => absurd c x1)
  cases i3 : iw_b L n p 3
  case true =>
    have ec : cz_c L (V 1) (V 2) n p ns nc = cz_3 L n (tk_b L n p) := by
      unfold cz_c
      rw [if_neg (by rw [i0]; decide), if_neg (fun z => absurd z.2 (by rw [i1]; decide)), if_neg (by rw [i2]; decide), if_pos i3]
    have ew : pa_ri (wd_o L n p) = 3 := by
      unfold wd_o
      simp only [pa_ix, i0, i1, i2, i3, if_true, if_false, Bool.false_eq_true]
      rfl
    rw [ew] at hWH
    rw [ec]
    obtain ⟨N2, s2, r2⟩ := rr_3 (nc := nc) t1 hs1
    have hwz : (cz_3 L n (tk_b L n p)).1 = true → (cz_3 L n (tk_b L n p)).2.2.1 = 3 := wz_3
    obtain ⟨r, hr⟩ : ∃ z, z = cz_3 L n (tk_b L n p) := ⟨_, rfl⟩
    rw [← hr] at ec s2 r2 hwz ⊢
    have x0 : ¬ (3 : Int32) = 0 := by decide
    have x1 : ¬ (3 : Int32) = 1 := by decide
    have x2 : ¬ (3 : Int32) = 2 := by decide
    have xm : ¬ (3 : Int32) = -1 := by decide
    cases hb : r.1 with
    | false =>
      rw [hb] at s2
      have z3 : cl_1 false = 0 := rfl
      refine ⟨N2, ?_, rc_no h f1 r2 hb⟩
      refine ea_intro (own := RX7) (by decide +kernel) rfl (fun g => Nat.le_of_ble_eq_true rfl) (fun k C X => ?_)

      refine km_readsClause C X  (M4 := fun _ _ => 0) (M5 := fun _ _ => 0) (M6 := fun _ _ => 0) (M7 := fun _ _ => 0) (M8 := fun _ _ => 0) (M9 := fun _ _ => 0) (M10 := fun _ _ => 0) (M11 := fun _ _ => 0) (r8 := 0) hWH (fun c => absurd c xm) (fun _ _ => s1) (fun _ _ => s2) (fun _ _ c _ _ _ _ _ => absurd z3 c) (fun _ _ c _ _ _ _ _ => absurd z3 c) (fun _ _ c _ _ _ _ => absurd z3 c) (fun _ _ c _ _ _ => absurd z3 c) (fun _ _ c _ _ _ _ _ => absurd z3 c) (fun _ _ c _ _ _ _ _ => absurd z3 c) (fun _ _ c _ _ _ _ => absurd z3 c) (fun _ _ c _ _ _ _ _ => absurd z3 c) (fun _ _ c _ _ _ _ _ => absurd z3 c) (fun _ _ c _ _ _ _ => absurd z3 c) (fun _ _ c _ _ _ => absurd z3 c) (fun _ _ c _ _ _ _ _ => absurd z3 c) (fun _ _ c _ _ _ _ _ => absurd z3 c) (fun _ _ c _ _ _ _ => absurd z3 c) (fun _ _ c _ _ _ _ => absurd z3 c) (fun _ _ c _ _ _ _ => absurd z3 c) (fun _ _ c _ _ _ => absurd z3 c) (fun _ _ c _ _ => absurd z3 c) (fun _ _ c _ _ _ _ => absurd z3 c) (fun _ _ c _ _ _ _ => absurd z3 c) (fun _ _ c _ _ _ => absurd z3 c) (fun _ _ _ => ⟨rfl, rfl⟩) (fun _ c _ => absurd c x1) (fun _ c _ => absurd c x1) (fun _ c _ _ _ _ _ _ _ => absurd c x1) (fun _ c _ _ _ _ _ _ _ => absurd c x1) (fun _ c _ _ _ _ _ _ => absurd c x1) (fun _ c _ _ _ _ _ => absurd c x1) (fun _ c _ _ _ _ _ _ _ => absurd c x1) (fun _ c _ _ _ _ _ _ _ => absurd c x1) (fun _ c _ _ _ _ _ _ => absurd c x1) (fun _ c _ _ _ _ _ _ _ => absurd c x1) (fun _ c _ _ _ _ _ _ _ => absurd c x1) (fun _ c _ _ _ _ _ _ => absurd c x1) (fun _ c _ _ _ _ _ => absurd c x1) (fun _ c _ _ _ _ _ _ _ => absurd c x1) (fun _ c _ _ _ _ _ _ _ => absurd c x1) (fun _ c _ _ _ _ _ _ => absurd c x1) (fun _ c _ _ _ _ _ _ => absurd c x1) (fun _ c _ _ _ _ _ _ => absurd c x1) (fun _ c _ _ _ _ _ => absurd c x1) (fun _ c _ _ _ _ => absurd c x1) (fun _ c _ _ _ _ _ _ => absurd c x1) (fun _ c _ _ _ _ _ _ => absurd c x1) (fun _ c _ _ _ _ _ => absurd c x1) (fun _ c _ _ => absurd c x1) (fun _ c _ => absurd c x1)
    | true =>
      have ww := hwz hb
      obtain ⟨y1, y2⟩ := rc_yes h hv f1 r2 ec hb
      have z3 : ¬ cl_1 true = 0 := by decide
      have e6 : ∀ j, j ≠ 16 → j ≠ 17 → N2 61 j = N 61 j := fun j z1 z2 => by rw [r2.2.2.1 j z1 z2, f1.2 j z1 z2]
      have k76 := (r2.2.2.2 hb).2.1
      rw [hb] at s2
      have e19 : N2 61 19 = nI (ef_nc r.2.2.1 r.2.2.2.2.1 nc) := by
        rw [e6 19 (by decide) (by decide), h.2.2.1, ww]; rfl
      have e18 : N2 61 18 = nI (ef_ns r.2.2.1 ns) := by
        rw [e6 18 (by decide) (by decide), h18, ww]; rfl
      rcases hd with hd | ⟨hd, hRV⟩
      · refine ⟨_, ?_, y1 hd⟩
        have c23 : N2 61 23 = 0 := by rw [e6 23 (by decide) (by decide)]; exact hd
        rw [← e19, ← e18]
        refine ea_intro (own := RX7) (by decide +kernel) rfl (fun g => Nat.le_of_ble_eq_true rfl) (fun k C X => ?_)

        refine km_readsClause C X  (M4 := fun _ _ => 0) (M5 := fun _ _ => 0) (M6 := fun _ _ => 0) (M7 := fun _ _ => 0) (M8 := fun _ _ => 0) (M9 := fun _ _ => 0) (M10 := fun _ _ => 0) (M11 := fun _ _ => 0) (r8 := 0) hWH (fun c => absurd c xm) (fun _ _ => s1) (fun _ _ => s2) (fun _ _ _ _ _ _ _ _ => ⟨rfl, rfl⟩) (fun _ _ _ _ _ _ _ c => absurd c x1) (fun _ _ _ _ _ _ c => absurd c x0) (fun _ _ _ _ _ c => absurd c23 c) (fun _ _ _ _ _ c _ _ => absurd c23 c) (fun _ _ _ _ _ c _ _ => absurd c23 c) (fun _ _ _ _ _ c _ => absurd c23 c) (fun _ _ _ _ c _ _ _ => absurd c x2) (fun _ _ _ _ c _ _ _ => absurd c x2) (fun _ _ _ _ c _ _ => absurd c x2) (fun _ _ _ _ c _ => absurd c x2) (fun _ _ _ _ c _ _ _ => absurd c x2) (fun _ _ _ _ c _ _ _ => absurd c x2) (fun _ _ _ _ c _ _ => absurd c x2) (fun _ _ _ c _ _ _ => absurd c x0) (fun _ _ _ c _ _ _ => absurd c x0) (fun _ _ _ c _ _ => absurd c x0) (fun _ _ _ c _ => absurd c x0) (fun _ _ _ c _ _ _ => absurd c x0) (fun _ _ _ c _ _ _ => absurd c x0) (fun _ _ _ c _ _ => absurd c x0) (fun _ _ c => absurd c z3) (fun _ c _ => absurd c x1) (fun _ c _ => absurd c x1) (fun _ c _ _ _ _ _ _ _ => absurd c x1) (fun _ c _ _ _ _ _ _ _ => absurd c x1) (fun _ c _ _ _ _ _ _ => absurd c x1) (fun _ c _ _ _ _ _ => absurd c x1) (fun _ c _ _ _ _ _ _ _ => absurd c x1) (fun _ c _ _ _ _ _ _ _ => absurd c x1) (fun _ c _ _ _ _ _ _ => absurd c x1) (fun _ c _ _ _ _ _ _ _ => absurd c x1) (fun _ c _ _ _ _ _ _ _ => absurd c x1) (fun _ c _ _ _ _ _ _ => absurd c x1) (fun _ c _ _ _ _ _ => absurd c x1) (fun _ c _ _ _ _ _ _ _ => absurd c x1) (fun _ c _ _ _ _ _ _ _ => absurd c x1) (fun _ c _ _ _ _ _ _ => absurd c x1) (fun _ c _ _ _ _ _ _ => absurd c x1) (fun _ c _ _ _ _ _ _ => absurd c x1) (fun _ c _ _ _ _ _ => absurd c x1) (fun _ c _ _ _ _ => absurd c x1) (fun _ c _ _ _ _ _ _ => absurd c x1) (fun _ c _ _ _ _ _ _ => absurd c x1) (fun _ c _ _ _ _ _ => absurd c x1) (fun _ c _ _ => absurd c x1) (fun _ c _ => absurd c x1)
      · obtain ⟨N4, s4, r4, k18⟩ := y2 hd hRV
        have c23 : ¬ N2 61 23 = 0 := by rw [e6 23 (by decide) (by decide), hd]; decide
        have d18 : N4 61 18 = nI (ef_ns r.2.2.1 ns) := by rw [k18, ← e6 18 (by decide) (by decide)]; exact e18
        rw [← e19, ww] at s4
        have s4' : ea_Sp 0 yX7_does cX7_does 3 none [.ref 61, .int 3] (ea_up N2 61 19 (N2 61 19)) none N4 := s4
        refine ⟨_, ?_, r4⟩
        rw [← d18]
        refine ea_intro (own := RX7) (by decide +kernel) rfl (fun g => Nat.le_of_ble_eq_true rfl) (fun k C X => ?_)

        refine km_readsClause C X  (M5 := fun _ _ => 0) (M6 := fun _ _ => 0) (M7 := fun _ _ => 0) (M8 := fun _ _ => 0) (M9 := fun _ _ => 0) (M10 := fun _ _ => 0) (M11 := fun _ _ => 0) (r8 := 0) hWH (fun c => absurd c xm) (fun _ _ => s1) (fun _ _ => s2) (fun _ _ _ _ _ c _ _ => absurd c c23) (fun _ _ _ _ _ c _ _ => absurd c c23) (fun _ _ _ _ _ c _ => absurd c c23) (fun _ _ _ _ _ _ => s4') (fun _ _ _ _ _ _ _ _ => ⟨rfl, rfl⟩) (fun _ _ _ _ _ _ _ c => absurd c x1) (fun _ _ _ _ _ _ c => absurd c x0) (fun _ _ _ _ c _ _ _ => absurd c x2) (fun _ _ _ _ c _ _ _ => absurd c x2) (fun _ _ _ _ c _ _ => absurd c x2) (fun _ _ _ _ c _ => absurd c x2) (fun _ _ _ _ c _ _ _ => absurd c x2) (fun _ _ _ _ c _ _ _ => absurd c x2) (fun _ _ _ _ c _ _ => absurd c x2) (fun _ _ _ c _ _ _ => absurd c x0) (fun _ _ _ c _ _ _ => absurd c x0) (fun _ _ _ c _ _ => absurd c x0) (fun _ _ _ c _ => absurd c x0) (fun _ _ _ c _ _ _ => absurd c x0) (fun _ _ _ c _ _ _ => absurd c x0) (fun _ _ _ c _ _ => absurd c x0) (fun _ _ c => absurd c z3) (fun _ c _ => absurd c x1) (fun _ c _ => absurd c x1) (fun _ c _ _ _ _ _ _ _ => absurd c x1) (fun _ c _ _ _ _ _ _ _ => absurd c x1) (fun _ c _ _ _ _ _ _ => absurd c x1) (fun _ c _ _ _ _ _ => absurd c x1) (fun _ c _ _ _ _ _ _ _ => absurd c x1) (fun _ c _ _ _ _ _ _ _ => absurd c x1) (fun _ c _ _ _ _ _ _ => absurd c x1) (fun _ c _ _ _ _ _ _ _ => absurd c x1) (fun _ c _ _ _ _ _ _ _ => absurd c x1) (fun _ c _ _ _ _ _ _ => absurd c x1) (fun _ c _ _ _ _ _ => absurd c x1) (fun _ c _ _ _ _ _ _ _ => absurd c x1) (fun _ c _ _ _ _ _ _ _ => absurd c x1) (fun _ c _ _ _ _ _ _ => absurd c x1) (fun _ c _ _ _ _ _ _ => absurd c x1) (fun _ c _ _ _ _ _ _ => absurd c x1) (fun _ c _ _ _ _ _ => absurd c x1) (fun _ c _ _ _ _ => absurd c x1) (fun _ c _ _ _ _ _ _ => absurd c x1) (fun _ c _ _ _ _ _ _ => absurd c x1) (fun _ c _ _ _ _ _ => absurd c x1) (fun _ c _ _ => absurd c x1) (fun _ c _ => absurd c x1)
  cases i4 : iw_b L n p 4
  case true =>
    have ec : cz_c L (V 1) (V 2) n p ns nc = cz_4 L n (tk_b L n p) nc := by
      unfold cz_c
      rw [if_neg (by rw [i0]; decide), if_neg (fun z => absurd z.2 (by rw [i1]; decide)), if_neg (by rw [i2]; decide), if_neg (by rw [i3]; decide), if_pos i4]
    have ew : pa_ri (wd_o L n p) = 4 := by
      unfold wd_o
      simp only [pa_ix, i0, i1, i2, i3, i4, if_true, if_false, Bool.false_eq_true]
      rfl
    rw [ew] at hWH
    rw [ec]
    obtain ⟨N2, s2, r2⟩ := rr_4 t1 hs1 n19
    have hwz : (cz_4 L n (tk_b L n p) nc).1 = true → (cz_4 L n (tk_b L n p) nc).2.2.1 = 4 := wz_4
    obtain ⟨r, hr⟩ : ∃ z, z = cz_4 L n (tk_b L n p) nc := ⟨_, rfl⟩
    rw [← hr] at ec s2 r2 hwz ⊢
    have x0 : ¬ (4 : Int32) = 0 := by decide
    have x1 : ¬ (4 : Int32) = 1 := by decide
    have x2 : ¬ (4 : Int32) = 2 := by decide
    have xm : ¬ (4 : Int32) = -1 := by decide
    cases hb : r.1 with
    | false =>
      rw [hb] at s2
      have z3 : cl_1 false = 0 := rfl
      refine ⟨N2, ?_, rc_no h f1 r2 hb⟩
      refine ea_intro (own := RX7) (by decide +kernel) rfl (fun g => Nat.le_of_ble_eq_true rfl) (fun k C X => ?_)

      refine km_readsClause C X  (M4 := fun _ _ => 0) (M5 := fun _ _ => 0) (M6 := fun _ _ => 0) (M7 := fun _ _ => 0) (M8 := fun _ _ => 0) (M9 := fun _ _ => 0) (M10 := fun _ _ => 0) (M11 := fun _ _ => 0) (r8 := 0) hWH (fun c => absurd c xm) (fun _ _ => s1) (fun _ _ => s2) (fun _ _ c _ _ _ _ _ => absurd z3 c) (fun _ _ c _ _ _ _ _ => absurd z3 c) (fun _ _ c _ _ _ _ => absurd z3 c) (fun _ _ c _ _ _ => absurd z3 c) (fun _ _ c _ _ _ _ _ => absurd z3 c) (fun _ _ c _ _ _ _ _ => absurd z3 c) (fun _ _ c _ _ _ _ => absurd z3 c) (fun _ _ c _ _ _ _ _ => absurd z3 c) (fun _ _ c _ _ _ _ _ => absurd z3 c) (fun _ _ c _ _ _ _ => absurd z3 c) (fun _ _ c _ _ _ => absurd z3 c) (fun _ _ c _ _ _ _ _ => absurd z3 c) (fun _ _ c _ _ _ _ _ => absurd z3 c) (fun _ _ c _ _ _ _ => absurd z3 c) (fun _ _ c _ _ _ _ => absurd z3 c) (fun _ _ c _ _ _ _ => absurd z3 c) (fun _ _ c _ _ _ => absurd z3 c) (fun _ _ c _ _ => absurd z3 c) (fun _ _ c _ _ _ _ => absurd z3 c) (fun _ _ c _ _ _ _ => absurd z3 c) (fun _ _ c _ _ _ => absurd z3 c) (fun _ _ _ => ⟨rfl, rfl⟩) (fun _ c _ => absurd c x1) (fun _ c _ => absurd c x1) (fun _ c _ _ _ _ _ _ _ => absurd c x1) (fun _ c _ _ _ _ _ _ _ => absurd c x1) (fun _ c _ _ _ _ _ _ => absurd c x1) (fun _ c _ _ _ _ _ => absurd c x1) (fun _ c _ _ _ _ _ _ _ => absurd c x1) (fun _ c _ _ _ _ _ _ _ => absurd c x1) (fun _ c _ _ _ _ _ _ => absurd c x1) (fun _ c _ _ _ _ _ _ _ => absurd c x1) (fun _ c _ _ _ _ _ _ _ => absurd c x1) (fun _ c _ _ _ _ _ _ => absurd c x1) (fun _ c _ _ _ _ _ => absurd c x1) (fun _ c _ _ _ _ _ _ _ => absurd c x1) (fun _ c _ _ _ _ _ _ _ => absurd c x1) (fun _ c _ _ _ _ _ _ => absurd c x1) (fun _ c _ _ _ _ _ _ => absurd c x1) (fun _ c _ _ _ _ _ _ => absurd c x1) (fun _ c _ _ _ _ _ => absurd c x1) (fun _ c _ _ _ _ => absurd c x1) (fun _ c _ _ _ _ _ _ => absurd c x1) (fun _ c _ _ _ _ _ _ => absurd c x1) (fun _ c _ _ _ _ _ => absurd c x1) (fun _ c _ _ => absurd c x1) (fun _ c _ => absurd c x1)
    | true =>
      have ww := hwz hb
      obtain ⟨y1, y2⟩ := rc_yes h hv f1 r2 ec hb
      have z3 : ¬ cl_1 true = 0 := by decide
      have e6 : ∀ j, j ≠ 16 → j ≠ 17 → N2 61 j = N 61 j := fun j z1 z2 => by rw [r2.2.2.1 j z1 z2, f1.2 j z1 z2]
      have k76 := (r2.2.2.2 hb).2.1
      rw [hb] at s2
      have e19 : N2 61 19 = nI (ef_nc r.2.2.1 r.2.2.2.2.1 nc) := by
        rw [e6 19 (by decide) (by decide), h.2.2.1, ww]; rfl
      have e18 : N2 61 18 = nI (ef_ns r.2.2.1 ns) := by
        rw [e6 18 (by decide) (by decide), h18, ww]; rfl
      rcases hd with hd | ⟨hd, hRV⟩
      · refine ⟨_, ?_, y1 hd⟩
        have c23 : N2 61 23 = 0 := by rw [e6 23 (by decide) (by decide)]; exact hd
        rw [← e19, ← e18]
        refine ea_intro (own := RX7) (by decide +kernel) rfl (fun g => Nat.le_of_ble_eq_true rfl) (fun k C X => ?_)

        refine km_readsClause C X  (M4 := fun _ _ => 0) (M5 := fun _ _ => 0) (M6 := fun _ _ => 0) (M7 := fun _ _ => 0) (M8 := fun _ _ => 0) (M9 := fun _ _ => 0) (M10 := fun _ _ => 0) (M11 := fun _ _ => 0) (r8 := 0) hWH (fun c => absurd c xm) (fun _ _ => s1) (fun _ _ => s2) (fun _ _ _ _ _ _ _ _ => ⟨rfl, rfl⟩) (fun _ _ _ _ _ _ _ c => absurd c x1) (fun _ _ _ _ _ _ c => absurd c x0) (fun _ _ _ _ _ c => absurd c23 c) (fun _ _ _ _ _ c _ _ => absurd c23 c) (fun _ _ _ _ _ c _ _ => absurd c23 c) (fun _ _ _ _ _ c _ => absurd c23 c) (fun _ _ _ _ c _ _ _ => absurd c x2) (fun _ _ _ _ c _ _ _ => absurd c x2) (fun _ _ _ _ c _ _ => absurd c x2) (fun _ _ _ _ c _ => absurd c x2) (fun _ _ _ _ c _ _ _ => absurd c x2) (fun _ _ _ _ c _ _ _ => absurd c x2) (fun _ _ _ _ c _ _ => absurd c x2) (fun _ _ _ c _ _ _ => absurd c x0) (fun _ _ _ c _ _ _ => absurd c x0) (fun _ _ _ c _ _ => absurd c x0) (fun _ _ _ c _ => absurd c x0) (fun _ _ _ c _ _ _ => absurd c x0) (fun _ _ _ c _ _ _ => absurd c x0) (fun _ _ _ c _ _ => absurd c x0) (fun _ _ c => absurd c z3) (fun _ c _ => absurd c x1) (fun _ c _ => absurd c x1) (fun _ c _ _ _ _ _ _ _ => absurd c x1) (fun _ c _ _ _ _ _ _ _ => absurd c x1) (fun _ c _ _ _ _ _ _ => absurd c x1) (fun _ c _ _ _ _ _ => absurd c x1) (fun _ c _ _ _ _ _ _ _ => absurd c x1) (fun _ c _ _ _ _ _ _ _ => absurd c x1) (fun _ c _ _ _ _ _ _ => absurd c x1) (fun _ c _ _ _ _ _ _ _ => absurd c x1) (fun _ c _ _ _ _ _ _ _ => absurd c x1) (fun _ c _ _ _ _ _ _ => absurd c x1) (fun _ c _ _ _ _ _ => absurd c x1) (fun _ c _ _ _ _ _ _ _ => absurd c x1) (fun _ c _ _ _ _ _ _ _ => absurd c x1) (fun _ c _ _ _ _ _ _ => absurd c x1) (fun _ c _ _ _ _ _ _ => absurd c x1) (fun _ c _ _ _ _ _ _ => absurd c x1) (fun _ c _ _ _ _ _ => absurd c x1) (fun _ c _ _ _ _ => absurd c x1) (fun _ c _ _ _ _ _ _ => absurd c x1) (fun _ c _ _ _ _ _ _ => absurd c x1) (fun _ c _ _ _ _ _ => absurd c x1) (fun _ c _ _ => absurd c x1) (fun _ c _ => absurd c x1)
      · obtain ⟨N4, s4, r4, k18⟩ := y2 hd hRV
        have c23 : ¬ N2 61 23 = 0 := by rw [e6 23 (by decide) (by decide), hd]; decide
        have d18 : N4 61 18 = nI (ef_ns r.2.2.1 ns) := by rw [k18, ← e6 18 (by decide) (by decide)]; exact e18
        rw [← e19, ww] at s4
        have s4' : ea_Sp 0 yX7_does cX7_does 3 none [.ref 61, .int 4] (ea_up N2 61 19 (N2 61 19)) none N4 := s4
        refine ⟨_, ?_, r4⟩
        rw [← d18]
        refine ea_intro (own := RX7) (by decide +kernel) rfl (fun g => Nat.le_of_ble_eq_true rfl) (fun k C X => ?_)

        refine km_readsClause C X  (M5 := fun _ _ => 0) (M6 := fun _ _ => 0) (M7 := fun _ _ => 0) (M8 := fun _ _ => 0) (M9 := fun _ _ => 0) (M10 := fun _ _ => 0) (M11 := fun _ _ => 0) (r8 := 0) hWH (fun c => absurd c xm) (fun _ _ => s1) (fun _ _ => s2) (fun _ _ _ _ _ c _ _ => absurd c c23) (fun _ _ _ _ _ c _ _ => absurd c c23) (fun _ _ _ _ _ c _ => absurd c c23) (fun _ _ _ _ _ _ => s4') (fun _ _ _ _ _ _ _ _ => ⟨rfl, rfl⟩) (fun _ _ _ _ _ _ _ c => absurd c x1) (fun _ _ _ _ _ _ c => absurd c x0) (fun _ _ _ _ c _ _ _ => absurd c x2) (fun _ _ _ _ c _ _ _ => absurd c x2) (fun _ _ _ _ c _ _ => absurd c x2) (fun _ _ _ _ c _ => absurd c x2) (fun _ _ _ _ c _ _ _ => absurd c x2) (fun _ _ _ _ c _ _ _ => absurd c x2) (fun _ _ _ _ c _ _ => absurd c x2) (fun _ _ _ c _ _ _ => absurd c x0) (fun _ _ _ c _ _ _ => absurd c x0) (fun _ _ _ c _ _ => absurd c x0) (fun _ _ _ c _ => absurd c x0) (fun _ _ _ c _ _ _ => absurd c x0) (fun _ _ _ c _ _ _ => absurd c x0) (fun _ _ _ c _ _ => absurd c x0) (fun _ _ c => absurd c z3) (fun _ c _ => absurd c x1) (fun _ c _ => absurd c x1) (fun _ c _ _ _ _ _ _ _ => absurd c x1) (fun _ c _ _ _ _ _ _ _ => absurd c x1) (fun _ c _ _ _ _ _ _ => absurd c x1) (fun _ c _ _ _ _ _ => absurd c x1) (fun _ c _ _ _ _ _ _ _ => absurd c x1) (fun _ c _ _ _ _ _ _ _ => absurd c x1) (fun _ c _ _ _ _ _ _ => absurd c x1) (fun _ c _ _ _ _ _ _ _ => absurd c x1) (fun _ c _ _ _ _ _ _ _ => absurd c x1) (fun _ c _ _ _ _ _ _ => absurd c x1) (fun _ c _ _ _ _ _ => absurd c x1) (fun _ c _ _ _ _ _ _ _ => absurd c x1) (fun _ c _ _ _ _ _ _ _ => absurd c x1) (fun _ c _ _ _ _ _ _ => absurd c x1) (fun _ c _ _ _ _ _ _ => absurd c x1) (fun _ c _ _ _ _ _ _ => absurd c x1) (fun _ c _ _ _ _ _ => absurd c x1) (fun _ c _ _ _ _ => absurd c x1) (fun _ c _ _ _ _ _ _ => absurd c x1) (fun _ c _ _ _ _ _ _ => absurd c x1) (fun _ c _ _ _ _ _ => absurd c x1) (fun _ c _ _ => absurd c x1) (fun _ c _ => absurd c x1)
  have ec : cz_c L (V 1) (V 2) n p ns nc = cz_f p := by
    unfold cz_c
    rw [if_neg (by rw [i0]; decide), if_neg (fun z => absurd z.2 (by rw [i1]; decide)), if_neg (by rw [i2]; decide), if_neg (by rw [i3]; decide), if_neg (by rw [i4]; decide)]
  have ew : pa_ri (wd_o L n p) = -1 := by
    unfold wd_o
    simp only [pa_ix, i0, i1, i2, i3, i4, if_false, Bool.false_eq_true]
    rfl
  rw [ew] at hWH
  rw [ec]
  have xm : (-1 : Int32) = -1 := rfl
  refine ⟨N, ?_, h.1, h.2.2.2, ⟨fun _ _ => rfl, fun _ _ => rfl, fun _ _ => rfl⟩, fun _ => ⟨fun _ _ _ => rfl, rfl, rfl⟩, fun z => absurd (show false = true from z) (by decide)⟩
  refine ea_intro (own := RX7) (by decide +kernel) rfl (fun g => Nat.le_of_ble_eq_true rfl) (fun k C X => ?_)

  refine km_readsClause C X  (M2 := fun _ _ => 0) (M3 := fun _ _ => 0) (M4 := fun _ _ => 0) (M5 := fun _ _ => 0) (M6 := fun _ _ => 0) (M7 := fun _ _ => 0) (M8 := fun _ _ => 0) (M9 := fun _ _ => 0) (M10 := fun _ _ => 0) (M11 := fun _ _ => 0) (r3 := 0) (r8 := 0) hWH (fun _ => ⟨rfl, rfl⟩) (fun c _ => absurd xm c) (fun c _ => absurd xm c) (fun c _ _ _ _ _ _ _ => absurd xm c) (fun c _ _ _ _ _ _ _ => absurd xm c) (fun c _ _ _ _ _ _ => absurd xm c) (fun c _ _ _ _ _ => absurd xm c) (fun c _ _ _ _ _ _ _ => absurd xm c) (fun c _ _ _ _ _ _ _ => absurd xm c) (fun c _ _ _ _ _ _ => absurd xm c) (fun c _ _ _ _ _ _ _ => absurd xm c) (fun c _ _ _ _ _ _ _ => absurd xm c) (fun c _ _ _ _ _ _ => absurd xm c) (fun c _ _ _ _ _ => absurd xm c) (fun c _ _ _ _ _ _ _ => absurd xm c) (fun c _ _ _ _ _ _ _ => absurd xm c) (fun c _ _ _ _ _ _ => absurd xm c) (fun c _ _ _ _ _ _ => absurd xm c) (fun c _ _ _ _ _ _ => absurd xm c) (fun c _ _ _ _ _ => absurd xm c) (fun c _ _ _ _ => absurd xm c) (fun c _ _ _ _ _ _ => absurd xm c) (fun c _ _ _ _ _ _ => absurd xm c) (fun c _ _ _ _ _ => absurd xm c) (fun c _ _ => absurd xm c) (fun c _ _ => absurd xm c) (fun c _ _ => absurd xm c) (fun c _ _ _ _ _ _ _ _ => absurd xm c) (fun c _ _ _ _ _ _ _ _ => absurd xm c) (fun c _ _ _ _ _ _ _ => absurd xm c) (fun c _ _ _ _ _ _ => absurd xm c) (fun c _ _ _ _ _ _ _ _ => absurd xm c) (fun c _ _ _ _ _ _ _ _ => absurd xm c) (fun c _ _ _ _ _ _ _ => absurd xm c) (fun c _ _ _ _ _ _ _ _ => absurd xm c) (fun c _ _ _ _ _ _ _ _ => absurd xm c) (fun c _ _ _ _ _ _ _ => absurd xm c) (fun c _ _ _ _ _ _ => absurd xm c) (fun c _ _ _ _ _ _ _ _ => absurd xm c) (fun c _ _ _ _ _ _ _ _ => absurd xm c) (fun c _ _ _ _ _ _ _ => absurd xm c) (fun c _ _ _ _ _ _ _ => absurd xm c) (fun c _ _ _ _ _ _ _ => absurd xm c) (fun c _ _ _ _ _ _ => absurd xm c) (fun c _ _ _ _ _ => absurd xm c) (fun c _ _ _ _ _ _ _ => absurd xm c) (fun c _ _ _ _ _ _ _ => absurd xm c) (fun c _ _ _ _ _ _ => absurd xm c) (fun c _ _ _ => absurd xm c) (fun c _ _ => absurd xm c)
