/-! ===== layTold, reads ===== -/
theorem sp_X7_layTold (N : ea_M) : ∃ N', ea_Sp 0 yX7_layTold cX7_layTold 2 none [.ref 61] N none N' ∧ N' 61 18 = N 61 1 ∧ N' 61 19 = N 61 6 ∧ (∀ j, j < 6 → N' 75 j = N 66 j) ∧ (∀ j, j < 42 → N' 74 j = N 65 j) ∧ (∀ a, a ≠ 61 → a ≠ 74 → a ≠ 75 → N' a = N a) ∧ ∀ j, j ≠ 18 → j ≠ 19 → N' 61 j = N 61 j := by
  obtain ⟨N1, hN1⟩ : ∃ z, z = ea_up (ea_up N 61 18 (N 61 1)) 61 19 (N 61 6) := ⟨_, rfl⟩
  have f1 : ∀ a, a ≠ 61 → N1 a = N a := fun a z => by rw [hN1, ea_upR z, ea_upR z]
  refine ⟨pa_row (pa_row N1 75 (N 66) 6) 74 (N 65) 42, ?_, ?_, ?_, fun j hj => ?_, fun j hj => ?_, fun a z1 z2 z3 => ?_, fun j z1 z2 => ?_⟩
  · refine ea_intro (own := RX7) (by decide +kernel) rfl (fun g => Nat.le_of_ble_eq_true rfl) (fun k C X => ?_)
    have l44 : ∀ (c i : Nat), i + c = 42 → ea_E k 44 [(0, .ref 61), (1, .int (nI i))] [] (pa_row (pa_row N1 75 (N 66) 6) 74 (N 65) i) := by
      intro c
      induction c with
      | zero =>
        intro i hi
        have ei : i = 42 := by omega
        rw [ei]
        have c0 : 42 ≤ nI 42 := by decide
        refine km_layTold_44 C X  (fun _ => ⟨rfl, rfl⟩) (fun c => absurd c0 c) (fun c => absurd c0 c) (fun c => absurd c0 c)
      | succ c ih =>
        intro i hi
        have c0 : ¬ 42 ≤ nI i := nI_ge (b := 42) (by omega) (by decide)
        have v : vp_in (nI i) 42 := vp_in_nI (by omega) (by decide)
        have nx := ih (i + 1) (by omega)
        rw [← pa_rowS (v := N 65 i) rfl] at nx
        refine km_layTold_44 C X  (fun c => absurd c c0) (fun _ => v) (fun _ => v) (fun _ => by rw [nI_clamp (show i < 2 ^ 31 by omega), pa_rowR (show 65 ≠ 74 by decide), pa_rowR (show 65 ≠ 75 by decide), f1 65 (by decide), nI_1]; exact nx)
    have l18 : ∀ (c i : Nat), i + c = 6 → ea_E k 18 [(0, .ref 61), (1, .int (nI i))] [] (pa_row N1 75 (N 66) i) := by
      intro c
      induction c with
      | zero =>
        intro i hi
        have ei : i = 6 := by omega
        rw [ei]
        have c0 : 6 ≤ nI 6 := by decide
        have nx := l44 42 0 (by omega)
        rw [pa_row0] at nx
        refine km_layTold_18 C X  (fun _ => nx) (fun c => absurd c0 c) (fun c => absurd c0 c) (fun c => absurd c0 c)
      | succ c ih =>
        intro i hi
        have c0 : ¬ 6 ≤ nI i := nI_ge (b := 6) (by omega) (by decide)
        have v : vp_in (nI i) 6 := vp_in_nI (by omega) (by decide)
        have nx := ih (i + 1) (by omega)
        rw [← pa_rowS (v := N 66 i) rfl] at nx
        refine km_layTold_18 C X  (fun c => absurd c c0) (fun _ => v) (fun _ => v) (fun _ => by rw [nI_clamp (show i < 2 ^ 31 by omega), pa_rowR (show 66 ≠ 75 by decide), f1 66 (by decide), nI_1]; exact nx)
    have nx := l18 6 0 (by omega)
    rw [pa_row0, hN1] at nx
    exact km_layTold C X nx
  · rw [pa_rowR (by decide), pa_rowR (by decide), hN1, ea_upK (by decide), ea_upS]
  · rw [pa_rowR (by decide), pa_rowR (by decide), hN1, ea_upS]
  · rw [pa_rowR (by decide), pa_rowI hj]
  · rw [pa_rowI hj]
  · rw [pa_rowR z2, pa_rowR z3, f1 a z1]
  · rw [pa_rowR (by decide), pa_rowR (by decide), hN1, ea_upK z2, ea_upK z1]
/-- behind a clause -/
def pc_R (N V : ea_M) (L : Nat → Int32) (n ns nc : Nat) (r : cz_T) : Prop := tx_ok N L n r.2.1 ∧ R_c N ∧ (r.1 = true → rd_s N (ef_V V L n r.2.2.1 r.2.2.2.1 r.2.2.2.2.1 r.2.2.2.2.2 ns nc) (ef_ns r.2.2.1 ns) ∧ N 61 19 = nI (ef_nc r.2.2.1 r.2.2.2.2.1 nc) ∧ vv_ok (ef_V V L n r.2.2.1 r.2.2.2.1 r.2.2.2.2.1 r.2.2.2.2.2 ns nc) (ef_ns r.2.2.1 ns) (ef_nc r.2.2.1 r.2.2.2.2.1 nc) ∧ (N 61 23 = 1 → RV (ef_V V L n r.2.2.1 r.2.2.2.1 r.2.2.2.2.1 r.2.2.2.2.2 ns nc) N (ef_ns r.2.2.1 ns) (ef_nc r.2.2.1 r.2.2.2.2.1 nc)))
/-- behind the text -/
def lp_R (N N' : ea_M) (n : Nat) (f : ff_T) : Prop := (∀ a, (a < 61 ∨ (67 < a ∧ a < 74) ∨ 76 < a) → N' a = N a) ∧ (∀ j, j = 8 ∨ j = 11 → N' 61 j = N 61 j) ∧ (∀ j, 13 ≤ j → N' 62 j = N 62 j) ∧ (N 61 23 = 0 → st0 N N') ∧ (f.1 = false → N' 61 16 = nI f.2.1 ∧ f.2.1 ≤ n) ∧ (f.1 = true → N' 61 22 = nI f.2.2.1 ∧ vv_ok f.2.2.2.1 f.2.2.2.2.1 f.2.2.2.2.2 ∧ (N 61 23 = 1 → RV f.2.2.2.1 N' f.2.2.2.2.1 f.2.2.2.2.2))
theorem lp_no {N : ea_M} {L : Nat → Int32} {n p c ns nc : Nat} {V : ea_M} (h : tx_ok N L n p) : lp_R N N n (false, tk_f L n p, c, V, ns, nc) := ⟨fun _ _ => rfl, fun _ _ => rfl, fun _ _ => rfl, fun _ => ⟨fun _ _ _ => rfl, rfl, rfl⟩, fun _ => ⟨h.2.2.2.2.1, by have := tk_fb L h.2.2.1; show tk_f L n p ≤ n; omega⟩, fun z => absurd (show false = true from z) (by decide)⟩
theorem rl_loop {L : Nat → Int32} {n : Nat} : ∀ (m : Nat) (V : ea_M) (p ns nc c : Nat) (N : ea_M), 1 ≤ c → c + m = 24 → pc_R N V L n ns nc (cz_c L (V 1) (V 2) n p ns nc) → N 61 22 = nI c → (N 61 23 = 0 ∨ N 61 23 = 1) → ∃ N', lp_R N N' n (ff_go L n (m + 1) V p ns nc c) ∧ ∀ {k : ea_K}, ea_C k RX7 cX7_reads 3 6 → ea_X k (some .boolean) (some (.int (cl_1 (ff_go L n (m + 1) V p ns nc c).1))) N' → ea_E k 28 [(0, .ref 61), (2, .int (cl_1 (cz_c L (V 1) (V 2) n p ns nc).1))] [] N := by
  intro m
  induction m with
  | zero =>
    intro V p ns nc c N h1 hc hP h22 h23
    rw [ff_go]
    obtain ⟨r, hr⟩ : ∃ z, z = cz_c L (V 1) (V 2) n p ns nc := ⟨_, rfl⟩
    rw [← hr] at hP ⊢
    obtain ⟨ht, hRc, hg⟩ := hP
    have z0 : (0 : Int32) = 0 := rfl
    have z1 : ¬ (1 : Int32) = 0 := by decide
    cases hb : r.1 with
    | false =>
      rw [if_neg (by decide)]
      refine ⟨N, lp_no ht, fun C X => ?_⟩
      refine km_reads_28 C X  (M1 := fun _ _ => 0) (M2 := fun _ _ => 0) (M3 := fun _ _ => 0) (M4 := fun _ _ => 0) (M5 := fun _ _ => 0) (M6 := fun _ _ => 0) (r2 := 0) (r4 := 0) (r6 := 0) (fun _ => ⟨rfl, rfl⟩) (fun _ => Or.inl rfl) (fun c _ => absurd z0 c) (fun c _ => absurd z0 c) (fun c _ _ _ => absurd z0 c) (fun c _ _ _ => absurd z0 c) (fun c _ _ _ => absurd z0 c) (fun c _ _ _ => absurd z0 c) (fun c _ _ => absurd z0 c) (fun c _ _ _ _ => absurd z0 c) (fun c _ _ _ _ => absurd z0 c) (fun c _ _ _ _ => absurd z0 c) (fun c _ _ _ _ => absurd z0 c) (fun c _ _ _ _ => absurd z0 c) (fun c _ _ _ _ => absurd z0 c) (fun c _ _ _ _ => absurd z0 c) (fun c _ _ _ _ => absurd z0 c)
    | true =>
      obtain ⟨g1, g2, g3, g4⟩ := hg hb
      rw [if_pos rfl]
      by_cases hk : tk_k L n r.2.1 = 0
      · rw [if_pos hk]
        refine ⟨N, ⟨fun _ _ => rfl, fun _ _ => rfl, fun _ _ => rfl, fun _ => ⟨fun _ _ _ => rfl, rfl, rfl⟩, fun z => absurd (show true = false from z) (by decide), fun _ => ⟨h22, g3, g4⟩⟩, fun C X => ?_⟩
        have hlt : ¬ tk_f L n r.2.1 < n := fun z => by
          unfold tk_k at hk
          rw [if_pos z] at hk
          exact tk_k_ne0 _ hk
        have c1 : N 61 11 ≤ N 61 16 := by rw [ht.2.2.2.1, ht.2.2.2.2.1]; exact nI_le (by omega) (by have := tk_fb L ht.2.2.1; have := ht.2.1; omega)
        refine km_reads_28 C X  (M1 := fun _ _ => 0) (M2 := fun _ _ => 0) (M3 := fun _ _ => 0) (M4 := fun _ _ => 0) (M5 := fun _ _ => 0) (M6 := fun _ _ => 0) (r2 := 0) (r4 := 0) (r6 := 0) (fun c => absurd c z1) (fun c => absurd c z1) (fun _ _ => ⟨rfl, rfl⟩) (fun _ _ => Or.inr rfl) (fun _ c _ _ => absurd c1 c) (fun _ c _ _ => absurd c1 c) (fun _ c _ _ => absurd c1 c) (fun _ c _ _ => absurd c1 c) (fun _ c _ => absurd c1 c) (fun _ c _ _ _ => absurd c1 c) (fun _ c _ _ _ => absurd c1 c) (fun _ c _ _ _ => absurd c1 c) (fun _ c _ _ _ => absurd c1 c) (fun _ c _ _ _ => absurd c1 c) (fun _ c _ _ _ => absurd c1 c) (fun _ c _ _ _ => absurd c1 c) (fun _ c _ _ _ => absurd c1 c)
      · rw [if_neg hk]
        have hn := ht.2.1
        have hlt : tk_f L n r.2.1 < n := by
          rcases Nat.lt_or_ge (tk_f L n r.2.1) n with z | z
          · exact z
          · unfold tk_k at hk
            rw [if_neg (by omega)] at hk
            exact absurd rfl hk
        have hkk : tk_k L n r.2.1 = f_X3_kindOf (L (tk_f L n r.2.1)) := by
          unfold tk_k
          rw [if_pos hlt]
        have c1 : ¬ N 61 11 ≤ N 61 16 := by rw [ht.2.2.2.1, ht.2.2.2.2.1]; exact nI_ge (by omega) (by omega)
        rw [if_pos (Or.inl (by omega))]
        have c24 : 24 ≤ N 61 22 := by rw [h22]; exact nI_le (a := 24) (by omega) (by omega)
        refine ⟨N, lp_no ht, ?_⟩
        intro k C X
        have nx : ea_E k 28 [(0, .ref 61), (2, .int 0)] [] N := by
          refine km_reads_28 C X  (M1 := fun _ _ => 0) (M2 := fun _ _ => 0) (M3 := fun _ _ => 0) (M4 := fun _ _ => 0) (M5 := fun _ _ => 0) (M6 := fun _ _ => 0) (r2 := 0) (r4 := 0) (r6 := 0) (fun _ => ⟨rfl, rfl⟩) (fun _ => Or.inl rfl) (fun c _ => absurd z0 c) (fun c _ => absurd z0 c) (fun c _ _ _ => absurd z0 c) (fun c _ _ _ => absurd z0 c) (fun c _ _ _ => absurd z0 c) (fun c _ _ _ => absurd z0 c) (fun c _ _ => absurd z0 c) (fun c _ _ _ _ => absurd z0 c) (fun c _ _ _ _ => absurd z0 c) (fun c _ _ _ _ => absurd z0 c) (fun c _ _ _ _ => absurd z0 c) (fun c _ _ _ _ => absurd z0 c) (fun c _ _ _ _ => absurd z0 c) (fun c _ _ _ _ => absurd z0 c) (fun c _ _ _ _ => absurd z0 c)
        refine km_reads_28 C X  (M1 := fun _ _ => 0) (M2 := fun _ _ => 0) (M3 := fun _ _ => 0) (M4 := fun _ _ => 0) (M5 := fun _ _ => 0) (M6 := fun _ _ => 0) (r2 := 0) (r4 := 0) (r6 := 0) (fun c => absurd c z1) (fun c => absurd c z1) (fun _ c => absurd c c1) (fun _ c => absurd c c1) (fun _ _ _ _ => nx) (fun _ _ _ c => absurd z0 c) (fun _ _ _ c => absurd z0 c) (fun _ _ _ c => absurd z0 c) (fun _ _ c => absurd c24 c) (fun _ _ c _ _ => absurd c24 c) (fun _ _ c _ _ => absurd c24 c) (fun _ _ c _ _ => absurd c24 c) (fun _ _ c _ _ => absurd c24 c) (fun _ _ c _ _ => absurd c24 c) (fun _ _ c _ _ => absurd c24 c) (fun _ _ c _ _ => absurd c24 c) (fun _ _ c _ _ => absurd c24 c)
  | succ m ih =>
    intro V p ns nc c N h1 hc hP h22 h23
    rw [ff_go]
    obtain ⟨r, hr⟩ : ∃ z, z = cz_c L (V 1) (V 2) n p ns nc := ⟨_, rfl⟩
    rw [← hr] at hP ⊢
    obtain ⟨ht, hRc, hg⟩ := hP
    have z0 : (0 : Int32) = 0 := rfl
    have z1 : ¬ (1 : Int32) = 0 := by decide
    cases hb : r.1 with
    | false =>
      rw [if_neg (by decide)]
      refine ⟨N, lp_no ht, fun C X => ?_⟩
      refine km_reads_28 C X  (M1 := fun _ _ => 0) (M2 := fun _ _ => 0) (M3 := fun _ _ => 0) (M4 := fun _ _ => 0) (M5 := fun _ _ => 0) (M6 := fun _ _ => 0) (r2 := 0) (r4 := 0) (r6 := 0) (fun _ => ⟨rfl, rfl⟩) (fun _ => Or.inl rfl) (fun c _ => absurd z0 c) (fun c _ => absurd z0 c) (fun c _ _ _ => absurd z0 c) (fun c _ _ _ => absurd z0 c) (fun c _ _ _ => absurd z0 c) (fun c _ _ _ => absurd z0 c) (fun c _ _ => absurd z0 c) (fun c _ _ _ _ => absurd z0 c) (fun c _ _ _ _ => absurd z0 c) (fun c _ _ _ _ => absurd z0 c) (fun c _ _ _ _ => absurd z0 c) (fun c _ _ _ _ => absurd z0 c) (fun c _ _ _ _ => absurd z0 c) (fun c _ _ _ _ => absurd z0 c) (fun c _ _ _ _ => absurd z0 c)
    | true =>
      obtain ⟨g1, g2, g3, g4⟩ := hg hb
      rw [if_pos rfl]
      by_cases hk : tk_k L n r.2.1 = 0
      · rw [if_pos hk]
        refine ⟨N, ⟨fun _ _ => rfl, fun _ _ => rfl, fun _ _ => rfl, fun _ => ⟨fun _ _ _ => rfl, rfl, rfl⟩, fun z => absurd (show true = false from z) (by decide), fun _ => ⟨h22, g3, g4⟩⟩, fun C X => ?_⟩
        have hlt : ¬ tk_f L n r.2.1 < n := fun z => by
          unfold tk_k at hk
          rw [if_pos z] at hk
          exact tk_k_ne0 _ hk
        have c1 : N 61 11 ≤ N 61 16 := by rw [ht.2.2.2.1, ht.2.2.2.2.1]; exact nI_le (by omega) (by have := tk_fb L ht.2.2.1; have := ht.2.1; omega)
        refine km_reads_28 C X  (M1 := fun _ _ => 0) (M2 := fun _ _ => 0) (M3 := fun _ _ => 0) (M4 := fun _ _ => 0) (M5 := fun _ _ => 0) (M6 := fun _ _ => 0) (r2 := 0) (r4 := 0) (r6 := 0) (fun c => absurd c z1) (fun c => absurd c z1) (fun _ _ => ⟨rfl, rfl⟩) (fun _ _ => Or.inr rfl) (fun _ c _ _ => absurd c1 c) (fun _ c _ _ => absurd c1 c) (fun _ c _ _ => absurd c1 c) (fun _ c _ _ => absurd c1 c) (fun _ c _ => absurd c1 c) (fun _ c _ _ _ => absurd c1 c) (fun _ c _ _ _ => absurd c1 c) (fun _ c _ _ _ => absurd c1 c) (fun _ c _ _ _ => absurd c1 c) (fun _ c _ _ _ => absurd c1 c) (fun _ c _ _ _ => absurd c1 c) (fun _ c _ _ _ => absurd c1 c) (fun _ c _ _ _ => absurd c1 c)
      · rw [if_neg hk]
        have hn := ht.2.1
        have hlt : tk_f L n r.2.1 < n := by
          rcases Nat.lt_or_ge (tk_f L n r.2.1) n with z | z
          · exact z
          · unfold tk_k at hk
            rw [if_neg (by omega)] at hk
            exact absurd rfl hk
        have hkk : tk_k L n r.2.1 = f_X3_kindOf (L (tk_f L n r.2.1)) := by
          unfold tk_k
          rw [if_pos hlt]
        have c1 : ¬ N 61 11 ≤ N 61 16 := by rw [ht.2.2.2.1, ht.2.2.2.2.1]; exact nI_ge (by omega) (by omega)
        have c24 : ¬ 24 ≤ N 61 22 := by rw [h22]; exact nI_ge (b := 24) (by omega) (by decide)
        have v0 : vp_in (N 61 16) 200 := by rw [ht.2.2.2.2.1]; exact vp_in_nI (by omega) (by decide)
        have el : N 69 (N 61 16).toNatClampNeg = L (tk_f L n r.2.1) := by rw [ht.1, ht.2.2.2.2.1, nI_clamp (by omega)]
        by_cases c59 : N 69 (N 61 16).toNatClampNeg = 59
        case neg =>
          have c59' := c59
          rw [el] at c59'
          rw [if_pos (Or.inr (fun z => c59' z.2))]
          refine ⟨N, lp_no ht, ?_⟩
          intro k C X
          have nx : ea_E k 28 [(0, .ref 61), (2, .int 0)] [] N := by
            refine km_reads_28 C X  (M1 := fun _ _ => 0) (M2 := fun _ _ => 0) (M3 := fun _ _ => 0) (M4 := fun _ _ => 0) (M5 := fun _ _ => 0) (M6 := fun _ _ => 0) (r2 := 0) (r4 := 0) (r6 := 0) (fun _ => ⟨rfl, rfl⟩) (fun _ => Or.inl rfl) (fun c _ => absurd z0 c) (fun c _ => absurd z0 c) (fun c _ _ _ => absurd z0 c) (fun c _ _ _ => absurd z0 c) (fun c _ _ _ => absurd z0 c) (fun c _ _ _ => absurd z0 c) (fun c _ _ => absurd z0 c) (fun c _ _ _ _ => absurd z0 c) (fun c _ _ _ _ => absurd z0 c) (fun c _ _ _ _ => absurd z0 c) (fun c _ _ _ _ => absurd z0 c) (fun c _ _ _ _ => absurd z0 c) (fun c _ _ _ _ => absurd z0 c) (fun c _ _ _ _ => absurd z0 c) (fun c _ _ _ _ => absurd z0 c)
          refine km_reads_28 C X  (M1 := fun _ _ => 0) (M2 := fun _ _ => 0) (M3 := fun _ _ => 0) (M4 := fun _ _ => 0) (M5 := fun _ _ => 0) (M6 := fun _ _ => 0) (r2 := 0) (r4 := 0) (r6 := 0) (fun c => absurd c z1) (fun c => absurd c z1) (fun _ c => absurd c c1) (fun _ c => absurd c c1) (fun _ _ c _ => absurd c c24) (fun _ _ c _ => absurd c c24) (fun _ _ c _ => absurd c c24) (fun _ _ c _ => absurd c c24) (fun _ _ _ => v0) (fun _ _ _ _ _ => nx) (fun _ _ _ _ c => absurd z0 c) (fun _ _ _ _ c => absurd z0 c) (fun _ _ _ _ c => absurd z0 c) (fun _ _ _ c _ => absurd c c59) (fun _ _ _ c _ => absurd c c59) (fun _ _ _ c _ => absurd c c59) (fun _ _ _ c _ => absurd c c59)
        have c59' := c59
        rw [el] at c59'
        rw [if_neg (fun z => z.elim (fun z => by omega) (fun z => z ⟨by rw [hkk, c59']; decide, c59'⟩))]
        obtain ⟨V', hV'⟩ : ∃ z, z = (ef_V V L n r.2.2.1 r.2.2.2.1 r.2.2.2.2.1 r.2.2.2.2.2 ns nc) := ⟨_, rfl⟩
        obtain ⟨ns', hns'⟩ : ∃ z, z = (ef_ns r.2.2.1 ns) := ⟨_, rfl⟩
        obtain ⟨nc', hnc'⟩ : ∃ z, z = (ef_nc r.2.2.1 r.2.2.2.2.1 nc) := ⟨_, rfl⟩
        rw [← hV', ← hns', ← hnc'] at g3 g4 ⊢
        rw [← hV', ← hns'] at g1
        rw [← hnc'] at g2
        obtain ⟨N4, s4, t4, f4⟩ := tx_next ht
        have e4 : ∀ a, a ≠ 61 → N4 a = N a := f4.1
        have rd4 : rdr N4 V' L n (tk_b L n r.2.1) ns' nc' := by
          obtain ⟨a1, a2, a3, a4, a5⟩ := g1
          exact ⟨t4, ⟨by rw [f4.2 18 (by decide) (by decide)]; exact a1, a2, by rw [e4 74 (by decide)]; exact a3, by rw [e4 75 (by decide)]; exact a4, a5⟩, by rw [f4.2 19 (by decide) (by decide)]; exact g2, R_c_cg hRc (e4 77 (by decide))⟩
        have k23 : N4 61 23 = N 61 23 := f4.2 23 (by decide) (by decide)
        have d4 : N4 61 23 = 0 ∨ (N4 61 23 = 1 ∧ RV V' N4 ns' nc') := by
          rw [k23]
          refine h23.imp id (fun z => ⟨z, ?_⟩)
          obtain ⟨b1, b2, b3, b4, b5, b6, b7, b8⟩ := g4 z
          exact ⟨by rw [f4.2 1 (by decide) (by decide)]; exact b1, by rw [f4.2 6 (by decide) (by decide)]; exact b2, by rw [e4 65 (by decide)]; exact b3, by rw [e4 66 (by decide)]; exact b4, by rw [e4 63 (by decide)]; exact b5, by rw [e4 64 (by decide)]; exact b6, by rw [e4 67 (by decide)]; exact b7, by rw [e4 62 (by decide)]; exact b8⟩
        obtain ⟨N5, s5, t5, c5, ⟨f5, g5, h5⟩, st5, y5⟩ := sp_X7_readsClause rd4 g3 d4
        obtain ⟨N6, hN6⟩ : ∃ z, z = ea_up N5 61 22 (nI (c + 1)) := ⟨_, rfl⟩
        have e6 : ∀ a, a ≠ 61 → N6 a = N5 a := fun a z => by rw [hN6, ea_upR z]
        have i6 : ∀ j, j ≠ 22 → N6 61 j = N5 61 j := fun j z => by rw [hN6, ea_upK z]
        have k6 : N6 61 23 = N 61 23 := by rw [i6 23 (by decide), g5 23 (by decide), k23]
        have k22 : N5 61 22 = nI c := by rw [g5 22 (by decide), f4.2 22 (by decide) (by decide), h22]
        have p6 : pc_R N6 V' L n ns' nc' (cz_c L (V' 1) (V' 2) n (tk_b L n r.2.1) ns' nc') := by
          obtain ⟨q1, q2, q3, q4, q5, q6⟩ := t5
          refine ⟨⟨by rw [e6 69 (by decide)]; exact q1, q2, q3, by rw [i6 11 (by decide)]; exact q4, by rw [i6 16 (by decide)]; exact q5, by rw [i6 17 (by decide)]; exact q6⟩, R_c_cg c5 (e6 77 (by decide)), fun z => ?_⟩
          obtain ⟨⟨a1, a2, a3, a4, a5⟩, x2, x3, x4⟩ := y5 z
          refine ⟨⟨by rw [i6 18 (by decide)]; exact a1, a2, by rw [e6 74 (by decide)]; exact a3, by rw [e6 75 (by decide)]; exact a4, a5⟩, by rw [i6 19 (by decide)]; exact x2, x3, fun w => ?_⟩
          rw [k6, ← k23] at w
          obtain ⟨b1, b2, b3, b4, b5, b6, b7, b8⟩ := x4 w
          exact ⟨by rw [i6 1 (by decide)]; exact b1, by rw [i6 6 (by decide)]; exact b2, by rw [e6 65 (by decide)]; exact b3, by rw [e6 66 (by decide)]; exact b4, by rw [e6 63 (by decide)]; exact b5, by rw [e6 64 (by decide)]; exact b6, by rw [e6 67 (by decide)]; exact b7, by rw [e6 62 (by decide)]; exact b8⟩
        obtain ⟨N', ⟨l1, l2, l3, l4, l5, l6⟩, hE⟩ := ih V' (tk_b L n r.2.1) ns' nc' (c + 1) N6 (by omega) (by omega) p6 (by rw [hN6]; exact ea_upS) (by rw [k6]; exact h23)
        refine ⟨N', ⟨fun a z => ?_, fun j z => ?_, fun j z => ?_, fun z => ?_, l5, fun z => ?_⟩, fun C X => ?_⟩
        · rw [l1 a z, e6 a (by omega), f5 a z, e4 a (by omega)]
        · rw [l2 j z, i6 j (by omega), g5 j (by omega), f4.2 j (by omega) (by omega)]
        · rw [l3 j z, e6 62 (by decide), h5 j z, e4 62 (by decide)]
        · obtain ⟨w1, w2, w3⟩ := l4 (by rw [k6]; exact z)
          obtain ⟨w4, w5, w6⟩ := st5 (by rw [k23]; exact z)
          exact ⟨fun a q1 q2 => by rw [w1 a q1 q2, e6 a (by omega), w4 a q1 q2, e4 a (by omega)], by rw [w2, i6 1 (by decide), w5, f4.2 1 (by decide) (by decide)], by rw [w3, i6 6 (by decide), w6, f4.2 6 (by decide) (by decide)]⟩
        · obtain ⟨w1, w2, w3⟩ := l6 z
          exact ⟨w1, w2, fun q => w3 (by rw [k6]; exact q)⟩
        · have nx := hE C X
          rw [hN6, ← nI_1, ← k22] at nx
          refine km_reads_28 C X  (M1 := fun _ _ => 0) (M2 := fun _ _ => 0) (M3 := fun _ _ => 0) (M4 := fun _ _ => 0) (r2 := 0) (r4 := 0) (fun c => absurd c z1) (fun c => absurd c z1) (fun _ c => absurd c c1) (fun _ c => absurd c c1) (fun _ _ c _ => absurd c c24) (fun _ _ c _ => absurd c c24) (fun _ _ c _ => absurd c c24) (fun _ _ c _ => absurd c c24) (fun _ _ _ => v0) (fun _ _ _ c _ => absurd c59 c) (fun _ _ _ c _ => absurd c59 c) (fun _ _ _ c _ => absurd c59 c) (fun _ _ _ c _ => absurd c59 c) (fun _ _ _ _ c => absurd c z1) (fun _ _ _ _ _ => s4) (fun _ _ _ _ _ => s5) (fun _ _ _ _ _ => nx)
theorem sp_X7_reads {N V : ea_M} {L : Nat → Int32} {n ns nc : Nat} {dd : Int32} (hd : dd = 0 ∨ dd = 1) (h69 : N 69 = L) (hn : n ≤ 200) (h11 : N 61 11 = nI n) (hV : RV V N ns nc) (hv : vv_ok V ns nc) (hc : R_c N) : ∃ N', ea_Sp 6 yX7_reads cX7_reads 3 (some .boolean) [.ref 61, .int dd] N (some (.int (cl_1 (ff_go L n 24 V 0 ns nc 1).1))) N' ∧ (∀ a, (a < 61 ∨ (67 < a ∧ a < 74) ∨ 76 < a) → N' a = N a) ∧ (∀ j, j = 8 ∨ j = 11 → N' 61 j = N 61 j) ∧ (∀ j, 13 ≤ j → N' 62 j = N 62 j) ∧ (dd = 0 → st0 N N') ∧ ((ff_go L n 24 V 0 ns nc 1).1 = false → N' 61 16 = nI (ff_go L n 24 V 0 ns nc 1).2.1 ∧ (ff_go L n 24 V 0 ns nc 1).2.1 ≤ n) ∧ ((ff_go L n 24 V 0 ns nc 1).1 = true → N' 61 22 = nI (ff_go L n 24 V 0 ns nc 1).2.2.1 ∧ vv_ok (ff_go L n 24 V 0 ns nc 1).2.2.2.1 (ff_go L n 24 V 0 ns nc 1).2.2.2.2.1 (ff_go L n 24 V 0 ns nc 1).2.2.2.2.2 ∧ (dd = 1 → RV (ff_go L n 24 V 0 ns nc 1).2.2.2.1 N' (ff_go L n 24 V 0 ns nc 1).2.2.2.2.1 (ff_go L n 24 V 0 ns nc 1).2.2.2.2.2)) := by
  obtain ⟨N0, hN0⟩ : ∃ z, z = ea_up (ea_up (ea_up N 61 23 dd) 61 17 (0 : Int32)) 61 22 (1 : Int32) := ⟨_, rfl⟩
  have e0 : ∀ a, a ≠ 61 → N0 a = N a := fun a z => by rw [hN0, ea_upR z, ea_upR z, ea_upR z]
  have i0 : ∀ j, j ≠ 23 → j ≠ 17 → j ≠ 22 → N0 61 j = N 61 j := fun j z1 z2 z3 => by rw [hN0, ea_upK z3, ea_upK z2, ea_upK z1]
  have k23 : N0 61 23 = dd := by rw [hN0, ea_upK (by decide), ea_upK (by decide), ea_upS]
  have k17 : N0 61 17 = nI 0 := by rw [hN0, ea_upK (by decide), ea_upS]; rfl
  have k22 : N0 61 22 = nI 1 := by rw [hN0, ea_upS]; rfl
  obtain ⟨N1, s1, l18, l19, l75, l74, f1, g1⟩ := sp_X7_layTold N0
  obtain ⟨N2, s2, t2, f2⟩ := tx_look (N := N1) (L := L) (n := n) (q := 0) (by rw [f1 69 (by decide) (by decide) (by decide), e0 69 (by decide)]; exact h69) hn (by rw [g1 11 (by decide) (by decide), i0 11 (by decide) (by decide) (by decide)]; exact h11) (Nat.zero_le n) (by rw [g1 17 (by decide) (by decide)]; exact k17)
  obtain ⟨r1, r2, r3, r4, r5, r6, r7, r8⟩ := id hV
  have e2 : ∀ a, a ≠ 61 → a ≠ 74 → a ≠ 75 → N2 a = N a := fun a z1 z2 z3 => by rw [f2.1 a z1, f1 a z1 z2 z3, e0 a z1]
  have i2 : ∀ j, j ≠ 16 → j ≠ 17 → j ≠ 18 → j ≠ 19 → j ≠ 22 → j ≠ 23 → N2 61 j = N 61 j := fun j z1 z2 z3 z4 z5 z6 => by rw [f2.2 j z1 z2, g1 j z3 z4, i0 j z6 z2 z5]
  have m23 : N2 61 23 = dd := by rw [f2.2 23 (by decide) (by decide), g1 23 (by decide) (by decide)]; exact k23
  have m22 : N2 61 22 = nI 1 := by rw [f2.2 22 (by decide) (by decide), g1 22 (by decide) (by decide)]; exact k22
  have rd2 : rdr N2 V L n 0 ns nc := by
    refine ⟨t2, ⟨?_, hv.1.1, fun j hj => ?_, fun j hj => ?_, hv.2.1⟩, ?_, R_c_cg hc (e2 77 (by decide) (by decide) (by decide))⟩
    · rw [f2.2 18 (by decide) (by decide), l18, i0 1 (by decide) (by decide) (by decide)]; exact r1
    · rw [f2.1 74 (by decide), l74 j hj, e0 65 (by decide)]; exact r3 j hj
    · rw [f2.1 75 (by decide), l75 j hj, e0 66 (by decide)]; exact r4 j hj
    · rw [f2.2 19 (by decide) (by decide), l19, i0 6 (by decide) (by decide) (by decide)]; exact r2
  have rv2 : RV V N2 ns nc := ⟨by rw [i2 1 (by decide) (by decide) (by decide) (by decide) (by decide) (by decide)]; exact r1, by rw [i2 6 (by decide) (by decide) (by decide) (by decide) (by decide) (by decide)]; exact r2, by rw [e2 65 (by decide) (by decide) (by decide)]; exact r3, by rw [e2 66 (by decide) (by decide) (by decide)]; exact r4, by rw [e2 63 (by decide) (by decide) (by decide)]; exact r5, by rw [e2 64 (by decide) (by decide) (by decide)]; exact r6, by rw [e2 67 (by decide) (by decide) (by decide)]; exact r7, by rw [e2 62 (by decide) (by decide) (by decide)]; exact r8⟩
  obtain ⟨N3, s3, t3, c3, ⟨f3, g3, h3⟩, st3, y3⟩ := sp_X7_readsClause rd2 hv (by rw [m23]; exact hd.imp id (fun z => ⟨z, rv2⟩))
  have n23 : N3 61 23 = dd := by rw [g3 23 (by decide)]; exact m23
  obtain ⟨N', ⟨l1, l2, l3, l4, l5, l6⟩, hE⟩ := rl_loop 23 V 0 ns nc 1 N3 (by decide) (by decide) ⟨t3, c3, fun z => by
    obtain ⟨a1, a2, a3, a4⟩ := y3 z
    exact ⟨a1, a2, a3, fun w => a4 (by rw [m23, ← n23]; exact w)⟩⟩ (by rw [g3 22 (by decide)]; exact m22) (by rw [n23]; exact hd)
  refine ⟨N', ?_, fun a z => ?_, fun j z => ?_, fun j z => ?_, fun z => ?_, l5, fun z => ?_⟩
  · refine ea_intro (own := RX7) (by decide +kernel) rfl (fun g => Nat.le_of_ble_eq_true rfl) (fun k C X => ?_)
    rw [hN0] at s1
    have nx := hE C X
    refine km_reads C X  hd s1 s2 s3 nx
  · rw [l1 a z, f3 a z, e2 a (by omega) (by omega) (by omega)]
  · rw [l2 j z, g3 j (by omega), i2 j (by omega) (by omega) (by omega) (by omega) (by omega) (by omega)]
  · rw [l3 j z, h3 j z, e2 62 (by decide) (by decide) (by decide)]
  · obtain ⟨w1, w2, w3⟩ := l4 (by rw [n23]; exact z)
    obtain ⟨w4, w5, w6⟩ := st3 (by rw [m23]; exact z)
    exact ⟨fun a q1 q2 => by rw [w1 a q1 q2, w4 a q1 q2, e2 a (by omega) (by omega) (by omega)], by rw [w2, w5, i2 1 (by decide) (by decide) (by decide) (by decide) (by decide) (by decide)], by rw [w3, w6, i2 6 (by decide) (by decide) (by decide) (by decide) (by decide) (by decide)]⟩
  · obtain ⟨w1, w2, w3⟩ := l6 z
    exact ⟨w1, w2, fun q => w3 (by rw [n23]; exact q)⟩
