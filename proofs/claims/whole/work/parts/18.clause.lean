set_option maxRecDepth 100000 in
set_option maxHeartbeats 4000000 in
theorem kb_X2_rc_0 {k : ea_K} {o : Option Value} {M' : ea_M} (C : ea_C k RX2 cX2_readClause 1 7) (X : ea_X k (some .boolean) o M') {M : ea_M} {M1 M2 : ea_M} {r1 r2 : Int32}   (q1 : ea_Sp 6 yX2_takeWord cX2_takeWord 2 (some .boolean) [.ref 1, .ref 200] M (some (.int r1)) M1) (h3 : r1 = 0 → ea_E k 14 [(0, .ref 1)] [] M1) (q4 : ¬ r1 = 0 → ea_Sp 3 yX2_readWall cX2_readWall 2 (some .boolean) [.ref 1] M1 (some (.int r2)) M2) (h5 : ¬ r1 = 0 → o = some (.int r2) ∧ M' = M2) (b6 : ¬ r1 = 0 → r2 = 0 ∨ r2 = 1) : ea_E k 0 [(0, .ref 1)] [] M := by
  refine e_aload_n (n := 0) C dX2_readClause_0 rfl rfl ?_
  refine e_ldcS (i := 0) C rfl rfl dX2_readClause_1 ?_
  refine e_callV1 (as := [.ref 200]) (rest := []) C lk_X2_55 q1 (by decide) rfl (by decide) rfl (by decide) rfl rfl (Nat.le_of_ble_eq_true rfl) dX2_readClause_3 ?_
  refine e_if_eq (tgt := 14) C dX2_readClause_6 (by decide) (fun c2 => ?_) (fun c2 => ?_)
  · exact (h3 c2)
  · refine e_aload_n (n := 0) C dX2_readClause_9 rfl rfl ?_
    refine e_callV1 (as := []) (rest := []) C lk_X2_59 (q4 c2) (by decide) rfl (by decide) rfl (by decide) rfl rfl (Nat.le_of_ble_eq_true rfl) dX2_readClause_10 ?_
    exact e_iret C X rfl (ea_nz (b6 c2)) dX2_readClause_13 (h5 c2)
set_option maxRecDepth 100000 in
set_option maxHeartbeats 4000000 in
theorem kb_X2_rc_14 {k : ea_K} {o : Option Value} {M' : ea_M} (C : ea_C k RX2 cX2_readClause 1 7) (X : ea_X k (some .boolean) o M') {M : ea_M} {M1 M2 : ea_M} {r1 r2 : Int32}   (h2 : (6 : Int32) ≤ (M 4 0) → ea_E k 40 [(0, .ref 1)] [] M) (q3 : ¬ (6 : Int32) ≤ (M 4 0) → ea_Sp 6 yX2_takeWord cX2_takeWord 2 (some .boolean) [.ref 1, .ref 201] M (some (.int r1)) M1) (h5 : ¬ (6 : Int32) ≤ (M 4 0) → r1 = 0 → ea_E k 40 [(0, .ref 1)] [] M1) (q6 : ¬ (6 : Int32) ≤ (M 4 0) → ¬ r1 = 0 → ea_Sp 3 yX2_readStuff cX2_readStuff 3 (some .boolean) [.ref 1] M1 (some (.int r2)) M2) (h7 : ¬ (6 : Int32) ≤ (M 4 0) → ¬ r1 = 0 → o = some (.int r2) ∧ M' = M2) (b8 : ¬ (6 : Int32) ≤ (M 4 0) → ¬ r1 = 0 → r2 = 0 ∨ r2 = 1) : ea_E k 14 [(0, .ref 1)] [] M := by
  refine e_aload_n (n := 0) C dX2_readClause_14 rfl rfl ?_
  refine e_get (v := .ref 4) C fd_X2_21 (by decide) rfl rfl dX2_readClause_15 ?_
  refine e_get (v := .int (M 4 0)) C fd_X2_62 (by decide) rfl rfl dX2_readClause_18 ?_
  refine e_bipush (v := 6) C dX2_readClause_21 (by decide) ?_
  refine e_icmp_ge (tgt := 40) C dX2_readClause_23 (by decide) (fun c1 => ?_) (fun c1 => ?_)
  · exact (h2 c1)
  · refine e_aload_n (n := 0) C dX2_readClause_26 rfl rfl ?_
    refine e_ldcS (i := 1) C rfl rfl dX2_readClause_27 ?_
    refine e_callV1 (as := [.ref 201]) (rest := []) C lk_X2_55 (q3 c1) (by decide) rfl (by decide) rfl (by decide) rfl rfl (Nat.le_of_ble_eq_true rfl) dX2_readClause_29 ?_
    refine e_if_eq (tgt := 40) C dX2_readClause_32 (by decide) (fun c4 => ?_) (fun c4 => ?_)
    · exact (h5 c1 c4)
    · refine e_aload_n (n := 0) C dX2_readClause_35 rfl rfl ?_
      refine e_callV1 (as := []) (rest := []) C lk_X2_67 (q6 c1 c4) (by decide) rfl (by decide) rfl (by decide) rfl rfl (Nat.le_of_ble_eq_true rfl) dX2_readClause_36 ?_
      exact e_iret C X rfl (ea_nz (b8 c1 c4)) dX2_readClause_39 (h7 c1 c4)
set_option maxRecDepth 100000 in
set_option maxHeartbeats 4000000 in
theorem kb_X2_rc_40 {k : ea_K} {o : Option Value} {M' : ea_M} (C : ea_C k RX2 cX2_readClause 1 7) (X : ea_X k (some .boolean) o M') {M : ea_M} {M1 M2 : ea_M} {r1 r2 : Int32}   (q1 : ea_Sp 6 yX2_takeWord cX2_takeWord 2 (some .boolean) [.ref 1, .ref 202] M (some (.int r1)) M1) (h3 : r1 = 0 → ea_E k 54 [(0, .ref 1)] [] M1) (q4 : ¬ r1 = 0 → ea_Sp 3 yX2_readLayer cX2_readLayer 3 (some .boolean) [.ref 1] M1 (some (.int r2)) M2) (h5 : ¬ r1 = 0 → o = some (.int r2) ∧ M' = M2) (b6 : ¬ r1 = 0 → r2 = 0 ∨ r2 = 1) : ea_E k 40 [(0, .ref 1)] [] M := by
  refine e_aload_n (n := 0) C dX2_readClause_40 rfl rfl ?_
  refine e_ldcS (i := 2) C rfl rfl dX2_readClause_41 ?_
  refine e_callV1 (as := [.ref 202]) (rest := []) C lk_X2_55 q1 (by decide) rfl (by decide) rfl (by decide) rfl rfl (Nat.le_of_ble_eq_true rfl) dX2_readClause_43 ?_
  refine e_if_eq (tgt := 54) C dX2_readClause_46 (by decide) (fun c2 => ?_) (fun c2 => ?_)
  · exact (h3 c2)
  · refine e_aload_n (n := 0) C dX2_readClause_49 rfl rfl ?_
    refine e_callV1 (as := []) (rest := []) C lk_X2_72 (q4 c2) (by decide) rfl (by decide) rfl (by decide) rfl rfl (Nat.le_of_ble_eq_true rfl) dX2_readClause_50 ?_
    exact e_iret C X rfl (ea_nz (b6 c2)) dX2_readClause_53 (h5 c2)
set_option maxRecDepth 100000 in
set_option maxHeartbeats 4000000 in
theorem kb_X2_rc_54 {k : ea_K} {o : Option Value} {M' : ea_M} (C : ea_C k RX2 cX2_readClause 1 7) (X : ea_X k (some .boolean) o M') {M : ea_M} {M1 M2 : ea_M} {r1 r2 : Int32}   (q1 : ea_Sp 6 yX2_takeWord cX2_takeWord 2 (some .boolean) [.ref 1, .ref 203] M (some (.int r1)) M1) (h3 : r1 = 0 → ea_E k 68 [(0, .ref 1)] [] M1) (q4 : ¬ r1 = 0 → ea_Sp 3 yX2_readAir cX2_readAir 3 (some .boolean) [.ref 1] M1 (some (.int r2)) M2) (h5 : ¬ r1 = 0 → o = some (.int r2) ∧ M' = M2) (b6 : ¬ r1 = 0 → r2 = 0 ∨ r2 = 1) : ea_E k 54 [(0, .ref 1)] [] M := by
  refine e_aload_n (n := 0) C dX2_readClause_54 rfl rfl ?_
  refine e_ldcS (i := 3) C rfl rfl dX2_readClause_55 ?_
  refine e_callV1 (as := [.ref 203]) (rest := []) C lk_X2_55 q1 (by decide) rfl (by decide) rfl (by decide) rfl rfl (Nat.le_of_ble_eq_true rfl) dX2_readClause_57 ?_
  refine e_if_eq (tgt := 68) C dX2_readClause_60 (by decide) (fun c2 => ?_) (fun c2 => ?_)
  · exact (h3 c2)
  · refine e_aload_n (n := 0) C dX2_readClause_63 rfl rfl ?_
    refine e_callV1 (as := []) (rest := []) C lk_X2_77 (q4 c2) (by decide) rfl (by decide) rfl (by decide) rfl rfl (Nat.le_of_ble_eq_true rfl) dX2_readClause_64 ?_
    exact e_iret C X rfl (ea_nz (b6 c2)) dX2_readClause_67 (h5 c2)
set_option maxRecDepth 100000 in
set_option maxHeartbeats 4000000 in
theorem kb_X2_rc_68 {k : ea_K} {o : Option Value} {M' : ea_M} (C : ea_C k RX2 cX2_readClause 1 7) (X : ea_X k (some .boolean) o M') {M : ea_M} {M1 M2 : ea_M} {r1 r2 : Int32}   (q1 : ea_Sp 6 yX2_takeWord cX2_takeWord 2 (some .boolean) [.ref 1, .ref 204] M (some (.int r1)) M1) (h3 : r1 = 0 → o = some (.int (0 : Int32)) ∧ M' = M1) (q4 : ¬ r1 = 0 → ea_Sp 3 yX2_readHeat cX2_readHeat 3 (some .boolean) [.ref 1] M1 (some (.int r2)) M2) (h6 : ¬ r1 = 0 → r2 = 0 → o = some (.int (0 : Int32)) ∧ M' = M2) (h7 : ¬ r1 = 0 → ¬ r2 = 0 → o = some (.int (1 : Int32)) ∧ M' = M2) : ea_E k 68 [(0, .ref 1)] [] M := by
  refine e_aload_n (n := 0) C dX2_readClause_68 rfl rfl ?_
  refine e_ldcS (i := 4) C rfl rfl dX2_readClause_69 ?_
  refine e_callV1 (as := [.ref 204]) (rest := []) C lk_X2_55 q1 (by decide) rfl (by decide) rfl (by decide) rfl rfl (Nat.le_of_ble_eq_true rfl) dX2_readClause_71 ?_
  refine e_if_eq (tgt := 88) C dX2_readClause_74 (by decide) (fun c2 => ?_) (fun c2 => ?_)
  · refine e_iconst (v := 0) C dX2_readClause_88 (by decide) ?_
    exact e_iret C X rfl rfl dX2_readClause_89 (h3 c2)
  · refine e_aload_n (n := 0) C dX2_readClause_77 rfl rfl ?_
    refine e_callV1 (as := []) (rest := []) C lk_X2_82 (q4 c2) (by decide) rfl (by decide) rfl (by decide) rfl rfl (Nat.le_of_ble_eq_true rfl) dX2_readClause_78 ?_
    refine e_if_eq (tgt := 88) C dX2_readClause_81 (by decide) (fun c5 => ?_) (fun c5 => ?_)
    · refine e_iconst (v := 0) C dX2_readClause_88 (by decide) ?_
      exact e_iret C X rfl rfl dX2_readClause_89 (h6 c2 c5)
    · refine e_iconst (v := 1) C dX2_readClause_84 (by decide) ?_
      refine e_goto (tgt := 89) C dX2_readClause_85 (by decide) ?_
      exact e_iret C X rfl rfl dX2_readClause_89 (h7 c2 c5)
/-! ===== one clause, all clauses ===== -/
theorem cl_mv {M M1 M' : ea_M} {L : Nat → Int32} {n ns nc : Nat} {r : cz_T} (hf : ∀ a, a ≠ 2 → M1 a = M a) (h : cl_R M1 M' L n ns nc r) : cl_R M M' L n ns nc r := by
  obtain ⟨h1, h2, h3⟩ := h
  refine ⟨h1, fun a q2 q4 => (h2 a q2 q4).trans (hf a q2), fun z => ?_⟩
  rw [h3 z, vw_fr hf]
theorem cl_01 (b : Bool) : cl_1 b = 0 ∨ cl_1 b = 1 := by
  cases b
  · exact Or.inl rfl
  · exact Or.inr rfl
theorem cl_0t (b : Bool) (h : ¬ cl_1 b = 0) : cl_1 b = 1 := (cl_01 b).resolve_left h
theorem sp_X2_readClause {M : ea_M} {L : Nat → Int32} {n p ns nc : Nat} (h : ts_ok M L n p) (hv : vd_ok M ns nc) : ∃ M', ea_Sp 7 yX2_readClause cX2_readClause 1 (some .boolean) [.ref 1] M (some (.int (cl_1 (cz_c L (M 5) (M 6) n p ns nc).1))) M' ∧ cl_R M M' L n ns nc (cz_c L (M 5) (M 6) n p ns nc) := by
  have v1 := hv.1
  have v2 := hv.2.1
  have n1 : ¬ (1 : Int32) = 0 := by decide
  unfold cz_c
  cases w0 : iw_b L n p 0 with
  | true =>
    rw [if_pos rfl]
    obtain ⟨M1, s1, t1, f1⟩ := sp_tw1 (by decide) h w0
    obtain ⟨M', s2, c2⟩ := sp_X2_readWall (ns := ns) (nc := nc) t1
    refine ⟨M', ?_, cl_mv f1 c2⟩
    refine ea_intro (own := RX2) (by decide +kernel) rfl (fun g => Nat.le_of_ble_eq_true rfl) (fun k C X => ?_)
    exact kb_X2_rc_0 C X (M1 := M1) (r1 := 1) s1 (fun z => absurd z n1) (fun _ => s2) (fun _ => ⟨rfl, rfl⟩) (fun _ => cl_01 _)
  | false =>
    rw [if_neg (by decide)]
    have e0 := sp_tw0 (w := 0) (by decide) h w0
    have go : ∀ (r : cz_T) (M' : ea_M), (∀ {k : ea_K}, ea_C k RX2 cX2_readClause 1 7 → ea_X k (some .boolean) (some (.int (cl_1 r.1))) M' → ea_E k 14 [(0, .ref 1)] [] M) → ea_Sp 7 yX2_readClause cX2_readClause 1 (some .boolean) [.ref 1] M (some (.int (cl_1 r.1))) M' := by
      intro r M' hh
      refine ea_intro (own := RX2) (by decide +kernel) rfl (fun g => Nat.le_of_ble_eq_true rfl) (fun k C X => ?_)
      exact kb_X2_rc_0 C X (M1 := M) (r1 := 0) (r2 := 0) (M2 := M) e0 (fun _ => hh C X) (fun z => absurd rfl z) (fun z => absurd rfl z) (fun z => absurd rfl z)
    have h6 : (6 : Int32) ≤ M 4 0 ↔ ¬ ns < 6 := by
      rw [v1]
      have := nI_leI (a := 6) (b := ns) (by decide) (by omega)
      rw [show nI 6 = 6 from rfl] at this
      rw [this]
      omega
    by_cases w1 : ns < 6 ∧ iw_b L n p 1 = true
    · rw [if_pos w1]
      obtain ⟨M1, s1, t1, f1⟩ := sp_tw1 (by decide) h w1.2
      obtain ⟨M', s2, c2⟩ := sp_X2_readStuff t1 (vd_mv f1 hv) w1.1
      rw [f1 5 (by decide), f1 6 (by decide)] at s2 c2
      refine ⟨M', go _ M' (fun C X => ?_), cl_mv f1 c2⟩
      exact kb_X2_rc_14 C X (M1 := M1) (r1 := 1) (fun z => absurd w1.1 (h6.mp z)) (fun _ => s1) (fun _ z => absurd z n1) (fun _ _ => s2) (fun _ _ => ⟨rfl, rfl⟩) (fun _ _ => cl_01 _)
    · rw [if_neg w1]
      have g40 : ∀ (r : cz_T) (M' : ea_M), (∀ {k : ea_K}, ea_C k RX2 cX2_readClause 1 7 → ea_X k (some .boolean) (some (.int (cl_1 r.1))) M' → ea_E k 40 [(0, .ref 1)] [] M) → ea_Sp 7 yX2_readClause cX2_readClause 1 (some .boolean) [.ref 1] M (some (.int (cl_1 r.1))) M' := by
        intro r M' hh
        refine go r M' (fun C X => ?_)
        by_cases hn : ns < 6
        · have w1f : iw_b L n p 1 = false := by
            cases hb : iw_b L n p 1 with
            | false => rfl
            | true => exact absurd ⟨hn, hb⟩ w1
          exact kb_X2_rc_14 C X (M1 := M) (r1 := 0) (r2 := 0) (M2 := M) (fun _ => hh C X) (fun _ => sp_tw0 (w := 1) (by decide) h w1f) (fun _ _ => hh C X) (fun _ z => absurd rfl z) (fun _ z => absurd rfl z) (fun _ z => absurd rfl z)
        · exact kb_X2_rc_14 C X (M1 := M) (r1 := 0) (r2 := 0) (M2 := M) (fun _ => hh C X) (fun z => absurd (h6.mpr hn) z) (fun _ _ => hh C X) (fun _ z => absurd rfl z) (fun _ z => absurd rfl z) (fun _ z => absurd rfl z)
      cases w2 : iw_b L n p 2 with
      | true =>
        rw [if_pos rfl]
        obtain ⟨M1, s1, t1, f1⟩ := sp_tw1 (by decide) h w2
        obtain ⟨M', s2, c2⟩ := sp_X2_readLayer t1 (vd_mv f1 hv)
        rw [f1 5 (by decide), f1 6 (by decide)] at s2 c2
        refine ⟨M', g40 _ M' (fun C X => ?_), cl_mv f1 c2⟩
        exact kb_X2_rc_40 C X (M1 := M1) (r1 := 1) s1 (fun z => absurd z n1) (fun _ => s2) (fun _ => ⟨rfl, rfl⟩) (fun _ => cl_01 _)
      | false =>
        rw [if_neg (by decide)]
        have e2 := sp_tw0 (w := 2) (by decide) h w2
        cases w3 : iw_b L n p 3 with
        | true =>
          rw [if_pos rfl]
          obtain ⟨M1, s1, t1, f1⟩ := sp_tw1 (by decide) h w3
          obtain ⟨M', s2, c2⟩ := sp_X2_readAir (ns := ns) (nc := nc) t1
          refine ⟨M', g40 _ M' (fun C X => ?_), cl_mv f1 c2⟩
          refine kb_X2_rc_40 C X (M1 := M) (r1 := 0) (r2 := 0) (M2 := M) e2 (fun _ => ?_) (fun z => absurd rfl z) (fun z => absurd rfl z) (fun z => absurd rfl z)
          exact kb_X2_rc_54 C X (M1 := M1) (r1 := 1) s1 (fun z => absurd z n1) (fun _ => s2) (fun _ => ⟨rfl, rfl⟩) (fun _ => cl_01 _)
        | false =>
          rw [if_neg (by decide)]
          have e3 := sp_tw0 (w := 3) (by decide) h w3
          cases w4 : iw_b L n p 4 with
          | true =>
            rw [if_pos rfl]
            obtain ⟨M1, s1, t1, f1⟩ := sp_tw1 (by decide) h w4
            obtain ⟨M', s2, c2⟩ := sp_X2_readHeat t1 (vd_mv f1 hv)
            refine ⟨M', g40 _ M' (fun C X => ?_), cl_mv f1 c2⟩
            refine kb_X2_rc_40 C X (M1 := M) (r1 := 0) (r2 := 0) (M2 := M) e2 (fun _ => ?_) (fun z => absurd rfl z) (fun z => absurd rfl z) (fun z => absurd rfl z)
            refine kb_X2_rc_54 C X (M1 := M) (r1 := 0) (r2 := 0) (M2 := M) e3 (fun _ => ?_) (fun z => absurd rfl z) (fun z => absurd rfl z) (fun z => absurd rfl z)
            exact kb_X2_rc_68 C X (M1 := M1) (r1 := 1) (M2 := M') (r2 := cl_1 (cz_4 L n (tk_b L n p) nc).1) s1 (fun z => absurd z n1) (fun _ => s2) (fun _ z => ⟨by rw [z], rfl⟩) (fun _ z => ⟨by rw [cl_0t _ z], rfl⟩)
          | false =>
            rw [if_neg (by decide)]
            have e4 := sp_tw0 (w := 4) (by decide) h w4
            refine ⟨M, g40 (cz_f p) M (fun C X => ?_), cl_f h⟩
            refine kb_X2_rc_40 C X (M1 := M) (r1 := 0) (r2 := 0) (M2 := M) e2 (fun _ => ?_) (fun z => absurd rfl z) (fun z => absurd rfl z) (fun z => absurd rfl z)
            refine kb_X2_rc_54 C X (M1 := M) (r1 := 0) (r2 := 0) (M2 := M) e3 (fun _ => ?_) (fun z => absurd rfl z) (fun z => absurd rfl z) (fun z => absurd rfl z)
            exact kb_X2_rc_68 C X (M1 := M) (r1 := 0) (r2 := 0) (M2 := M) e4 (fun _ => ⟨rfl, rfl⟩) (fun z => absurd rfl z) (fun z => absurd rfl z) (fun z => absurd rfl z)

