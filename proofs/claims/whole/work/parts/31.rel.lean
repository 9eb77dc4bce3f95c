/-! ===== what the two have in common ===== -/
abbrev sg : Type := Nat × Nat × Nat × Nat × Nat × (Nat → Nat)
abbrev sg.ns (s : sg) : Nat := s.1
abbrev sg.nc (s : sg) : Nat := s.2.1
abbrev sg.n (s : sg) : Nat := s.2.2.1
abbrev sg.t (s : sg) : Nat := s.2.2.2.1
abbrev sg.u (s : sg) : Nat := s.2.2.2.2.1
abbrev sg.g (s : sg) : Nat → Nat := s.2.2.2.2.2
def vw_s (M : ea_M) : ea_M := fun a => M (13 + a)
/-- a warmth in bounds -/
def warm (M : ea_M) (w : Nat) : Prop := (∀ j, j < 10 → ∃ h : Nat, h ≤ 20000 ∧ M (w + 1) j = nI h) ∧ (∃ l : Nat, l ≤ 999 ∧ M w 1 = nI l) ∧ (∃ r : Nat, r ≤ 999 ∧ M w 2 = nI r) ∧ ∃ t : Nat, 1 ≤ t ∧ t ≤ 999 ∧ M w 3 = nI t
/-- a warmth here, a row there -/
def same (M N : ea_M) (w b : Nat) : Prop := (∀ j, j < 10 → N 62 (b + j) = M (w + 1) j) ∧ ∀ k, 1 ≤ k → k ≤ 6 → N 62 (b + 9 + k) = M w k
def R_w (s : sg) (M N : ea_M) : Prop := vv_ok (vw_s M) s.ns s.nc ∧ N 61 1 = M 13 0 ∧ N 61 6 = M 13 5 ∧ (∀ j, j < 42 → N 65 j = M 14 j) ∧ (∀ j, j < 6 → N 66 j = M 15 j) ∧ (∀ j, j < 6 → N 63 j = M 16 j) ∧ (∀ j, j < 6 → N 64 j = M 17 j) ∧ (∀ j, j < 10 → N 67 j = M 18 j) ∧ same M N 20 0
def R_t (s : sg) (M N : ea_M) : Prop := s.n ≤ 200 ∧ M 2 1 = nI s.n ∧ N 61 11 = nI s.n ∧ N 69 = M 3
def slot (s : sg) (e : Nat) : Nat := 28 + 2 * ((s.t + 8 - s.u + e) % 8)
def R_p (s : sg) (M N : ea_M) : Prop := s.t < 8 ∧ s.u ≤ 8 ∧ M 24 3 = nI s.t ∧ M 24 4 = nI s.u ∧ N 61 8 = nI s.u ∧ ∀ e, e < s.u → warm M (slot s e) ∧ same M N (slot s e) (16 + 16 * e)
def R_k (M N : ea_M) : Prop := ∀ k, k < 2 → N 68 k = M 27 k ∧ (M 27 k = 0 ∨ M 27 k = 1 ∧ warm M (44 + 2 * k) ∧ same M N (44 + 2 * k) (144 + 16 * k))
def wE (M : ea_M) (p : Nat) : Nat → en := fun j => (M (49 + 4 * p + 1) j, M (49 + 4 * p + 2) j, M (49 + 4 * p + 3) j)
def mE (N : ea_M) (p : Nat) : Nat → en := fun j => (N 71 (8 * p + j), N 72 (8 * p + j), N 73 (8 * p + j))
def R_g1 (s : sg) (M N : ea_M) (p : Nat) : Prop := (M (49 + 4 * p) 0 = 0 ∧ M (49 + 4 * p) 1 = 0 ∧ N 70 p = -1 ∧ s.g p = 0) ∨ (s.g p ≤ 8 ∧ M (49 + 4 * p) 0 = 1 ∧ M (49 + 4 * p) 1 = nI (s.g p) ∧ N 70 p = nI (s.g p) ∧ (fl (wE M p) (s.g p)).Perm (fl (mE N p) (s.g p)) ∧ nd (fl (wE M p) (s.g p)) ∧ ∀ e, e ∈ fl (wE M p) (s.g p) → ¬ e.2.2 < -999)
def R_g (s : sg) (M N : ea_M) : Prop := ∀ p, p < 3 → R_g1 s M N p
def wordsL : List Int32 := [119, 97, 108, 108, 0, 115, 116, 117, 102, 102, 108, 97, 121, 101, 114, 97, 105, 114, 0, 0, 104, 101, 97, 116, 0]
def R_c (N : ea_M) : Prop := ∀ i, i < 25 → N 77 i = wordsL.getD i 0
def Rel (s : sg) (M N : ea_M) : Prop := R_w s M N ∧ R_t s M N ∧ R_p s M N ∧ R_k M N ∧ R_g s M N ∧ R_c N
/-- an answer of a kind -/
def ea_V (ret : Option FieldType) : Type := match ret with
  | some .long => Int64
  | _ => Int32
abbrev ea_V.int (x : Int32) : ea_V (some .int) := x
abbrev ea_V.long (x : Int64) : ea_V (some .long) := x
abbrev ea_V.v {ret : Option FieldType} (r : ea_V ret) : Value := match ret, r with
  | some .long, x => .long x
  | none, x => .int x
  | some .int, x => .int x
  | some .byte, x => .int x
  | some .char, x => .int x
  | some .short, x => .int x
  | some .boolean, x => .int x
  | some .float, x => .int x
  | some .double, x => .int x
  | some (.object _), x => .int x
  | some (.array _), x => .int x
/-- a method answers alike on both sides, and what the two have in common stays -/
def pm (dx : Nat) (yx : MethodName) (cx : ByteArray) (nx : Nat) (dm : Nat) (ym : MethodName) (cm : ByteArray) (nm : Nat) (ret : Option FieldType) (as : List Value) : Prop := ∀ (s : sg) (M N0 : ea_M), Rel s M N0 → ∃ (r : ea_V ret) (M' : ea_M) (s' : sg), ea_Sp dx yx cx nx ret (.ref 0 :: as) M (some r.v) M' ∧ (∀ a, 61 ≤ a → M' a = M a) ∧ ∀ N, Rel s M N → ∃ N', ea_Sp dm ym cm nm ret (.ref 61 :: as) N (some r.v) N' ∧ (∀ a, a < 61 → N' a = N a) ∧ Rel s' M' N'
/-! frames -/
theorem warm_cg {M M' : ea_M} {w : Nat} (h : warm M w) (h0 : M' w = M w) (h1 : M' (w + 1) = M (w + 1)) : warm M' w := by
  unfold warm
  rw [h0, h1]
  exact h
theorem same_cg {M M' N N' : ea_M} {w b : Nat} (h : same M N w b) (h0 : M' w = M w) (h1 : M' (w + 1) = M (w + 1)) (h2 : ∀ j, b ≤ j → j < b + 16 → N' 62 j = N 62 j) : same M' N' w b := by
  obtain ⟨a1, a2⟩ := h
  refine ⟨fun j hj => ?_, fun k h3 h4 => ?_⟩
  · rw [h1, h2 _ (by omega) (by omega), a1 j hj]
  · rw [h0, h2 _ (by omega) (by omega), a2 k h3 h4]
theorem vv_cg {V V' : ea_M} {ns nc : Nat} (h : vv_ok V ns nc) (h0 : ∀ a, a ≤ 8 → a ≠ 6 → V' a = V a) : vv_ok V' ns nc := by
  unfold vv_ok
  rw [h0 0 (by decide) (by decide), h0 2 (by decide) (by decide), h0 3 (by decide) (by decide), h0 4 (by decide) (by decide), h0 5 (by decide) (by decide), h0 7 (by decide) (by decide), h0 8 (by decide) (by decide)]
  exact h
theorem R_w_cg {s s' : sg} {M M' N N' : ea_M} (h : R_w s M N) (e1 : s'.ns = s.ns) (e2 : s'.nc = s.nc) (hM : ∀ a, 13 ≤ a → a ≤ 21 → a ≠ 19 → M' a = M a) (h1 : N' 61 1 = N 61 1) (h6 : N' 61 6 = N 61 6) (hN : ∀ a, 63 ≤ a → a ≤ 67 → N' a = N a) (h62 : ∀ j, j < 16 → N' 62 j = N 62 j) : R_w s' M' N' := by
  obtain ⟨a1, a2, a3, a4, a5, a6, a7, a8, a9⟩ := h
  unfold R_w
  rw [e1, e2, h1, h6, hN 65 (by decide) (by decide), hN 66 (by decide) (by decide), hN 63 (by decide) (by decide), hN 64 (by decide) (by decide), hN 67 (by decide) (by decide), hM 13 (by decide) (by decide) (by decide), hM 14 (by decide) (by decide) (by decide), hM 15 (by decide) (by decide) (by decide), hM 16 (by decide) (by decide) (by decide), hM 17 (by decide) (by decide) (by decide), hM 18 (by decide) (by decide) (by decide)]
  exact ⟨vv_cg a1 (fun a h3 h4 => hM (13 + a) (by omega) (by omega) (by omega)), a2, a3, a4, a5, a6, a7, a8, same_cg a9 (hM 20 (by decide) (by decide) (by decide)) (hM 21 (by decide) (by decide) (by decide)) (fun j _ h3 => h62 j (by omega))⟩
theorem R_t_cg {s s' : sg} {M M' N N' : ea_M} (h : R_t s M N) (e : s'.n = s.n) (h1 : M' 2 1 = M 2 1) (h2 : M' 3 = M 3) (h3 : N' 61 11 = N 61 11) (h4 : N' 69 = N 69) : R_t s' M' N' := by
  unfold R_t
  rw [e, h1, h2, h3, h4]
  exact h
theorem slot_lt (s : sg) (e : Nat) : 28 ≤ slot s e ∧ slot s e ≤ 42 := by
  have := Nat.mod_lt (s.t + 8 - s.u + e) (show 0 < 8 by decide)
  unfold slot
  omega
theorem R_p_cg {s s' : sg} {M M' N N' : ea_M} (h : R_p s M N) (e1 : s'.t = s.t) (e2 : s'.u = s.u) (h24 : M' 24 = M 24) (hM : ∀ a, 28 ≤ a → a ≤ 43 → M' a = M a) (h8 : N' 61 8 = N 61 8) (h62 : ∀ j, 16 ≤ j → j < 144 → N' 62 j = N 62 j) : R_p s' M' N' := by
  obtain ⟨a1, a2, a3, a4, a5, a6⟩ := h
  unfold R_p
  rw [e1, e2, h24, h8]
  refine ⟨a1, a2, a3, a4, a5, fun e he => ?_⟩
  have es : slot s' e = slot s e := by
    unfold slot
    rw [e1, e2]
  obtain ⟨b1, b2⟩ := slot_lt s e
  obtain ⟨c1, c2⟩ := a6 e he
  rw [es]
  exact ⟨warm_cg c1 (hM _ (by omega) (by omega)) (hM _ (by omega) (by omega)), same_cg c2 (hM _ (by omega) (by omega)) (hM _ (by omega) (by omega)) (fun j h3 h4 => h62 j (by omega) (by omega))⟩
theorem R_k_cg {M M' N N' : ea_M} (h : R_k M N) (h27 : M' 27 = M 27) (hM : ∀ a, 44 ≤ a → a ≤ 47 → M' a = M a) (h68 : N' 68 = N 68) (h62 : ∀ j, 144 ≤ j → j < 176 → N' 62 j = N 62 j) : R_k M' N' := by
  intro k hk
  obtain ⟨b1, b2⟩ := h k hk
  rw [h27, h68]
  refine ⟨b1, b2.imp id (fun c => ⟨c.1, ?_, ?_⟩)⟩
  · exact warm_cg c.2.1 (hM _ (by omega) (by omega)) (hM _ (by omega) (by omega))
  · exact same_cg c.2.2 (hM _ (by omega) (by omega)) (hM _ (by omega) (by omega)) (fun j h3 h4 => h62 j (by omega) (by omega))
theorem R_g1_cg {s s' : sg} {M M' N N' : ea_M} {p : Nat} (h : R_g1 s M N p) (e : s'.g p = s.g p) (hM : ∀ a, 49 + 4 * p ≤ a → a ≤ 52 + 4 * p → M' a = M a) (h70 : N' 70 p = N 70 p) (hN : ∀ a j, 71 ≤ a → a ≤ 73 → 8 * p ≤ j → j < 8 * p + 8 → N' a j = N a j) : R_g1 s' M' N' p := by
  have e1 : wE M' p = wE M p := by
    funext j
    unfold wE
    rw [hM (49 + 4 * p + 1) (by omega) (by omega), hM (49 + 4 * p + 2) (by omega) (by omega), hM (49 + 4 * p + 3) (by omega) (by omega)]
  unfold R_g1
  rw [e, hM (49 + 4 * p) (by omega) (by omega), h70, e1]
  refine h.imp id (fun c => ?_)
  obtain ⟨c1, c2, c3, c4, c5, c6, c7⟩ := c
  refine ⟨c1, c2, c3, c4, ?_, c6, c7⟩
  rw [fl_c (f := mE N' p) (g := mE N p) (s.g p) (fun j hj => ?_)]
  · exact c5
  · unfold mE
    rw [hN 71 _ (by decide) (by decide) (by omega) (by omega), hN 72 _ (by decide) (by decide) (by omega) (by omega), hN 73 _ (by decide) (by decide) (by omega) (by omega)]
theorem R_g_cg {s s' : sg} {M M' N N' : ea_M} (h : R_g s M N) (e : s'.g = s.g) (hM : ∀ a, 49 ≤ a → a ≤ 60 → M' a = M a) (hN : ∀ a, 70 ≤ a → a ≤ 73 → N' a = N a) : R_g s' M' N' := by
  intro p hp
  refine R_g1_cg (h p hp) (by rw [e]) (fun a h1 h2 => hM a (by omega) (by omega)) (by rw [hN 70 (by decide) (by decide)]) (fun a j h1 h2 _ _ => by rw [hN a (by omega) (by omega)])
theorem R_c_cg {N N' : ea_M} (h : R_c N) (e : N' 77 = N 77) : R_c N' := by
  unfold R_c
  rw [e]
  exact h
/-- nothing that they have in common has changed -/
theorem Rel_q {s : sg} {M M' N N' : ea_M} (h : Rel s M N) (h21 : M' 2 1 = M 2 1) (hM : ∀ a, a = 3 ∨ (13 ≤ a ∧ a ≤ 60 ∧ a ≠ 19 ∧ a ≠ 22 ∧ a ≠ 23) → M' a = M a) (h61 : ∀ k, k = 1 ∨ k = 6 ∨ k = 8 ∨ k = 11 → N' 61 k = N 61 k) (h62 : ∀ j, j < 176 → N' 62 j = N 62 j) (hN : ∀ a, (63 ≤ a ∧ a ≤ 73) ∨ a = 77 → N' a = N a) : Rel s M' N' := by
  obtain ⟨a1, a2, a3, a4, a5, a6⟩ := h
  exact ⟨R_w_cg a1 rfl rfl (fun a h1 h2 h3 => hM a (by omega)) (h61 1 (by decide)) (h61 6 (by decide)) (fun a h1 h2 => hN a (by omega)) (fun j hj => h62 j (by omega)), R_t_cg a2 rfl h21 (hM 3 (by decide)) (h61 11 (by decide)) (hN 69 (by decide)), R_p_cg a3 rfl rfl (hM 24 (by decide)) (fun a h1 h2 => hM a (by omega)) (h61 8 (by decide)) (fun j h1 h2 => h62 j (by omega)), R_k_cg a4 (hM 27 (by decide)) (fun a h1 h2 => hM a (by omega)) (hN 68 (by decide)) (fun j h1 h2 => h62 j (by omega)), R_g_cg a5 rfl (fun a h1 h2 => hM a (by omega)) (fun a h1 h2 => hN a (by omega)), R_c_cg a6 (hN 77 (by decide))⟩
/-- a call that changes nothing -/
theorem pm_q {dx : Nat} {yx : MethodName} {cx : ByteArray} {nx dm : Nat} {ym : MethodName} {cm : ByteArray} {nm : Nat} {ret : Option FieldType} {as : List Value} (h : ∀ (s : sg) (M N0 : ea_M), Rel s M N0 → ∃ r : ea_V ret, ea_Sp dx yx cx nx ret (.ref 0 :: as) M (some r.v) M ∧ ∀ N, Rel s M N → ea_Sp dm ym cm nm ret (.ref 61 :: as) N (some r.v) N) : pm dx yx cx nx dm ym cm nm ret as := by
  intro s M N0 h0
  obtain ⟨r, h1, h2⟩ := h s M N0 h0
  exact ⟨r, M, s, h1, fun _ _ => rfl, fun N hN => ⟨N, h2 N hN, fun _ _ => rfl, hN⟩⟩
/-- places out of a row, and in it -/
theorem in3 (i : Int32) : (i < 0 ∨ (3 : Int32) ≤ i) ∨ ∃ j : Nat, j < 3 ∧ i = nI j := by
  rcases pk_ix i (n := 3) (by decide) with h | h | h
  · exact Or.inl (Or.inl h)
  · exact Or.inl (Or.inr h)
  · exact Or.inr h
theorem pg_no {i : Int32} (h : i < 0 ∨ (3 : Int32) ≤ i) : ¬ p_X7_isPage i := by
  intro q
  have := (in_i i 0 2).mp q
  rcases h with h | h
  · exact this.1 h
  · exact this.2 (Int32.lt_of_lt_of_le (show (2 : Int32) < 3 by decide) h)
theorem pg_yes {j : Nat} (h : j < 3) : p_X7_isPage (nI j) := (in_i (nI j) 0 2).mpr ⟨nI_pos (by omega), nI_nlt (a := 2) (by omega) (by decide)⟩
theorem key_i (a b : Int32) : p_X7_isKey a b ↔ p_X6_isKey a b := by
  show (p_X7_in a.toInt64 (0 : Int32).toInt64 (25 : Int32).toInt64 ∧ p_X7_in b.toInt64 (-99 : Int32).toInt64 (99 : Int32).toInt64) ↔ _
  rw [in_i, in_i]
  exact ⟨fun h => ⟨h.1.1, h.1.2, h.2.1, h.2.2⟩, fun h => ⟨⟨h.1, h.2.1⟩, h.2.2.1, h.2.2.2⟩⟩

