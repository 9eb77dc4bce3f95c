/-! ===== pages as lists ===== -/
abbrev en : Type := Int32 × Int32 × Int32
def fl (f : Nat → en) (n : Nat) : List en := (List.range n).map f
theorem fl_s (f : Nat → en) (n : Nat) : fl f (n + 1) = fl f n ++ [f n] := by
  unfold fl
  rw [List.range_succ, List.map_append]
  rfl
theorem fl_c {f g : Nat → en} : ∀ n, (∀ j, j < n → f j = g j) → fl f n = fl g n := by
  intro n
  induction n with
  | zero => intro _; rfl
  | succ n ih =>
    intro h
    rw [fl_s, fl_s, ih (fun j hj => h j (by omega)), h n (by omega)]
theorem fl_last (f : Nat → en) (n : Nat) : (fl f (n + 1)).Perm (f n :: fl f n) := by
  rw [fl_s]
  exact List.perm_append_comm
def sk (f : Nat → en) (i : Nat) : Nat → en := fun j => if j < i then f j else f (j + 1)
theorem fl_sk (f : Nat → en) : ∀ n i, i ≤ n → (fl f (n + 1)).Perm (f i :: fl (sk f i) n) := by
  intro n
  induction n with
  | zero =>
    intro i hi
    rw [show i = 0 by omega]
    exact fl_last f 0
  | succ n ih =>
    intro i hi
    by_cases h : i = n + 1
    · subst h
      refine (fl_last f (n + 1)).trans ?_
      rw [fl_c (f := sk f (n + 1)) (g := f) (n + 1) (fun j hj => if_pos hj)]
    · have h1 := ih i (by omega)
      rw [fl_s f (n + 1), fl_s (sk f i) n, show sk f i n = f (n + 1) from if_neg (by omega)]
      exact h1.append_right [f (n + 1)]
theorem fl_up {f g : Nat → en} {i n : Nat} (hi : i < n) (hg : ∀ j, j < n → j ≠ i → g j = f j) : ∃ R, (fl f n).Perm (f i :: R) ∧ (fl g n).Perm (g i :: R) := by
  obtain ⟨m, rfl⟩ : ∃ m, n = m + 1 := ⟨n - 1, by omega⟩
  refine ⟨fl (sk f i) m, fl_sk f m i (by omega), ?_⟩
  rw [fl_c (f := sk f i) (g := sk g i) m ?_]
  · exact fl_sk g m i (by omega)
  · intro j hj
    unfold sk
    by_cases h : j < i
    · rw [if_pos h, if_pos h, hg j (by omega) (by omega)]
    · rw [if_neg h, if_neg h, hg (j + 1) (by omega) (by omega)]
theorem fl_sw {f g : Nat → en} {i n : Nat} (hi : i ≤ n) (hg : ∀ j, j < n → g j = if j = i then f n else f j) : (fl f (n + 1)).Perm (f i :: fl g n) := by
  by_cases h : i = n
  · subst h
    rw [fl_c (f := g) (g := f) i (fun j hj => by rw [hg j hj, if_neg (by omega)])]
    exact fl_last f i
  · obtain ⟨R, h1, h2⟩ := fl_up (f := f) (g := g) (i := i) (n := n) (by omega) (fun j hj hji => by rw [hg j hj, if_neg hji])
    rw [hg i (by omega), if_pos rfl] at h2
    refine (fl_last f n).trans ?_
    refine (List.Perm.cons (f n) h1).trans ?_
    refine (List.Perm.swap (f i) (f n) R).trans ?_
    exact List.Perm.cons (f i) h2.symm
/-- keys are told once -/
def nd (l : List en) : Prop := (l.map (fun e => (e.1, e.2.1))).Nodup
theorem nd_p {l l' : List en} (h : l.Perm l') (hn : nd l) : nd l' := (h.map _).nodup_iff.mp hn
theorem nd_t {e : en} {l : List en} (h : nd (e :: l)) : nd l := (List.nodup_cons.mp h).2
theorem nd_u {l : List en} (h : nd l) {a b v w : Int32} (h1 : (a, b, v) ∈ l) (h2 : (a, b, w) ∈ l) : v = w := by
  induction l with
  | nil => cases h1
  | cons e l ih =>
    have h3 : (e.1, e.2.1) ∉ l.map (fun e => (e.1, e.2.1)) := (List.nodup_cons.mp h).1
    rcases List.mem_cons.mp h1 with q1 | q1
    · rcases List.mem_cons.mp h2 with q2 | q2
      · have := q1.trans q2.symm
        cases this
        rfl
      · exact absurd (List.mem_map.mpr ⟨_, q2, by rw [← q1]⟩) h3
    · rcases List.mem_cons.mp h2 with q2 | q2
      · exact absurd (List.mem_map.mpr ⟨_, q1, by rw [← q2]⟩) h3
      · exact ih (nd_t h) q1 q2
/-- the value of a key -/
def lk (l : List en) (a b : Int32) : Option Int32 := match l with
  | [] => none
  | e :: l => if e.1 = a ∧ e.2.1 = b then some e.2.2 else lk l a b
theorem lk_mem {l : List en} {a b v : Int32} (h : lk l a b = some v) : (a, b, v) ∈ l := by
  induction l with
  | nil => cases h
  | cons e l ih =>
    rw [lk] at h
    by_cases q : e.1 = a ∧ e.2.1 = b
    · rw [if_pos q] at h
      obtain ⟨x, y, z⟩ := e
      obtain ⟨q1, q2⟩ := q
      cases h
      cases q1
      cases q2
      exact List.mem_cons_self
    · rw [if_neg q] at h
      exact List.mem_cons_of_mem _ (ih h)
theorem lk_no {l : List en} {a b : Int32} (h : lk l a b = none) (v : Int32) : (a, b, v) ∉ l := by
  induction l with
  | nil => exact List.not_mem_nil
  | cons e l ih =>
    rw [lk] at h
    by_cases q : e.1 = a ∧ e.2.1 = b
    · rw [if_pos q] at h
      cases h
    · rw [if_neg q] at h
      intro hm
      rcases List.mem_cons.mp hm with z | z
      · exact q ⟨by rw [← z], by rw [← z]⟩
      · exact ih h z
theorem lk_p {l l' : List en} (h : l.Perm l') (hn : nd l) (a b : Int32) : lk l a b = lk l' a b := by
  cases h1 : lk l a b with
  | none =>
    cases h2 : lk l' a b with
    | none => rfl
    | some w => exact absurd (h.mem_iff.mpr (lk_mem h2)) (lk_no h1 w)
  | some v =>
    cases h2 : lk l' a b with
    | none => exact absurd (h.mem_iff.mp (lk_mem h1)) (lk_no h2 v)
    | some w => rw [nd_u hn (lk_mem h1) (h.mem_iff.mpr (lk_mem h2))]
def ls (h : en → Int32) : List en → Int32
  | [] => 0
  | e :: l => h e + ls h l
theorem ls_p (h : en → Int32) {l l' : List en} (p : l.Perm l') : ls h l = ls h l' := by
  induction p with
  | nil => rfl
  | cons x _ ih => rw [ls, ls, ih]
  | swap x y l => rw [ls, ls, ls, ls, ← Int32.add_assoc, ← Int32.add_assoc, Int32.add_comm (h y)]
  | trans _ _ i1 i2 => exact i1.trans i2
theorem ls_a (h : en → Int32) (l : List en) (e : en) : ls h (l ++ [e]) = ls h l + h e := by
  induction l with
  | nil =>
    show h e + 0 = 0 + h e
    rw [Int32.add_zero, Int32.zero_add]
  | cons x l ih => rw [List.cons_append, ls, ls, ih, Int32.add_assoc]
theorem ls_fl (h : en → Int32) (f : Nat → en) : ∀ n, pa_sum (fun j => h (f j)) n = ls h (fl f n) := by
  intro n
  induction n with
  | zero => rfl
  | succ n ih => rw [fl_s, ls_a, pa_sum, ih]
/-- places -/
theorem ix_some {p : Nat → Bool} : ∀ (m i j : Nat), pa_ix p i m = some j → i ≤ j ∧ j < i + m ∧ p j = true := by
  intro m
  induction m with
  | zero => intro i j h; cases h
  | succ m ih =>
    intro i j h
    rw [pa_ix] at h
    by_cases q : p i = true
    · rw [if_pos q] at h
      cases h
      exact ⟨Nat.le_refl _, by omega, q⟩
    · rw [if_neg q] at h
      obtain ⟨h1, h2, h3⟩ := ih (i + 1) j h
      exact ⟨by omega, by omega, h3⟩
theorem ix_none {p : Nat → Bool} : ∀ (m i : Nat), pa_ix p i m = none → ∀ j, i ≤ j → j < i + m → ¬ p j = true := by
  intro m
  induction m with
  | zero => intro i _ j h1 h2; omega
  | succ m ih =>
    intro i h j h1 h2
    rw [pa_ix] at h
    by_cases q : p i = true
    · rw [if_pos q] at h
      cases h
    · rw [if_neg q] at h
      rcases Nat.eq_or_lt_of_le h1 with z | z
      · rw [← z]
        exact q
      · exact ih (i + 1) h j z (by omega)
def kf (f : Nat → en) (a b : Int32) : Nat → Bool := fun j => decide ((f j).1 = a ∧ (f j).2.1 = b)
theorem fl_mem {f : Nat → en} {n : Nat} {e : en} : e ∈ fl f n ↔ ∃ j, j < n ∧ f j = e := by
  unfold fl
  rw [List.mem_map]
  exact ⟨fun ⟨j, h1, h2⟩ => ⟨j, List.mem_range.mp h1, h2⟩, fun ⟨j, h1, h2⟩ => ⟨j, List.mem_range.mpr h1, h2⟩⟩
theorem ix_lk0 {f : Nat → en} {n : Nat} {a b : Int32} (h : pa_ix (kf f a b) 0 n = none) : lk (fl f n) a b = none := by
  cases q : lk (fl f n) a b with
  | none => rfl
  | some v =>
    obtain ⟨j, h1, h2⟩ := fl_mem.mp (lk_mem q)
    exact absurd (decide_eq_true ⟨by rw [h2], by rw [h2]⟩) (ix_none n 0 h j (by omega) (by omega))
theorem ix_lk1 {f : Nat → en} {n j : Nat} {a b : Int32} (hn : nd (fl f n)) (h : pa_ix (kf f a b) 0 n = some j) : j < n ∧ f j = (a, b, (f j).2.2) ∧ lk (fl f n) a b = some (f j).2.2 := by
  obtain ⟨-, h2, h3⟩ := ix_some n 0 j h
  obtain ⟨h4, h5⟩ := of_decide_eq_true h3
  have h6 : f j = (a, b, (f j).2.2) := by rw [← h4, ← h5]
  have h7 : (a, b, (f j).2.2) ∈ fl f n := fl_mem.mpr ⟨j, by omega, h6⟩
  refine ⟨by omega, h6, ?_⟩
  cases q : lk (fl f n) a b with
  | none => exact absurd h7 (lk_no q _)
  | some v => rw [nd_u hn h7 (lk_mem q)]

