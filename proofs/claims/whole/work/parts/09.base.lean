/-! ===== the smallest methods ===== -/
/-- at(row, i) -/
def pa_at (r : Nat → Int32) (n : Nat) (i : Int32) : Int32 := if i < 0 ∨ n ≤ i.toNatClampNeg then 0 else r i.toNatClampNeg
/-- set(row, i, v) -/
def pa_set (M : ea_M) (y n : Nat) (i v : Int32) : ea_M := if i < 0 ∨ n ≤ i.toNatClampNeg then M else ea_up M y i.toNatClampNeg v
/-- the first n places of a row are those of another -/
def pa_cp (M : ea_M) (y z n : Nat) : ea_M := fun a => if a = z then (fun j => if j < n then M y j else M z j) else M a
def pa_sum (r : Nat → Int32) : Nat → Int32
  | 0 => 0
  | c + 1 => pa_sum r c + r c
theorem pa_ofNat {n : Nat} (h : n < 2 ^ 31) : (Int32.ofNat n).toInt = (n : Int) := nI_toInt h
theorem pa_le {n : Nat} {i : Int32} (hn : n < 1000) (h0 : ¬ i < 0) : Int32.ofNat n ≤ i ↔ n ≤ i.toNatClampNeg := by
  obtain ⟨j, hj, rfl⟩ := nI_of h0
  rw [nI_clamp hj]
  exact nI_leI (by omega) hj
theorem pa_in {n : Nat} {i : Int32} (hn : n < 1000) (h0 : ¬ i < 0) (h1 : ¬ Int32.ofNat n ≤ i) : vp_in i n := by
  intro h
  rcases h with h | h
  · exact h0 h
  · exact h1 ((pa_le hn h0).mpr h)
theorem pa_at0 {r : Nat → Int32} {n : Nat} {i : Int32} (h : i < 0) : pa_at r n i = 0 := if_pos (Or.inl h)
theorem pa_at1 {r : Nat → Int32} {n : Nat} {i : Int32} (hn : n < 1000) (h : ¬ i < 0) (h1 : Int32.ofNat n ≤ i) : pa_at r n i = 0 := if_pos (Or.inr ((pa_le hn h).mp h1))
theorem pa_at2 {r : Nat → Int32} {n : Nat} {i : Int32} (hn : n < 1000) (h : ¬ i < 0) (h1 : ¬ Int32.ofNat n ≤ i) : pa_at r n i = r i.toNatClampNeg := if_neg (fun q => q.elim h (fun q => h1 ((pa_le hn h).mpr q)))
theorem pa_atN {r : Nat → Int32} {n j : Nat} (h : j < n) (hn : n < 1000) : pa_at r n (nI j) = r j := by
  unfold pa_at
  rw [if_neg (nI_in h (by omega)), nI_clamp (by omega)]
theorem pa_set0 {M : ea_M} {y n : Nat} {i v : Int32} (h : i < 0) : pa_set M y n i v = M := if_pos (Or.inl h)
theorem pa_set1 {M : ea_M} {y n : Nat} {i v : Int32} (hn : n < 1000) (h : ¬ i < 0) (h1 : Int32.ofNat n ≤ i) : pa_set M y n i v = M := if_pos (Or.inr ((pa_le hn h).mp h1))
theorem pa_set2 {M : ea_M} {y n : Nat} {i v : Int32} (hn : n < 1000) (h : ¬ i < 0) (h1 : ¬ Int32.ofNat n ≤ i) : pa_set M y n i v = ea_up M y i.toNatClampNeg v := if_neg (fun q => q.elim h (fun q => h1 ((pa_le hn h).mpr q)))
theorem pa_setN {M : ea_M} {y n j : Nat} {v : Int32} (h : j < n) (hn : n < 1000) : pa_set M y n (nI j) v = ea_up M y j v := by
  unfold pa_set
  rw [if_neg (nI_in h (by omega)), nI_clamp (by omega)]
theorem ea_upR {M : ea_M} {x k a : Nat} {v : Int32} (h : a ≠ x) : ea_up M x k v a = M a := if_neg h
theorem ea_upS {M : ea_M} {x k : Nat} {v : Int32} : ea_up M x k v x k = v := by simp [ea_up, upd]
theorem ea_upK {M : ea_M} {x k j : Nat} {v : Int32} (h : j ≠ k) : ea_up M x k v x j = M x j := by simp [ea_up, upd, h]
theorem pa_setR {M : ea_M} {y n a : Nat} {i v : Int32} (h : a ≠ y) : pa_set M y n i v a = M a := by
  unfold pa_set
  by_cases q : i < 0 ∨ n ≤ i.toNatClampNeg
  · rw [if_pos q]
  · rw [if_neg q, ea_upR h]
theorem pa_cpR {M : ea_M} {y z n a : Nat} (h : a ≠ z) : pa_cp M y z n a = M a := if_neg h
theorem e_ialdV {M : ea_M} {x : Nat} {r : Nat → Int32} (hr : M x = r) {k : ea_K} {own : String} {cc : ByteArray} {nL d : Nat} (C : ea_C k own cc nL d) {pc : Nat} {lv : List (Nat × Value)} {st : List Value} {n : Nat} {i : Int32} (hx7 : x < 79) (hkd : ea_kd x = 1000 + n) (hn : n < 1000) (hin : vp_in i n) (hd : decode cc pc = .ok (.iaload, 1)) (h : ea_E k (pc + 1) lv (.int (r i.toNatClampNeg) :: st) M) : ea_E k pc lv (.int i :: .ref x :: st) M := by
  subst hr
  exact e_iald C hx7 hkd hn hin hd h
set_option maxRecDepth 100000 in
set_option maxHeartbeats 4000000 in
theorem kb_X6_at_0 {k : ea_K} {o : Option Value} {M' : ea_M} (C : ea_C k RX6 cX6_at 2 0) (X : ea_X k (some .int) o M') {M : ea_M} {y n : Nat} {i : Int32} (hy : ea_kd y = 1000 + n) (hny : n < 1000)  (h2 : i < 0 → o = some (.int (0 : Int32)) ∧ M' = M) (h4 : ¬ i < 0 → (Int32.ofNat n) ≤ i → o = some (.int (0 : Int32)) ∧ M' = M) (s5 : ¬ i < 0 → ¬ (Int32.ofNat n) ≤ i → vp_in i n) (h6 : ¬ i < 0 → ¬ (Int32.ofNat n) ≤ i → o = some (.int (M y i.toNatClampNeg)) ∧ M' = M) : ea_E k 0 [(0, .ref y), (1, .int i)] [] M := by
  refine e_aload_n (n := 0) C dX6_at_0 rfl rfl ?_
  refine e_ifnull C dX6_at_1 ?_
  refine e_iload_n (n := 1) C dX6_at_4 rfl rfl ?_
  refine e_if_lt (tgt := 20) C dX6_at_5 (by decide) (fun c1 => ?_) (fun c1 => ?_)
  · refine e_iconst (v := 0) C dX6_at_20 (by decide) ?_
    exact e_iret C X rfl (vp_nar_int _) dX6_at_21 (h2 c1)
  · refine e_iload_n (n := 1) C dX6_at_8 rfl rfl ?_
    refine e_aload_n (n := 0) C dX6_at_9 rfl rfl ?_
    refine e_alenI (n := n) (v := (Int32.ofNat n)) C (ea_ltA hy hny) hy hny rfl dX6_at_10 ?_
    refine e_icmp_ge (tgt := 20) C dX6_at_11 (by decide) (fun c3 => ?_) (fun c3 => ?_)
    · refine e_iconst (v := 0) C dX6_at_20 (by decide) ?_
      exact e_iret C X rfl (vp_nar_int _) dX6_at_21 (h4 c1 c3)
    · refine e_aload_n (n := 0) C dX6_at_14 rfl rfl ?_
      refine e_iload_n (n := 1) C dX6_at_15 rfl rfl ?_
      refine e_iald (n := n) C (ea_ltA hy hny) hy hny (s5 c1 c3) dX6_at_16 ?_
      refine e_goto (tgt := 21) C dX6_at_17 (by decide) ?_
      exact e_iret C X rfl (vp_nar_int _) dX6_at_21 (h6 c1 c3)
set_option maxRecDepth 100000 in
set_option maxHeartbeats 4000000 in
theorem kb_X6_set_0 {k : ea_K} {o : Option Value} {M' : ea_M} (C : ea_C k RX6 cX6_set 3 0) (X : ea_X k none o M') {M : ea_M} {y n : Nat} {i v : Int32} (hy : ea_kd y = 1000 + n) (hny : n < 1000)  (h2 : i < 0 → o = none ∧ M' = M) (h4 : ¬ i < 0 → (Int32.ofNat n) ≤ i → o = none ∧ M' = M) (s5 : ¬ i < 0 → ¬ (Int32.ofNat n) ≤ i → vp_in i n) (h6 : ¬ i < 0 → ¬ (Int32.ofNat n) ≤ i → o = none ∧ M' = (ea_up M y i.toNatClampNeg v)) : ea_E k 0 [(0, .ref y), (1, .int i), (2, .int v)] [] M := by
  refine e_aload_n (n := 0) C dX6_set_0 rfl rfl ?_
  refine e_ifnull C dX6_set_1 ?_
  refine e_iload_n (n := 1) C dX6_set_4 rfl rfl ?_
  refine e_if_lt (tgt := 18) C dX6_set_5 (by decide) (fun c1 => ?_) (fun c1 => ?_)
  · exact e_vret C X dX6_set_18 (h2 c1)
  · refine e_iload_n (n := 1) C dX6_set_8 rfl rfl ?_
    refine e_aload_n (n := 0) C dX6_set_9 rfl rfl ?_
    refine e_alenI (n := n) (v := (Int32.ofNat n)) C (ea_ltA hy hny) hy hny rfl dX6_set_10 ?_
    refine e_icmp_ge (tgt := 18) C dX6_set_11 (by decide) (fun c3 => ?_) (fun c3 => ?_)
    · exact e_vret C X dX6_set_18 (h4 c1 c3)
    · refine e_aload_n (n := 0) C dX6_set_14 rfl rfl ?_
      refine e_iload_n (n := 1) C dX6_set_15 rfl rfl ?_
      refine e_iload_n (n := 2) C dX6_set_16 rfl rfl ?_
      refine e_iast (n := n) C (ea_ltA hy hny) hy hny (s5 c1 c3) dX6_set_17 ?_
      exact e_vret C X dX6_set_18 (h6 c1 c3)
theorem sp_X6_at (M : ea_M) (y n : Nat) (i : Int32) (hy : ea_kd y = 1000 + n) (hn : n < 1000) : ea_Sp 0 yX6_at cX6_at 2 (some .int) [.ref y, .int i] M (some (.int (pa_at (M y) n i))) M := by
  refine ea_intro (own := RX6) (by decide +kernel) rfl (fun g => Nat.le_of_ble_eq_true rfl) (fun k C X => ?_)
  exact kb_X6_at_0 C X hy hn (fun c => ⟨by rw [pa_at0 c], rfl⟩) (fun c d => ⟨by rw [pa_at1 hn c d], rfl⟩) (fun c d => pa_in hn c d) (fun c d => ⟨by rw [pa_at2 hn c d], rfl⟩)
theorem sp_X6_atR (M : ea_M) (y n : Nat) (i : Int32) (r : Nat → Int32) (hr : M y = r) (hy : ea_kd y = 1000 + n) (hn : n < 1000) : ea_Sp 0 yX6_at cX6_at 2 (some .int) [.ref y, .int i] M (some (.int (pa_at r n i))) M := hr ▸ sp_X6_at M y n i hy hn
theorem sp_X6_set (M : ea_M) (y n : Nat) (i v : Int32) (hy : ea_kd y = 1000 + n) (hn : n < 1000) : ea_Sp 0 yX6_set cX6_set 3 none [.ref y, .int i, .int v] M none (pa_set M y n i v) := by
  refine ea_intro (own := RX6) (by decide +kernel) rfl (fun g => Nat.le_of_ble_eq_true rfl) (fun k C X => ?_)
  exact kb_X6_set_0 C X hy hn (fun c => ⟨rfl, by rw [pa_set0 c]⟩) (fun c d => ⟨rfl, by rw [pa_set1 hn c d]⟩) (fun c d => pa_in hn c d) (fun c d => ⟨rfl, by rw [pa_set2 hn c d]⟩)
set_option maxRecDepth 100000 in
set_option maxHeartbeats 4000000 in
theorem kb_X6_copyRow_0 {k : ea_K} {o : Option Value} {M' : ea_M} (C : ea_C k RX6 cX6_copyRow 3 1) (X : ea_X k none o M') {M : ea_M} {y n z : Nat} (hy : ea_kd y = 1000 + n) (hny : n < 1000) (hz : ea_kd z = 1000 + n) (hnz : n < 1000)  (h1 : ea_E k 2 [(0, .ref y), (1, .ref z), (2, .int (0 : Int32))] [] M) : ea_E k 0 [(0, .ref y), (1, .ref z)] [] M := by
  refine e_iconst (v := 0) C dX6_copyRow_0 (by decide) ?_
  refine e_istore_n C dX6_copyRow_1 rfl (by decide) rfl ?_
  refine e_perm C [1, 2, 0] rfl ?_
  exact h1
set_option maxRecDepth 100000 in
set_option maxHeartbeats 4000000 in
theorem kb_X6_copyRow_2 {k : ea_K} {o : Option Value} {M' : ea_M} (C : ea_C k RX6 cX6_copyRow 3 1) (X : ea_X k none o M') {M : ea_M} {y n z : Nat} {i : Int32} (hy : ea_kd y = 1000 + n) (hny : n < 1000) (hz : ea_kd z = 1000 + n) (hnz : n < 1000)  (h2 : (Int32.ofNat n) ≤ i → o = none ∧ M' = M) (s3 : ¬ (Int32.ofNat n) ≤ i → vp_in i n) (h4 : ¬ (Int32.ofNat n) ≤ i → ea_E k 2 [(0, .ref y), (1, .ref z), (2, .int (i + 1))] [] (ea_up M z i.toNatClampNeg (pa_at (M y) n i))) : ea_E k 2 [(0, .ref y), (1, .ref z), (2, .int i)] [] M := by
  refine e_aload_n (n := 1) C dX6_copyRow_2 rfl rfl ?_
  refine e_ifnull C dX6_copyRow_3 ?_
  refine e_iload_n (n := 2) C dX6_copyRow_6 rfl rfl ?_
  refine e_aload_n (n := 1) C dX6_copyRow_7 rfl rfl ?_
  refine e_alenI (n := n) (v := (Int32.ofNat n)) C (ea_ltA hz hnz) hz hnz rfl dX6_copyRow_8 ?_
  refine e_icmp_ge (tgt := 26) C dX6_copyRow_9 (by decide) (fun c1 => ?_) (fun c1 => ?_)
  · exact e_vret C X dX6_copyRow_26 (h2 c1)
  · refine e_aload_n (n := 1) C dX6_copyRow_12 rfl rfl ?_
    refine e_iload_n (n := 2) C dX6_copyRow_13 rfl rfl ?_
    refine e_aload_n (n := 0) C dX6_copyRow_14 rfl rfl ?_
    refine e_iload_n (n := 2) C dX6_copyRow_15 rfl rfl ?_
    refine e_callS1 (as := [.ref y, .int i]) (rest := [.int i, .ref z]) C lk_X6_98 (sp_X6_at M y n i hy hny ) (by decide) rfl rfl (Nat.le_of_ble_eq_true rfl) dX6_copyRow_16 ?_
    refine e_iast (n := n) C (ea_ltA hz hnz) hz hnz (s3 c1) dX6_copyRow_19 ?_
    refine e_iinc (n := 2) (v := (i + 1)) C dX6_copyRow_20 rfl rfl (by decide) rfl ?_
    refine e_goto (tgt := 2) C dX6_copyRow_23 (by decide) ?_
    refine e_perm C [1, 2, 0] rfl ?_
    exact (h4 c1)
set_option maxRecDepth 100000 in
set_option maxHeartbeats 4000000 in
theorem kb_X6_total_0 {k : ea_K} {o : Option Value} {M' : ea_M} (C : ea_C k RX6 cX6_total 4 1) (X : ea_X k (some .int) o M') {M : ea_M} {y n : Nat} {c : Int32} (hy : ea_kd y = 1000 + n) (hny : n < 1000)  (h1 : ea_E k 4 [(0, .ref y), (1, .int c), (2, .int (0 : Int32)), (3, .int (0 : Int32))] [] M) : ea_E k 0 [(0, .ref y), (1, .int c)] [] M := by
  refine e_iconst (v := 0) C dX6_total_0 (by decide) ?_
  refine e_istore_n C dX6_total_1 rfl (by decide) rfl ?_
  refine e_iconst (v := 0) C dX6_total_2 (by decide) ?_
  refine e_istore_n C dX6_total_3 rfl (by decide) rfl ?_
  refine e_perm C [2, 3, 1, 0] rfl ?_
  exact h1
set_option maxRecDepth 100000 in
set_option maxHeartbeats 4000000 in
theorem kb_X6_total_4 {k : ea_K} {o : Option Value} {M' : ea_M} (C : ea_C k RX6 cX6_total 4 1) (X : ea_X k (some .int) o M') {M : ea_M} {y n : Nat} {c acc i : Int32} (hy : ea_kd y = 1000 + n) (hny : n < 1000)  (h2 : c ≤ i → o = some (.int acc) ∧ M' = M) (h3 : ¬ c ≤ i → ea_E k 4 [(0, .ref y), (1, .int c), (2, .int (acc + (pa_at (M y) n i))), (3, .int (i + 1))] [] M) : ea_E k 4 [(0, .ref y), (1, .int c), (2, .int acc), (3, .int i)] [] M := by
  refine e_iload_n (n := 3) C dX6_total_4 rfl rfl ?_
  refine e_iload_n (n := 1) C dX6_total_5 rfl rfl ?_
  refine e_icmp_ge (tgt := 23) C dX6_total_6 (by decide) (fun c1 => ?_) (fun c1 => ?_)
  · refine e_iload_n (n := 2) C dX6_total_23 rfl rfl ?_
    exact e_iret C X rfl (vp_nar_int _) dX6_total_24 (h2 c1)
  · refine e_iload_n (n := 2) C dX6_total_9 rfl rfl ?_
    refine e_aload_n (n := 0) C dX6_total_10 rfl rfl ?_
    refine e_iload_n (n := 3) C dX6_total_11 rfl rfl ?_
    refine e_callS1 (as := [.ref y, .int i]) (rest := [.int acc]) C lk_X6_98 (sp_X6_at M y n i hy hny ) (by decide) rfl rfl (Nat.le_of_ble_eq_true rfl) dX6_total_12 ?_
    refine e_iadd C dX6_total_15 ?_
    refine e_istore_n C dX6_total_16 rfl (by decide) rfl ?_
    refine e_iinc (n := 3) (v := (i + 1)) C dX6_total_17 rfl rfl (by decide) rfl ?_
    refine e_goto (tgt := 4) C dX6_total_20 (by decide) ?_
    refine e_perm C [2, 3, 1, 0] rfl ?_
    exact (h3 c1)
def f_X6_cut (a b : Int64) : Int64 := (if b = (0 : Int64) then (0 : Int64) else (a / b))
set_option maxRecDepth 100000 in
set_option maxHeartbeats 4000000 in
theorem sp_X6_cut {M : ea_M} {a b : Int64}    : ea_Sp 0 yX6_cut cX6_cut 4 (some .long) [.long a, .long b] M (some (.long (f_X6_cut a b))) M := by
  refine ea_intro (own := RX6) (by decide +kernel) rfl (fun g => Nat.le_of_ble_eq_true rfl) (fun k C X => ?_)
  obtain ⟨o, ho⟩ : ∃ z : Option Value, z = (some (.long (f_X6_cut a b))) := ⟨_, rfl⟩
  obtain ⟨M', hM'⟩ : ∃ z : ea_M, z = M := ⟨_, rfl⟩
  rw [← ho, ← hM'] at X
  have h2 : ¬ b = (0 : Int64) → o = some (.long (a / b)) ∧ M' = M := by
    intro w0
    subst ho hM'
    exact ⟨by simp only [f_X6_cut, if_neg w0], by rfl⟩
  have h3 : b = (0 : Int64) → o = some (.long (0 : Int64)) ∧ M' = M := by
    intro w0
    subst ho hM'
    exact ⟨by simp only [f_X6_cut, if_pos w0], by rfl⟩
  refine e_lload_n (n := 1) C dX6_cut_0 rfl rfl ?_
  refine e_lconst (v := 0) C dX6_cut_1 (by decide) ?_
  refine e_lc_ne (tgt := 10) C dX6_cut_2 dX6_cut_3 (by decide) (fun c1 => ?_) (fun c1 => ?_)
  · refine e_lload_n (n := 0) C dX6_cut_10 rfl rfl ?_
    refine e_lload_n (n := 1) C dX6_cut_11 rfl rfl ?_
    refine e_ldiv C dX6_cut_12 c1 ?_
    exact e_lret C X dX6_cut_13 (h2 c1)
  · refine e_lconst (v := 0) C dX6_cut_6 (by decide) ?_
    refine e_goto (tgt := 13) C dX6_cut_7 (by decide) ?_
    exact e_lret C X dX6_cut_13 (h3 c1)
abbrev p_X6_isPart (i : Int32) : Prop := ((i = 0) ∨ i = (1 : Int32))
set_option maxRecDepth 100000 in
set_option maxHeartbeats 4000000 in
theorem sp_X6_isPart {M : ea_M} {i : Int32}    : ea_Sp 0 yX6_isPart cX6_isPart 1 (some .boolean) [.int i] M (some (.int (if p_X6_isPart i then (1 : Int32) else 0))) M := by
  refine ea_intro (own := RX6) (by decide +kernel) rfl (fun g => Nat.le_of_ble_eq_true rfl) (fun k C X => ?_)
  obtain ⟨o, ho⟩ : ∃ z : Option Value, z = (some (.int (if p_X6_isPart i then (1 : Int32) else 0))) := ⟨_, rfl⟩
  obtain ⟨M', hM'⟩ : ∃ z : ea_M, z = M := ⟨_, rfl⟩
  rw [← ho, ← hM'] at X
  have h2 : i = 0 → o = some (.int (1 : Int32)) ∧ M' = M := by
    intro w0
    subst ho hM'
    exact ⟨congrArg (fun z => some (Value.int z)) (if_pos (Or.inl w0)), by rfl⟩
  have h4 : ¬ i = 0 → ¬ i = (1 : Int32) → o = some (.int (0 : Int32)) ∧ M' = M := by
    intro w0 w1
    subst ho hM'
    exact ⟨congrArg (fun z => some (Value.int z)) (if_neg (fun h => h.elim (fun q => absurd q w0) (fun q => w1 q))), by rfl⟩
  have h5 : ¬ i = 0 → i = (1 : Int32) → o = some (.int (1 : Int32)) ∧ M' = M := by
    intro w0 w1
    subst ho hM'
    exact ⟨congrArg (fun z => some (Value.int z)) (if_pos (Or.inr w1)), by rfl⟩
  refine e_iload_n (n := 0) C dX6_isPart_0 rfl rfl ?_
  refine e_if_eq (tgt := 9) C dX6_isPart_1 (by decide) (fun c1 => ?_) (fun c1 => ?_)
  · refine e_iconst (v := 1) C dX6_isPart_9 (by decide) ?_
    refine e_goto (tgt := 14) C dX6_isPart_10 (by decide) ?_
    exact e_iret C X rfl rfl dX6_isPart_14 (h2 c1)
  · refine e_iload_n (n := 0) C dX6_isPart_4 rfl rfl ?_
    refine e_iconst (v := 1) C dX6_isPart_5 (by decide) ?_
    refine e_icmp_ne (tgt := 13) C dX6_isPart_6 (by decide) (fun c3 => ?_) (fun c3 => ?_)
    · refine e_iconst (v := 0) C dX6_isPart_13 (by decide) ?_
      exact e_iret C X rfl rfl dX6_isPart_14 (h4 c1 c3)
    · refine e_iconst (v := 1) C dX6_isPart_9 (by decide) ?_
      refine e_goto (tgt := 14) C dX6_isPart_10 (by decide) ?_
      exact e_iret C X rfl rfl dX6_isPart_14 (h5 c1 c3)
abbrev p_X6_isHeat (i : Int32) : Prop := (¬ (i < 0) ∧ ¬ ((20000 : Int32) < i))
set_option maxRecDepth 100000 in
set_option maxHeartbeats 4000000 in
theorem sp_X6_isHeat {M : ea_M} {i : Int32}    : ea_Sp 0 yX6_isHeat cX6_isHeat 1 (some .boolean) [.int i] M (some (.int (if p_X6_isHeat i then (1 : Int32) else 0))) M := by
  refine ea_intro (own := RX6) (by decide +kernel) rfl (fun g => Nat.le_of_ble_eq_true rfl) (fun k C X => ?_)
  obtain ⟨o, ho⟩ : ∃ z : Option Value, z = (some (.int (if p_X6_isHeat i then (1 : Int32) else 0))) := ⟨_, rfl⟩
  obtain ⟨M', hM'⟩ : ∃ z : ea_M, z = M := ⟨_, rfl⟩
  rw [← ho, ← hM'] at X
  have h2 : i < 0 → o = some (.int (0 : Int32)) ∧ M' = M := by
    intro w0
    subst ho hM'
    exact ⟨congrArg (fun z => some (Value.int z)) (if_neg (fun h => absurd w0 h.1)), by rfl⟩
  have h4 : ¬ i < 0 → (20000 : Int32) < i → o = some (.int (0 : Int32)) ∧ M' = M := by
    intro w0 w1
    subst ho hM'
    exact ⟨congrArg (fun z => some (Value.int z)) (if_neg (fun h => h.2 w1)), by rfl⟩
  have h5 : ¬ i < 0 → ¬ (20000 : Int32) < i → o = some (.int (1 : Int32)) ∧ M' = M := by
    intro w0 w1
    subst ho hM'
    exact ⟨congrArg (fun z => some (Value.int z)) (if_pos (⟨w0, w1⟩)), by rfl⟩
  refine e_iload_n (n := 0) C dX6_isHeat_0 rfl rfl ?_
  refine e_if_lt (tgt := 15) C dX6_isHeat_1 (by decide) (fun c1 => ?_) (fun c1 => ?_)
  · refine e_iconst (v := 0) C dX6_isHeat_15 (by decide) ?_
    exact e_iret C X rfl rfl dX6_isHeat_16 (h2 c1)
  · refine e_iload_n (n := 0) C dX6_isHeat_4 rfl rfl ?_
    refine e_sipush (v := 20000) C dX6_isHeat_5 (by decide) ?_
    refine e_icmp_gt (tgt := 15) C dX6_isHeat_8 (by decide) (fun c3 => ?_) (fun c3 => ?_)
    · refine e_iconst (v := 0) C dX6_isHeat_15 (by decide) ?_
      exact e_iret C X rfl rfl dX6_isHeat_16 (h4 c1 c3)
    · refine e_iconst (v := 1) C dX6_isHeat_11 (by decide) ?_
      refine e_goto (tgt := 16) C dX6_isHeat_12 (by decide) ?_
      exact e_iret C X rfl rfl dX6_isHeat_16 (h5 c1 c3)
abbrev p_X6_isDegrees (i : Int32) : Prop := (¬ (i < 0) ∧ ¬ ((999 : Int32) < i))
set_option maxRecDepth 100000 in
set_option maxHeartbeats 4000000 in
theorem sp_X6_isDegrees {M : ea_M} {i : Int32}    : ea_Sp 0 yX6_isDegrees cX6_isDegrees 1 (some .boolean) [.int i] M (some (.int (if p_X6_isDegrees i then (1 : Int32) else 0))) M := by
  refine ea_intro (own := RX6) (by decide +kernel) rfl (fun g => Nat.le_of_ble_eq_true rfl) (fun k C X => ?_)
  obtain ⟨o, ho⟩ : ∃ z : Option Value, z = (some (.int (if p_X6_isDegrees i then (1 : Int32) else 0))) := ⟨_, rfl⟩
  obtain ⟨M', hM'⟩ : ∃ z : ea_M, z = M := ⟨_, rfl⟩
  rw [← ho, ← hM'] at X
  have h2 : i < 0 → o = some (.int (0 : Int32)) ∧ M' = M := by
    intro w0
    subst ho hM'
    exact ⟨congrArg (fun z => some (Value.int z)) (if_neg (fun h => absurd w0 h.1)), by rfl⟩
  have h4 : ¬ i < 0 → (999 : Int32) < i → o = some (.int (0 : Int32)) ∧ M' = M := by
    intro w0 w1
    subst ho hM'
    exact ⟨congrArg (fun z => some (Value.int z)) (if_neg (fun h => h.2 w1)), by rfl⟩
  have h5 : ¬ i < 0 → ¬ (999 : Int32) < i → o = some (.int (1 : Int32)) ∧ M' = M := by
    intro w0 w1
    subst ho hM'
    exact ⟨congrArg (fun z => some (Value.int z)) (if_pos (⟨w0, w1⟩)), by rfl⟩
  refine e_iload_n (n := 0) C dX6_isDegrees_0 rfl rfl ?_
  refine e_if_lt (tgt := 15) C dX6_isDegrees_1 (by decide) (fun c1 => ?_) (fun c1 => ?_)
  · refine e_iconst (v := 0) C dX6_isDegrees_15 (by decide) ?_
    exact e_iret C X rfl rfl dX6_isDegrees_16 (h2 c1)
  · refine e_iload_n (n := 0) C dX6_isDegrees_4 rfl rfl ?_
    refine e_sipush (v := 999) C dX6_isDegrees_5 (by decide) ?_
    refine e_icmp_gt (tgt := 15) C dX6_isDegrees_8 (by decide) (fun c3 => ?_) (fun c3 => ?_)
    · refine e_iconst (v := 0) C dX6_isDegrees_15 (by decide) ?_
      exact e_iret C X rfl rfl dX6_isDegrees_16 (h4 c1 c3)
    · refine e_iconst (v := 1) C dX6_isDegrees_11 (by decide) ?_
      refine e_goto (tgt := 16) C dX6_isDegrees_12 (by decide) ?_
      exact e_iret C X rfl rfl dX6_isDegrees_16 (h5 c1 c3)
abbrev p_X6_isKey (i j : Int32) : Prop := (¬ (i < 0) ∧ (¬ ((25 : Int32) < i) ∧ (¬ (j < (-99 : Int32)) ∧ ¬ ((99 : Int32) < j))))
set_option maxRecDepth 100000 in
set_option maxHeartbeats 4000000 in
theorem sp_X6_isKey {M : ea_M} {i j : Int32}    : ea_Sp 0 yX6_isKey cX6_isKey 2 (some .boolean) [.int i, .int j] M (some (.int (if p_X6_isKey i j then (1 : Int32) else 0))) M := by
  refine ea_intro (own := RX6) (by decide +kernel) rfl (fun g => Nat.le_of_ble_eq_true rfl) (fun k C X => ?_)
  obtain ⟨o, ho⟩ : ∃ z : Option Value, z = (some (.int (if p_X6_isKey i j then (1 : Int32) else 0))) := ⟨_, rfl⟩
  obtain ⟨M', hM'⟩ : ∃ z : ea_M, z = M := ⟨_, rfl⟩
  rw [← ho, ← hM'] at X
  have h2 : i < 0 → o = some (.int (0 : Int32)) ∧ M' = M := by
    intro w0
    subst ho hM'
    exact ⟨congrArg (fun z => some (Value.int z)) (if_neg (fun h => absurd w0 h.1)), by rfl⟩
  have h4 : ¬ i < 0 → (25 : Int32) < i → o = some (.int (0 : Int32)) ∧ M' = M := by
    intro w0 w1
    subst ho hM'
    exact ⟨congrArg (fun z => some (Value.int z)) (if_neg (fun h => absurd w1 h.2.1)), by rfl⟩
  have h6 : ¬ i < 0 → ¬ (25 : Int32) < i → j < (-99 : Int32) → o = some (.int (0 : Int32)) ∧ M' = M := by
    intro w0 w1 w2
    subst ho hM'
    exact ⟨congrArg (fun z => some (Value.int z)) (if_neg (fun h => absurd w2 h.2.2.1)), by rfl⟩
  have h8 : ¬ i < 0 → ¬ (25 : Int32) < i → ¬ j < (-99 : Int32) → (99 : Int32) < j → o = some (.int (0 : Int32)) ∧ M' = M := by
    intro w0 w1 w2 w3
    subst ho hM'
    exact ⟨congrArg (fun z => some (Value.int z)) (if_neg (fun h => h.2.2.2 w3)), by rfl⟩
  have h9 : ¬ i < 0 → ¬ (25 : Int32) < i → ¬ j < (-99 : Int32) → ¬ (99 : Int32) < j → o = some (.int (1 : Int32)) ∧ M' = M := by
    intro w0 w1 w2 w3
    subst ho hM'
    exact ⟨congrArg (fun z => some (Value.int z)) (if_pos (⟨w0, (⟨w1, (⟨w2, w3⟩)⟩)⟩)), by rfl⟩
  refine e_iload_n (n := 0) C dX6_isKey_0 rfl rfl ?_
  refine e_if_lt (tgt := 26) C dX6_isKey_1 (by decide) (fun c1 => ?_) (fun c1 => ?_)
  · refine e_iconst (v := 0) C dX6_isKey_26 (by decide) ?_
    exact e_iret C X rfl rfl dX6_isKey_27 (h2 c1)
  · refine e_iload_n (n := 0) C dX6_isKey_4 rfl rfl ?_
    refine e_bipush (v := 25) C dX6_isKey_5 (by decide) ?_
    refine e_icmp_gt (tgt := 26) C dX6_isKey_7 (by decide) (fun c3 => ?_) (fun c3 => ?_)
    · refine e_iconst (v := 0) C dX6_isKey_26 (by decide) ?_
      exact e_iret C X rfl rfl dX6_isKey_27 (h4 c1 c3)
    · refine e_iload_n (n := 1) C dX6_isKey_10 rfl rfl ?_
      refine e_bipush (v := -99) C dX6_isKey_11 (by decide) ?_
      refine e_icmp_lt (tgt := 26) C dX6_isKey_13 (by decide) (fun c5 => ?_) (fun c5 => ?_)
      · refine e_iconst (v := 0) C dX6_isKey_26 (by decide) ?_
        exact e_iret C X rfl rfl dX6_isKey_27 (h6 c1 c3 c5)
      · refine e_iload_n (n := 1) C dX6_isKey_16 rfl rfl ?_
        refine e_bipush (v := 99) C dX6_isKey_17 (by decide) ?_
        refine e_icmp_gt (tgt := 26) C dX6_isKey_19 (by decide) (fun c7 => ?_) (fun c7 => ?_)
        · refine e_iconst (v := 0) C dX6_isKey_26 (by decide) ?_
          exact e_iret C X rfl rfl dX6_isKey_27 (h8 c1 c3 c5 c7)
        · refine e_iconst (v := 1) C dX6_isKey_22 (by decide) ?_
          refine e_goto (tgt := 27) C dX6_isKey_23 (by decide) ?_
          exact e_iret C X rfl rfl dX6_isKey_27 (h9 c1 c3 c5 c7)
def f_X6_halfResists (i : Int32) : Int64 := (f_X6_cut (232792560 : Int64) ((i).toInt64))
set_option maxRecDepth 100000 in
set_option maxHeartbeats 4000000 in
theorem sp_X6_halfResists {M : ea_M} {i : Int32}    : ea_Sp 1 yX6_halfResists cX6_halfResists 1 (some .long) [.int i] M (some (.long (f_X6_halfResists i))) M := by
  refine ea_intro (own := RX6) (by decide +kernel) rfl (fun g => Nat.le_of_ble_eq_true rfl) (fun k C X => ?_)
  obtain ⟨o, ho⟩ : ∃ z : Option Value, z = (some (.long (f_X6_halfResists i))) := ⟨_, rfl⟩
  obtain ⟨M', hM'⟩ : ∃ z : ea_M, z = M := ⟨_, rfl⟩
  rw [← ho, ← hM'] at X
  have h1 : o = some (.long (f_X6_cut (232792560 : Int64) ((i).toInt64))) ∧ M' = M := by
    subst ho hM'
    exact ⟨by simp only [f_X6_halfResists], by rfl⟩
  refine e_ldc2 C kc_X6_288 dX6_halfResists_0 ?_
  refine e_iload_n (n := 0) C dX6_halfResists_3 rfl rfl ?_
  refine e_i2l C dX6_halfResists_4 ?_
  refine e_callS1 (as := [.long (232792560 : Int64), .long ((i).toInt64)]) (rest := []) C lk_X6_285 (sp_X6_cut (M := M) (a := (232792560 : Int64)) (b := ((i).toInt64)) ) (by decide) rfl rfl (Nat.le_of_ble_eq_true rfl) dX6_halfResists_5 ?_
  exact e_lret C X dX6_halfResists_8 h1
abbrev p_X7_in (v a b : Int64) : Prop := (¬ (v < a) ∧ ¬ (b < v))
set_option maxRecDepth 100000 in
set_option maxHeartbeats 4000000 in
theorem sp_X7_in {M : ea_M} {v a b : Int64}    : ea_Sp 0 yX7_in cX7_in 6 (some .boolean) [.long v, .long a, .long b] M (some (.int (if p_X7_in v a b then (1 : Int32) else 0))) M := by
  refine ea_intro (own := RX7) (by decide +kernel) rfl (fun g => Nat.le_of_ble_eq_true rfl) (fun k C X => ?_)
  obtain ⟨o, ho⟩ : ∃ z : Option Value, z = (some (.int (if p_X7_in v a b then (1 : Int32) else 0))) := ⟨_, rfl⟩
  obtain ⟨M', hM'⟩ : ∃ z : ea_M, z = M := ⟨_, rfl⟩
  rw [← ho, ← hM'] at X
  have h2 : v < a → o = some (.int (0 : Int32)) ∧ M' = M := by
    intro w0
    subst ho hM'
    exact ⟨congrArg (fun z => some (Value.int z)) (if_neg (fun h => absurd w0 h.1)), by rfl⟩
  have h4 : ¬ v < a → b < v → o = some (.int (0 : Int32)) ∧ M' = M := by
    intro w0 w1
    subst ho hM'
    exact ⟨congrArg (fun z => some (Value.int z)) (if_neg (fun h => h.2 w1)), by rfl⟩
  have h5 : ¬ v < a → ¬ b < v → o = some (.int (1 : Int32)) ∧ M' = M := by
    intro w0 w1
    subst ho hM'
    exact ⟨congrArg (fun z => some (Value.int z)) (if_pos (⟨w0, w1⟩)), by rfl⟩
  refine e_lload_n (n := 0) C dX7_in_0 rfl rfl ?_
  refine e_lload_n (n := 1) C dX7_in_1 rfl rfl ?_
  refine e_lc_lt (tgt := 17) C dX7_in_2 dX7_in_3 (by decide) (fun c1 => ?_) (fun c1 => ?_)
  · refine e_iconst (v := 0) C dX7_in_17 (by decide) ?_
    exact e_iret C X rfl rfl dX7_in_18 (h2 c1)
  · refine e_lload_n (n := 0) C dX7_in_6 rfl rfl ?_
    refine e_lload (n := 2) C dX7_in_7 rfl ?_
    refine e_lc_gt (tgt := 17) C dX7_in_9 dX7_in_10 (by decide) (fun c3 => ?_) (fun c3 => ?_)
    · refine e_iconst (v := 0) C dX7_in_17 (by decide) ?_
      exact e_iret C X rfl rfl dX7_in_18 (h4 c1 c3)
    · refine e_iconst (v := 1) C dX7_in_13 (by decide) ?_
      refine e_goto (tgt := 18) C dX7_in_14 (by decide) ?_
      exact e_iret C X rfl rfl dX7_in_18 (h5 c1 c3)
abbrev p_X7_isSmall (i : Int32) : Prop := p_X7_in ((i).toInt64) (97 : Int64) (122 : Int64)
set_option maxRecDepth 100000 in
set_option maxHeartbeats 4000000 in
theorem sp_X7_isSmall {M : ea_M} {i : Int32}    : ea_Sp 1 yX7_isSmall cX7_isSmall 1 (some .boolean) [.int i] M (some (.int (if p_X7_isSmall i then (1 : Int32) else 0))) M := by
  refine ea_intro (own := RX7) (by decide +kernel) rfl (fun g => Nat.le_of_ble_eq_true rfl) (fun k C X => ?_)
  obtain ⟨o, ho⟩ : ∃ z : Option Value, z = (some (.int (if p_X7_isSmall i then (1 : Int32) else 0))) := ⟨_, rfl⟩
  obtain ⟨M', hM'⟩ : ∃ z : ea_M, z = M := ⟨_, rfl⟩
  rw [← ho, ← hM'] at X
  have h1 : o = some (.int (if p_X7_in ((i).toInt64) (97 : Int64) (122 : Int64) then (1 : Int32) else 0)) ∧ M' = M := by
    subst ho hM'
    exact ⟨congrArg (fun z => some (Value.int z)) (pa_bc ⟨fun h => h, fun h => h⟩), by rfl⟩
  refine e_iload_n (n := 0) C dX7_isSmall_0 rfl rfl ?_
  refine e_i2l C dX7_isSmall_1 ?_
  refine e_ldc2 C kc_X7_74 dX7_isSmall_2 ?_
  refine e_ldc2 C kc_X7_76 dX7_isSmall_5 ?_
  refine e_callS1 (as := [.long ((i).toInt64), .long (97 : Int64), .long (122 : Int64)]) (rest := []) C lk_X7_64 (sp_X7_in (M := M) (v := ((i).toInt64)) (a := (97 : Int64)) (b := (122 : Int64)) ) (by decide) rfl rfl (Nat.le_of_ble_eq_true rfl) dX7_isSmall_8 ?_
  exact e_iret C X rfl (ea_nz (pa_b01 (p_X7_in ((i).toInt64) (97 : Int64) (122 : Int64)))) dX7_isSmall_11 h1
abbrev p_X7_isDigit (i : Int32) : Prop := p_X7_in ((i).toInt64) (48 : Int64) (57 : Int64)
set_option maxRecDepth 100000 in
set_option maxHeartbeats 4000000 in
theorem sp_X7_isDigit {M : ea_M} {i : Int32}    : ea_Sp 1 yX7_isDigit cX7_isDigit 1 (some .boolean) [.int i] M (some (.int (if p_X7_isDigit i then (1 : Int32) else 0))) M := by
  refine ea_intro (own := RX7) (by decide +kernel) rfl (fun g => Nat.le_of_ble_eq_true rfl) (fun k C X => ?_)
  obtain ⟨o, ho⟩ : ∃ z : Option Value, z = (some (.int (if p_X7_isDigit i then (1 : Int32) else 0))) := ⟨_, rfl⟩
  obtain ⟨M', hM'⟩ : ∃ z : ea_M, z = M := ⟨_, rfl⟩
  rw [← ho, ← hM'] at X
  have h1 : o = some (.int (if p_X7_in ((i).toInt64) (48 : Int64) (57 : Int64) then (1 : Int32) else 0)) ∧ M' = M := by
    subst ho hM'
    exact ⟨congrArg (fun z => some (Value.int z)) (pa_bc ⟨fun h => h, fun h => h⟩), by rfl⟩
  refine e_iload_n (n := 0) C dX7_isDigit_0 rfl rfl ?_
  refine e_i2l C dX7_isDigit_1 ?_
  refine e_ldc2 C kc_X7_78 dX7_isDigit_2 ?_
  refine e_ldc2 C kc_X7_80 dX7_isDigit_5 ?_
  refine e_callS1 (as := [.long ((i).toInt64), .long (48 : Int64), .long (57 : Int64)]) (rest := []) C lk_X7_64 (sp_X7_in (M := M) (v := ((i).toInt64)) (a := (48 : Int64)) (b := (57 : Int64)) ) (by decide) rfl rfl (Nat.le_of_ble_eq_true rfl) dX7_isDigit_8 ?_
  exact e_iret C X rfl (ea_nz (pa_b01 (p_X7_in ((i).toInt64) (48 : Int64) (57 : Int64)))) dX7_isDigit_11 h1
abbrev p_X7_isPage (i : Int32) : Prop := p_X7_in ((i).toInt64) (0 : Int64) (2 : Int64)
set_option maxRecDepth 100000 in
set_option maxHeartbeats 4000000 in
theorem sp_X7_isPage {M : ea_M} {i : Int32}    : ea_Sp 1 yX7_isPage cX7_isPage 1 (some .boolean) [.int i] M (some (.int (if p_X7_isPage i then (1 : Int32) else 0))) M := by
  refine ea_intro (own := RX7) (by decide +kernel) rfl (fun g => Nat.le_of_ble_eq_true rfl) (fun k C X => ?_)
  obtain ⟨o, ho⟩ : ∃ z : Option Value, z = (some (.int (if p_X7_isPage i then (1 : Int32) else 0))) := ⟨_, rfl⟩
  obtain ⟨M', hM'⟩ : ∃ z : ea_M, z = M := ⟨_, rfl⟩
  rw [← ho, ← hM'] at X
  have h1 : o = some (.int (if p_X7_in ((i).toInt64) (0 : Int64) (2 : Int64) then (1 : Int32) else 0)) ∧ M' = M := by
    subst ho hM'
    exact ⟨congrArg (fun z => some (Value.int z)) (pa_bc ⟨fun h => h, fun h => h⟩), by rfl⟩
  refine e_iload_n (n := 0) C dX7_isPage_0 rfl rfl ?_
  refine e_i2l C dX7_isPage_1 ?_
  refine e_lconst (v := 0) C dX7_isPage_2 (by decide) ?_
  refine e_ldc2 C kc_X7_191 dX7_isPage_3 ?_
  refine e_callS1 (as := [.long ((i).toInt64), .long (0 : Int64), .long (2 : Int64)]) (rest := []) C lk_X7_64 (sp_X7_in (M := M) (v := ((i).toInt64)) (a := (0 : Int64)) (b := (2 : Int64)) ) (by decide) rfl rfl (Nat.le_of_ble_eq_true rfl) dX7_isPage_6 ?_
  exact e_iret C X rfl (ea_nz (pa_b01 (p_X7_in ((i).toInt64) (0 : Int64) (2 : Int64)))) dX7_isPage_9 h1
abbrev p_X7_isKey (i j : Int32) : Prop := ((p_X7_in ((i).toInt64) (0 : Int64) (25 : Int64)) ∧ p_X7_in ((j).toInt64) (-99 : Int64) (99 : Int64))
set_option maxRecDepth 100000 in
set_option maxHeartbeats 4000000 in
theorem sp_X7_isKey {M : ea_M} {i j : Int32}    : ea_Sp 1 yX7_isKey cX7_isKey 2 (some .boolean) [.int i, .int j] M (some (.int (if p_X7_isKey i j then (1 : Int32) else 0))) M := by
  refine ea_intro (own := RX7) (by decide +kernel) rfl (fun g => Nat.le_of_ble_eq_true rfl) (fun k C X => ?_)
  obtain ⟨o, ho⟩ : ∃ z : Option Value, z = (some (.int (if p_X7_isKey i j then (1 : Int32) else 0))) := ⟨_, rfl⟩
  obtain ⟨M', hM'⟩ : ∃ z : ea_M, z = M := ⟨_, rfl⟩
  rw [← ho, ← hM'] at X
  have h2 : ¬ p_X7_in ((i).toInt64) (0 : Int64) (25 : Int64) → o = some (.int (0 : Int32)) ∧ M' = M := by
    intro w0
    subst ho hM'
    exact ⟨congrArg (fun z => some (Value.int z)) (if_neg (fun h => absurd h.1 w0)), by rfl⟩
  have h4 : p_X7_in ((i).toInt64) (0 : Int64) (25 : Int64) → ¬ p_X7_in ((j).toInt64) (-99 : Int64) (99 : Int64) → o = some (.int (0 : Int32)) ∧ M' = M := by
    intro w0 w1
    subst ho hM'
    exact ⟨congrArg (fun z => some (Value.int z)) (if_neg (fun h => w1 h.2)), by rfl⟩
  have h5 : p_X7_in ((i).toInt64) (0 : Int64) (25 : Int64) → p_X7_in ((j).toInt64) (-99 : Int64) (99 : Int64) → o = some (.int (1 : Int32)) ∧ M' = M := by
    intro w0 w1
    subst ho hM'
    exact ⟨congrArg (fun z => some (Value.int z)) (if_pos (⟨w0, w1⟩)), by rfl⟩
  refine e_iload_n (n := 0) C dX7_isKey_0 rfl rfl ?_
  refine e_i2l C dX7_isKey_1 ?_
  refine e_lconst (v := 0) C dX7_isKey_2 (by decide) ?_
  refine e_ldc2 C kc_X7_231 dX7_isKey_3 ?_
  refine e_callS1 (as := [.long ((i).toInt64), .long (0 : Int64), .long (25 : Int64)]) (rest := []) C lk_X7_64 (sp_X7_in (M := M) (v := ((i).toInt64)) (a := (0 : Int64)) (b := (25 : Int64)) ) (by decide) rfl rfl (Nat.le_of_ble_eq_true rfl) dX7_isKey_6 ?_
  refine e_ifb_eq (tgt := 30) C dX7_isKey_9 (by decide) (fun c1 => ?_) (fun c1 => ?_)
  · refine e_iconst (v := 0) C dX7_isKey_30 (by decide) ?_
    exact e_iret C X rfl rfl dX7_isKey_31 (h2 c1)
  · refine e_iload_n (n := 1) C dX7_isKey_12 rfl rfl ?_
    refine e_i2l C dX7_isKey_13 ?_
    refine e_ldc2 C kc_X7_233 dX7_isKey_14 ?_
    refine e_ldc2 C kc_X7_235 dX7_isKey_17 ?_
    refine e_callS1 (as := [.long ((j).toInt64), .long (-99 : Int64), .long (99 : Int64)]) (rest := []) C lk_X7_64 (sp_X7_in (M := M) (v := ((j).toInt64)) (a := (-99 : Int64)) (b := (99 : Int64)) ) (by decide) rfl rfl (Nat.le_of_ble_eq_true rfl) dX7_isKey_20 ?_
    refine e_ifb_eq (tgt := 30) C dX7_isKey_23 (by decide) (fun c3 => ?_) (fun c3 => ?_)
    · refine e_iconst (v := 0) C dX7_isKey_30 (by decide) ?_
      exact e_iret C X rfl rfl dX7_isKey_31 (h4 c1 c3)
    · refine e_iconst (v := 1) C dX7_isKey_26 (by decide) ?_
      refine e_goto (tgt := 31) C dX7_isKey_27 (by decide) ?_
      exact e_iret C X rfl rfl dX7_isKey_31 (h5 c1 c3)
def f_X7_lesser (a b : Int32) : Int32 := (if b ≤ a then b else a)
set_option maxRecDepth 100000 in
set_option maxHeartbeats 4000000 in
theorem sp_X7_lesser {M : ea_M} {a b : Int32}    : ea_Sp 0 yX7_lesser cX7_lesser 2 (some .int) [.int a, .int b] M (some (.int (f_X7_lesser a b))) M := by
  refine ea_intro (own := RX7) (by decide +kernel) rfl (fun g => Nat.le_of_ble_eq_true rfl) (fun k C X => ?_)
  obtain ⟨o, ho⟩ : ∃ z : Option Value, z = (some (.int (f_X7_lesser a b))) := ⟨_, rfl⟩
  obtain ⟨M', hM'⟩ : ∃ z : ea_M, z = M := ⟨_, rfl⟩
  rw [← ho, ← hM'] at X
  have h2 : b ≤ a → o = some (.int b) ∧ M' = M := by
    intro w0
    subst ho hM'
    exact ⟨by simp only [f_X7_lesser, if_pos w0], by rfl⟩
  have h3 : ¬ b ≤ a → o = some (.int a) ∧ M' = M := by
    intro w0
    subst ho hM'
    exact ⟨by simp only [f_X7_lesser, if_neg w0], by rfl⟩
  refine e_iload_n (n := 0) C dX7_lesser_0 rfl rfl ?_
  refine e_iload_n (n := 1) C dX7_lesser_1 rfl rfl ?_
  refine e_icmp_ge (tgt := 9) C dX7_lesser_2 (by decide) (fun c1 => ?_) (fun c1 => ?_)
  · refine e_iload_n (n := 1) C dX7_lesser_9 rfl rfl ?_
    exact e_iret C X rfl (vp_nar_int _) dX7_lesser_10 (h2 c1)
  · refine e_iload_n (n := 0) C dX7_lesser_5 rfl rfl ?_
    refine e_goto (tgt := 10) C dX7_lesser_6 (by decide) ?_
    exact e_iret C X rfl (vp_nar_int _) dX7_lesser_10 (h3 c1)
def f_X3_kindOf (i : Int32) : Int32 := (if i < (97 : Int32) then (if i < (48 : Int32) then (3 : Int32) else (if (57 : Int32) < i then (3 : Int32) else (2 : Int32))) else (if (122 : Int32) < i then (if i < (48 : Int32) then (3 : Int32) else (if (57 : Int32) < i then (3 : Int32) else (2 : Int32))) else (1 : Int32)))
set_option maxRecDepth 100000 in
set_option maxHeartbeats 4000000 in
theorem sp_X3_kindOf {M : ea_M} {i : Int32}    : ea_Sp 0 yX3_kindOf cX3_kindOf 1 (some .int) [.int i] M (some (.int (f_X3_kindOf i))) M := by
  refine ea_intro (own := RX3) (by decide +kernel) rfl (fun g => Nat.le_of_ble_eq_true rfl) (fun k C X => ?_)
  obtain ⟨o, ho⟩ : ∃ z : Option Value, z = (some (.int (f_X3_kindOf i))) := ⟨_, rfl⟩
  obtain ⟨M', hM'⟩ : ∃ z : ea_M, z = M := ⟨_, rfl⟩
  rw [← ho, ← hM'] at X
  have h3 : i < (97 : Int32) → i < (48 : Int32) → o = some (.int (3 : Int32)) ∧ M' = M := by
    intro w0 w1
    subst ho hM'
    exact ⟨by simp only [f_X3_kindOf, if_pos w0, if_pos w1], by rfl⟩
  have h5 : i < (97 : Int32) → ¬ i < (48 : Int32) → (57 : Int32) < i → o = some (.int (3 : Int32)) ∧ M' = M := by
    intro w0 w1 w2
    subst ho hM'
    exact ⟨by simp only [f_X3_kindOf, if_pos w0, if_neg w1, if_pos w2], by rfl⟩
  have h6 : i < (97 : Int32) → ¬ i < (48 : Int32) → ¬ (57 : Int32) < i → o = some (.int (2 : Int32)) ∧ M' = M := by
    intro w0 w1 w2
    subst ho hM'
    exact ⟨by simp only [f_X3_kindOf, if_pos w0, if_neg w1, if_neg w2], by rfl⟩
  have h9 : ¬ i < (97 : Int32) → (122 : Int32) < i → i < (48 : Int32) → o = some (.int (3 : Int32)) ∧ M' = M := by
    intro w0 w1 w2
    subst ho hM'
    exact ⟨by simp only [f_X3_kindOf, if_neg w0, if_pos w1, if_pos w2], by rfl⟩
  have h11 : ¬ i < (97 : Int32) → (122 : Int32) < i → ¬ i < (48 : Int32) → (57 : Int32) < i → o = some (.int (3 : Int32)) ∧ M' = M := by
    intro w0 w1 w2 w3
    subst ho hM'
    exact ⟨by simp only [f_X3_kindOf, if_neg w0, if_pos w1, if_neg w2, if_pos w3], by rfl⟩
  have h12 : ¬ i < (97 : Int32) → (122 : Int32) < i → ¬ i < (48 : Int32) → ¬ (57 : Int32) < i → o = some (.int (2 : Int32)) ∧ M' = M := by
    intro w0 w1 w2 w3
    subst ho hM'
    exact ⟨by simp only [f_X3_kindOf, if_neg w0, if_pos w1, if_neg w2, if_neg w3], by rfl⟩
  have h13 : ¬ i < (97 : Int32) → ¬ (122 : Int32) < i → o = some (.int (1 : Int32)) ∧ M' = M := by
    intro w0 w1
    subst ho hM'
    exact ⟨by simp only [f_X3_kindOf, if_neg w0, if_neg w1], by rfl⟩
  refine e_iload_n (n := 0) C dX3_kindOf_0 rfl rfl ?_
  refine e_bipush (v := 97) C dX3_kindOf_1 (by decide) ?_
  refine e_icmp_lt (tgt := 14) C dX3_kindOf_3 (by decide) (fun c1 => ?_) (fun c1 => ?_)
  · refine e_iload_n (n := 0) C dX3_kindOf_14 rfl rfl ?_
    refine e_bipush (v := 48) C dX3_kindOf_15 (by decide) ?_
    refine e_icmp_lt (tgt := 30) C dX3_kindOf_17 (by decide) (fun c2 => ?_) (fun c2 => ?_)
    · refine e_iconst (v := 3) C dX3_kindOf_30 (by decide) ?_
      exact e_iret C X rfl (vp_nar_int _) dX3_kindOf_31 (h3 c1 c2)
    · refine e_iload_n (n := 0) C dX3_kindOf_20 rfl rfl ?_
      refine e_bipush (v := 57) C dX3_kindOf_21 (by decide) ?_
      refine e_icmp_gt (tgt := 30) C dX3_kindOf_23 (by decide) (fun c4 => ?_) (fun c4 => ?_)
      · refine e_iconst (v := 3) C dX3_kindOf_30 (by decide) ?_
        exact e_iret C X rfl (vp_nar_int _) dX3_kindOf_31 (h5 c1 c2 c4)
      · refine e_iconst (v := 2) C dX3_kindOf_26 (by decide) ?_
        refine e_goto (tgt := 31) C dX3_kindOf_27 (by decide) ?_
        exact e_iret C X rfl (vp_nar_int _) dX3_kindOf_31 (h6 c1 c2 c4)
  · refine e_iload_n (n := 0) C dX3_kindOf_6 rfl rfl ?_
    refine e_bipush (v := 122) C dX3_kindOf_7 (by decide) ?_
    refine e_icmp_gt (tgt := 14) C dX3_kindOf_9 (by decide) (fun c7 => ?_) (fun c7 => ?_)
    · refine e_iload_n (n := 0) C dX3_kindOf_14 rfl rfl ?_
      refine e_bipush (v := 48) C dX3_kindOf_15 (by decide) ?_
      refine e_icmp_lt (tgt := 30) C dX3_kindOf_17 (by decide) (fun c8 => ?_) (fun c8 => ?_)
      · refine e_iconst (v := 3) C dX3_kindOf_30 (by decide) ?_
        exact e_iret C X rfl (vp_nar_int _) dX3_kindOf_31 (h9 c1 c7 c8)
      · refine e_iload_n (n := 0) C dX3_kindOf_20 rfl rfl ?_
        refine e_bipush (v := 57) C dX3_kindOf_21 (by decide) ?_
        refine e_icmp_gt (tgt := 30) C dX3_kindOf_23 (by decide) (fun c10 => ?_) (fun c10 => ?_)
        · refine e_iconst (v := 3) C dX3_kindOf_30 (by decide) ?_
          exact e_iret C X rfl (vp_nar_int _) dX3_kindOf_31 (h11 c1 c7 c8 c10)
        · refine e_iconst (v := 2) C dX3_kindOf_26 (by decide) ?_
          refine e_goto (tgt := 31) C dX3_kindOf_27 (by decide) ?_
          exact e_iret C X rfl (vp_nar_int _) dX3_kindOf_31 (h12 c1 c7 c8 c10)
    · refine e_iconst (v := 1) C dX3_kindOf_12 (by decide) ?_
      exact e_iret C X rfl (vp_nar_int _) dX3_kindOf_13 (h13 c1 c7)
theorem pa_up (M : ea_M) (x k : Nat) (v : Int32) (a b : Nat) : ea_up M x k v a b = if a = x then (if b = k then v else M x b) else M a b := by
  unfold ea_up upd
  by_cases h : a = x <;> simp [h]
theorem pa_cp0 (M : ea_M) (y z : Nat) : pa_cp M y z 0 = M := by
  funext a j
  unfold pa_cp
  by_cases h : a = z <;> simp [h]
theorem pa_cpS {M : ea_M} {y z i n : Nat} (h : y ≠ z) (hi : i < n) (hn : n < 1000) : ea_up (pa_cp M y z i) z (nI i).toNatClampNeg (pa_at ((pa_cp M y z i) y) n (nI i)) = pa_cp M y z (i + 1) := by
  funext a b
  rw [pa_up, nI_clamp (by omega), pa_atN hi hn]
  by_cases ha : a = z
  · subst ha
    simp only [if_true, pa_cp, if_neg h]
    by_cases hb : b = i
    · subst hb
      simp
    · simp only [if_neg hb]
      by_cases hc : b < i
      · simp [hc, Nat.lt_succ_of_lt hc]
      · have : ¬ b < i + 1 := by omega
        simp [hc, this]
  · simp [ha, pa_cp]
theorem sp_X6_copyRow (M : ea_M) (y z n : Nat) (h : y ≠ z) (hy : ea_kd y = 1000 + n) (hz : ea_kd z = 1000 + n) (hn : n < 1000) : ea_Sp 1 yX6_copyRow cX6_copyRow 3 none [.ref y, .ref z] M none (pa_cp M y z n) := by
  refine ea_intro (own := RX6) (by decide +kernel) rfl (fun g => Nat.le_of_ble_eq_true rfl) (fun k C X => ?_)
  have loop : ∀ (m i : Nat), i + m = n → ea_E k 2 [(0, .ref y), (1, .ref z), (2, .int (nI i))] [] (pa_cp M y z i) := by
    intro m
    induction m with
    | zero =>
      intro i hi
      refine kb_X6_copyRow_2 C X hy hn hz hn (fun _ => ⟨rfl, by rw [show i = n by omega]⟩) (fun c => ?_) (fun c => ?_)
      · exact absurd (nI_le (by omega) (by omega)) c
      · exact absurd (nI_le (by omega) (by omega)) c
    | succ m ih =>
      intro i hi
      refine kb_X6_copyRow_2 C X hy hn hz hn (fun c => ?_) (fun c => vp_in_nI (by omega) (by omega)) (fun c => ?_)
      · exact absurd c (nI_ge (show i < n by omega) (by omega))
      · rw [pa_cpS h (show i < n by omega) hn, nI_1]
        exact ih (i + 1) (by omega)
  have h0 := loop n 0 (by omega)
  rw [pa_cp0] at h0
  exact kb_X6_copyRow_0 C X hy hn hz hn h0
theorem sp_X6_total (M : ea_M) (y n c : Nat) (hc : c ≤ n) (hy : ea_kd y = 1000 + n) (hn : n < 1000) : ea_Sp 1 yX6_total cX6_total 4 (some .int) [.ref y, .int (nI c)] M (some (.int (pa_sum (M y) c))) M := by
  refine ea_intro (own := RX6) (by decide +kernel) rfl (fun g => Nat.le_of_ble_eq_true rfl) (fun k C X => ?_)
  have loop : ∀ (m i : Nat), i + m = c → ea_E k 4 [(0, .ref y), (1, .int (nI c)), (2, .int (pa_sum (M y) i)), (3, .int (nI i))] [] M := by
    intro m
    induction m with
    | zero =>
      intro i hi
      refine kb_X6_total_4 C X hy hn (fun _ => ⟨by rw [show i = c by omega], rfl⟩) (fun c => ?_)
      exact absurd (nI_le (by omega) (by omega)) c
    | succ m ih =>
      intro i hi
      refine kb_X6_total_4 C X hy hn (fun q => ?_) (fun q => ?_)
      · exact absurd q (nI_ge (show i < c by omega) (by omega))
      · rw [pa_atN (show i < n by omega) hn, nI_1]
        exact ih (i + 1) (by omega)
  exact kb_X6_total_0 C X hy hn (loop c 0 (by omega))
set_option maxRecDepth 100000 in
set_option maxHeartbeats 4000000 in
theorem kb_X6_cD_0 {k : ea_K} {o : Option Value} {M' : ea_M} (C : ea_C k RX6 cX6_commonDivisor 11 0) (X : ea_X k (some .long) o M') {M : ea_M} {a b : Int64}   (h1 : ea_E k 9 [(4, .long a), (6, .long b), (8, .int (0 : Int32))] [] M) : ea_E k 0 [(0, .long a), (2, .long b)] [] M := by
  refine e_lload_n (n := 0) C dX6_commonDivisor_0 rfl rfl ?_
  refine e_lstore C dX6_commonDivisor_1 (by decide) rfl ?_
  refine e_lload_n (n := 2) C dX6_commonDivisor_3 rfl rfl ?_
  refine e_lstore C dX6_commonDivisor_4 (by decide) rfl ?_
  refine e_iconst (v := 0) C dX6_commonDivisor_6 (by decide) ?_
  refine e_istore C dX6_commonDivisor_7 (by decide) rfl ?_
  refine e_perm C [2, 1, 0] rfl ?_
  exact h1
set_option maxRecDepth 100000 in
set_option maxHeartbeats 4000000 in
theorem kb_X6_cD_9 {k : ea_K} {o : Option Value} {M' : ea_M} (C : ea_C k RX6 cX6_commonDivisor 11 0) (X : ea_X k (some .long) o M') {M : ea_M} {t : Int32} {a b : Int64}   (h2 : (200 : Int32) ≤ t → o = some (.long a) ∧ M' = M) (h4 : ¬ (200 : Int32) ≤ t → b = (0 : Int64) → o = some (.long a) ∧ M' = M) (h5 : ¬ (200 : Int32) ≤ t → ¬ b = (0 : Int64) → ea_E k 9 [(4, .long b), (6, .long (a - a / b * b)), (8, .int (t + 1))] [] M) : ea_E k 9 [(4, .long a), (6, .long b), (8, .int t)] [] M := by
  refine e_iload (n := 2) C dX6_commonDivisor_9 rfl ?_
  refine e_sipush (v := 200) C dX6_commonDivisor_11 (by decide) ?_
  refine e_icmp_ge (tgt := 45) C dX6_commonDivisor_14 (by decide) (fun c1 => ?_) (fun c1 => ?_)
  · refine e_lload (n := 0) C dX6_commonDivisor_45 rfl ?_
    exact e_lret C X dX6_commonDivisor_47 (h2 c1)
  · refine e_lload (n := 1) C dX6_commonDivisor_17 rfl ?_
    refine e_lconst (v := 0) C dX6_commonDivisor_19 (by decide) ?_
    refine e_lc_eq (tgt := 45) C dX6_commonDivisor_20 dX6_commonDivisor_21 (by decide) (fun c3 => ?_) (fun c3 => ?_)
    · refine e_lload (n := 0) C dX6_commonDivisor_45 rfl ?_
      exact e_lret C X dX6_commonDivisor_47 (h4 c1 c3)
    · refine e_lload (n := 0) C dX6_commonDivisor_24 rfl ?_
      refine e_lload (n := 1) C dX6_commonDivisor_26 rfl ?_
      refine e_lrem C dX6_commonDivisor_28 c3 ?_
      refine e_lstore C dX6_commonDivisor_29 (by decide) rfl ?_
      refine e_lload (n := 2) C dX6_commonDivisor_31 rfl ?_
      refine e_lstore C dX6_commonDivisor_33 (by decide) rfl ?_
      refine e_lload (n := 1) C dX6_commonDivisor_35 rfl ?_
      refine e_lstore C dX6_commonDivisor_37 (by decide) rfl ?_
      refine e_iinc (n := 3) (v := (t + 1)) C dX6_commonDivisor_39 rfl rfl (by decide) rfl ?_
      refine e_goto (tgt := 9) C dX6_commonDivisor_42 (by decide) ?_
      refine e_perm C [2, 1, 0] rfl ?_
      exact (h5 c1 c3)
theorem pa_half {B r : Nat} (h0 : 0 < r) (h1 : r < B) : 2 * (B % r) < B := by
  have h2 := Nat.mod_lt B h0
  have h3 := Nat.div_add_mod B r
  have h4 : 1 ≤ B / r := (Nat.le_div_iff_mul_le h0).mpr (by omega)
  have h5 : r * 1 ≤ r * (B / r) := Nat.mul_le_mul_left r h4
  omega
theorem pa_gcd (A B : Nat) : Nat.gcd A B = Nat.gcd B (A % B) := by
  rw [Nat.gcd_comm A B, Nat.gcd_rec B A, Nat.gcd_comm]
theorem pa_l0 {B : Nat} (h : B < 2 ^ 63) (q : lN B = 0) : B = 0 := (pk_lEQ h (by decide)).mp (q.trans (by decide : (0 : Int64) = lN 0))
theorem sp_X6_commonDivisor (M : ea_M) (A B : Nat) (hA : A < 2 ^ 63) (hB : B < 2 ^ 63) : ea_Sp 0 yX6_commonDivisor cX6_commonDivisor 11 (some .long) [.long (lN A), .long (lN B)] M (some (.long (lN (Nat.gcd A B)))) M := by
  refine ea_intro (own := RX6) (by decide +kernel) rfl (fun g => Nat.le_of_ble_eq_true rfl) (fun k C X => ?_)
  have fin : ∀ (a t : Nat), Nat.gcd A B = a → t < 200 → ea_E k 9 [(4, .long (lN a)), (6, .long (lN 0)), (8, .int (nI t))] [] M := by
    intro a t ha ht
    refine kb_X6_cD_9 C X (fun q => ⟨by rw [ha], rfl⟩) (fun _ q => ⟨by rw [ha], rfl⟩) (fun _ q => ?_)
    exact absurd (by decide : lN 0 = 0) q
  have step : ∀ (a b t : Nat), a < 2 ^ 63 → b < 2 ^ 63 → 0 < b → t < 200 → ea_E k 9 [(4, .long (lN b)), (6, .long (lN (a % b))), (8, .int (nI (t + 1)))] [] M → ea_E k 9 [(4, .long (lN a)), (6, .long (lN b)), (8, .int (nI t))] [] M := by
    intro a b t ha hb h0 ht h
    refine kb_X6_cD_9 C X (fun q => ?_) (fun _ q => ?_) (fun _ q => ?_)
    · exact absurd q (nI_ge (show t < 200 from ht) (by decide))
    · exact absurd (pa_l0 hb q) (by omega)
    · rw [pk_lRem ha h0 hb, nI_1]
      exact h
  have loop : ∀ (j t a b : Nat), a < 2 ^ 63 → b < 2 ^ 63 → b < 2 ^ j → t + 2 * j + 1 ≤ 200 → Nat.gcd A B = Nat.gcd a b → ea_E k 9 [(4, .long (lN a)), (6, .long (lN b)), (8, .int (nI t))] [] M := by
    intro j
    induction j with
    | zero =>
      intro t a b ha hb hj ht hg
      have : b = 0 := by omega
      subst this
      exact fin a t (by rw [hg, Nat.gcd_zero_right]) (by omega)
    | succ j ih =>
      intro t a b ha hb hj ht hg
      rcases Nat.eq_zero_or_pos b with h0 | h0
      · subst h0
        exact fin a t (by rw [hg, Nat.gcd_zero_right]) (by omega)
      · refine step a b t ha hb h0 (by omega) ?_
        have hr := Nat.mod_lt a h0
        have hg2 : Nat.gcd A B = Nat.gcd b (a % b) := hg.trans (pa_gcd a b)
        rcases Nat.eq_zero_or_pos (a % b) with h1 | h1
        · rw [h1] at hg2 ⊢
          exact fin b (t + 1) (by rw [hg2, Nat.gcd_zero_right]) (by omega)
        · refine step b (a % b) (t + 1) hb (by omega) h1 (by omega) ?_
          have h2 := pa_half h1 hr
          exact ih (t + 2) (a % b) (b % (a % b)) (by omega) (by omega) (by rw [Nat.pow_succ] at hj; omega) (by omega) (hg2.trans (pa_gcd b (a % b)))
  exact kb_X6_cD_0 C X (loop 63 0 A B hA hB (by omega) (by decide) rfl)
set_option maxRecDepth 100000 in
set_option maxHeartbeats 4000000 in
theorem kb_X6_lowest_0 {k : ea_K} {o : Option Value} {M' : ea_M} (C : ea_C k RX6 cX6_lowest 5 1) (X : ea_X k (some .long) o M') {M : ea_M} {part : Int32} {a b r : Int64}   (q2 : ¬ part = 0 → ea_Sp 0 yX6_commonDivisor cX6_commonDivisor 11 (some .long) [.long (if 0 < a then a else -a), .long b] M (some (.long r)) M) (h3 : ¬ part = 0 → o = some (.long (f_X6_cut b r)) ∧ M' = M) (q4 : part = 0 → ea_Sp 0 yX6_commonDivisor cX6_commonDivisor 11 (some .long) [.long (if 0 < a then a else -a), .long b] M (some (.long r)) M) (h5 : part = 0 → o = some (.long (f_X6_cut a r)) ∧ M' = M) : ea_E k 0 [(0, .long a), (2, .long b), (4, .int part)] [] M := by
  refine e_iload (n := 2) C dX6_lowest_0 rfl ?_
  refine e_if_ne (tgt := 9) C dX6_lowest_2 (by decide) (fun c1 => ?_) (fun c1 => ?_)
  · refine e_lload_n (n := 1) C dX6_lowest_9 rfl rfl ?_
    refine e_lload_n (n := 0) C dX6_lowest_10 rfl rfl ?_
    refine e_mabsL C (wsm_20 (List.mem_of_getElem? (i := 15) rfl)) (wsm_20 (List.mem_of_getElem? (i := 16) rfl)) (wsm_13 (List.mem_of_getElem? (i := 2) rfl)) (wsm_20 (List.mem_of_getElem? (i := 17) rfl)) (by decide) (Nat.le_of_ble_eq_true rfl) dX6_lowest_11 ?_
    refine e_lload_n (n := 1) C dX6_lowest_14 rfl rfl ?_
    refine e_callS1 (as := [.long (if 0 < a then a else -a), .long b]) (rest := [.long b]) C lk_X6_281 (q2 c1) (by decide) rfl rfl (Nat.le_of_ble_eq_true rfl) dX6_lowest_15 ?_
    refine e_callS1 (as := [.long b, .long r]) (rest := []) C lk_X6_285 (sp_X6_cut (M := M) (a := b) (b := r) ) (by decide) rfl rfl (Nat.le_of_ble_eq_true rfl) dX6_lowest_18 ?_
    exact e_lret C X dX6_lowest_21 (h3 c1)
  · refine e_lload_n (n := 0) C dX6_lowest_5 rfl rfl ?_
    refine e_goto (tgt := 10) C dX6_lowest_6 (by decide) ?_
    refine e_lload_n (n := 0) C dX6_lowest_10 rfl rfl ?_
    refine e_mabsL C (wsm_20 (List.mem_of_getElem? (i := 15) rfl)) (wsm_20 (List.mem_of_getElem? (i := 16) rfl)) (wsm_13 (List.mem_of_getElem? (i := 2) rfl)) (wsm_20 (List.mem_of_getElem? (i := 17) rfl)) (by decide) (Nat.le_of_ble_eq_true rfl) dX6_lowest_11 ?_
    refine e_lload_n (n := 1) C dX6_lowest_14 rfl rfl ?_
    refine e_callS1 (as := [.long (if 0 < a then a else -a), .long b]) (rest := [.long a]) C lk_X6_281 (q4 c1) (by decide) rfl rfl (Nat.le_of_ble_eq_true rfl) dX6_lowest_15 ?_
    refine e_callS1 (as := [.long a, .long r]) (rest := []) C lk_X6_285 (sp_X6_cut (M := M) (a := a) (b := r) ) (by decide) rfl rfl (Nat.le_of_ble_eq_true rfl) dX6_lowest_18 ?_
    exact e_lret C X dX6_lowest_21 (h5 c1)
theorem sp_X6_lowest (M : ea_M) (A B : Nat) (part : Int32) (hA : A < 2 ^ 63) (hB : B < 2 ^ 63) (h0 : 0 < B) : ea_Sp 1 yX6_lowest cX6_lowest 5 (some .long) [.long (lN A), .long (lN B), .int part] M (some (.long (lN ((if part = 0 then A else B) / Nat.gcd A B)))) M := by
  refine ea_intro (own := RX6) (by decide +kernel) rfl (fun g => Nat.le_of_ble_eq_true rfl) (fun k C X => ?_)
  have hab : (if 0 < lN A then lN A else -lN A) = lN A := by
    by_cases h : 0 < lN A
    · rw [if_pos h]
    · have : A = 0 := by
        rcases Nat.eq_zero_or_pos A with q | q
        · exact q
        · exact absurd ((pk_lLT (by decide : (0 : Nat) < 2 ^ 63) hA).mpr q) h
      subst this
      decide
  have hg0 : 0 < Nat.gcd A B := Nat.gcd_pos_of_pos_right A h0
  have hgB : Nat.gcd A B ≤ B := Nat.gcd_le_right A h0
  have hne : ¬ lN (Nat.gcd A B) = 0 := fun q => absurd (pa_l0 (by omega) q) (by omega)
  have hcd : ea_Sp 0 yX6_commonDivisor cX6_commonDivisor 11 (some .long) [.long (if 0 < lN A then lN A else -lN A), .long (lN B)] M (some (.long (lN (Nat.gcd A B)))) M := by
    rw [hab]
    exact sp_X6_commonDivisor M A B hA hB
  have hcut : ∀ z : Nat, z < 2 ^ 63 → f_X6_cut (lN z) (lN (Nat.gcd A B)) = lN (z / Nat.gcd A B) := by
    intro z hz
    unfold f_X6_cut
    rw [if_neg hne, pk_lDiv hz hg0 (by omega)]
  refine kb_X6_lowest_0 C X (r := lN (Nat.gcd A B)) (fun _ => hcd) (fun c => ⟨?_, rfl⟩) (fun _ => hcd) (fun c => ⟨?_, rfl⟩)
  · rw [if_neg c, hcut B hB]
  · rw [if_pos c, hcut A hA]
