set_option maxRecDepth 100000 in
set_option maxHeartbeats 4000000 in
theorem kb_X4_stuffNamed_0 {k : ea_K} {o : Option Value} {M' : ea_M} (C : ea_C k RX4 cX4_stuffNamed 5 2) (X : ea_X k (some .int) o M') {M : ea_M} {x : Nat} {a b : Int32} (hx : ea_kd x = 4)  (h1 : ea_E k 3 [(0, .ref x), (1, .ref 2), (2, .int a), (3, .int b), (4, .int (0 : Int32))] [] M) : ea_E k 0 [(0, .ref x), (1, .ref 2), (2, .int a), (3, .int b)] [] M := by
  refine e_iconst (v := 0) C dX4_stuffNamed_0 (by decide) ?_
  refine e_istore C dX4_stuffNamed_1 (by decide) rfl ?_
  refine e_perm C [1, 2, 3, 4, 0] rfl ?_
  exact h1
set_option maxRecDepth 100000 in
set_option maxHeartbeats 4000000 in
theorem kb_X4_stuffNamed_3 {k : ea_K} {o : Option Value} {M' : ea_M} (C : ea_C k RX4 cX4_stuffNamed 5 2) (X : ea_X k (some .int) o M') {M : ea_M} {x : Nat} {a b i r : Int32} (hx : ea_kd x = 4)  (h2 : (M x 0) ≤ i → o = some (.int (-1 : Int32)) ∧ M' = M) (q3 : ¬ (M x 0) ≤ i → ea_Sp 1 yX4_isNamed cX4_isNamed 9 (some .boolean) [.ref x, .int i, .ref 2, .int a, .int b] M (some (.int r)) M) (h5 : ¬ (M x 0) ≤ i → r = 0 → ea_E k 3 [(0, .ref x), (1, .ref 2), (2, .int a), (3, .int b), (4, .int (i + 1))] [] M) (h6 : ¬ (M x 0) ≤ i → ¬ r = 0 → o = some (.int i) ∧ M' = M) : ea_E k 3 [(0, .ref x), (1, .ref 2), (2, .int a), (3, .int b), (4, .int i)] [] M := by
  refine e_iload (n := 4) C dX4_stuffNamed_3 rfl ?_
  refine e_aload_n (n := 0) C dX4_stuffNamed_5 rfl rfl ?_
  refine e_get (v := .int (M x 0)) C fd_X4_37 (ea_ltO (by decide) hx) hx rfl dX4_stuffNamed_6 ?_
  refine e_icmp_ge (tgt := 33) C dX4_stuffNamed_9 (by decide) (fun c1 => ?_) (fun c1 => ?_)
  · refine e_iconst (v := -1) C dX4_stuffNamed_33 (by decide) ?_
    exact e_iret C X rfl (vp_nar_int _) dX4_stuffNamed_34 (h2 c1)
  · refine e_aload_n (n := 0) C dX4_stuffNamed_12 rfl rfl ?_
    refine e_iload (n := 4) C dX4_stuffNamed_13 rfl ?_
    refine e_aload_n (n := 1) C dX4_stuffNamed_15 rfl rfl ?_
    refine e_iload_n (n := 2) C dX4_stuffNamed_16 rfl rfl ?_
    refine e_iload_n (n := 3) C dX4_stuffNamed_17 rfl rfl ?_
    refine e_callV1 (as := [.int i, .ref 2, .int a, .int b]) (rest := []) C lk_X4_84 (q3 c1) (by decide) rfl (ea_ltO (by decide) hx) hx (by decide) rfl rfl (Nat.le_of_ble_eq_true rfl) dX4_stuffNamed_18 ?_
    refine e_if_eq (tgt := 27) C dX4_stuffNamed_21 (by decide) (fun c4 => ?_) (fun c4 => ?_)
    · refine e_iinc (n := 4) (v := (i + 1)) C dX4_stuffNamed_27 rfl rfl (by decide) rfl ?_
      refine e_goto (tgt := 3) C dX4_stuffNamed_30 (by decide) ?_
      refine e_perm C [1, 2, 3, 4, 0] rfl ?_
      exact (h5 c1 c4)
    · refine e_iload (n := 4) C dX4_stuffNamed_24 rfl ?_
      exact e_iret C X rfl (vp_nar_int _) dX4_stuffNamed_26 (h6 c1 c4)
/-! ===== the text ===== -/
/-- the first place from i on, of m, at which p does not hold; behind them all if there is none -/
def pa_run (p : Nat → Bool) : Nat → Nat → Nat
  | i, 0 => i
  | i, m + 1 => if p i = true then pa_run p (i + 1) m else i
theorem pa_run_le {p : Nat → Bool} : ∀ (m i : Nat), i ≤ pa_run p i m ∧ pa_run p i m ≤ i + m := by
  intro m
  induction m with
  | zero => intro i; exact ⟨Nat.le_refl _, Nat.le_refl _⟩
  | succ m ih =>
    intro i
    rw [pa_run]
    by_cases h : p i = true
    · rw [if_pos h]
      have := ih (i + 1)
      omega
    · rw [if_neg h]
      omega
/-- the token of a text of n letters, from place p on: where it begins, its kind, what lies behind it -/
def tk_f (L : Nat → Int32) (n p : Nat) : Nat := pa_run (fun j => decide (L j = 32)) p (n - p)
def tk_k (L : Nat → Int32) (n p : Nat) : Int32 := if tk_f L n p < n then f_X3_kindOf (L (tk_f L n p)) else 0
def tk_b (L : Nat → Int32) (n p : Nat) : Nat := if tk_f L n p < n then (if tk_k L n p = 3 then tk_f L n p + 1 else pa_run (fun j => decide (f_X3_kindOf (L j) = tk_k L n p)) (tk_f L n p + 1) (n - (tk_f L n p + 1))) else tk_f L n p
def tk_set (M : ea_M) (f b k : Int32) : ea_M := ea_up (ea_up (ea_up M 2 2 f) 2 3 b) 2 4 k
theorem tk_row (M : ea_M) (f b k : Int32) (j : Nat) : tk_set M f b k 2 j = if j = 4 then k else if j = 3 then b else if j = 2 then f else M 2 j := by
  simp only [tk_set, pa_up, if_true]
theorem tk_R {M : ea_M} {f b k : Int32} {a : Nat} (h : a ≠ 2) : tk_set M f b k a = M a := by
  unfold tk_set
  rw [ea_upR h, ea_upR h, ea_upR h]
theorem tk_ext {N M : ea_M} {f b k : Int32} (h : ∀ a, a ≠ 2 → N a = M a) (h2 : ∀ j, N 2 j = if j = 4 then k else if j = 3 then b else if j = 2 then f else M 2 j) : N = tk_set M f b k := by
  funext a
  by_cases ha : a = 2
  · subst ha
    funext j
    rw [h2, tk_row]
  · rw [h a ha, tk_R ha]
theorem tk_up2 (M : ea_M) (f b k v : Int32) : ea_up (tk_set M f b k) 2 2 v = tk_set M v b k := by
  refine tk_ext (fun a ha => by rw [ea_upR ha, tk_R ha]) (fun j => ?_)
  rw [pa_up, if_pos rfl, tk_row]
  by_cases h : j = 2
  · subst h; simp
  · rw [if_neg h, if_neg h, if_neg h]
theorem tk_up3 (M : ea_M) (f b k v : Int32) : ea_up (tk_set M f b k) 2 3 v = tk_set M f v k := by
  refine tk_ext (fun a ha => by rw [ea_upR ha, tk_R ha]) (fun j => ?_)
  rw [pa_up, if_pos rfl, tk_row]
  by_cases h : j = 3
  · subst h; simp
  · rw [if_neg h, if_neg h, if_neg h]
theorem tk_up4 (M : ea_M) (f b k v : Int32) : ea_up (tk_set M f b k) 2 4 v = tk_set M f b v := by
  refine tk_ext (fun a ha => by rw [ea_upR ha, tk_R ha]) (fun j => ?_)
  rw [pa_up, if_pos rfl, tk_row]
  by_cases h : j = 4
  · subst h; simp
  · simp [h]
theorem tk_id (M : ea_M) : tk_set M (M 2 2) (M 2 3) (M 2 4) = M := by
  refine (tk_ext (fun a _ => rfl) (fun j => ?_)).symm
  by_cases h : j = 4
  · subst h; rfl
  · rw [if_neg h]
    by_cases h : j = 3
    · subst h; rfl
    · rw [if_neg h]
      by_cases h : j = 2
      · subst h; rfl
      · rw [if_neg h]
theorem tk_1 (M : ea_M) (f b k : Int32) : tk_set M f b k 2 1 = M 2 1 := by rw [tk_row]; rfl
theorem tk_2 (M : ea_M) (f b k : Int32) : tk_set M f b k 2 2 = f := by rw [tk_row]; rfl
theorem tk_3 (M : ea_M) (f b k : Int32) : tk_set M f b k 2 3 = b := by rw [tk_row]; rfl
theorem tk_4 (M : ea_M) (f b k : Int32) : tk_set M f b k 2 4 = k := by rw [tk_row]; rfl
theorem tk_tt (M : ea_M) (f b k f2 b2 k2 : Int32) : tk_set (tk_set M f b k) f2 b2 k2 = tk_set M f2 b2 k2 := by
  show ea_up (ea_up (ea_up (tk_set M f b k) 2 2 f2) 2 3 b2) 2 4 k2 = _
  rw [tk_up2, tk_up3, tk_up4]
/-- what lookFrom(place) leaves -/
def tk_at (M : ea_M) (n p : Nat) : ea_M := tk_set M (nI (tk_f (M 3) n p)) (nI (tk_b (M 3) n p)) (tk_k (M 3) n p)
theorem tk_k_ne0 (c : Int32) : ¬ f_X3_kindOf c = 0 := by
  unfold f_X3_kindOf
  repeat' split
  all_goals decide
theorem sp_X3_lookFrom (M : ea_M) (n p : Nat) (hn : n ≤ 200) (hk : M 2 1 = nI n) (hp : p ≤ n) : ea_Sp 1 yX3_lookFrom cX3_lookFrom 2 none [.ref 2, .int (nI p)] M none (tk_at M n p) := by
  refine ea_intro (own := RX3) (by decide +kernel) rfl (fun g => Nat.le_of_ble_eq_true rfl) (fun k C X => ?_)
  obtain ⟨F, hF⟩ : ∃ F, F = tk_f (M 3) n p := ⟨_, rfl⟩
  have hFn : F ≤ n := by
    have := (pa_run_le (p := fun j => decide (M 3 j = 32)) (n - p) p).2
    rw [hF]
    unfold tk_f
    omega
  have e1 : ∀ f b k : Int32, tk_set M f b k 2 1 = nI n := fun f b k => by rw [tk_1, hk]
  have e3 : ∀ f b k : Int32, tk_set M f b k 3 = M 3 := fun f b k => tk_R (by decide)
  have eat : ∀ j, j < n → pa_at (M 3) 200 (nI j) = M 3 j := fun j hj => pa_atN (by omega) (by decide)
  -- the letters of the token
  have l98 : ∀ (m i : Nat) (K : Int32), i + m = n → F < n → K = f_X3_kindOf (M 3 F) → tk_b (M 3) n p = (if K = 3 then i else pa_run (fun j => decide (f_X3_kindOf (M 3 j) = K)) i m) → ea_E k 98 [(0, .ref 2)] [] (tk_set M (nI F) (nI i) K) := by
    intro m
    induction m with
    | zero =>
      intro i K hi hlt hK hb
      have hfin : tk_at M n p = tk_set M (nI F) (nI i) K := by
        unfold tk_at
        have q1 : tk_b (M 3) n p = i := by
          rw [hb]
          by_cases h3 : K = 3
          · rw [if_pos h3]
          · rw [if_neg h3]
            rfl
        have q2 : tk_k (M 3) n p = K := by
          unfold tk_k
          rw [← hF, if_pos hlt, hK]
        rw [q1, q2, ← hF]
      refine kb_X3_lookFrom_98 C X (fun _ => ⟨rfl, hfin⟩) (fun _ _ => ⟨rfl, hfin⟩) (fun _ _ _ => ⟨rfl, hfin⟩) (fun _ c => absurd ?_ c)
      rw [e1, tk_3]
      exact nI_le (by omega) (by omega)
    | succ m ih =>
      intro i K hi hlt hK hb
      have q2 : tk_k (M 3) n p = K := by
        unfold tk_k
        rw [← hF, if_pos hlt, hK]
      refine kb_X3_lookFrom_98 C X (fun c => ⟨rfl, ?_⟩) (fun _ c => absurd c ?_) (fun c _ c2 => ⟨rfl, ?_⟩) (fun c _ c2 => ?_)
      · rw [tk_4] at c
        rw [if_pos c] at hb
        unfold tk_at
        rw [hb, q2, ← hF]
      · rw [e1, tk_3]
        exact nI_ge (by omega) (by omega)
      · rw [tk_4] at c
        rw [e3, tk_3, tk_4, eat i (by omega)] at c2
        rw [if_neg c, pa_run, if_neg (by simpa using c2)] at hb
        unfold tk_at
        rw [hb, q2, ← hF]
      · rw [tk_4] at c
        rw [e3, tk_3, tk_4, eat i (by omega)] at c2
        rw [if_neg c, pa_run, if_pos (by simpa using c2)] at hb
        rw [tk_3, tk_up3, nI_1]
        refine ih (i + 1) K (by omega) hlt hK ?_
        rw [if_neg c]
        exact hb
  have fin5 : ∀ b k0 : Int32, F < n → ea_E k 98 [(0, .ref 2)] [] (ea_up (ea_up (ea_up (ea_up (tk_set M (nI F) b k0) 2 3 (nI F)) 2 4 0) 2 4 (f_X3_kindOf (pa_at (M 3) 200 (nI F)))) 2 3 (nI F + 1)) := by
    intro b k0 hlt
    rw [tk_up3, tk_up4, tk_up4, tk_up3, eat F hlt, nI_1]
    refine l98 (n - (F + 1)) (F + 1) _ (by omega) hlt rfl ?_
    unfold tk_b tk_k
    rw [← hF, if_pos hlt, if_pos hlt]
  have end5 : ∀ b k0 : Int32, F = n → tk_at M n p = ea_up (ea_up (tk_set M (nI F) b k0) 2 3 (nI F)) 2 4 0 := by
    intro b k0 he
    rw [tk_up3, tk_up4]
    unfold tk_at tk_b tk_k
    rw [← hF, if_neg (by omega), if_neg (by omega)]
  have l5 : ∀ (m i : Nat) (b k0 : Int32), i + m = n → F = pa_run (fun j => decide (M 3 j = 32)) i m → ea_E k 5 [(0, .ref 2)] [] (tk_set M (nI i) b k0) := by
    intro m
    induction m with
    | zero =>
      intro i b k0 hi hf
      have hfi : F = i := hf
      subst hfi
      have c0 : tk_set M (nI F) b k0 2 1 ≤ tk_set M (nI F) b k0 2 2 := by
        rw [e1, tk_2]
        exact nI_le (by omega) (by omega)
      refine kb_X3_lookFrom_5 C X (fun _ c => absurd c ?_) (fun _ _ => ⟨rfl, ?_⟩) (fun c => absurd c0 c) (fun c => absurd c0 c) (fun c => absurd c0 c)
      · rw [e1, tk_2]
        exact nI_nlt (by omega) (by omega)
      · rw [tk_2]
        exact end5 b k0 (by omega)
    | succ m ih =>
      intro i b k0 hi hf
      have c0 : ¬ tk_set M (nI i) b k0 2 1 ≤ tk_set M (nI i) b k0 2 2 := by
        rw [e1, tk_2]
        exact nI_ge (by omega) (by omega)
      have c1 : tk_set M (nI i) b k0 2 2 < tk_set M (nI i) b k0 2 1 := by
        rw [e1, tk_2]
        exact nI_lt (by omega) (by omega)
      refine kb_X3_lookFrom_5 C X (fun c => absurd c c0) (fun c => absurd c c0) (fun _ c _ => ?_) (fun _ _ c => absurd c1 c) (fun _ c => ?_)
      · rw [e3, tk_2, eat i (by omega)] at c
        rw [pa_run, if_neg (by simpa using c)] at hf
        subst hf
        rw [e3, tk_2]
        exact fin5 b k0 (by omega)
      · rw [e3, tk_2, eat i (by omega)] at c
        rw [pa_run, if_pos (by simpa using c)] at hf
        rw [tk_2, tk_up2, nI_1]
        exact ih (i + 1) b k0 (by omega) hf
  refine kb_X3_lookFrom_0 C X ?_
  have h0 := l5 (n - p) p (M 2 3) (M 2 4) (by omega) hF
  rw [← tk_up2 M (M 2 2) (M 2 3) (M 2 4) (nI p), tk_id] at h0
  exact h0
/-- digits read as a number -/
def tk_v (L : Nat → Int32) : Nat → Nat → Int32 → Int32
  | _, 0, v => v
  | i, m + 1, v => tk_v L (i + 1) m (10 * v + L i - 48)
/-- number() -/
def tk_n (M : ea_M) (f b : Nat) : Int32 := if M 2 4 = 2 ∧ b - f ≤ 4 then tk_v (M 3) f (b - f) 0 else -1
theorem sp_X3_number (M : ea_M) (n f b : Nat) (hn : n ≤ 200) (hf : M 2 2 = nI f) (hb : M 2 3 = nI b) (hfb : f ≤ b) (hbn : b ≤ n) : ea_Sp 1 yX3_number cX3_number 3 (some .int) [.ref 2] M (some (.int (tk_n M f b))) M := by
  refine ea_intro (own := RX3) (by decide +kernel) rfl (fun g => Nat.le_of_ble_eq_true rfl) (fun k C X => ?_)
  have hl : f_X3_tokenLength M = nI (b - f) := by
    unfold f_X3_tokenLength
    rw [hf, hb, pk_sub hfb]
  have l25 : ∀ (m i : Nat) (v : Int32), i + m = b → tk_n M f b = tk_v (M 3) i m v → ea_E k 25 [(0, .ref 2), (1, .int v), (2, .int (nI i))] [] M := by
    intro m
    induction m with
    | zero =>
      intro i v hi hv
      have hc : M 2 3 ≤ nI i := by rw [hb]; exact nI_le (by omega) (by omega)
      exact kb_X3_number_25 C X (fun _ => ⟨by rw [hv]; rfl, rfl⟩) (fun c => absurd hc c)
    | succ m ih =>
      intro i v hi hv
      have hc : ¬ M 2 3 ≤ nI i := by rw [hb]; exact nI_ge (by omega) (by omega)
      refine kb_X3_number_25 C X (fun c => absurd c hc) (fun _ => ?_)
      rw [pa_atN (show i < 200 by omega) (by decide), nI_1]
      exact ih (i + 1) _ (by omega) hv
  refine kb_X3_number_0 C X (fun c => ⟨?_, rfl⟩) (fun c d => ?_) (fun c d => ⟨?_, rfl⟩)
  · unfold tk_n
    rw [if_neg (fun z => c z.1)]
  · rw [hl] at d
    have d2 : b - f ≤ 4 := (nI_leI (a := b - f) (b := 4) (by omega) (by decide)).mp d
    rw [hf]
    refine l25 (b - f) f 0 (by omega) ?_
    unfold tk_n
    rw [if_pos ⟨c, d2⟩]
  · rw [hl] at d
    have d2 : ¬ b - f ≤ 4 := fun z => d ((nI_leI (a := b - f) (b := 4) (by omega) (by decide)).mpr z)
    unfold tk_n
    rw [if_neg (fun z => d2 z.2)]
/-- is a stretch of the text, without its blanks, the word of stuff s (of l letters) -/
def tk_nm (L W : Nat → Int32) (s l : Nat) : Nat → Nat → Nat → Bool
  | _, 0, m => decide (m = l)
  | i, c + 1, m => if L i = 32 then tk_nm L W s l (i + 1) c m else if m < l then (if L i = W (7 * s + m) then tk_nm L W s l (i + 1) c (m + 1) else false) else false
theorem sp_X4_isNamed (M : ea_M) (x s l a b : Nat) (hx : ea_kd x = 4) (hs : s < 6) (hl : M (x + 2) s = nI l) (h7 : l ≤ 7) (hab : a ≤ b) (hb : b ≤ 200) : ea_Sp 1 yX4_isNamed cX4_isNamed 9 (some .boolean) [.ref x, .int (nI s), .ref 2, .int (nI a), .int (nI b)] M (some (.int (if tk_nm (M 3) (M (x + 1)) s l a (b - a) 0 = true then (1 : Int32) else 0))) M := by
  refine ea_intro (own := RX4) (by decide +kernel) rfl (fun g => Nat.le_of_ble_eq_true rfl) (fun k C X => ?_)
  obtain ⟨r, hr⟩ : ∃ r, r = tk_nm (M 3) (M (x + 1)) s l a (b - a) 0 := ⟨_, rfl⟩
  rw [← hr] at X
  have l16 : ∀ (c i m : Nat), i + c = b → m ≤ l → r = tk_nm (M 3) (M (x + 1)) s l i c m → ea_E k 16 [(0, .ref x), (1, .int (nI s)), (2, .ref 2), (4, .int (nI b)), (5, .int (nI l)), (6, .int (nI m)), (7, .int (nI i))] [] M := by
    intro c
    induction c with
    | zero =>
      intro i m hi hm hrr
      have hc : nI b ≤ nI i := nI_le (by omega) (by omega)
      refine kb_X4_isNamed_16 C X hx (fun _ q => ⟨?_, rfl⟩) (fun _ q => ⟨?_, rfl⟩) (fun c => absurd hc c) (fun c => absurd hc c) (fun c => absurd hc c) (fun c => absurd hc c)
      · rw [hrr, tk_nm, if_neg]
        intro z
        exact q (by rw [of_decide_eq_true z])
      · rw [hrr, tk_nm, if_pos (decide_eq_true ((nI_eq (by omega) (by omega)).mp q))]
    | succ c ih =>
      intro i m hi hm hrr
      have hc : ¬ nI b ≤ nI i := nI_ge (by omega) (by omega)
      have e1 : pa_at (M 3) 200 (nI i) = M 3 i := pa_atN (by omega) (by decide)
      have e2 : m < l → pa_at (M (x + 1)) 42 (nI s * 7 + nI m) = M (x + 1) (7 * s + m) := by
        intro hml
        have : nI s * 7 + nI m = nI (7 * s + m) := by
          rw [show (7 : Int32) = nI 7 from rfl, pk_mul, nI_add, Nat.mul_comm]
        rw [this, pa_atN (show 7 * s + m < 42 by omega) (by decide)]
      rw [tk_nm] at hrr
      refine kb_X4_isNamed_16 C X hx (fun c => absurd c hc) (fun c => absurd c hc) (fun _ q1 q2 => ⟨?_, rfl⟩) (fun _ q1 q2 q3 => ?_) (fun _ q1 q2 q3 => ⟨?_, rfl⟩) (fun _ q1 => ?_)
      · rw [e1] at q1
        have hml : ¬ m < l := fun z => nI_ge z (by omega) q2
        rw [hrr, if_neg q1, if_neg hml, if_neg (by decide)]
      · rw [e1] at q1
        have hml : m < l := by
          rcases Nat.lt_or_ge m l with z | z
          · exact z
          · exact absurd (nI_le z (by omega)) q2
        rw [e1, e2 hml] at q3
        rw [if_neg q1, if_pos hml, if_pos q3] at hrr
        rw [nI_1, nI_1]
        exact ih (i + 1) (m + 1) (by omega) (by omega) hrr
      · rw [e1] at q1
        have hml : m < l := by
          rcases Nat.lt_or_ge m l with z | z
          · exact z
          · exact absurd (nI_le z (by omega)) q2
        rw [e1, e2 hml] at q3
        rw [hrr, if_neg q1, if_pos hml, if_neg q3, if_neg (by decide)]
      · rw [e1] at q1
        rw [if_pos q1] at hrr
        rw [nI_1]
        exact ih (i + 1) m (by omega) hm hrr
  refine kb_X4_isNamed_0 C X hx ?_
  rw [pa_atN hs (by decide), hl]
  exact l16 (b - a) a 0 (by omega) (by omega) hr
/-- words of 1 to 7 letters -/
def wn_ok (M : ea_M) (x ns : Nat) : Prop := ∀ s, s < ns → ∃ l : Nat, 1 ≤ l ∧ l ≤ 7 ∧ M (x + 2) s = nI l
def wn_l (M : ea_M) (x s : Nat) : Nat := (M (x + 2) s).toNatClampNeg
def tk_sn (M : ea_M) (x ns a b : Nat) : Option Nat := pa_ix (fun s => tk_nm (M 3) (M (x + 1)) s (wn_l M x s) a (b - a) 0) 0 ns
theorem wn_e {M : ea_M} {x ns s : Nat} (h : wn_ok M x ns) (hs : s < ns) : M (x + 2) s = nI (wn_l M x s) ∧ 1 ≤ wn_l M x s ∧ wn_l M x s ≤ 7 := by
  obtain ⟨l, h1, h2, e⟩ := h s hs
  have : wn_l M x s = l := by
    unfold wn_l
    rw [e, nI_clamp (by omega)]
  rw [this]
  exact ⟨e, h1, h2⟩
theorem sp_X4_stuffNamed (M : ea_M) (x ns a b : Nat) (hx : ea_kd x = 4) (hk : M x 0 = nI ns) (hn : ns ≤ 6) (hw : wn_ok M x ns) (hab : a ≤ b) (hb : b ≤ 200) : ea_Sp 2 yX4_stuffNamed cX4_stuffNamed 5 (some .int) [.ref x, .ref 2, .int (nI a), .int (nI b)] M (some (.int (pa_ri (tk_sn M x ns a b)))) M := by
  refine ea_intro (own := RX4) (by decide +kernel) rfl (fun g => Nat.le_of_ble_eq_true rfl) (fun k C X => ?_)
  obtain ⟨r, hr⟩ : ∃ r, r = pa_ri (tk_sn M x ns a b) := ⟨_, rfl⟩
  rw [← hr] at X
  have l3 : ∀ (m i : Nat), i + m = ns → r = pa_ri (pa_ix (fun s => tk_nm (M 3) (M (x + 1)) s (wn_l M x s) a (b - a) 0) i m) → ea_E k 3 [(0, .ref x), (1, .ref 2), (2, .int (nI a)), (3, .int (nI b)), (4, .int (nI i))] [] M := by
    intro m
    induction m with
    | zero =>
      intro i hi hrr
      have hc : M x 0 ≤ nI i := by rw [hk]; exact nI_le (by omega) (by omega)
      exact kb_X4_stuffNamed_3 C X (r := 0) hx (fun _ => ⟨by rw [hrr]; rfl, rfl⟩) (fun c => absurd hc c) (fun c => absurd hc c) (fun c => absurd hc c)
    | succ m ih =>
      intro i hi hrr
      have hc : ¬ M x 0 ≤ nI i := by rw [hk]; exact nI_ge (by omega) (by omega)
      obtain ⟨e, e1, e2⟩ := wn_e hw (show i < ns by omega)
      rw [pa_ix] at hrr
      refine kb_X4_stuffNamed_3 C X (r := if tk_nm (M 3) (M (x + 1)) i (wn_l M x i) a (b - a) 0 = true then (1 : Int32) else 0) hx (fun c => absurd c hc) (fun _ => sp_X4_isNamed M x i _ a b hx (by omega) e e2 hab hb) (fun _ q => ?_) (fun _ q => ⟨?_, rfl⟩)
      · have hq : ¬ tk_nm (M 3) (M (x + 1)) i (wn_l M x i) a (b - a) 0 = true := fun z => by
          rw [if_pos z] at q
          exact absurd q (by decide)
        rw [if_neg hq] at hrr
        rw [nI_1]
        exact ih (i + 1) (by omega) hrr
      · have hq : tk_nm (M 3) (M (x + 1)) i (wn_l M x i) a (b - a) 0 = true := Classical.byContradiction (fun z => q (if_neg z))
        rw [hrr, if_pos hq]
        rfl
  exact kb_X4_stuffNamed_0 C X hx (l3 ns 0 (by omega) hr)

