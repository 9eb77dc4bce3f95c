/-! ===== number, stuffHere, find ===== -/
theorem tx_core {N : ea_M} {L : Nat → Int32} {n p : Nat} {k0 a b : Int32} {k : ea_K} {o : Option Value} {M' : ea_M} (C : ea_C k RX7 cX7_number 6 3) (X : ea_X k (some .boolean) o M') (h : tx_ok N L n p) (h1 : tn_v L n p = -1 → o = some (.int 0) ∧ M' = N) (h2 : ea_E k 50 [(0, .ref 61), (1, .int k0), (2, .int a), (3, .int b), (4, .int (tn_v L n p)), (5, .int (nI (tk_b L n p)))] [] N) : ea_E k 0 [(0, .ref 61), (1, .int k0), (2, .int a), (3, .int b)] [] N := by
  obtain ⟨e69, hn, hp, e11, e16, e17⟩ := h
  obtain ⟨F, hF⟩ : ∃ F, F = tk_f L n p := ⟨_, rfl⟩
  obtain ⟨B, hB⟩ : ∃ B, B = tk_b L n p := ⟨_, rfl⟩
  have hfb := tk_fb L hp
  rw [← hF, ← hB] at hfb
  rw [← hF] at e16
  rw [← hB] at e17 h2
  by_cases hlt : F < n
  case neg =>
    have c0 : N 61 16 = N 61 11 := by rw [e16, e11, show F = n by omega]
    have hv : tn_v L n p = -1 := by
      unfold tn_v tk_k
      rw [← hF, if_neg hlt, if_neg (fun z => absurd z.1 (by decide))]
    refine km_number C X  (fun _ => h1 hv) (fun c => absurd c0 c) (fun c _ => absurd c0 c) (fun c _ _ => absurd c0 c) (fun c _ _ => absurd c0 c)
  have c0 : ¬ N 61 16 = N 61 11 := by rw [e16, e11]; exact fun z => absurd ((nI_eq (show F < 2 ^ 31 by omega) (show n < 2 ^ 31 by omega)).mp z) (by omega)
  have v0 : vp_in (N 61 16) 200 := by rw [e16]; exact vp_in_nI (by omega) (by decide)
  have eL : N 69 (N 61 16).toNatClampNeg = L F := by rw [e69, e16, nI_clamp (by omega)]
  have hk : tk_k L n p = f_X3_kindOf (L F) := by
    unfold tk_k
    rw [← hF, if_pos hlt]
  by_cases hd : p_X7_isDigit (N 69 (N 61 16).toNatClampNeg)
  case neg =>
    have hd2 := hd
    rw [eL, kd_d, ← hk] at hd2
    have hv : tn_v L n p = -1 := by
      unfold tn_v
      rw [if_neg (fun z => hd2 z.1)]
    refine km_number C X  (fun c => absurd c c0) (fun _ => v0) (fun _ _ => h1 hv) (fun _ c _ => absurd c hd) (fun _ c _ => absurd c hd)
  have hd2 := hd
  rw [eL, kd_d, ← hk] at hd2
  have e4 : N 61 17 - N 61 16 = nI (B - F) := by rw [e16, e17]; exact pk_sub (by omega)
  by_cases hl : N 61 17 - N 61 16 ≤ 4
  case neg =>
    have hl2 := hl
    rw [e4] at hl2
    have hv : tn_v L n p = -1 := by
      unfold tn_v
      rw [← hF, ← hB, if_neg (fun z => hl2 (nI_le z.2 (by decide)))]
    refine km_number C X  (fun c => absurd c c0) (fun _ => v0) (fun _ c => absurd hd c) (fun _ _ c => absurd c hl) (fun _ _ _ => h1 hv)
  have hl2 := hl
  rw [e4] at hl2
  have hv : tn_v L n p = tk_v L F (B - F) 0 := by
    unfold tn_v
    rw [← hF, ← hB, if_pos ⟨hd2, (nI_leI (a := B - F) (b := 4) (by omega) (by decide)).mp hl2⟩]
  have l50 : ∀ (m i : Nat) (v : Int32), i + m = B → tn_v L n p = tk_v L i m v → ea_E k 50 [(0, .ref 61), (1, .int k0), (2, .int a), (3, .int b), (4, .int v), (5, .int (nI i))] [] N := by
    intro m
    induction m with
    | zero =>
      intro i v hi hvv
      have e : tn_v L n p = v := hvv
      rw [show B = i by omega, e] at h2
      exact h2
    | succ m ih =>
      intro i v hi hvv
      have c5 : ¬ N 61 17 ≤ nI i := by rw [e17]; exact nI_ge (by omega) (by omega)
      have v5 : vp_in (nI i) 200 := vp_in_nI (by omega) (by decide)
      have nx := ih (i + 1) (10 * v + L i - 48) (by omega) hvv
      refine km_number_50 C X  (M1 := fun _ _ => 0) (fun c _ => absurd c c5) (fun c _ => absurd c c5) (fun c _ => absurd c c5) (fun c _ => absurd c c5) (fun _ => v5) (fun _ => by rw [e69, nI_clamp (by omega), nI_1]; exact nx)
  have nx := l50 (B - F) F 0 (by omega) hv
  refine km_number C X  (fun c => absurd c c0) (fun _ => v0) (fun _ c => absurd hd c) (fun _ _ _ => by rw [e16]; exact nx) (fun _ _ c => absurd hl c)
theorem tx_n0 {N : ea_M} {L : Nat → Int32} {n p : Nat} {k0 a b : Int32} (h : tx_ok N L n p) (ha : 0 ≤ a) (hr : rn_o L n p a b = none) : ea_Sp 3 yX7_number cX7_number 6 (some .boolean) [.ref 61, .int k0, .int a, .int b] N (some (.int 0)) N := by
  refine ea_intro (own := RX7) (by decide +kernel) rfl (fun g => Nat.le_of_ble_eq_true rfl) (fun k C X => ?_)

  have hc : tn_v L n p = -1 ∨ tn_v L n p < a ∨ b < tn_v L n p := by
    unfold rn_o at hr
    by_cases c : tn_v L n p = -1 ∨ tn_v L n p < a ∨ b < tn_v L n p
    · exact c
    · rw [if_neg c] at hr
      cases hr
  have hnot : ¬ p_X7_in (tn_v L n p).toInt64 a.toInt64 b.toInt64 := by
    rw [in_i]
    rintro ⟨x, y⟩
    rcases hc with z | z | z
    · rw [z] at x
      exact x (Int32.lt_of_lt_of_le (by decide) ha)
    · exact x z
    · exact y z
  have c5 : N 61 17 ≤ nI (tk_b L n p) := by rw [h.2.2.2.2.2]; exact Int32.le_refl _
  refine tx_core C X h (fun _ => ⟨rfl, rfl⟩) ?_
  refine km_number_50 C X  (M1 := fun _ _ => 0) (fun _ _ => ⟨by rw [if_neg hnot], rfl⟩) (fun _ c => absurd c hnot) (fun _ c => absurd c hnot) (fun _ c => absurd c hnot) (fun c => absurd c5 c) (fun c => absurd c5 c)
theorem tx_mv {N N2 : ea_M} {L : Nat → Int32} {n p : Nat} (h : tx_ok N L n p) (e : N2 69 = N 69) (e2 : N2 61 = N 61) : tx_ok N2 L n p := by
  unfold tx_ok
  rw [e, e2]
  exact h
theorem tx_n1 {N : ea_M} {L : Nat → Int32} {n p kk : Nat} {k0 a b v : Int32} (h : tx_ok N L n p) (hk : k0 = nI kk) (hkk : kk < 3) (hr : rn_o L n p a b = some v) : ∃ N', ea_Sp 3 yX7_number cX7_number 6 (some .boolean) [.ref 61, .int k0, .int a, .int b] N (some (.int 1)) N' ∧ tx_ok N' L n (tk_b L n p) ∧ (∀ a, a ≠ 61 → a ≠ 76 → N' a = N a) ∧ (∀ j, j ≠ 16 → j ≠ 17 → N' 61 j = N 61 j) ∧ N' 76 = upd (N 76) kk v := by
  obtain ⟨ev, c1, c2, c3⟩ := rn_some hr
  have hin : p_X7_in (tn_v L n p).toInt64 a.toInt64 b.toInt64 := by
    rw [in_i, ← ev]
    exact ⟨Int32.not_lt.mpr c2, Int32.not_lt.mpr c3⟩
  obtain ⟨N', s1, t1, f1⟩ := tx_next (tx_mv (N2 := ea_up N 76 kk v) h (ea_upR (by decide)) (ea_upR (by decide)))
  refine ⟨N', ?_, t1, fun x hx hy => by rw [f1.1 x hx, ea_upR hy], fun j h6 h7 => by rw [f1.2 j h6 h7, ea_upR (by decide)], by rw [f1.1 76 (by decide)]; exact pa_ups⟩
  refine ea_intro (own := RX7) (by decide +kernel) rfl (fun g => Nat.le_of_ble_eq_true rfl) (fun k C X => ?_)

  have c5 : N 61 17 ≤ nI (tk_b L n p) := by rw [h.2.2.2.2.2]; exact Int32.le_refl _
  refine tx_core C X h (fun z => absurd (ev.trans z) c1) ?_
  have v3 : vp_in k0 3 := by rw [hk]; exact vp_in_nI hkk (by decide)
  have sp : ea_Sp 2 yX7_nextToken cX7_nextToken 1 none [.ref 61] (ea_up N 76 k0.toNatClampNeg (tn_v L n p)) none N' := by
    rw [hk, nI_clamp (by omega), ← ev]
    exact s1
  refine km_number_50 C X  (fun _ c => absurd hin c) (fun _ _ => v3) (fun _ _ => sp) (fun _ _ => ⟨by rw [if_pos hin], rfl⟩) (fun c => absurd c5 c) (fun c => absurd c5 c)
/-! the token holds no blank -/
theorem pa_run_st {p : Nat → Bool} : ∀ (m i : Nat), pa_run p i m < i + m → p (pa_run p i m) = false := by
  intro m
  induction m with
  | zero => intro i h; exact absurd h (Nat.lt_irrefl _)
  | succ m ih =>
    intro i h
    rw [pa_run] at *
    by_cases c : p i = true
    · rw [if_pos c] at *
      exact ih (i + 1) (by omega)
    · rw [if_neg c]
      simpa using c
theorem pa_run_in {p : Nat → Bool} : ∀ (m i j : Nat), i ≤ j → j < pa_run p i m → p j = true := by
  intro m
  induction m with
  | zero => intro i j h1 h2; exact absurd h2 (by show ¬ j < i; omega)
  | succ m ih =>
    intro i j h1 h2
    rw [pa_run] at h2
    by_cases c : p i = true
    · rw [if_pos c] at h2
      by_cases e : j = i
      · rw [e]; exact c
      · exact ih (i + 1) j (by omega) h2
    · rw [if_neg c] at h2
      omega
theorem tk_in {L : Nat → Int32} {n p j : Nat} (hp : p ≤ n) (h1 : tk_f L n p ≤ j) (h2 : j < tk_b L n p) : tk_f L n p < n ∧ ¬ L j = 32 ∧ (tk_f L n p + 1 < tk_b L n p → ¬ f_X3_kindOf (L j) = 3) := by
  have hb := tk_fb L hp
  have hlt : tk_f L n p < n := by
    by_cases c : tk_f L n p < n
    · exact c
    · unfold tk_b at h2
      rw [if_neg c] at h2
      omega
  have hf : ¬ L (tk_f L n p) = 32 := by
    have := pa_run_st (p := fun j => decide (L j = 32)) (n - p) p (by show tk_f L n p < p + (n - p); omega)
    exact of_decide_eq_false this
  have hk : tk_k L n p = f_X3_kindOf (L (tk_f L n p)) := by
    unfold tk_k
    rw [if_pos hlt]
  have h3 : tk_f L n p + 1 < tk_b L n p → ¬ tk_k L n p = 3 := fun c z => by
    unfold tk_b at c
    rw [if_pos hlt, if_pos z] at c
    exact Nat.lt_irrefl _ c
  refine ⟨hlt, ?_⟩
  by_cases e : j = tk_f L n p
  · rw [e]
    exact ⟨hf, fun c => by rw [← hk]; exact h3 c⟩
  · have h4 := h3 (by omega)
    have h5 : j < pa_run (fun j => decide (f_X3_kindOf (L j) = tk_k L n p)) (tk_f L n p + 1) (n - (tk_f L n p + 1)) := by
      have := h2
      unfold tk_b at this
      rw [if_pos hlt, if_neg h4] at this
      exact this
    have h6 : f_X3_kindOf (L j) = tk_k L n p := of_decide_eq_true (pa_run_in _ _ j (by omega) h5)
    exact ⟨fun z => h4 (by rw [← h6, z]; decide), fun _ => by rw [h6]; exact h4⟩
theorem nm_len {L W : Nat → Int32} {s l : Nat} : ∀ (c i m : Nat), (∀ j, i ≤ j → j < i + c → ¬ L j = 32) → ¬ m + c = l → tk_nm L W s l i c m = false := by
  intro c
  induction c with
  | zero => intro i m _ h; exact decide_eq_false h
  | succ c ih =>
    intro i m hb h
    rw [tk_nm, if_neg (hb i (Nat.le_refl _) (by omega))]
    by_cases hm : m < l
    · rw [if_pos hm]
      by_cases e : L i = W (7 * s + m)
      · rw [if_pos e]
        exact ih (i + 1) (m + 1) (fun j h1 h2 => hb j (by omega) (by omega)) (by omega)
      · rw [if_neg e]
    · rw [if_neg hm]
/-- the stuffs that the reader knows -/
def rd_s (N V : ea_M) (ns : Nat) : Prop := N 61 18 = nI ns ∧ ns ≤ 6 ∧ (∀ j, j < 42 → N 74 j = V 1 j) ∧ (∀ j, j < 6 → N 75 j = V 2 j) ∧ ∀ s, s < ns → ∃ l : Nat, 1 ≤ l ∧ l ≤ 7 ∧ V 2 s = nI l
theorem sp_X7_stuffHere {N V : ea_M} {L : Nat → Int32} {n q ns : Nat} (h : tx_ok N L n q) (hs : rd_s N V ns) : ea_Sp 0 yX7_stuffHere cX7_stuffHere 4 (some .int) [.ref 61] N (some (.int (pa_ri (cz_s L (V 1) (V 2) n q ns)))) N := by
  refine ea_intro (own := RX7) (by decide +kernel) rfl (fun g => Nat.le_of_ble_eq_true rfl) (fun k C X => ?_)

  obtain ⟨e69, hn, hp, e11, e16, e17⟩ := id h
  obtain ⟨h18, hns, hW, hS, hl⟩ := hs
  obtain ⟨F, hF⟩ : ∃ F, F = tk_f L n q := ⟨_, rfl⟩
  obtain ⟨B, hB⟩ : ∃ B, B = tk_b L n q := ⟨_, rfl⟩
  have hfb := tk_fb L hp
  have hnb : ∀ j, F ≤ j → j < B → ¬ L j = 32 := fun j h1 h2 => (tk_in hp (by omega) (by omega)).2.1
  rw [← hF, ← hB] at hfb
  rw [← hF] at e16
  rw [← hB] at e17
  have e4 : N 61 17 - N 61 16 = nI (B - F) := by rw [e16, e17]; exact pk_sub (by omega)
  obtain ⟨R, hR⟩ : ∃ R, R = pa_ri (cz_s L (V 1) (V 2) n q ns) := ⟨_, rfl⟩
  rw [← hR] at X
  unfold cz_s at hR
  rw [← hF, ← hB] at hR
  have l2 : ∀ (m i : Nat), i + m = ns → R = pa_ri (pa_ix (fun s => tk_nm L (V 1) s (V 2 s).toNatClampNeg F (B - F) 0) i m) → ea_E k 2 [(0, .ref 61), (1, .int (nI i))] [] N := by
    intro m
    induction m with
    | zero =>
      intro i hi hr
      have c0 : N 61 18 ≤ nI i := by rw [h18]; exact nI_le (by omega) (by omega)
      refine km_stuffHere_2 C X  (fun _ => ⟨by rw [hr]; rfl, rfl⟩) (fun c => absurd c0 c) (fun c _ => absurd c0 c) (fun c _ => absurd c0 c)
    | succ m ih =>
      intro i hi hr
      have c0 : ¬ N 61 18 ≤ nI i := by rw [h18]; exact nI_ge (by omega) (by omega)
      have v6 : vp_in (nI i) 6 := vp_in_nI (by omega) (by decide)
      obtain ⟨l, l1, l7, hle⟩ := hl i (by omega)
      have e75 : N 75 (nI i).toNatClampNeg = nI l := by rw [nI_clamp (by omega), hS i (by omega), hle]
      rw [pa_ix, hle, nI_clamp (by omega)] at hr
      -- the word isn't it
      have l0 : ∀ jj : Int32, tk_nm L (V 1) i l F (B - F) 0 = false → ea_E k 36 [(0, .ref 61), (1, .int (nI i)), (2, .int 0), (3, .int jj)] [] N := fun jj hf => by
        rw [hf, if_neg (by decide)] at hr
        have nx := ih (i + 1) (by omega) hr
        rw [← nI_1] at nx
        by_cases cj : N 75 (nI i).toNatClampNeg ≤ jj
        · have z : (0 : Int32) = 0 := rfl
          refine km_stuffHere_36 C X  v6 (fun _ _ => nx) (fun _ c => absurd z c) (fun c _ _ => absurd cj c) (fun c _ _ => absurd cj c) (fun c _ => absurd cj c) (fun c _ => absurd cj c) (fun c _ _ => absurd cj c) (fun c _ _ => absurd cj c)
        · have z : (0 : Int32) = 0 := rfl
          refine km_stuffHere_36 C X  v6 (fun c _ => absurd c cj) (fun c _ => absurd c cj) (fun _ _ _ => nx) (fun _ _ c => absurd z c) (fun _ c => absurd z c) (fun _ c => absurd z c) (fun _ c _ => absurd z c) (fun _ c _ => absurd z c)
      by_cases cl : N 75 (nI i).toNatClampNeg = N 61 17 - N 61 16
      · have cl2 := cl
        rw [e75, e4] at cl2
        have hlen : l = B - F := (nI_eq (by omega) (by omega)).mp cl2
        have l36 : ∀ (c j : Nat), j + c = l → tk_nm L (V 1) i l F (B - F) 0 = tk_nm L (V 1) i l (F + j) c j → ea_E k 36 [(0, .ref 61), (1, .int (nI i)), (2, .int 1), (3, .int (nI j))] [] N := by
          intro c
          induction c with
          | zero =>
            intro j hj hh
            have cj : N 75 (nI i).toNatClampNeg ≤ nI j := by rw [e75]; exact nI_le (by omega) (by omega)
            have z : ¬ (1 : Int32) = 0 := by decide
            rw [tk_nm, decide_eq_true (show j = l by omega)] at hh
            rw [if_pos hh] at hr
            refine km_stuffHere_36 C X  v6 (fun _ c => absurd c z) (fun _ _ => ⟨by rw [hr]; rfl, rfl⟩) (fun c _ _ => absurd cj c) (fun c _ _ => absurd cj c) (fun c _ => absurd cj c) (fun c _ => absurd cj c) (fun c _ _ => absurd cj c) (fun c _ _ => absurd cj c)
          | succ c ih2 =>
            intro j hj hh
            have cj : ¬ N 75 (nI i).toNatClampNeg ≤ nI j := by rw [e75]; exact nI_ge (by omega) (by omega)
            have z : ¬ (1 : Int32) = 0 := by decide
            rw [tk_nm, if_neg (hnb (F + j) (by omega) (by omega)), if_pos (show j < l by omega)] at hh
            have ei : 7 * nI i + nI j = nI (7 * i + j) := by rw [show (7 : Int32) = nI 7 from rfl, pk_mul, nI_add]
            have ef : N 61 16 + nI j = nI (F + j) := by rw [e16, nI_add]
            have v42 : vp_in (7 * nI i + nI j) 42 := by rw [ei]; exact vp_in_nI (by omega) (by decide)
            have v200 : vp_in (N 61 16 + nI j) 200 := by rw [ef]; exact vp_in_nI (by omega) (by decide)
            by_cases e : N 74 (7 * nI i + nI j).toNatClampNeg = N 69 (N 61 16 + nI j).toNatClampNeg
            · have e2 := e
              rw [ei, ef, nI_clamp (by omega), nI_clamp (by omega), hW _ (by omega), e69] at e2
              rw [if_pos e2.symm] at hh
              have nx := ih2 (j + 1) (by omega) (by rw [hh, Nat.add_assoc])
              rw [← nI_1] at nx
              refine km_stuffHere_36 C X  v6 (fun c _ => absurd c cj) (fun c _ => absurd c cj) (fun _ c _ => absurd c z) (fun _ c _ => absurd c z) (fun _ _ => v42) (fun _ _ => v200) (fun _ _ c => absurd e c) (fun _ _ _ => nx)
            · have e2 := e
              rw [ei, ef, nI_clamp (by omega), nI_clamp (by omega), hW _ (by omega), e69] at e2
              rw [if_neg (fun z => e2 z.symm)] at hh
              have nx := l0 (nI j + 1) hh
              refine km_stuffHere_36 C X  v6 (fun c _ => absurd c cj) (fun c _ => absurd c cj) (fun _ c _ => absurd c z) (fun _ c _ => absurd c z) (fun _ _ => v42) (fun _ _ => v200) (fun _ _ _ => nx) (fun _ _ c => absurd c e)
        have nx := l36 l 0 (by omega) (by rw [hlen]; rfl)
        refine km_stuffHere_2 C X  (fun c => absurd c c0) (fun _ => v6) (fun _ c => absurd cl c) (fun _ _ => nx)
      · have cl2 := cl
        rw [e75, e4] at cl2
        have nx := l0 0 (nm_len _ _ _ (fun j h1 h2 => hnb j h1 (by omega)) (fun z => cl2 (by rw [← z, Nat.zero_add])))
        refine km_stuffHere_2 C X  (fun c => absurd c c0) (fun _ => v6) (fun _ _ => nx) (fun _ c => absurd c cl)
  exact km_stuffHere C X (l2 ns 0 (by omega) hR)
