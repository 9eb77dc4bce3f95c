/-! ===== the tokens that the model reads ===== -/
def nx_set (N : ea_M) (f b : Int32) : ea_M := ea_up (ea_up N 61 16 f) 61 17 b
theorem nx_row (N : ea_M) (f b : Int32) (j : Nat) : nx_set N f b 61 j = if j = 17 then b else if j = 16 then f else N 61 j := by
  simp only [nx_set, pa_up, if_true]
theorem nx_R {N : ea_M} {f b : Int32} {a : Nat} (h : a ≠ 61) : nx_set N f b a = N a := by
  unfold nx_set
  rw [ea_upR h, ea_upR h]
theorem nx_O {N : ea_M} {f b : Int32} {j : Nat} (h : j ≠ 16) (h2 : j ≠ 17) : nx_set N f b 61 j = N 61 j := by
  rw [nx_row, if_neg h2, if_neg h]
theorem nx_ext {N N2 : ea_M} {f b : Int32} (h : ∀ a, a ≠ 61 → N2 a = N a) (h2 : ∀ j, N2 61 j = if j = 17 then b else if j = 16 then f else N 61 j) : N2 = nx_set N f b := by
  funext a
  by_cases ha : a = 61
  · subst ha
    funext j
    rw [h2, nx_row]
  · rw [h a ha, nx_R ha]
theorem nx_u16 (N : ea_M) (f b v : Int32) : ea_up (nx_set N f b) 61 16 v = nx_set N v b := by
  refine nx_ext (fun a ha => by rw [ea_upR ha, nx_R ha]) (fun j => ?_)
  rw [pa_up, if_pos rfl, nx_row]
  by_cases h : j = 16
  · subst h; simp
  · rw [if_neg h, if_neg h, if_neg h]
theorem nx_u17 (N : ea_M) (f b v : Int32) : ea_up (nx_set N f b) 61 17 v = nx_set N f v := by
  refine nx_ext (fun a ha => by rw [ea_upR ha, nx_R ha]) (fun j => ?_)
  rw [pa_up, if_pos rfl, nx_row]
  by_cases h : j = 17
  · subst h; simp
  · simp [h]
theorem nx_id (N : ea_M) : nx_set N (N 61 16) (N 61 17) = N := by
  refine (nx_ext (fun a _ => rfl) (fun j => ?_)).symm
  by_cases h : j = 17
  · subst h; rfl
  · rw [if_neg h]
    by_cases h : j = 16
    · subst h; rfl
    · rw [if_neg h]
theorem nx_16 (N : ea_M) (f b : Int32) : nx_set N f b 61 16 = f := by rw [nx_row]; rfl
theorem nx_17 (N : ea_M) (f b : Int32) : nx_set N f b 61 17 = b := by rw [nx_row]; rfl
theorem kd_s (c : Int32) : p_X7_isSmall c ↔ f_X3_kindOf c = 1 := by
  refine (in_i c 97 122).trans ?_
  unfold f_X3_kindOf
  by_cases h : c < 97
  · rw [if_pos h]
    refine ⟨fun z => absurd h z.1, fun z => ?_⟩
    revert z
    repeat' split
    all_goals exact fun z => absurd z (by decide)
  · rw [if_neg h]
    by_cases h2 : (122 : Int32) < c
    · rw [if_pos h2]
      refine ⟨fun z => absurd h2 z.2, fun z => ?_⟩
      revert z
      repeat' split
      all_goals exact fun z => absurd z (by decide)
    · rw [if_neg h2]
      exact ⟨fun _ => rfl, fun _ => ⟨h, h2⟩⟩
theorem kd_d (c : Int32) : p_X7_isDigit c ↔ f_X3_kindOf c = 2 := by
  refine (in_i c 48 57).trans ?_
  unfold f_X3_kindOf
  by_cases h : c < 48
  · have h9 : c < 97 := Int32.lt_trans h (by decide)
    rw [if_pos h9, if_pos h]
    exact ⟨fun z => absurd h z.1, fun z => absurd z (by decide)⟩
  · by_cases h2 : (57 : Int32) < c
    · refine ⟨fun z => absurd h2 z.2, fun z => ?_⟩
      rw [if_neg h, if_pos h2] at z
      revert z
      repeat' split
      all_goals exact fun z => absurd z (by decide)
    · have h9 : c < 97 := Int32.lt_of_le_of_lt (Int32.not_lt.mp h2) (by decide)
      rw [if_pos h9, if_neg h, if_neg h2]
      exact ⟨fun _ => rfl, fun _ => ⟨h, h2⟩⟩
theorem kd_3 {c : Int32} (h1 : ¬ p_X7_isSmall c) (h2 : ¬ p_X7_isDigit c) : f_X3_kindOf c = 3 := by
  rw [kd_s] at h1
  rw [kd_d] at h2
  unfold f_X3_kindOf at *
  repeat' split
  all_goals simp_all
theorem sp_X7_nextToken (N : ea_M) (n q : Nat) (hn : n ≤ 200) (hk : N 61 11 = nI n) (hq : q ≤ n) (h17 : N 61 17 = nI q) : ea_Sp 2 yX7_nextToken cX7_nextToken 1 none [.ref 61] N none (nx_set N (nI (tk_f (N 69) n q)) (nI (tk_b (N 69) n q))) := by
  refine ea_intro (own := RX7) (by decide +kernel) rfl (fun g => Nat.le_of_ble_eq_true rfl) (fun k C X => ?_)

  obtain ⟨F, hF⟩ : ∃ F, F = tk_f (N 69) n q := ⟨_, rfl⟩
  obtain ⟨B, hB⟩ : ∃ B, B = tk_b (N 69) n q := ⟨_, rfl⟩
  rw [← hF, ← hB] at X
  have hFn : F ≤ n := by
    have := (pa_run_le (p := fun j => decide (N 69 j = 32)) (n - q) q).2
    rw [hF]
    unfold tk_f
    omega
  have hk2 : F < n → tk_k (N 69) n q = f_X3_kindOf (N 69 F) := fun h => by
    unfold tk_k
    rw [← hF, if_pos h]
  have e11 : ∀ f b : Int32, nx_set N f b 61 11 = nI n := fun f b => by rw [nx_O (by decide) (by decide), hk]
  have l100 : ∀ (m i : Nat), i + m = n → B = pa_run (fun j => decide (f_X3_kindOf (N 69 j) = 1)) i m → ea_E k 100 [(0, .ref 61)] [] (nx_set N (nI F) (nI i)) := by
    intro m
    induction m with
    | zero =>
      intro i hi hb
      have hb' : B = i := hb
      have c0 : nx_set N (nI F) (nI i) 61 11 ≤ nx_set N (nI F) (nI i) 61 17 := by rw [e11, nx_17]; exact nI_le (by omega) (by omega)
      refine km_nextToken_100 C X  (fun _ => ⟨rfl, by rw [hb']⟩) (fun c => absurd c0 c) (fun c _ => absurd c0 c) (fun c _ => absurd c0 c)
    | succ m ih =>
      intro i hi hb
      have c0 : ¬ nx_set N (nI F) (nI i) 61 11 ≤ nx_set N (nI F) (nI i) 61 17 := by rw [e11, nx_17]; exact nI_ge (by omega) (by omega)
      have v0 : vp_in (nx_set N (nI F) (nI i) 61 17) 200 := by rw [nx_17]; exact vp_in_nI (by omega) (by decide)
      have e2 : nx_set N (nI F) (nI i) 69 (nx_set N (nI F) (nI i) 61 17).toNatClampNeg = N 69 i := by rw [nx_R (by decide), nx_17, nI_clamp (by omega)]
      rw [pa_run] at hb
      by_cases hs : p_X7_isSmall (nx_set N (nI F) (nI i) 69 (nx_set N (nI F) (nI i) 61 17).toNatClampNeg)
      · have hs2 := hs
        rw [e2, kd_s] at hs2
        rw [if_pos (decide_eq_true hs2)] at hb
        have nx := ih (i + 1) (by omega) hb
        rw [← nI_1, ← nx_u17 N (nI F) (nI i), ← nx_17 N (nI F) (nI i)] at nx
        refine km_nextToken_100 C X  (fun c => absurd c c0) (fun _ => v0) (fun _ c => absurd hs c) (fun _ _ => by rw [nx_17] at nx; rw [nx_17]; exact nx)
      · have hs2 := hs
        rw [e2, kd_s] at hs2
        rw [if_neg (by simpa using hs2)] at hb
        refine km_nextToken_100 C X  (fun c => absurd c c0) (fun _ => v0) (fun _ _ => ⟨rfl, by rw [hb]⟩) (fun _ c => absurd c hs)
  have l165 : ∀ (m i : Nat), i + m = n → B = pa_run (fun j => decide (f_X3_kindOf (N 69 j) = 2)) i m → ea_E k 165 [(0, .ref 61)] [] (nx_set N (nI F) (nI i)) := by
    intro m
    induction m with
    | zero =>
      intro i hi hb
      have hb' : B = i := hb
      have c0 : nx_set N (nI F) (nI i) 61 11 ≤ nx_set N (nI F) (nI i) 61 17 := by rw [e11, nx_17]; exact nI_le (by omega) (by omega)
      refine km_nextToken_165 C X  (fun _ => ⟨rfl, by rw [hb']⟩) (fun c => absurd c0 c) (fun c _ => absurd c0 c) (fun c _ => absurd c0 c)
    | succ m ih =>
      intro i hi hb
      have c0 : ¬ nx_set N (nI F) (nI i) 61 11 ≤ nx_set N (nI F) (nI i) 61 17 := by rw [e11, nx_17]; exact nI_ge (by omega) (by omega)
      have v0 : vp_in (nx_set N (nI F) (nI i) 61 17) 200 := by rw [nx_17]; exact vp_in_nI (by omega) (by decide)
      have e2 : nx_set N (nI F) (nI i) 69 (nx_set N (nI F) (nI i) 61 17).toNatClampNeg = N 69 i := by rw [nx_R (by decide), nx_17, nI_clamp (by omega)]
      rw [pa_run] at hb
      by_cases hs : p_X7_isDigit (nx_set N (nI F) (nI i) 69 (nx_set N (nI F) (nI i) 61 17).toNatClampNeg)
      · have hs2 := hs
        rw [e2, kd_d] at hs2
        rw [if_pos (decide_eq_true hs2)] at hb
        have nx := ih (i + 1) (by omega) hb
        rw [← nI_1, ← nx_u17 N (nI F) (nI i)] at nx
        refine km_nextToken_165 C X  (fun c => absurd c c0) (fun _ => v0) (fun _ c => absurd hs c) (fun _ _ => by rw [nx_17]; exact nx)
      · have hs2 := hs
        rw [e2, kd_d] at hs2
        rw [if_neg (by simpa using hs2)] at hb
        refine km_nextToken_165 C X  (fun c => absurd c c0) (fun _ => v0) (fun _ _ => ⟨rfl, by rw [hb]⟩) (fun _ c => absurd c hs)
  have l8 : ∀ (m i : Nat), i + m = n → F = pa_run (fun j => decide (N 69 j = 32)) i m → ea_E k 8 [(0, .ref 61)] [] (nx_set N (nI i) (nI q)) := by
    intro m
    induction m with
    | zero =>
      intro i hi hf
      have hf' : F = i := hf
      have c0 : nx_set N (nI i) (nI q) 61 11 ≤ nx_set N (nI i) (nI q) 61 16 := by rw [e11, nx_16]; exact nI_le (by omega) (by omega)
      have hB2 : B = i := by
        rw [hB]
        unfold tk_b
        rw [← hF, if_neg (by omega), hf']
      refine km_nextToken_8 C X  (fun _ _ _ _ => ⟨rfl, by rw [nx_16, nx_u17, hB2, hf']⟩) (fun _ _ _ c => absurd c0 c) (fun _ _ _ c _ => absurd c0 c) (fun _ _ _ c _ => absurd c0 c) (fun _ _ c => absurd c0 c) (fun _ _ c _ _ => absurd c0 c) (fun _ _ c _ _ => absurd c0 c) (fun _ _ c _ _ _ => absurd c0 c) (fun _ _ c _ _ _ => absurd c0 c) (fun _ _ c _ => absurd c0 c) (fun _ c _ _ => absurd c0 c) (fun _ c _ _ => absurd c0 c) (fun _ c _ _ _ => absurd c0 c) (fun _ c _ _ _ => absurd c0 c) (fun _ c _ => absurd c0 c) (fun _ c _ _ _ => absurd c0 c) (fun _ c _ _ _ => absurd c0 c) (fun _ c _ _ _ _ => absurd c0 c) (fun _ c _ _ _ _ => absurd c0 c) (fun _ c _ _ => absurd c0 c) (fun c => absurd c0 c) (fun c _ _ _ _ => absurd c0 c) (fun c _ _ _ _ => absurd c0 c) (fun c _ _ _ _ _ => absurd c0 c) (fun c _ _ _ _ _ => absurd c0 c) (fun c _ _ _ => absurd c0 c) (fun c _ _ _ _ _ => absurd c0 c) (fun c _ _ _ _ _ => absurd c0 c) (fun c _ _ _ _ _ _ => absurd c0 c) (fun c _ _ _ _ _ _ => absurd c0 c) (fun c _ _ _ _ => absurd c0 c) (fun c _ _ _ _ => absurd c0 c) (fun c _ _ _ _ => absurd c0 c) (fun c _ _ _ _ _ => absurd c0 c) (fun c _ _ _ _ _ => absurd c0 c) (fun c _ _ _ => absurd c0 c) (fun c _ _ _ _ _ => absurd c0 c) (fun c _ _ _ _ _ => absurd c0 c) (fun c _ _ _ _ _ _ => absurd c0 c) (fun c _ _ _ _ _ _ => absurd c0 c) (fun c _ _ _ _ => absurd c0 c) (fun c _ => absurd c0 c)
    | succ m ih =>
      intro i hi hf
      have c0 : ¬ nx_set N (nI i) (nI q) 61 11 ≤ nx_set N (nI i) (nI q) 61 16 := by rw [e11, nx_16]; exact nI_ge (by omega) (by omega)
      have v0 : vp_in (nx_set N (nI i) (nI q) 61 16) 200 := by rw [nx_16]; exact vp_in_nI (by omega) (by decide)
      have e2 : nx_set N (nI i) (nI q) 69 (nx_set N (nI i) (nI q) 61 16).toNatClampNeg = N 69 i := by rw [nx_R (by decide), nx_16, nI_clamp (by omega)]
      rw [pa_run] at hf
      by_cases hb : nx_set N (nI i) (nI q) 69 (nx_set N (nI i) (nI q) 61 16).toNatClampNeg = 32
      · have hb2 := hb
        rw [e2] at hb2
        rw [if_pos (decide_eq_true hb2)] at hf
        have nx := ih (i + 1) (by omega) hf
        rw [← nI_1, ← nx_u16 N (nI i)] at nx
        refine km_nextToken_8 C X  (fun c _ _ _ => absurd c c0) (fun c _ _ _ => absurd c c0) (fun c _ _ _ _ => absurd c c0) (fun c _ _ _ _ => absurd c c0) (fun c _ _ => absurd c c0) (fun c _ _ _ _ => absurd c c0) (fun c _ _ _ _ => absurd c c0) (fun c _ _ _ _ _ => absurd c c0) (fun c _ _ _ _ _ => absurd c c0) (fun c _ _ _ => absurd c c0) (fun c _ _ _ => absurd c c0) (fun c _ _ _ => absurd c c0) (fun c _ _ _ _ => absurd c c0) (fun c _ _ _ _ => absurd c c0) (fun c _ _ => absurd c c0) (fun c _ _ _ _ => absurd c c0) (fun c _ _ _ _ => absurd c c0) (fun c _ _ _ _ _ => absurd c c0) (fun c _ _ _ _ _ => absurd c c0) (fun c _ _ _ => absurd c c0) (fun _ => v0) (fun _ c _ _ _ => absurd hb c) (fun _ c _ _ _ => absurd hb c) (fun _ c _ _ _ _ => absurd hb c) (fun _ c _ _ _ _ => absurd hb c) (fun _ c _ _ => absurd hb c) (fun _ c _ _ _ _ => absurd hb c) (fun _ c _ _ _ _ => absurd hb c) (fun _ c _ _ _ _ _ => absurd hb c) (fun _ c _ _ _ _ _ => absurd hb c) (fun _ c _ _ _ => absurd hb c) (fun _ c _ _ _ => absurd hb c) (fun _ c _ _ _ => absurd hb c) (fun _ c _ _ _ _ => absurd hb c) (fun _ c _ _ _ _ => absurd hb c) (fun _ c _ _ => absurd hb c) (fun _ c _ _ _ _ => absurd hb c) (fun _ c _ _ _ _ => absurd hb c) (fun _ c _ _ _ _ _ => absurd hb c) (fun _ c _ _ _ _ _ => absurd hb c) (fun _ c _ _ _ => absurd hb c) (fun _ _ => by rw [nx_16]; exact nx)
      · have hb2 := hb
        rw [e2] at hb2
        rw [if_neg (by simpa using hb2)] at hf
        have hlt : F < n := by omega
        have hB2 := hB
        unfold tk_b at hB2
        rw [← hF, if_pos hlt, hk2 hlt, hf] at hB2
        by_cases hs : p_X7_isSmall (nx_set N (nI i) (nI q) 69 (nx_set N (nI i) (nI q) 61 16).toNatClampNeg)
        · have hs2 := hs
          rw [e2, kd_s] at hs2
          rw [hs2, if_neg (by decide)] at hB2
          have nx := l100 (n - (i + 1)) (i + 1) (by omega) hB2
          rw [← nI_1, hf, ← nx_u17 N (nI i) (nI q)] at nx
          refine km_nextToken_8 C X  (fun c _ _ _ => absurd c c0) (fun c _ _ _ => absurd c c0) (fun c _ _ _ _ => absurd c c0) (fun c _ _ _ _ => absurd c c0) (fun c _ _ => absurd c c0) (fun c _ _ _ _ => absurd c c0) (fun c _ _ _ _ => absurd c c0) (fun c _ _ _ _ _ => absurd c c0) (fun c _ _ _ _ _ => absurd c c0) (fun c _ _ _ => absurd c c0) (fun c _ _ _ => absurd c c0) (fun c _ _ _ => absurd c c0) (fun c _ _ _ _ => absurd c c0) (fun c _ _ _ _ => absurd c c0) (fun c _ _ => absurd c c0) (fun c _ _ _ _ => absurd c c0) (fun c _ _ _ _ => absurd c c0) (fun c _ _ _ _ _ => absurd c c0) (fun c _ _ _ _ _ => absurd c c0) (fun c _ _ _ => absurd c c0) (fun _ => v0) (fun _ _ c _ _ => absurd c c0) (fun _ _ c _ _ => absurd c c0) (fun _ _ c _ _ _ => absurd c c0) (fun _ _ c _ _ _ => absurd c c0) (fun _ _ c _ => absurd c c0) (fun _ _ c _ _ _ => absurd c c0) (fun _ _ c _ _ _ => absurd c c0) (fun _ _ c _ _ _ _ => absurd c c0) (fun _ _ c _ _ _ _ => absurd c c0) (fun _ _ c _ _ => absurd c c0) (fun _ _ _ c _ => absurd c c0) (fun _ _ _ c _ => absurd c c0) (fun _ _ _ c _ _ => absurd c c0) (fun _ _ _ c _ _ => absurd c c0) (fun _ _ _ _ => v0) (fun _ _ _ _ c _ => absurd hs c) (fun _ _ _ _ c _ => absurd hs c) (fun _ _ _ _ c _ _ => absurd hs c) (fun _ _ _ _ c _ _ => absurd hs c) (fun _ _ _ _ _ => by rw [nx_16]; exact nx) (fun _ c => absurd c hb)
        · by_cases hd : p_X7_isDigit (nx_set N (nI i) (nI q) 69 (nx_set N (nI i) (nI q) 61 16).toNatClampNeg)
          · have hs2 := hd
            rw [e2, kd_d] at hs2
            rw [hs2, if_neg (by decide)] at hB2
            have nx := l165 (n - (i + 1)) (i + 1) (by omega) hB2
            rw [← nI_1, hf, ← nx_u17 N (nI i) (nI q)] at nx
            refine km_nextToken_8 C X  (fun c _ _ _ => absurd c c0) (fun c _ _ _ => absurd c c0) (fun c _ _ _ _ => absurd c c0) (fun c _ _ _ _ => absurd c c0) (fun c _ _ => absurd c c0) (fun c _ _ _ _ => absurd c c0) (fun c _ _ _ _ => absurd c c0) (fun c _ _ _ _ _ => absurd c c0) (fun c _ _ _ _ _ => absurd c c0) (fun c _ _ _ => absurd c c0) (fun c _ _ _ => absurd c c0) (fun c _ _ _ => absurd c c0) (fun c _ _ _ _ => absurd c c0) (fun c _ _ _ _ => absurd c c0) (fun c _ _ => absurd c c0) (fun c _ _ _ _ => absurd c c0) (fun c _ _ _ _ => absurd c c0) (fun c _ _ _ _ _ => absurd c c0) (fun c _ _ _ _ _ => absurd c c0) (fun c _ _ _ => absurd c c0) (fun _ => v0) (fun _ _ c _ _ => absurd c c0) (fun _ _ c _ _ => absurd c c0) (fun _ _ c _ _ _ => absurd c c0) (fun _ _ c _ _ _ => absurd c c0) (fun _ _ c _ => absurd c c0) (fun _ _ c _ _ _ => absurd c c0) (fun _ _ c _ _ _ => absurd c c0) (fun _ _ c _ _ _ _ => absurd c c0) (fun _ _ c _ _ _ _ => absurd c c0) (fun _ _ c _ _ => absurd c c0) (fun _ _ _ c _ => absurd c c0) (fun _ _ _ c _ => absurd c c0) (fun _ _ _ c _ _ => absurd c c0) (fun _ _ _ c _ _ => absurd c c0) (fun _ _ _ _ => v0) (fun _ _ _ _ _ c => absurd c c0) (fun _ _ _ _ _ _ => v0) (fun _ _ _ _ _ _ c => absurd hd c) (fun _ _ _ _ _ _ _ => by rw [nx_16]; exact nx) (fun _ _ _ _ c => absurd c hs) (fun _ c => absurd c hb)
          · have h3 := kd_3 hs hd
            rw [e2] at h3
            rw [h3, if_pos rfl] at hB2
            refine km_nextToken_8 C X  (fun c _ _ _ => absurd c c0) (fun c _ _ _ => absurd c c0) (fun c _ _ _ _ => absurd c c0) (fun c _ _ _ _ => absurd c c0) (fun c _ _ => absurd c c0) (fun c _ _ _ _ => absurd c c0) (fun c _ _ _ _ => absurd c c0) (fun c _ _ _ _ _ => absurd c c0) (fun c _ _ _ _ _ => absurd c c0) (fun c _ _ _ => absurd c c0) (fun c _ _ _ => absurd c c0) (fun c _ _ _ => absurd c c0) (fun c _ _ _ _ => absurd c c0) (fun c _ _ _ _ => absurd c c0) (fun c _ _ => absurd c c0) (fun c _ _ _ _ => absurd c c0) (fun c _ _ _ _ => absurd c c0) (fun c _ _ _ _ _ => absurd c c0) (fun c _ _ _ _ _ => absurd c c0) (fun c _ _ _ => absurd c c0) (fun _ => v0) (fun _ _ c _ _ => absurd c c0) (fun _ _ c _ _ => absurd c c0) (fun _ _ c _ _ _ => absurd c c0) (fun _ _ c _ _ _ => absurd c c0) (fun _ _ c _ => absurd c c0) (fun _ _ c _ _ _ => absurd c c0) (fun _ _ c _ _ _ => absurd c c0) (fun _ _ c _ _ _ _ => absurd c c0) (fun _ _ c _ _ _ _ => absurd c c0) (fun _ _ c _ _ => absurd c c0) (fun _ _ _ c _ => absurd c c0) (fun _ _ _ c _ => absurd c c0) (fun _ _ _ c _ _ => absurd c c0) (fun _ _ _ c _ _ => absurd c c0) (fun _ _ _ _ => v0) (fun _ _ _ _ _ c => absurd c c0) (fun _ _ _ _ _ _ => v0) (fun _ _ _ _ _ _ _ => ⟨rfl, by rw [nx_16, nx_u17, nI_1, hf, hB2]⟩) (fun _ _ _ _ _ _ c => absurd c hd) (fun _ _ _ _ c => absurd c hs) (fun _ c => absurd c hb)
  have h0 := l8 (n - q) q (by omega) hF
  refine km_nextToken C X ?_
  rw [h17]
  have e0 := nx_u16 N (N 61 16) (N 61 17) (nI q)
  rw [nx_id, h17] at e0
  rw [e0]
  exact h0
/-- the text, with the token looked at -/
def tx_ok (N : ea_M) (L : Nat → Int32) (n p : Nat) : Prop := N 69 = L ∧ n ≤ 200 ∧ p ≤ n ∧ N 61 11 = nI n ∧ N 61 16 = nI (tk_f L n p) ∧ N 61 17 = nI (tk_b L n p)
/-- all else stands -/
def tx_fr (N N' : ea_M) : Prop := (∀ a, a ≠ 61 → N' a = N a) ∧ ∀ j, j ≠ 16 → j ≠ 17 → N' 61 j = N 61 j
theorem tx_look {N : ea_M} {L : Nat → Int32} {n q : Nat} (h3 : N 69 = L) (hn : n ≤ 200) (h1 : N 61 11 = nI n) (hq : q ≤ n) (h17 : N 61 17 = nI q) : ∃ N', ea_Sp 2 yX7_nextToken cX7_nextToken 1 none [.ref 61] N none N' ∧ tx_ok N' L n q ∧ tx_fr N N' := by
  refine ⟨_, sp_X7_nextToken N n q hn h1 hq h17, ⟨(nx_R (by decide)).trans h3, hn, hq, (nx_O (by decide) (by decide)).trans h1, ?_, ?_⟩, fun a ha => nx_R ha, fun j ha hb => nx_O ha hb⟩
  · rw [nx_16, h3]
  · rw [nx_17, h3]
theorem tx_next {N : ea_M} {L : Nat → Int32} {n p : Nat} (h : tx_ok N L n p) : ∃ N', ea_Sp 2 yX7_nextToken cX7_nextToken 1 none [.ref 61] N none N' ∧ tx_ok N' L n (tk_b L n p) ∧ tx_fr N N' := by
  obtain ⟨h1, h2, h3, h4, h5, h6⟩ := h
  exact tx_look h1 h2 h4 (tk_fb L h3).2.2 h6
