/-! ===== wordHere, find, readsNewWord, readsTold ===== -/
def wp_go (L : Nat → Int32) (f b w : Nat) : Nat → Nat → Bool
  | _, 0 => true
  | j, m + 1 => if wordsL.getD (5 * w + j) 0 = (if f + j < b then L (f + j) else 0) then wp_go L f b w (j + 1) m else false
def wp_b (L : Nat → Int32) (f b w : Nat) : Bool := decide (f < b ∧ b - f < 6) && wp_go L f b w 0 5
theorem wp_iff {L : Nat → Int32} {f b w : Nat} : ∀ (m j : Nat), wp_go L f b w j m = true ↔ ∀ k, j ≤ k → k < j + m → wordsL.getD (5 * w + k) 0 = (if f + k < b then L (f + k) else 0) := by
  intro m
  induction m with
  | zero => intro j; exact ⟨fun _ k h1 h2 => absurd h1 (by omega), fun _ => rfl⟩
  | succ m ih =>
    intro j
    rw [wp_go]
    by_cases c : wordsL.getD (5 * w + j) 0 = (if f + j < b then L (f + j) else 0)
    · rw [if_pos c, ih (j + 1)]
      refine ⟨fun h k h1 h2 => ?_, fun h k h1 h2 => h k (by omega) (by omega)⟩
      by_cases e : k = j
      · rw [e]; exact c
      · exact h k (by omega) (by omega)
    · rw [if_neg c]
      exact ⟨fun z => absurd z (by decide), fun h => absurd (h j (Nat.le_refl _) (by omega)) c⟩
theorem iw_iff {L : Nat → Int32} {f w : Nat} : ∀ (m j : Nat), iw_go L f w j m = true ↔ ∀ k, j ≤ k → k < j + m → L (f + k) = ea_ch w k := by
  intro m
  induction m with
  | zero => intro j; exact ⟨fun _ k h1 h2 => absurd h1 (by omega), fun _ => rfl⟩
  | succ m ih =>
    intro j
    rw [iw_go]
    by_cases c : L (f + j) = ea_ch w j
    · rw [if_pos c, ih (j + 1)]
      refine ⟨fun h k h1 h2 => ?_, fun h k h1 h2 => h k (by omega) (by omega)⟩
      by_cases e : k = j
      · rw [e]; exact c
      · exact h k (by omega) (by omega)
    · rw [if_neg c]
      exact ⟨fun z => absurd z (by decide), fun h => absurd (h j (Nat.le_refl _) (by omega)) c⟩
theorem wf1 : ∀ w, w < 5 → 1 ≤ ea_lenS.getD w 0 ∧ ea_lenS.getD w 0 ≤ 5 := by decide
theorem wf2 : ∀ w, w < 5 → ∀ k, k < 5 → wordsL.getD (5 * w + k) 0 = if k < ea_lenS.getD w 0 then ea_ch w k else 0 := by decide +kernel
theorem wf3 : ∀ w, w < 5 → ∀ k, k < ea_lenS.getD w 0 → ¬ ea_ch w k = 0 := by decide +kernel
theorem wp_iw {L : Nat → Int32} {n p w : Nat} (hp : p ≤ n) (hw : w < 5) : wp_b L (tk_f L n p) (tk_b L n p) w = iw_b L n p w := by
  obtain ⟨l1, l5⟩ := wf1 w hw
  have g2 := wf2 w hw
  have g3 := wf3 w hw
  have hfb := tk_fb L hp
  have hin : ∀ j, tk_f L n p ≤ j → j < tk_b L n p → tk_f L n p + 1 < tk_b L n p → ¬ f_X3_kindOf (L j) = 3 := fun j h1 h2 => (tk_in hp h1 h2).2.2
  unfold wp_b iw_b
  generalize ea_lenS.getD w 0 = l at *
  generalize tk_f L n p = f at *
  generalize tk_b L n p = b at *
  rw [Bool.eq_iff_iff, Bool.and_eq_true, Bool.and_eq_true, decide_eq_true_iff, decide_eq_true_iff, wp_iff, iw_iff]
  constructor
  · rintro ⟨⟨h1, h2⟩, h3⟩
    have e : b - f = l := by
      rcases Nat.lt_trichotomy (b - f) l with z | z | z
      · have q := h3 (b - f) (by omega) (by omega)
        rw [g2 _ (by omega), if_pos z, if_neg (by omega)] at q
        exact absurd q (g3 _ z)
      · exact z
      · have q := h3 l (by omega) (by omega)
        rw [g2 _ (by omega), if_neg (by omega), if_pos (by omega)] at q
        exact absurd (by rw [← q]; decide) (hin (f + l) (by omega) (by omega) (by omega))
    refine ⟨e, fun k h4 h5 => ?_⟩
    have q := h3 k (by omega) (by omega)
    rw [g2 _ (by omega), if_pos (by omega), if_pos (by omega)] at q
    exact q.symm
  · rintro ⟨h1, h2⟩
    refine ⟨⟨by omega, by omega⟩, fun k h4 h5 => ?_⟩
    rw [g2 k (by omega)]
    by_cases c : k < l
    · rw [if_pos c, if_pos (by omega)]
      exact (h2 k (by omega) (by omega)).symm
    · rw [if_neg c, if_neg (by omega)]
def wd_o (L : Nat → Int32) (n p : Nat) : Option Nat := pa_ix (fun w => iw_b L n p w) 0 5
theorem sp_X7_wordHere {N : ea_M} {L : Nat → Int32} {n p : Nat} (h : tx_ok N L n p) (hc : R_c N) : ea_Sp 0 yX7_wordHere cX7_wordHere 4 (some .int) [.ref 61] N (some (.int (pa_ri (wd_o L n p)))) N := by
  refine ea_intro (own := RX7) (by decide +kernel) rfl (fun g => Nat.le_of_ble_eq_true rfl) (fun k C X => ?_)

  obtain ⟨e69, hn, hp, e11, e16, e17⟩ := id h
  have hiw : ∀ w, w < 5 → wp_b L (tk_f L n p) (tk_b L n p) w = iw_b L n p w := fun w hw => wp_iw hp hw
  obtain ⟨F, hF⟩ : ∃ F, F = tk_f L n p := ⟨_, rfl⟩
  obtain ⟨B, hB⟩ : ∃ B, B = tk_b L n p := ⟨_, rfl⟩
  have hfb := tk_fb L hp
  rw [← hF, ← hB] at hfb hiw
  rw [← hF] at e16
  rw [← hB] at e17
  obtain ⟨R, hR⟩ : ∃ R, R = pa_ri (wd_o L n p) := ⟨_, rfl⟩
  rw [← hR] at X
  unfold wd_o at hR
  have l2 : ∀ (m i : Nat), i + m = 5 → R = pa_ri (pa_ix (fun w => iw_b L n p w) i m) → ea_E k 2 [(0, .ref 61), (1, .int (nI i))] [] N := by
    intro m
    induction m with
    | zero =>
      intro i hi hr
      have c0 : 4 < nI i := by rw [show i = 5 by omega]; decide
      refine km_wordHere_2 C X  (fun _ => ⟨by rw [hr]; rfl, rfl⟩) (fun c _ => absurd c0 c) (fun c _ _ => absurd c0 c) (fun c _ _ => absurd c0 c)
    | succ m ih =>
      intro i hi hr
      have c0 : ¬ 4 < nI i := nI_nlt (a := 4) (by omega) (by omega)
      rw [pa_ix, ← hiw i (by omega)] at hr
      have l0 : ∀ jj : Int32, wp_b L F B i = false → ea_E k 40 [(0, .ref 61), (1, .int (nI i)), (2, .int 0), (3, .int jj)] [] N := fun jj hf => by
        rw [hf, if_neg (by decide)] at hr
        have nx := ih (i + 1) (by omega) hr
        rw [← nI_1] at nx
        have z : (0 : Int32) = 0 := rfl
        by_cases cj : 5 ≤ jj
        · refine km_wordHere_40 C X  (fun _ _ => nx) (fun _ c => absurd z c) (fun c _ _ => absurd cj c) (fun c _ _ => absurd cj c) (fun c _ => absurd cj c) (fun c _ _ _ => absurd cj c) (fun c _ _ _ => absurd cj c) (fun c _ _ => absurd cj c) (fun c _ _ _ => absurd cj c) (fun c _ _ _ => absurd cj c)
        · refine km_wordHere_40 C X  (fun c _ => absurd c cj) (fun c _ => absurd c cj) (fun _ _ _ => nx) (fun _ _ c => absurd z c) (fun _ c => absurd z c) (fun _ c _ _ => absurd z c) (fun _ c _ _ => absurd z c) (fun _ c _ => absurd z c) (fun _ c _ _ => absurd z c) (fun _ c _ _ => absurd z c)
      by_cases c1 : N 61 17 ≤ N 61 16
      · have nx := l0 0 (by
          unfold wp_b
          rw [decide_eq_false, Bool.false_and]
          rw [e16, e17] at c1
          have := (nI_leI (a := B) (b := F) (by omega) (by omega)).mp c1
          omega)
        refine km_wordHere_2 C X  (fun c => absurd c c0) (fun _ _ => nx) (fun _ c _ => absurd c1 c) (fun _ c _ => absurd c1 c)
      · have e4 : N 61 17 - N 61 16 = nI (B - F) := by rw [e16, e17]; exact pk_sub (by omega)
        by_cases c2 : 6 ≤ N 61 17 - N 61 16
        · have nx := l0 0 (by
            unfold wp_b
            rw [decide_eq_false, Bool.false_and]
            rw [e4] at c2
            have := (nI_leI (a := 6) (b := B - F) (by omega) (by omega)).mp c2
            omega)
          refine km_wordHere_2 C X  (fun c => absurd c c0) (fun _ c => absurd c c1) (fun _ _ _ => nx) (fun _ _ c => absurd c2 c)
        · have hlen : F < B ∧ B - F < 6 := by
            rw [e16, e17] at c1
            rw [e4] at c2
            refine ⟨Nat.lt_of_not_le (fun z => c1 (nI_le z (by omega))), Nat.lt_of_not_le (fun z => c2 (nI_le (a := 6) z (by omega)))⟩
          have hb : wp_b L F B i = wp_go L F B i 0 5 := by
            unfold wp_b
            rw [decide_eq_true hlen, Bool.true_and]
          have l40 : ∀ (c j : Nat), j + c = 5 → wp_b L F B i = wp_go L F B i j c → ea_E k 40 [(0, .ref 61), (1, .int (nI i)), (2, .int 1), (3, .int (nI j))] [] N := by
            intro c
            induction c with
            | zero =>
              intro j hj hh
              have cj : 5 ≤ nI j := nI_le (a := 5) (by omega) (by omega)
              have z : ¬ (1 : Int32) = 0 := by decide
              rw [hh, wp_go, if_pos rfl] at hr
              refine km_wordHere_40 C X  (fun _ c => absurd c z) (fun _ _ => ⟨by rw [hr]; rfl, rfl⟩) (fun c _ _ => absurd cj c) (fun c _ _ => absurd cj c) (fun c _ => absurd cj c) (fun c _ _ _ => absurd cj c) (fun c _ _ _ => absurd cj c) (fun c _ _ => absurd cj c) (fun c _ _ _ => absurd cj c) (fun c _ _ _ => absurd cj c)
            | succ c ih2 =>
              intro j hj hh
              have cj : ¬ 5 ≤ nI j := nI_ge (b := 5) (by omega) (by omega)
              have z : ¬ (1 : Int32) = 0 := by decide
              rw [wp_go] at hh
              have ei : 5 * nI i + nI j = nI (5 * i + j) := by rw [show (5 : Int32) = nI 5 from rfl, pk_mul, nI_add]
              have ef : N 61 16 + nI j = nI (F + j) := by rw [e16, nI_add]
              have v25 : vp_in (5 * nI i + nI j) 25 := by rw [ei]; exact vp_in_nI (by omega) (by decide)
              have ew : N 77 (5 * nI i + nI j).toNatClampNeg = wordsL.getD (5 * i + j) 0 := by rw [ei, nI_clamp (by omega)]; exact hc _ (by omega)
              by_cases cb : N 61 17 ≤ N 61 16 + nI j
              · have cb2 := cb
                rw [e17, ef] at cb2
                have cb3 := (nI_leI (a := B) (b := F + j) (by omega) (by omega)).mp cb2
                rw [if_neg (show ¬ F + j < B by omega)] at hh
                by_cases e : N 77 (5 * nI i + nI j).toNatClampNeg = 0
                · have e2 := e
                  rw [ew] at e2
                  rw [if_pos e2] at hh
                  have nx := ih2 (j + 1) (by omega) hh
                  rw [← nI_1] at nx
                  refine km_wordHere_40 C X  (fun c _ => absurd c cj) (fun c _ => absurd c cj) (fun _ c _ => absurd c z) (fun _ c _ => absurd c z) (fun _ _ => v25) (fun _ _ _ c => absurd e c) (fun _ _ _ _ => nx) (fun _ _ c => absurd cb c) (fun _ _ c _ => absurd cb c) (fun _ _ c _ => absurd cb c)
                · have e2 := e
                  rw [ew] at e2
                  rw [if_neg e2] at hh
                  have nx := l0 (nI j + 1) hh
                  refine km_wordHere_40 C X  (fun c _ => absurd c cj) (fun c _ => absurd c cj) (fun _ c _ => absurd c z) (fun _ c _ => absurd c z) (fun _ _ => v25) (fun _ _ _ _ => nx) (fun _ _ _ c => absurd c e) (fun _ _ c => absurd cb c) (fun _ _ c _ => absurd cb c) (fun _ _ c _ => absurd cb c)
              · have cb2 := cb
                rw [e17, ef] at cb2
                have cb3 : F + j < B := Nat.lt_of_not_le (fun z => cb2 (nI_le z (by omega)))
                rw [if_pos cb3] at hh
                have v200 : vp_in (N 61 16 + nI j) 200 := by rw [ef]; exact vp_in_nI (by omega) (by decide)
                have el : N 69 (N 61 16 + nI j).toNatClampNeg = L (F + j) := by rw [ef, nI_clamp (by omega), e69]
                by_cases e : N 77 (5 * nI i + nI j).toNatClampNeg = N 69 (N 61 16 + nI j).toNatClampNeg
                · have e2 := e
                  rw [ew, el] at e2
                  rw [if_pos e2] at hh
                  have nx := ih2 (j + 1) (by omega) hh
                  rw [← nI_1] at nx
                  refine km_wordHere_40 C X  (fun c _ => absurd c cj) (fun c _ => absurd c cj) (fun _ c _ => absurd c z) (fun _ c _ => absurd c z) (fun _ _ => v25) (fun _ _ c _ => absurd c cb) (fun _ _ c _ => absurd c cb) (fun _ _ _ => v200) (fun _ _ _ c => absurd e c) (fun _ _ _ _ => nx)
                · have e2 := e
                  rw [ew, el] at e2
                  rw [if_neg e2] at hh
                  have nx := l0 (nI j + 1) hh
                  refine km_wordHere_40 C X  (fun c _ => absurd c cj) (fun c _ => absurd c cj) (fun _ c _ => absurd c z) (fun _ c _ => absurd c z) (fun _ _ => v25) (fun _ _ c _ => absurd c cb) (fun _ _ c _ => absurd c cb) (fun _ _ _ => v200) (fun _ _ _ _ => nx) (fun _ _ _ c => absurd c e)
          have nx := l40 5 0 (by omega) hb
          refine km_wordHere_2 C X  (fun c => absurd c c0) (fun _ c => absurd c c1) (fun _ _ c => absurd c c2) (fun _ _ _ => nx)
  exact km_wordHere C X (l2 5 0 (by omega) hR)
theorem pm_find : pm 3 yX6_find cX6_find 1 0 yX7_find cX7_find 5 (some .int) [] := by
  refine pm_q (fun s M N0 h0 => ?_)
  have hk0 : M 13 0 = nI s.ns := h0.1.1.1.2.2.1
  have hns : s.ns ≤ 6 := h0.1.1.1.1
  have hnn : s.n ≤ 200 := h0.2.1.1
  have hwn : wn_ok M 13 s.ns := h0.1.1.2.1
  have sp := sp_X4_stuffNamed M 13 s.ns 0 s.n rfl hk0 hns hwn (Nat.zero_le _) hnn
  rw [show nI 0 = (0 : Int32) from rfl, ← h0.2.1.2.1] at sp
  obtain ⟨R, hR⟩ : ∃ R, R = pa_ri (tk_sn M 13 s.ns 0 s.n) := ⟨_, rfl⟩
  rw [← hR] at sp
  refine ⟨.int R, ?_, fun N hN => ?_⟩
  · refine ea_intro (own := RX6) (by decide +kernel) rfl (fun g => Nat.le_of_ble_eq_true rfl) (fun k C X => ?_)
    refine kb_X6_find C X  sp (⟨rfl, rfl⟩)
  refine ea_intro (own := RX7) (by decide +kernel) rfl (fun g => Nat.le_of_ble_eq_true rfl) (fun k C X => ?_)
  obtain ⟨-, -, -, hW, hS, -⟩ := hN.1
  have e69 := hN.2.1.2.2.2
  have e11 : N 61 11 = nI s.n := hN.2.1.2.2.1
  have e1 := nW_1 hN
  have l2 : ∀ (m i : Nat), i + m = s.ns → R = pa_ri (pa_ix (fun t => tk_nm (M 3) (M (13 + 1)) t (wn_l M 13 t) 0 (s.n - 0) 0) i m) → ea_E k 2 [(0, .ref 61), (1, .int (nI i))] [] N := by
    intro m
    induction m with
    | zero =>
      intro i hi hr
      have c0 : N 61 1 ≤ nI i := by rw [e1]; exact nI_le (by omega) (by omega)
      refine km_find_2 C X  (fun _ => ⟨by rw [hr]; rfl, rfl⟩) (fun c => absurd c0 c)
    | succ m ih =>
      intro i hi hr
      have c0 : ¬ N 61 1 ≤ nI i := by rw [e1]; exact nI_ge (by omega) (by omega)
      have v6 : vp_in (nI i) 6 := vp_in_nI (by omega) (by decide)
      obtain ⟨hle, l1, l7⟩ := wn_e hwn (show i < s.ns by omega)
      obtain ⟨l, hl⟩ : ∃ l, l = wn_l M 13 i := ⟨_, rfl⟩
      rw [← hl] at hle l1 l7
      have e66 : N 66 (nI i).toNatClampNeg = nI l := by rw [nI_clamp (by omega), hS i (by omega)]; exact hle
      rw [pa_ix, ← hl] at hr
      have l0 : ∀ am jj : Int32, tk_nm (M 3) (M (13 + 1)) i l 0 (s.n - 0) 0 = false → ea_E k 17 [(0, .ref 61), (1, .int (nI i)), (2, .int am), (3, .int 0), (4, .int jj)] [] N := fun am jj hf => by
        rw [hf, if_neg (by decide)] at hr
        have nx := ih (i + 1) (by omega) hr
        rw [← nI_1] at nx
        have z : (0 : Int32) = 0 := rfl
        by_cases cj : N 61 11 ≤ jj
        · refine km_find_17 C X  (fun _ _ => nx) (fun _ c => absurd z c) (fun _ c _ => absurd z c) (fun _ c _ => absurd z c) (fun c _ _ => absurd cj c) (fun c _ _ => absurd cj c) (fun c _ _ _ => absurd cj c) (fun c _ _ _ => absurd cj c) (fun c _ => absurd cj c) (fun c _ _ => absurd cj c) (fun c _ _ => absurd cj c) (fun c _ _ _ => absurd cj c) (fun c _ _ _ => absurd cj c) (fun c _ _ _ => absurd cj c) (fun c _ _ _ _ => absurd cj c) (fun c _ _ _ _ => absurd cj c)
        · refine km_find_17 C X  (fun c _ => absurd c cj) (fun c _ => absurd c cj) (fun c _ _ => absurd c cj) (fun c _ _ => absurd c cj) (fun _ _ _ => nx) (fun _ _ c => absurd z c) (fun _ _ c _ => absurd z c) (fun _ _ c _ => absurd z c) (fun _ c => absurd z c) (fun _ c _ => absurd z c) (fun _ c _ => absurd z c) (fun _ c _ _ => absurd z c) (fun _ c _ _ => absurd z c) (fun _ c _ _ => absurd z c) (fun _ c _ _ _ => absurd z c) (fun _ c _ _ _ => absurd z c)
      have l17 : ∀ (c j m : Nat), j + c = s.n → m ≤ l → tk_nm (M 3) (M (13 + 1)) i l 0 (s.n - 0) 0 = tk_nm (M 3) (M (13 + 1)) i l j c m → ea_E k 17 [(0, .ref 61), (1, .int (nI i)), (2, .int (nI m)), (3, .int 1), (4, .int (nI j))] [] N := by
        intro c
        induction c with
        | zero =>
          intro j m hj hm hh
          have cj : N 61 11 ≤ nI j := by rw [e11]; exact nI_le (by omega) (by omega)
          have z : ¬ (1 : Int32) = 0 := by decide
          rw [tk_nm] at hh
          by_cases e : nI m = N 66 (nI i).toNatClampNeg
          · have e2 := e
            rw [e66] at e2
            rw [hh, decide_eq_true ((nI_eq (by omega) (by omega)).mp e2), if_pos rfl] at hr
            refine km_find_17 C X  (fun _ c => absurd c z) (fun _ _ => v6) (fun _ _ c => absurd e c) (fun _ _ _ => ⟨by rw [hr]; rfl, rfl⟩) (fun c _ _ => absurd cj c) (fun c _ _ => absurd cj c) (fun c _ _ _ => absurd cj c) (fun c _ _ _ => absurd cj c) (fun c _ => absurd cj c) (fun c _ _ => absurd cj c) (fun c _ _ => absurd cj c) (fun c _ _ _ => absurd cj c) (fun c _ _ _ => absurd cj c) (fun c _ _ _ => absurd cj c) (fun c _ _ _ _ => absurd cj c) (fun c _ _ _ _ => absurd cj c)
          · have e2 := e
            rw [e66] at e2
            rw [hh, decide_eq_false (fun q => e2 (by rw [q])), if_neg (by decide)] at hr
            have nx := ih (i + 1) (by omega) hr
            rw [← nI_1] at nx
            refine km_find_17 C X  (fun _ c => absurd c z) (fun _ _ => v6) (fun _ _ _ => nx) (fun _ _ c => absurd c e) (fun c _ _ => absurd cj c) (fun c _ _ => absurd cj c) (fun c _ _ _ => absurd cj c) (fun c _ _ _ => absurd cj c) (fun c _ => absurd cj c) (fun c _ _ => absurd cj c) (fun c _ _ => absurd cj c) (fun c _ _ _ => absurd cj c) (fun c _ _ _ => absurd cj c) (fun c _ _ _ => absurd cj c) (fun c _ _ _ _ => absurd cj c) (fun c _ _ _ _ => absurd cj c)
        | succ c ih2 =>
          intro j m hj hm hh
          have cj : ¬ N 61 11 ≤ nI j := by rw [e11]; exact nI_ge (by omega) (by omega)
          have z : ¬ (1 : Int32) = 0 := by decide
          have vj : vp_in (nI j) 200 := vp_in_nI (by omega) (by decide)
          have el : N 69 (nI j).toNatClampNeg = M 3 j := by rw [nI_clamp (by omega), e69]
          rw [tk_nm] at hh
          by_cases cb : N 69 (nI j).toNatClampNeg = 32
          · have cb2 := cb
            rw [el] at cb2
            rw [if_pos cb2] at hh
            have nx := ih2 (j + 1) m (by omega) hm hh
            rw [← nI_1] at nx
            refine km_find_17 C X  (fun c _ => absurd c cj) (fun c _ => absurd c cj) (fun c _ _ => absurd c cj) (fun c _ _ => absurd c cj) (fun _ c _ => absurd c z) (fun _ c _ => absurd c z) (fun _ c _ _ => absurd c z) (fun _ c _ _ => absurd c z) (fun _ _ => vj) (fun _ _ _ => nx) (fun _ _ c => absurd cb c) (fun _ _ c _ => absurd cb c) (fun _ _ c _ => absurd cb c) (fun _ _ c _ => absurd cb c) (fun _ _ c _ _ => absurd cb c) (fun _ _ c _ _ => absurd cb c)
          · have cb2 := cb
            rw [el] at cb2
            rw [if_neg cb2] at hh
            by_cases cm : N 66 (nI i).toNatClampNeg ≤ nI m
            · have cm2 := cm
              rw [e66] at cm2
              have cm3 := (nI_leI (a := l) (b := m) (by omega) (by omega)).mp cm2
              rw [if_neg (by omega)] at hh
              have nx := l0 (nI m + 1) (nI j + 1) hh
              refine km_find_17 C X  (fun c _ => absurd c cj) (fun c _ => absurd c cj) (fun c _ _ => absurd c cj) (fun c _ _ => absurd c cj) (fun _ c _ => absurd c z) (fun _ c _ => absurd c z) (fun _ c _ _ => absurd c z) (fun _ c _ _ => absurd c z) (fun _ _ => vj) (fun _ _ c => absurd c cb) (fun _ _ _ => v6) (fun _ _ _ _ => nx) (fun _ _ _ c => absurd cm c) (fun _ _ _ c => absurd cm c) (fun _ _ _ c _ => absurd cm c) (fun _ _ _ c _ => absurd cm c)
            · have cm2 := cm
              rw [e66] at cm2
              have cm3 : m < l := Nat.lt_of_not_le (fun q => cm2 (nI_le q (by omega)))
              rw [if_pos cm3] at hh
              have ei : 7 * nI i + nI m = nI (7 * i + m) := by rw [show (7 : Int32) = nI 7 from rfl, pk_mul, nI_add]
              have v42 : vp_in (7 * nI i + nI m) 42 := by rw [ei]; exact vp_in_nI (by omega) (by decide)
              have ew : N 65 (7 * nI i + nI m).toNatClampNeg = M (13 + 1) (7 * i + m) := by rw [ei, nI_clamp (by omega)]; exact hW _ (by omega)
              by_cases e : N 65 (7 * nI i + nI m).toNatClampNeg = N 69 (nI j).toNatClampNeg
              · have e2 := e
                rw [ew, el] at e2
                rw [if_pos e2.symm] at hh
                have nx := ih2 (j + 1) (m + 1) (by omega) (by omega) hh
                rw [← nI_1, ← nI_1] at nx
                refine km_find_17 C X  (fun c _ => absurd c cj) (fun c _ => absurd c cj) (fun c _ _ => absurd c cj) (fun c _ _ => absurd c cj) (fun _ c _ => absurd c z) (fun _ c _ => absurd c z) (fun _ c _ _ => absurd c z) (fun _ c _ _ => absurd c z) (fun _ _ => vj) (fun _ _ c => absurd c cb) (fun _ _ _ => v6) (fun _ _ _ c => absurd c cm) (fun _ _ _ _ => v42) (fun _ _ _ _ => vj) (fun _ _ _ _ c => absurd e c) (fun _ _ _ _ _ => nx)
              · have e2 := e
                rw [ew, el] at e2
                rw [if_neg (fun q => e2 q.symm)] at hh
                have nx := l0 (nI m + 1) (nI j + 1) hh
                refine km_find_17 C X  (fun c _ => absurd c cj) (fun c _ => absurd c cj) (fun c _ _ => absurd c cj) (fun c _ _ => absurd c cj) (fun _ c _ => absurd c z) (fun _ c _ => absurd c z) (fun _ c _ _ => absurd c z) (fun _ c _ _ => absurd c z) (fun _ _ => vj) (fun _ _ c => absurd c cb) (fun _ _ _ => v6) (fun _ _ _ c => absurd c cm) (fun _ _ _ _ => v42) (fun _ _ _ _ => vj) (fun _ _ _ _ _ => nx) (fun _ _ _ _ c => absurd c e)
      have nx := l17 s.n 0 0 (by omega) (by omega) rfl
      refine km_find_2 C X  (fun c => absurd c c0) (fun _ => nx)
  exact km_find C X (l2 s.ns 0 (by omega) hR)
