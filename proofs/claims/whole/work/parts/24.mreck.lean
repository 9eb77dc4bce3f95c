set_option maxRecDepth 100000 in
set_option maxHeartbeats 4000000 in
theorem km_safeFor {k : ea_K} {o : Option Value} {M' : ea_M} (C : ea_C k RX7 cX7_safeFor 7 1) (X : ea_X k (some .int) o M') {M : ea_M} {i : Int32} {r1 r2 r3 r4 r5 r6 : Int32}   (q1 : ea_Sp 0 yX7_passesOf cX7_passesOf 2 (some .int) [.ref 61, .int i] M (some (.int r1)) M) (q3 : ¬ i = 0 → ea_Sp 0 yX7_passesOf cX7_passesOf 2 (some .int) [.ref 61, .int (i - (1 : Int32))] M (some (.int r2)) M) (q7 : ¬ i = ((M 61 6) - (1 : Int32)) → ea_Sp 0 yX7_passesOf cX7_passesOf 2 (some .int) [.ref 61, .int (i + (1 : Int32))] M (some (.int r3)) M) (q11 : ¬ i = 0 → ea_Sp 0 yX7_passesOf cX7_passesOf 2 (some .int) [.ref 61, .int (i - (1 : Int32))] M (some (.int r4)) M) (q15 : ¬ i = ((M 61 6) - (1 : Int32)) → ea_Sp 0 yX7_passesOf cX7_passesOf 2 (some .int) [.ref 61, .int (i + (1 : Int32))] M (some (.int r5)) M) (q18 : ea_Sp 0 yX7_holdsOf cX7_holdsOf 2 (some .int) [.ref 61, .int i] M (some (.int r6)) M) (z19 : ¬ (((if i = 0 then (1 : Int32) else (r1 + r2)) * (if i = ((M 61 6) - (1 : Int32)) then (1 : Int32) else (r1 + r3))) * r6) = 0) (h20 : o = some (.int ((((((((2 : Int32) * r1) * (if i = 0 then (1 : Int32) else r4)) * (if i = ((M 61 6) - (1 : Int32)) then (1 : Int32) else (r1 + r3))) + ((((2 : Int32) * r1) * (if i = ((M 61 6) - (1 : Int32)) then (1 : Int32) else r5)) * (if i = 0 then (1 : Int32) else (r1 + r2)))) + (((if i = 0 then (1 : Int32) else (r1 + r2)) * (if i = ((M 61 6) - (1 : Int32)) then (1 : Int32) else (r1 + r3))) * r6)) - (1 : Int32)) / (((if i = 0 then (1 : Int32) else (r1 + r2)) * (if i = ((M 61 6) - (1 : Int32)) then (1 : Int32) else (r1 + r3))) * r6))) ∧ M' = M) : ea_E k 0 [(0, .ref 61), (1, .int i)] [] M := by
  refine e_aload_n (n := 0) C dX7_safeFor_0 rfl rfl ?_
  refine e_iload_n (n := 1) C dX7_safeFor_1 rfl rfl ?_
  refine e_callV1 (as := [.int i]) (rest := []) C lk_X7_188 q1 (by decide) rfl (by decide) rfl (by decide) rfl rfl (Nat.le_of_ble_eq_true rfl) dX7_safeFor_2 ?_
  refine e_istore_n C dX7_safeFor_5 rfl (by decide) rfl ?_
  refine e_iload_n (n := 2) C dX7_safeFor_6 rfl rfl ?_
  have J5 : ∀ v4 : Int32, v4 = (if i = 0 then (1 : Int32) else (r1 + r2)) → ea_E k 23 [(2, .int r1), (0, .ref 61), (1, .int i)] [.int v4] M := by
    intro v4 ev4
    subst ev4
    refine e_istore_n C dX7_safeFor_23 rfl (by decide) rfl ?_
    refine e_iload_n (n := 3) C dX7_safeFor_24 rfl rfl ?_
    refine e_aload_n (n := 2) C dX7_safeFor_25 rfl rfl ?_
    refine e_get (v := .int (M 61 6)) C fd_X7_126 (by decide) rfl rfl dX7_safeFor_26 ?_
    refine e_iconst (v := 1) C dX7_safeFor_29 (by decide) ?_
    refine e_isub C dX7_safeFor_30 ?_
    have J9 : ∀ v8 : Int32, v8 = (if i = ((M 61 6) - (1 : Int32)) then (1 : Int32) else (r1 + r3)) → ea_E k 47 [(3, .int (if i = 0 then (1 : Int32) else (r1 + r2))), (2, .int r1), (0, .ref 61), (1, .int i)] [.int v8] M := by
      intro v8 ev8
      subst ev8
      refine e_istore C dX7_safeFor_47 (by decide) rfl ?_
      refine e_iconst (v := 2) C dX7_safeFor_49 (by decide) ?_
      refine e_iload_n (n := 2) C dX7_safeFor_50 rfl rfl ?_
      refine e_imul C dX7_safeFor_51 ?_
      refine e_iload_n (n := 4) C dX7_safeFor_52 rfl rfl ?_
      have J13 : ∀ v12 : Int32, v12 = (if i = 0 then (1 : Int32) else r4) → ea_E k 67 [(4, .int (if i = ((M 61 6) - (1 : Int32)) then (1 : Int32) else (r1 + r3))), (3, .int (if i = 0 then (1 : Int32) else (r1 + r2))), (2, .int r1), (0, .ref 61), (1, .int i)] [.int v12, .int ((2 : Int32) * r1)] M := by
        intro v12 ev12
        subst ev12
        refine e_imul C dX7_safeFor_67 ?_
        refine e_iload (n := 0) C dX7_safeFor_68 rfl ?_
        refine e_imul C dX7_safeFor_70 ?_
        refine e_iconst (v := 2) C dX7_safeFor_71 (by decide) ?_
        refine e_iload_n (n := 2) C dX7_safeFor_72 rfl rfl ?_
        refine e_imul C dX7_safeFor_73 ?_
        refine e_iload_n (n := 4) C dX7_safeFor_74 rfl rfl ?_
        refine e_aload_n (n := 3) C dX7_safeFor_75 rfl rfl ?_
        refine e_get (v := .int (M 61 6)) C fd_X7_126 (by decide) rfl rfl dX7_safeFor_76 ?_
        refine e_iconst (v := 1) C dX7_safeFor_79 (by decide) ?_
        refine e_isub C dX7_safeFor_80 ?_
        have J17 : ∀ v16 : Int32, v16 = (if i = ((M 61 6) - (1 : Int32)) then (1 : Int32) else r5) → ea_E k 95 [(4, .int (if i = ((M 61 6) - (1 : Int32)) then (1 : Int32) else (r1 + r3))), (3, .int (if i = 0 then (1 : Int32) else (r1 + r2))), (2, .int r1), (0, .ref 61), (1, .int i)] [.int v16, .int ((2 : Int32) * r1), .int ((((2 : Int32) * r1) * (if i = 0 then (1 : Int32) else r4)) * (if i = ((M 61 6) - (1 : Int32)) then (1 : Int32) else (r1 + r3)))] M := by
          intro v16 ev16
          subst ev16
          refine e_imul C dX7_safeFor_95 ?_
          refine e_iload_n (n := 1) C dX7_safeFor_96 rfl rfl ?_
          refine e_imul C dX7_safeFor_97 ?_
          refine e_iadd C dX7_safeFor_98 ?_
          refine e_istore C dX7_safeFor_99 (by decide) rfl ?_
          refine e_iload_n (n := 2) C dX7_safeFor_101 rfl rfl ?_
          refine e_iload (n := 1) C dX7_safeFor_102 rfl ?_
          refine e_imul C dX7_safeFor_104 ?_
          refine e_aload_n (n := 4) C dX7_safeFor_105 rfl rfl ?_
          refine e_iload_n (n := 5) C dX7_safeFor_106 rfl rfl ?_
          refine e_callV1 (as := [.int i]) (rest := [.int ((if i = 0 then (1 : Int32) else (r1 + r2)) * (if i = ((M 61 6) - (1 : Int32)) then (1 : Int32) else (r1 + r3)))]) C lk_X7_175 q18 (by decide) rfl (by decide) rfl (by decide) rfl rfl (Nat.le_of_ble_eq_true rfl) dX7_safeFor_107 ?_
          refine e_imul C dX7_safeFor_110 ?_
          refine e_istore C dX7_safeFor_111 (by decide) rfl ?_
          refine e_iload (n := 1) C dX7_safeFor_113 rfl ?_
          refine e_iload (n := 0) C dX7_safeFor_115 rfl ?_
          refine e_iadd C dX7_safeFor_117 ?_
          refine e_iconst (v := 1) C dX7_safeFor_118 (by decide) ?_
          refine e_isub C dX7_safeFor_119 ?_
          refine e_iload (n := 0) C dX7_safeFor_120 rfl ?_
          refine e_idiv C dX7_safeFor_122 z19 ?_
          exact e_iret C X rfl (vp_nar_int _) dX7_safeFor_123 h20
        refine e_icmp_ne (tgt := 88) C dX7_safeFor_81 (by decide) (fun c14 => ?_) (fun c14 => ?_)
        · refine e_aload_n (n := 3) C dX7_safeFor_88 rfl rfl ?_
          refine e_iload_n (n := 4) C dX7_safeFor_89 rfl rfl ?_
          refine e_iconst (v := 1) C dX7_safeFor_90 (by decide) ?_
          refine e_iadd C dX7_safeFor_91 ?_
          refine e_callV1 (as := [.int (i + (1 : Int32))]) (rest := [.int ((2 : Int32) * r1), .int ((((2 : Int32) * r1) * (if i = 0 then (1 : Int32) else r4)) * (if i = ((M 61 6) - (1 : Int32)) then (1 : Int32) else (r1 + r3)))]) C lk_X7_188 (q15 c14) (by decide) rfl (by decide) rfl (by decide) rfl rfl (Nat.le_of_ble_eq_true rfl) dX7_safeFor_92 ?_
          exact J17 _ (by rw [if_neg c14])
        · refine e_iconst (v := 1) C dX7_safeFor_84 (by decide) ?_
          refine e_goto (tgt := 95) C dX7_safeFor_85 (by decide) ?_
          exact J17 _ (by rw [if_pos c14])
      refine e_if_ne (tgt := 60) C dX7_safeFor_53 (by decide) (fun c10 => ?_) (fun c10 => ?_)
      · refine e_aload_n (n := 3) C dX7_safeFor_60 rfl rfl ?_
        refine e_iload_n (n := 4) C dX7_safeFor_61 rfl rfl ?_
        refine e_iconst (v := 1) C dX7_safeFor_62 (by decide) ?_
        refine e_isub C dX7_safeFor_63 ?_
        refine e_callV1 (as := [.int (i - (1 : Int32))]) (rest := [.int ((2 : Int32) * r1)]) C lk_X7_188 (q11 c10) (by decide) rfl (by decide) rfl (by decide) rfl rfl (Nat.le_of_ble_eq_true rfl) dX7_safeFor_64 ?_
        exact J13 _ (by rw [if_neg c10])
      · refine e_iconst (v := 1) C dX7_safeFor_56 (by decide) ?_
        refine e_goto (tgt := 67) C dX7_safeFor_57 (by decide) ?_
        exact J13 _ (by rw [if_pos c10])
    refine e_icmp_ne (tgt := 38) C dX7_safeFor_31 (by decide) (fun c6 => ?_) (fun c6 => ?_)
    · refine e_iload_n (n := 1) C dX7_safeFor_38 rfl rfl ?_
      refine e_aload_n (n := 2) C dX7_safeFor_39 rfl rfl ?_
      refine e_iload_n (n := 3) C dX7_safeFor_40 rfl rfl ?_
      refine e_iconst (v := 1) C dX7_safeFor_41 (by decide) ?_
      refine e_iadd C dX7_safeFor_42 ?_
      refine e_callV1 (as := [.int (i + (1 : Int32))]) (rest := [.int r1]) C lk_X7_188 (q7 c6) (by decide) rfl (by decide) rfl (by decide) rfl rfl (Nat.le_of_ble_eq_true rfl) dX7_safeFor_43 ?_
      refine e_iadd C dX7_safeFor_46 ?_
      exact J9 _ (by rw [if_neg c6])
    · refine e_iconst (v := 1) C dX7_safeFor_34 (by decide) ?_
      refine e_goto (tgt := 47) C dX7_safeFor_35 (by decide) ?_
      exact J9 _ (by rw [if_pos c6])
  refine e_if_ne (tgt := 14) C dX7_safeFor_7 (by decide) (fun c2 => ?_) (fun c2 => ?_)
  · refine e_iload_n (n := 0) C dX7_safeFor_14 rfl rfl ?_
    refine e_aload_n (n := 1) C dX7_safeFor_15 rfl rfl ?_
    refine e_iload_n (n := 2) C dX7_safeFor_16 rfl rfl ?_
    refine e_iconst (v := 1) C dX7_safeFor_17 (by decide) ?_
    refine e_isub C dX7_safeFor_18 ?_
    refine e_callV1 (as := [.int (i - (1 : Int32))]) (rest := [.int r1]) C lk_X7_188 (q3 c2) (by decide) rfl (by decide) rfl (by decide) rfl rfl (Nat.le_of_ble_eq_true rfl) dX7_safeFor_19 ?_
    refine e_iadd C dX7_safeFor_22 ?_
    exact J5 _ (by rw [if_neg c2])
  · refine e_iconst (v := 1) C dX7_safeFor_10 (by decide) ?_
    refine e_goto (tgt := 23) C dX7_safeFor_11 (by decide) ?_
    exact J5 _ (by rw [if_pos c2])
/-! ===== the model's reckoning ===== -/
theorem in_i (v a b : Int32) : p_X7_in v.toInt64 a.toInt64 b.toInt64 ↔ (¬ v < a ∧ ¬ b < v) := by
  show (¬ v.toInt64 < a.toInt64 ∧ ¬ b.toInt64 < v.toInt64) ↔ _
  rw [Int64.lt_iff_toInt_lt, Int64.lt_iff_toInt_lt, Int32.lt_iff_toInt_lt, Int32.lt_iff_toInt_lt]
  simp only [Int32.toInt_toInt64]
theorem mi_cell {M : ea_M} {nc : Nat} {i : Int32} (h : M 61 6 = nI nc) (hn : nc ≤ 10) : p_X7_isCell M i ↔ ∃ j : Nat, j < nc ∧ i = nI j := by
  show p_X7_in i.toInt64 (0 : Int64) ((M 61 6 - 1).toInt64) ↔ _
  rw [show (0 : Int64) = (0 : Int32).toInt64 from rfl, in_i, h]
  constructor
  · rintro ⟨a, b⟩
    obtain ⟨j, hj, rfl⟩ := nI_of a
    refine ⟨j, ?_, rfl⟩
    rcases Nat.eq_zero_or_pos nc with z | z
    · subst z
      exact absurd (Int32.lt_of_lt_of_le (show (0 : Int32) - 1 < 0 by decide) (nI_pos' hj)) (by rw [nI_0] at b; exact b)
    · rw [show nI nc - 1 = nI (nc - 1) from pk_sub (a := nc) (b := 1) z] at b
      rcases Nat.lt_or_ge j nc with q | q
      · exact q
      · exact absurd (nI_lt (show nc - 1 < j by omega) hj) b
  · rintro ⟨j, hj, rfl⟩
    refine ⟨nI_pos (by omega), ?_⟩
    rw [show nI nc - 1 = nI (nc - 1) from pk_sub (a := nc) (b := 1) (by omega)]
    exact nI_nlt (by omega) (by omega)
def mp_ok (M : ea_M) (nc : Nat) (P C : Nat → Nat) : Prop := M 61 6 = nI nc ∧ nc ≤ 10 ∧ ∀ i, i < nc → ∃ s : Nat, s < 6 ∧ M 67 i = nI s ∧ M 63 s = nI (P i) ∧ M 64 s = nI (C i) ∧ (1 ≤ P i ∧ P i ≤ 20) ∧ 1 ≤ C i ∧ C i ≤ 20
theorem sp_X7_passesOf {M : ea_M} {nc i : Nat} {P Ch : Nat → Nat} (h : mp_ok M nc P Ch) (hi : i < nc) : ea_Sp 0 yX7_passesOf cX7_passesOf 2 (some .int) [.ref 61, .int (nI i)] M (some (.int (nI (P i)))) M := by
  refine ea_intro (own := RX7) (by decide +kernel) rfl (fun g => Nat.le_of_ble_eq_true rfl) (fun k C X => ?_)
  obtain ⟨h1, h2, h3⟩ := h
  obtain ⟨s, a1, a2, a3, -⟩ := h3 i hi
  have e : (nI i).toNatClampNeg = i := nI_clamp (by omega)
  refine km_passesOf C X (vp_in_nI (by omega) (by decide)) ?_ ⟨?_, rfl⟩
  · rw [e, a2]
    exact vp_in_nI a1 (by decide)
  · rw [e, a2, nI_clamp (by omega), a3]
theorem sp_X7_holdsOf {M : ea_M} {nc i : Nat} {P Ch : Nat → Nat} (h : mp_ok M nc P Ch) (hi : i < nc) : ea_Sp 0 yX7_holdsOf cX7_holdsOf 2 (some .int) [.ref 61, .int (nI i)] M (some (.int (nI (Ch i)))) M := by
  refine ea_intro (own := RX7) (by decide +kernel) rfl (fun g => Nat.le_of_ble_eq_true rfl) (fun k C X => ?_)
  obtain ⟨h1, h2, h3⟩ := h
  obtain ⟨s, a1, a2, -, a4, -⟩ := h3 i hi
  have e : (nI i).toNatClampNeg = i := nI_clamp (by omega)
  refine km_holdsOf C X (vp_in_nI (by omega) (by decide)) ?_ ⟨?_, rfl⟩
  · rw [e, a2]
    exact vp_in_nI a1 (by decide)
  · rw [e, a2, nI_clamp (by omega), a4]
theorem sp_X7_copyRow (M : ea_M) (a b : Nat) (ha : a + 16 ≤ 192) (hb : b + 16 ≤ 192) (hab : a + 16 ≤ b ∨ b + 16 ≤ a) : ea_Sp 0 yX7_copyRow cX7_copyRow 4 none [.ref 61, .int (nI a), .int (nI b)] M none (pa_seg M 62 b (fun k => M 62 (a + k)) 16) := by
  refine ea_intro (own := RX7) (by decide +kernel) rfl (fun g => Nat.le_of_ble_eq_true rfl) (fun k C X => ?_)
  have loop : ∀ (m i : Nat), i + m = 16 → ea_E k 2 [(0, .ref 61), (1, .int (nI a)), (2, .int (nI b)), (3, .int (nI i))] [] (pa_seg M 62 b (fun k => M 62 (a + k)) i) := by
    intro m
    induction m with
    | zero =>
      intro i hi
      have hc : (16 : Int32) ≤ nI i := by rw [show i = 16 by omega]; decide
      exact km_copyRow_2 C X (fun _ => ⟨rfl, by rw [show i = 16 by omega]⟩) (fun c => absurd hc c) (fun c => absurd hc c) (fun c => absurd hc c)
    | succ m ih =>
      intro i hi
      have hc : ¬ (16 : Int32) ≤ nI i := nI_ge (b := 16) (show i < 16 by omega) (by decide)
      refine km_copyRow_2 C X (fun c => absurd c hc) (fun _ => ?_) (fun _ => ?_) (fun _ => ?_)
      · rw [nI_add]
        exact vp_in_nI (by omega) (by decide)
      · rw [nI_add]
        exact vp_in_nI (by omega) (by decide)
      · rw [nI_add, nI_add, nI_clamp (by omega), nI_clamp (by omega), nI_1]
        have e : pa_seg M 62 b (fun k => M 62 (a + k)) i 62 (a + i) = M 62 (a + i) := by
          have : ¬ (b ≤ a + i ∧ a + i < b + i) := by omega
          simp only [pa_seg, if_true, if_neg this]
        rw [pa_segS (f := fun k => M 62 (a + k)) e]
        exact ih (i + 1) (by omega)
  have h0 := loop 16 0 (by omega)
  rw [pa_seg0] at h0
  exact km_copyRow C X h0
theorem sp_X7_divisor (M : ea_M) (A B : Nat) (hA : A < 2 ^ 63) (hB : B < 2 ^ 63) : ea_Sp 0 yX7_divisor cX7_divisor 10 (some .long) [.long (lN A), .long (lN B)] M (some (.long (lN (Nat.gcd A B)))) M := by
  refine ea_intro (own := RX7) (by decide +kernel) rfl (fun g => Nat.le_of_ble_eq_true rfl) (fun k C X => ?_)
  have loop : ∀ (b a : Nat), a < 2 ^ 63 → b < 2 ^ 63 → Nat.gcd A B = Nat.gcd a b → ea_E k 17 [(4, .long (lN a)), (6, .long (lN b))] [] M := by
    intro b
    induction b using Nat.strongRecOn with
    | ind b ih =>
      intro a ha hb hg
      refine km_divisor_17 C X (fun q => ⟨?_, rfl⟩) (fun q => ?_)
      · have := pa_l0 hb q
        subst this
        rw [hg, Nat.gcd_zero_right]
      · have h0 : 0 < b := by
          rcases Nat.eq_zero_or_pos b with z | z
          · subst z
            exact absurd (by decide : lN 0 = 0) q
          · exact z
        have hr := Nat.mod_lt a h0
        rw [pk_lRem ha h0 hb]
        exact ih (a % b) hr b hb (by omega) (hg.trans (pa_gcd a b))
  refine km_divisor C X (fun _ => loop B A hA hB rfl) (fun q => absurd ?_ q)
  exact (pk_lLE (a := 0) (by decide) hA).mpr (Nat.zero_le A)
theorem sp_X7_told (M : ea_M) (A B : Nat) (part : Int32) (hA : A < 2 ^ 63) (hB : B < 2 ^ 63) (h0 : 0 < B) : ea_Sp 1 yX7_told cX7_told 7 (some .long) [.long (lN A), .long (lN B), .int part] M (some (.long (lN ((if part = 0 then A else B) / Nat.gcd A B)))) M := by
  refine ea_intro (own := RX7) (by decide +kernel) rfl (fun g => Nat.le_of_ble_eq_true rfl) (fun k C X => ?_)
  have hg0 : 0 < Nat.gcd A B := Nat.gcd_pos_of_pos_right A h0
  have hgB : Nat.gcd A B ≤ B := Nat.gcd_le_right A h0
  have hne : ¬ lN (Nat.gcd A B) = 0 := fun q => absurd (pa_l0 (by omega) q) (by omega)
  refine km_told C X (sp_X7_divisor M A B hA hB) (fun _ => hne) (fun c => ⟨?_, rfl⟩) (fun _ => hne) (fun c => ⟨?_, rfl⟩)
  · rw [if_neg c, pk_lDiv hB hg0 (by omega)]
  · rw [if_pos c, pk_lDiv hA hg0 (by omega)]
theorem sp_X7_allHeat (M : ea_M) (nc : Nat) (h : M 61 6 = nI nc) (hn : nc ≤ 10) : ea_Sp 0 yX7_allHeat cX7_allHeat 3 (some .int) [.ref 61] M (some (.int (pa_sum (M 62) nc))) M := by
  refine ea_intro (own := RX7) (by decide +kernel) rfl (fun g => Nat.le_of_ble_eq_true rfl) (fun k C X => ?_)
  have loop : ∀ (m i : Nat), i + m = nc → ea_E k 4 [(0, .ref 61), (1, .int (pa_sum (M 62) i)), (2, .int (nI i))] [] M := by
    intro m
    induction m with
    | zero =>
      intro i hi
      have hc : M 61 6 ≤ nI i := by rw [h]; exact nI_le (by omega) (by omega)
      exact km_allHeat_4 C X (fun _ => ⟨by rw [show i = nc by omega], rfl⟩) (fun c => absurd hc c) (fun c => absurd hc c)
    | succ m ih =>
      intro i hi
      have hc : ¬ M 61 6 ≤ nI i := by rw [h]; exact nI_ge (by omega) (by omega)
      refine km_allHeat_4 C X (fun c => absurd c hc) (fun _ => ?_) (fun _ => ?_)
      · rw [Int32.zero_add]
        exact vp_in_nI (by omega) (by decide)
      · rw [Int32.zero_add, nI_clamp (by omega), nI_1]
        exact ih (i + 1) (by omega)
  exact km_allHeat C X (loop nc 0 (by omega))
theorem sp_X7_cellsOf (M : ea_M) (n : Nat) (s : Int32) (hk : M 61 6 = nI n) (hn : n ≤ 10) : ea_Sp 0 yX7_cellsOf cX7_cellsOf 4 (some .int) [.ref 61, .int s] M (some (.int (pa_bt (fun j => decide (M 67 j = s)) n))) M := by
  refine ea_intro (own := RX7) (by decide +kernel) rfl (fun g => Nat.le_of_ble_eq_true rfl) (fun k C X => ?_)
  have loop : ∀ (m i : Nat), i + m = n → ea_E k 4 [(0, .ref 61), (1, .int s), (2, .int (pa_bt (fun j => decide (M 67 j = s)) i)), (3, .int (nI i))] [] M := by
    intro m
    induction m with
    | zero =>
      intro i hi
      have hc : M 61 6 ≤ nI i := by rw [hk]; exact nI_le (by omega) (by omega)
      exact km_cellsOf_4 C X (fun _ => ⟨by rw [show i = n by omega], rfl⟩) (fun c => absurd hc c) (fun c => absurd hc c) (fun c => absurd hc c)
    | succ m ih =>
      intro i hi
      have hc : ¬ M 61 6 ≤ nI i := by rw [hk]; exact nI_ge (by omega) (by omega)
      have h2 := ih (i + 1) (by omega)
      rw [pa_bt] at h2
      refine km_cellsOf_4 C X (fun c => absurd c hc) (fun _ => vp_in_nI (by omega) (by decide)) (fun _ h => ?_) (fun _ h => ?_)
      · rw [nI_clamp (by omega)] at h
        rw [if_neg (by simpa using h)] at h2
        rw [nI_1]
        exact h2
      · rw [nI_clamp (by omega)] at h
        rw [if_pos (by simpa using h)] at h2
        rw [nI_1]
        exact h2
  exact km_cellsOf C X (loop n 0 (by omega))

