/-! ===== the law's start: the world, the texts, the tables ===== -/
def lw_M0 : ea_M := fun x => if ea_kd x = 5 then (fun k => if k = 3 then 40 else 0) else if x = 62 then (fun j => if j = 12 then (40 : Int32) else 0) else if x = 70 then (fun j => if j < 3 then (-1 : Int32) else 0) else if x = 77 then (fun j => wordsL.getD j 0) else fun _ => 0
def lw_ad (aW aM adK adV : Nat → Nat) (t b : Nat) : Nat → Nat := fun x => if x < 61 then aW x else if x < 79 then aM (x - 61) else if x = 300 then b else if x = 210 then t else if x < 210 then adK (x - 200) else adV (x - 220)
def lw_g (D : va_G) (tc : Nat → ClassId) (aW aM adK adV : Nat → Nat) (t b : Nat) : ea_G := (D, tc, lw_ad aW aM adK adV t b, fun _ => 0)
set_option maxRecDepth 100000 in
set_option maxHeartbeats 4000000 in
theorem po_at (D : va_G) (tc : Nat → ClassId) (aW aM adK adV z1 z2 : Nat → Nat) (t b : Nat) : ∀ k, k < 79 → ((((po_6 (D, tc, z1, z2) aW ++ po_7 (D, tc, z1, z2) aM).set 25 ((lw_g D tc aW aM adK adV t b).2.2.1 25, ea_ce (lw_g D tc aW aM adK adV t b) 25 (lw_M0 25))).set 26 ((lw_g D tc aW aM adK adV t b).2.2.1 26, ea_ce (lw_g D tc aW aM adK adV t b) 26 (lw_M0 26))).set 48 ((lw_g D tc aW aM adK adV t b).2.2.1 48, ea_ce (lw_g D tc aW aM adK adV t b) 48 (lw_M0 48)))[k]? = some ((lw_g D tc aW aM adK adV t b).2.2.1 k, ea_ce (lw_g D tc aW aM adK adV t b) k (lw_M0 k)) := by
  intro k hk
  rcases (show k = 0 ∨ k = 1 ∨ k = 2 ∨ k = 3 ∨ k = 4 ∨ k = 5 ∨ k = 6 ∨ k = 7 ∨ k = 8 ∨ k = 9 ∨ k = 10 ∨ k = 11 ∨ k = 12 ∨ k = 13 ∨ k = 14 ∨ k = 15 ∨ k = 16 ∨ k = 17 ∨ k = 18 ∨ k = 19 ∨ k = 20 ∨ k = 21 ∨ k = 22 ∨ k = 23 ∨ k = 24 ∨ k = 25 ∨ k = 26 ∨ k = 27 ∨ k = 28 ∨ k = 29 ∨ k = 30 ∨ k = 31 ∨ k = 32 ∨ k = 33 ∨ k = 34 ∨ k = 35 ∨ k = 36 ∨ k = 37 ∨ k = 38 ∨ k = 39 ∨ k = 40 ∨ k = 41 ∨ k = 42 ∨ k = 43 ∨ k = 44 ∨ k = 45 ∨ k = 46 ∨ k = 47 ∨ k = 48 ∨ k = 49 ∨ k = 50 ∨ k = 51 ∨ k = 52 ∨ k = 53 ∨ k = 54 ∨ k = 55 ∨ k = 56 ∨ k = 57 ∨ k = 58 ∨ k = 59 ∨ k = 60 ∨ k = 61 ∨ k = 62 ∨ k = 63 ∨ k = 64 ∨ k = 65 ∨ k = 66 ∨ k = 67 ∨ k = 68 ∨ k = 69 ∨ k = 70 ∨ k = 71 ∨ k = 72 ∨ k = 73 ∨ k = 74 ∨ k = 75 ∨ k = 76 ∨ k = 77 ∨ k = 78 by omega) with rfl | rfl | rfl | rfl | rfl | rfl | rfl | rfl | rfl | rfl | rfl | rfl | rfl | rfl | rfl | rfl | rfl | rfl | rfl | rfl | rfl | rfl | rfl | rfl | rfl | rfl | rfl | rfl | rfl | rfl | rfl | rfl | rfl | rfl | rfl | rfl | rfl | rfl | rfl | rfl | rfl | rfl | rfl | rfl | rfl | rfl | rfl | rfl | rfl | rfl | rfl | rfl | rfl | rfl | rfl | rfl | rfl | rfl | rfl | rfl | rfl | rfl | rfl | rfl | rfl | rfl | rfl | rfl | rfl | rfl | rfl | rfl | rfl | rfl | rfl | rfl | rfl | rfl | rfl
  all_goals rfl
theorem po_eq (D : va_G) (tc : Nat → ClassId) (aW aM adK adV z1 z2 : Nat → Nat) (t b : Nat) : ((((po_6 (D, tc, z1, z2) aW ++ po_7 (D, tc, z1, z2) aM).set 25 ((lw_g D tc aW aM adK adV t b).2.2.1 25, ea_ce (lw_g D tc aW aM adK adV t b) 25 (lw_M0 25))).set 26 ((lw_g D tc aW aM adK adV t b).2.2.1 26, ea_ce (lw_g D tc aW aM adK adV t b) 26 (lw_M0 26))).set 48 ((lw_g D tc aW aM adK adV t b).2.2.1 48, ea_ce (lw_g D tc aW aM adK adV t b) 48 (lw_M0 48))) = ea_Wd (lw_g D tc aW aM adK adV t b) lw_M0 := by
  apply List.ext_getElem?
  intro k
  by_cases hk : k < 79
  · rw [po_at D tc aW aM adK adV z1 z2 t b k hk, ea_Wd_at _ _ hk]
  · rw [List.getElem?_eq_none (by show (((((po_6 (D, tc, z1, z2) aW ++ po_7 (D, tc, z1, z2) aM).set 25 ((lw_g D tc aW aM adK adV t b).2.2.1 25, ea_ce (lw_g D tc aW aM adK adV t b) 25 (lw_M0 25))).set 26 ((lw_g D tc aW aM adK adV t b).2.2.1 26, ea_ce (lw_g D tc aW aM adK adV t b) 26 (lw_M0 26))).set 48 ((lw_g D tc aW aM adK adV t b).2.2.1 48, ea_ce (lw_g D tc aW aM adK adV t b) 48 (lw_M0 48)))).length ≤ k; exact Nat.le_trans (Nat.le_of_eq (show (((((po_6 (D, tc, z1, z2) aW ++ po_7 (D, tc, z1, z2) aM).set 25 ((lw_g D tc aW aM adK adV t b).2.2.1 25, ea_ce (lw_g D tc aW aM adK adV t b) 25 (lw_M0 25))).set 26 ((lw_g D tc aW aM adK adV t b).2.2.1 26, ea_ce (lw_g D tc aW aM adK adV t b) 26 (lw_M0 26))).set 48 ((lw_g D tc aW aM adK adV t b).2.2.1 48, ea_ce (lw_g D tc aW aM adK adV t b) 48 (lw_M0 48)))).length = 79 from rfl)) (by omega)), List.getElem?_eq_none (by simp [ea_Wd]; omega)]
theorem Rel_0 : Rel (0, 0, 0, 0, 0, fun _ => 0) lw_M0 lw_M0 := by
  refine ⟨⟨⟨⟨by decide, by decide, rfl, rfl⟩, fun s hs => absurd hs (Nat.not_lt_zero s), fun s hs => absurd hs (Nat.not_lt_zero s), fun s hs => absurd hs (Nat.not_lt_zero s), fun s hs => absurd hs (Nat.not_lt_zero s), fun j _ => ⟨0, by omega, rfl⟩, ⟨0, by omega, rfl⟩, ⟨0, by omega, rfl⟩, ⟨40, by omega, by omega, rfl⟩⟩, rfl, rfl, fun _ _ => rfl, fun _ _ => rfl, fun _ _ => rfl, fun _ _ => rfl, fun _ _ => rfl, fun j hj => ?_, fun k h1 h2 => ?_⟩, ⟨by decide, rfl, rfl, rfl⟩, ⟨by decide, by decide, rfl, rfl, rfl, fun e he => absurd he (Nat.not_lt_zero e)⟩, fun k hk => ⟨rfl, Or.inl rfl⟩, fun p hp => Or.inl ?_, fun i hi => rfl⟩
  · show (if 0 + j = 12 then (40 : Int32) else 0) = 0
    rw [if_neg (by omega)]
  · rcases (show k = 1 ∨ k = 2 ∨ k = 3 ∨ k = 4 ∨ k = 5 ∨ k = 6 by omega) with rfl | rfl | rfl | rfl | rfl | rfl <;> rfl
  · rcases (show p = 0 ∨ p = 1 ∨ p = 2 by omega) with rfl | rfl | rfl <;> exact ⟨rfl, rfl, rfl, rfl⟩
theorem lw_K {s : State} {args : Array Value} (hts : ∀ w ∈ wsL_law, w.before args s = true) (hB : va_AO RX0 s) (hW : va_AO RX5 s) : ∃ (D : va_G) (tc : Nat → ClassId), va_K D vwCl [(tc 0, .int), (tc 1, .boolean), (tc 2, .object RX0), (tc 3, .object RX5)] s := by
  obtain ⟨c0, i0, k0⟩ := u_known (C := RX0) (T := TX0) (N := 5) (n := 5) hts inlX0 (hts _ (wsm_2 (List.mem_of_getElem? (i := 6) rfl)))
  obtain ⟨c1, i1, k1⟩ := u_known (C := RX1) (T := TX1) (N := 5) (n := 5) hts inlX1 (hts _ (wsm_2 (List.mem_of_getElem? (i := 1) rfl)))
  obtain ⟨c2, i2, k2⟩ := u_known (C := RX2) (T := TX2) (N := 3) (n := 3) hts inlX2 (hts _ (wsm_1 (List.mem_of_getElem? (i := 13) rfl)))
  obtain ⟨c3, i3, k3⟩ := u_known (C := RX3) (T := TX3) (N := 5) (n := 5) hts inlX3 (hts _ (wsm_2 (List.mem_of_getElem? (i := 12) rfl)))
  obtain ⟨c4, i4, k4⟩ := u_known (C := RX4) (T := TX4) (N := 9) (n := 9) hts inlX4 (hts _ (wsm_1 (List.mem_of_getElem? (i := 17) rfl)))
  obtain ⟨c5, i5, k5⟩ := u_known (C := RX5) (T := TX5) (N := 7) (n := 7) hts inlX5 (hts _ (wsm_1 (List.mem_of_getElem? (i := 21) rfl)))
  obtain ⟨c6, i6, k6⟩ := u_known (C := RX6) (T := TX6) (N := 5) (n := 5) hts inlX6 (hts _ (wsm_1 (List.mem_of_getElem? (i := 1) rfl)))
  obtain ⟨c7, i7, k7⟩ := u_known (C := RX7) (T := TX7) (N := 27) (n := 27) hts inlX7 (hts _ (wsm_1 (List.mem_of_getElem? (i := 4) rfl)))
  obtain ⟨tI, kI, pI, a1, a2, a3⟩ := Cond.arrayClass_spec (hts _ (wsm_2 (List.mem_of_getElem? (i := 20) rfl)))
  obtain ⟨tZ, kZ, pZ, b1, b2, b3⟩ := Cond.arrayClass_spec (hts _ (wsm_4 (List.mem_of_getElem? (i := 14) rfl)))
  obtain ⟨pB, tB, kB, d1, -, d2, d3, d4⟩ := Cond.arrayOver_spec hB
  obtain ⟨pW, tW, kW, e1, -, e2, e3, e4⟩ := Cond.arrayOver_spec hW
  refine ⟨(fun k => if k = 0 then c0 else if k = 1 then c1 else if k = 2 then c2 else if k = 3 then c3 else if k = 4 then c4 else if k = 5 then c5 else if k = 6 then c6 else c7, fun k => if k = 0 then i0 else if k = 1 then i1 else if k = 2 then i2 else if k = 3 then i3 else if k = 4 then i4 else if k = 5 then i5 else if k = 6 then i6 else i7), fun k => if k = 0 then tI else if k = 1 then tZ else if k = 2 then tB else tW, ?_, ?_⟩
  · intro k q hq
    match k, hq with
    | 0, hq => cases hq; exact k0
    | 1, hq => cases hq; exact k1
    | 2, hq => cases hq; exact k2
    | 3, hq => cases hq; exact k3
    | 4, hq => cases hq; exact k4
    | 5, hq => cases hq; exact k5
    | 6, hq => cases hq; exact k6
    | 7, hq => cases hq; exact k7
    | k + 8, hq => simp [vwCl] at hq
  · intro k q hq
    match k, hq with
    | 0, hq => cases hq; exact ⟨fun n z => ⟨fun k h => (by cases h), kI, a2, pI, a3⟩, a1⟩
    | 1, hq => cases hq; exact ⟨fun n z => ⟨fun k h => (by cases h), kZ, b2, pZ, b3⟩, b1⟩
    | 2, hq => cases hq; exact ⟨fun n z => ⟨fun k h => (by cases h), kB, d2, pB, d3⟩, kB, pB, d2, d3, d1, d4⟩
    | 3, hq => cases hq; exact ⟨fun n z => ⟨fun k h => (by cases h), kW, e2, pW, e3⟩, kW, pW, e2, e3, e1, e4⟩
    | k + 4, hq => simp at hq
def lw_tm (i : Nat) : Term := .string RX2 ([53, 65, 70, 75, 80].getD i 0)
def lw_F : List Cond := flatC (Jvm.Cond.and given_1 narrow_1)
theorem lw_f1 : ∀ i, i < 5 → Cond.exactly (lw_tm i) "java/lang/String" ∈ lw_F := by decide +kernel
theorem lw_f2 : ∀ i, i < 5 → Cond.eq (.field (lw_tm i) "java/lang/String" "coder" "B") (.int 0) ∈ lw_F := by decide +kernel
theorem lw_f3 : ∀ i, i < 5 → Cond.arrayOf (.field (lw_tm i) "java/lang/String" "value" "[B") .byte ∈ lw_F := by decide +kernel
theorem lw_f4 : ∀ i, i < 5 → Cond.eq (.length (.field (lw_tm i) "java/lang/String" "value" "[B")) (.int (Int32.ofNat (ea_lenS.getD i 0))) ∈ lw_F := by decide +kernel
theorem lw_f5 : ∀ i, i < 5 → ∀ j, j < ea_lenS.getD i 0 → Cond.eq (.elem (.field (lw_tm i) "java/lang/String" "value" "[B") (.int (Int32.ofNat j))) (.int ((ea_bytS.getD i []).getD j 0)) ∈ lw_F := by decide +kernel
theorem lw_f6 : ∀ i, i < 5 → ∀ j, j < 5 → i ≠ j → (Cond.not (Cond.eq (lw_tm i) (lw_tm j)) ∈ lw_F ∨ Cond.not (Cond.eq (lw_tm j) (lw_tm i)) ∈ lw_F) := by decide +kernel
theorem lw_f7 : ∀ w ∈ ea_NS, Cond.methodLinkNest w.1 w.2.1 w.2.2 "WallHeat" ∈ lw_tbl := by decide +kernel
theorem lw_f8 : ∀ w ∈ cn_NS, Cond.methodLinkNest w.1 w.2.1 w.2.2 "WallHeat" ∈ lw_tbl := by decide +kernel
theorem lw_f9 : ∀ w ∈ ea_cpS, Cond.stringRef RX2 w.1 w.2 ∈ lw_tbl := by decide +kernel
/-- the texts and the statics, at the law's entry -/
theorem lw_En {s : State} {b : Nat} {A : Nat → Prop} (hA : ∀ a : Nat, a < s.heap.size → ¬ A a) (hts0 : ∀ w ∈ lw_tbl, w.before #[Value.ref b] s = true) (hgv : (Jvm.Cond.and given_1 narrow_1).before #[Value.ref b] s = true) : ∃ (adK adV : Nat → Nat) (t : Nat), vk_S 5 ea_lenS ea_bytS adK adV A s s.heap ∧ va_Z "java/lang/String" "COMPACT_STRINGS" "Z" (.int 1) A s s.heap ∧ (∀ (i : Nat) (q : Nat × String), ea_cpS[i]? = some q → vk_R RX2 q.1 q.2 (adK i) s) ∧ (va_Z "jdk/internal/util/Preconditions" "SIOOBE_FORMATTER" "Ljava/util/function/BiFunction;" .null A s s.heap ∨ va_Z "jdk/internal/util/Preconditions" "SIOOBE_FORMATTER" "Ljava/util/function/BiFunction;" (.ref t) A s s.heap) := by
  have hF : ∀ w ∈ lw_F, w.before #[Value.ref b] s = true := flat_of_before _ hgv
  obtain ⟨adK, adV, h1, h2⟩ := vk_Sof (args := #[Value.ref b]) (s := s) (N := 5) (tm := lw_tm) (len := ea_lenS) (byt := ea_bytS) (A := A) (by decide) (fun i hi => hF _ (lw_f1 i hi)) (fun i hi => hF _ (lw_f2 i hi)) (fun i hi => hF _ (lw_f3 i hi)) (fun i hi => hF _ (lw_f4 i hi)) (fun i hi j hj => hF _ (lw_f5 i hi j hj)) (fun i j hi hj hn => (lw_f6 i hi j hj hn).imp (fun z => hF _ z) (fun z => hF _ z)) hA
  have hc : va_Z "java/lang/String" "COMPACT_STRINGS" "Z" (.int 1) A s s.heap := va_Zof (hts0 (.laysStatic "java/lang/String" "COMPACT_STRINGS" "Z") (by decide +kernel)) (hts0 (.initialized "java/lang/String") (by decide +kernel)) (va_eqi (hF (.eq (.static "java/lang/String" "COMPACT_STRINGS" "Z") (.int 1)) (by decide +kernel))) hA
  have hq : va_Zq "jdk/internal/util/Preconditions" "SIOOBE_FORMATTER" "Ljava/util/function/BiFunction;" A s s.heap := va_Zqof (hts0 (.laysStatic "jdk/internal/util/Preconditions" "SIOOBE_FORMATTER" "Ljava/util/function/BiFunction;") (by decide +kernel)) (hts0 (.initialized "jdk/internal/util/Preconditions") (by decide +kernel)) (hF (.isRef (.static "jdk/internal/util/Preconditions" "SIOOBE_FORMATTER" "Ljava/util/function/BiFunction;")) (by decide +kernel)) hA
  have hR : ∀ (i : Nat) (q : Nat × String), ea_cpS[i]? = some q → vk_R RX2 q.1 q.2 (adK i) s := by
    intro i q hiq
    have hm := lw_f9 q (List.mem_of_getElem? hiq)
    match i, hiq with
    | 0, hiq => cases hiq; exact vk_R.of (hts0 _ hm) (h2 0 (by decide))
    | 1, hiq => cases hiq; exact vk_R.of (hts0 _ hm) (h2 1 (by decide))
    | 2, hiq => cases hiq; exact vk_R.of (hts0 _ hm) (h2 2 (by decide))
    | 3, hiq => cases hiq; exact vk_R.of (hts0 _ hm) (h2 3 (by decide))
    | 4, hiq => cases hiq; exact vk_R.of (hts0 _ hm) (h2 4 (by decide))
    | i + 5, hiq => simp [ea_cpS] at hiq
  rcases hq with hq | ⟨t, hq⟩
  · exact ⟨adK, adV, 0, h1, hc, hR, Or.inl hq⟩
  · exact ⟨adK, adV, t, h1, hc, hR, Or.inr hq⟩
