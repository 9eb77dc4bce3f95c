/-! ===== String.length and charAt on the five constants ===== -/
theorem e_ishr {k : ea_K} {own : String} {cc : ByteArray} {nL d : Nat} (C : ea_C k own cc nL d) {pc : Nat} {lv : List (Nat × Value)} {st : List Value} {M : ea_M} {x y : Int32} (hd : decode cc pc = .ok (.ishr, 1)) (h : ea_E k (pc + 1) lv (.int (x >>> (y &&& 31)) :: st) M) : ea_E k pc lv (.int y :: .int x :: st) M := by
  obtain ⟨p, l, e, R, s, m, args, below, meth, c, Q, A, cells, slots, nL0, g⟩ := k
  obtain ⟨hx, hb, hml, hown, hts, hlk, hD, hA, hE, hroom, rfl⟩ := C
  intro H locs ls hP hS hl
  exact lv_ishr hx hb hd (h H locs ls hP hS hl)
theorem e_i2c {k : ea_K} {own : String} {cc : ByteArray} {nL d : Nat} (C : ea_C k own cc nL d) {pc : Nat} {lv : List (Nat × Value)} {st : List Value} {M : ea_M} {x v : Int32} (hv : (x.toUInt32 % 65536).toInt32 = v) (hd : decode cc pc = .ok (.i2c, 1)) (h : ea_E k (pc + 1) lv (.int v :: st) M) : ea_E k pc lv (.int x :: st) M := by
  obtain ⟨p, l, e, R, s, m, args, below, meth, c, Q, A, cells, slots, nL0, g⟩ := k
  obtain ⟨hx, hb, hml, hown, hts, hlk, hD, hA, hE, hroom, rfl⟩ := C
  intro H locs ls hP hS hl
  exact lv_i2c hx hb hd hv (h H locs ls hP hS hl)
theorem e_sval {k : ea_K} {own : String} {cc : ByteArray} {nL d : Nat} (C : ea_C k own cc nL d) {pc : Nat} {lv : List (Nat × Value)} {st : List Value} {M : ea_M} {i idx : Nat} (hi : i < 5) (hlink : Cond.fieldLink own idx "java/lang/String" "value" "[B" ∈ wsL_law) (hd : decode cc pc = .ok (.getfield idx, 3)) (h : ea_E k (pc + 3) lv (.ref (220 + i) :: st) M) : ea_E k pc lv (.ref (200 + i) :: st) M := by
  obtain ⟨p, l, e, R, s, m, args, below, meth, c, Q, A, cells, slots, nL0, g⟩ := k
  obtain ⟨hx, hb, hml, hown, hts, hlk, hD, hA, hE, hroom, rfl⟩ := C
  intro H locs ls hP hS hl
  exact vk_getf hx hb (hE.2.2.1.1 i hi).2.2.1 hS hown (hts _ hlink) (fun _ h9 => h9) hd (h H locs ls hP hS hl)
theorem e_scod {k : ea_K} {own : String} {cc : ByteArray} {nL d : Nat} (C : ea_C k own cc nL d) {pc : Nat} {lv : List (Nat × Value)} {st : List Value} {M : ea_M} {i idx : Nat} (hi : i < 5) (hlink : Cond.fieldLink own idx "java/lang/String" "coder" "B" ∈ wsL_law) (hd : decode cc pc = .ok (.getfield idx, 3)) (h : ea_E k (pc + 3) lv (.int 0 :: st) M) : ea_E k pc lv (.ref (200 + i) :: st) M := by
  obtain ⟨p, l, e, R, s, m, args, below, meth, c, Q, A, cells, slots, nL0, g⟩ := k
  obtain ⟨hx, hb, hml, hown, hts, hlk, hD, hA, hE, hroom, rfl⟩ := C
  intro H locs ls hP hS hl
  exact vk_getf hx hb (hE.2.2.1.1 i hi).2.1 hS hown (hts _ hlink) (fun _ h9 => h9) hd (h H locs ls hP hS hl)
theorem e_scs {k : ea_K} {own : String} {cc : ByteArray} {nL d : Nat} (C : ea_C k own cc nL d) {pc : Nat} {lv : List (Nat × Value)} {st : List Value} {M : ea_M} {idx : Nat} (hlink : Cond.fieldLink own idx "java/lang/String" "COMPACT_STRINGS" "Z" ∈ wsL_law) (hd : decode cc pc = .ok (.getstatic idx, 3)) (h : ea_E k (pc + 3) lv (.int 1 :: st) M) : ea_E k pc lv st M := by
  obtain ⟨p, l, e, R, s, m, args, below, meth, c, Q, A, cells, slots, nL0, g⟩ := k
  obtain ⟨hx, hb, hml, hown, hts, hlk, hD, hA, hE, hroom, rfl⟩ := C
  intro H locs ls hP hS hl
  exact va_gets hx hb hE.2.2.2.1 hS hown (hts _ hlink) (fun _ h9 => h9) hd (h H locs ls hP hS hl)
theorem e_sfm {k : ea_K} {own : String} {cc : ByteArray} {nL d : Nat} (C : ea_C k own cc nL d) {pc : Nat} {lv : List (Nat × Value)} {st : List Value} {M : ea_M} {idx : Nat} (hlink : Cond.fieldLink own idx "jdk/internal/util/Preconditions" "SIOOBE_FORMATTER" "Ljava/util/function/BiFunction;" ∈ wsL_law) (hd : decode cc pc = .ok (.getstatic idx, 3)) (h1 : ea_E k (pc + 3) lv (.null :: st) M) (h2 : ea_E k (pc + 3) lv (.ref 210 :: st) M) : ea_E k pc lv st M := by
  obtain ⟨p, l, e, R, s, m, args, below, meth, c, Q, A, cells, slots, nL0, g⟩ := k
  obtain ⟨hx, hb, hml, hown, hts, hlk, hD, hA, hE, hroom, rfl⟩ := C
  intro H locs ls hP hS hl
  rcases hE.2.2.2.2.2 with z | z
  · exact va_gets hx hb z hS hown (hts _ hlink) (fun _ h9 => h9) hd (h1 H locs ls hP hS hl)
  · exact va_gets hx hb z hS hown (hts _ hlink) (fun _ h9 => h9) hd (h2 H locs ls hP hS hl)
theorem e_slen {k : ea_K} {own : String} {cc : ByteArray} {nL d : Nat} (C : ea_C k own cc nL d) {pc : Nat} {lv : List (Nat × Value)} {st : List Value} {M : ea_M} {i : Nat} {v : Int32} (hi : i < 5) (hv : Int32.ofNat (ea_lenS.getD i 0) = v) (hd : decode cc pc = .ok (.arraylength, 1)) (h : ea_E k (pc + 1) lv (.int v :: st) M) : ea_E k pc lv (.ref (220 + i) :: st) M := by
  obtain ⟨p, l, e, R, s, m, args, below, meth, c, Q, A, cells, slots, nL0, g⟩ := k
  obtain ⟨hx, hb, hml, hown, hts, hlk, hD, hA, hE, hroom, rfl⟩ := C
  intro H locs ls hP hS hl
  exact va_tlen hx hb (hE.2.2.1.1 i hi).2.2.2 hS hv hd (h H locs ls hP hS hl)
theorem e_sbyt {k : ea_K} {own : String} {cc : ByteArray} {nL d : Nat} (C : ea_C k own cc nL d) {pc : Nat} {lv : List (Nat × Value)} {st : List Value} {M : ea_M} {i : Nat} {j v : Int32} (hi : i < 5) (hin : vp_in j (ea_lenS.getD i 0)) (hv : (ea_bytS.getD i []).getD j.toNatClampNeg 0 = v) (hd : decode cc pc = .ok (.baload, 1)) (h : ea_E k (pc + 1) lv (.int v :: st) M) : ea_E k pc lv (.int j :: .ref (220 + i) :: st) M := by
  obtain ⟨p, l, e, R, s, m, args, below, meth, c, Q, A, cells, slots, nL0, g⟩ := k
  obtain ⟨hx, hb, hml, hown, hts, hlk, hD, hA, hE, hroom, rfl⟩ := C
  intro H locs ls hP hS hl
  exact va_tb hx hb (hE.2.2.1.1 i hi).2.2.2 hS hin (v := .int v) (by simp only [hv]) hd (h H locs ls hP hS hl)
theorem e_callVS {k : ea_K} {own : String} {cc : ByteArray} {nL d : Nat} (C : ea_C k own cc nL d) {pc : Nat} {lv : List (Nat × Value)} {st : List Value} {M : ea_M} {idx d' nL' n i : Nat} {y : MethodName} {cc' : ByteArray} {ret : Option FieldType} {as rest : List Value} {v : Value} {M' : ea_M} (L : ea_LkV own idx y cc' nL' ret n) (hM : ea_Sp d' y cc' nL' ret (.ref (200 + i) :: as) M (some v) M') (hd' : d' < d) (hn : as.length = n) (hi : i < 5) (hcls : y.cls = "java/lang/String") (hst : st = as.reverse ++ .ref (200 + i) :: rest) (hcat : (rest.map fun v => v.category).sum ≤ 8) (hd : decode cc pc = .ok (.invokevirtual idx, 3)) (h : ea_E k (pc + 3) lv (v :: rest) M') : ea_E k pc lv st M := by
  obtain ⟨p, l, e, R, s, m, args, below, meth, c, Q, A, cells, slots, nL0, g⟩ := k
  obtain ⟨hx, hb, hml, hown, hts, hlk, hD, hA, hE, hroom, rfl⟩ := C
  intro H locs ls hP hS hl
  obtain ⟨⟨L1, L2, L3, L4, L5⟩, L6, L7⟩ := L
  obtain ⟨r1, r2, r3, r4⟩ := hroom
  obtain ⟨hf, hpre⟩ := ea_pre hP (ea_D_any hD) hS hA hE
  have hrec := vk_recv hE.2.2.1 hi hS
  rw [← hcls] at hrec
  have hst2 : st.map (ea_tr g) = (as.map (ea_tr g)).reverse ++ .ref (g.2.2.1 (200 + i)) :: rest.map (ea_tr g) := by
    subst hst
    simp [ea_tr]
  refine ea_back (rest := rest.map (ea_tr g)) (g := g) (o := (some v).map (ea_tr g)) (M' := M') (va_runV (As := as.map (ea_tr g)) (n := n) (C := y.cls) (b := g.2.2.1 (200 + i)) ⟨hx, hb, hml, hown, hts⟩ (hM l g H.size) ⟨callB_of n hts (ea_goodIn L2) rfl rfl rfl (hts _ L3) (hts _ L1) L4 ⟨Nat.le_trans hd' r1, by show 8 + (nL' + 11) + 40 * d' ≤ R.locals; omega⟩, hts _ L6, hts _ L7⟩ ⟨ea_blind g _ _ _, hrec, fun U hU hW => ⟨rfl, hpre U hU hW⟩⟩ rfl (by rw [List.length_map]; exact hn) hl.1 hst2 ?_ hd ⟨r3, r4⟩) hS (fun q _ z => hf q z) hf (fun H1 locs1 hP1 hS1 => ?_)
  · have := lv_room (m := m) (pc := pc) (ls := ls) (rest := st.map (ea_tr g)) (st := rest.map (ea_tr g)) (by rw [ea_mapC]; exact hcat)
    exact this
  · exact h H1 locs1 ls hP1 hS1 hl

theorem sp_J0_coder (M : ea_M) (i : Nat) (hi : i < 5) : ea_Sp 0 yJ0_coder_7d493 cJ0_coder_7d493 1 (some .byte) [.ref (200 + i)] M (some (.int 0)) M := by
  refine ea_intro (own := RJ0) (by decide +kernel) rfl (fun g => Nat.le_of_ble_eq_true rfl) (fun k C X => ?_)
  refine e_scs C (wsm_9 (List.mem_of_getElem? (i := 9) rfl)) dJ0_coder_7d493_0 ?_
  refine e_if_eq (tgt := 13) C dJ0_coder_7d493_3 (by decide) (fun c => absurd c (by decide)) (fun _ => ?_)
  refine e_aload_n (n := 0) C dJ0_coder_7d493_6 rfl rfl ?_
  refine e_scod C hi (wsm_9 (List.mem_of_getElem? (i := 10) rfl)) dJ0_coder_7d493_7 ?_
  refine e_goto (tgt := 14) C dJ0_coder_7d493_10 (by decide) ?_
  exact e_iret C X rfl rfl dJ0_coder_7d493_14 ⟨rfl, rfl⟩
theorem sp_J0_isLatin1 (M : ea_M) (i : Nat) (hi : i < 5) : ea_Sp 0 yJ0_isLatin1_aae02 cJ0_isLatin1_aae02 1 (some .boolean) [.ref (200 + i)] M (some (.int 1)) M := by
  refine ea_intro (own := RJ0) (by decide +kernel) rfl (fun g => Nat.le_of_ble_eq_true rfl) (fun k C X => ?_)
  refine e_scs C (wsm_9 (List.mem_of_getElem? (i := 9) rfl)) dJ0_isLatin1_aae02_0 ?_
  refine e_if_eq (tgt := 17) C dJ0_isLatin1_aae02_3 (by decide) (fun c => absurd c (by decide)) (fun _ => ?_)
  refine e_aload_n (n := 0) C dJ0_isLatin1_aae02_6 rfl rfl ?_
  refine e_scod C hi (wsm_9 (List.mem_of_getElem? (i := 10) rfl)) dJ0_isLatin1_aae02_7 ?_
  refine e_if_ne (tgt := 17) C dJ0_isLatin1_aae02_10 (by decide) (fun c => absurd rfl c) (fun _ => ?_)
  refine e_iconst (v := 1) C dJ0_isLatin1_aae02_13 (by decide) ?_
  refine e_goto (tgt := 18) C dJ0_isLatin1_aae02_14 (by decide) ?_
  exact e_iret C X rfl rfl dJ0_isLatin1_aae02_18 ⟨rfl, rfl⟩
theorem sp_J0_length (M : ea_M) (i : Nat) (hi : i < 5) : ea_Sp 1 yJ0_length_8abf5 cJ0_length_8abf5 1 (some .int) [.ref (200 + i)] M (some (.int (nI (ea_lenS.getD i 0)))) M := by
  refine ea_intro (own := RJ0) (by decide +kernel) rfl (fun g => Nat.le_of_ble_eq_true rfl) (fun k C X => ?_)
  refine e_aload_n (n := 0) C dJ0_length_8abf5_0 rfl rfl ?_
  refine e_sval C hi (wsm_9 (List.mem_of_getElem? (i := 4) rfl)) dJ0_length_8abf5_1 ?_
  refine e_slen (v := nI (ea_lenS.getD i 0)) C hi rfl dJ0_length_8abf5_4 ?_
  refine e_aload_n (n := 0) C dJ0_length_8abf5_5 rfl rfl ?_
  refine e_callVS (as := []) (rest := [.int (nI (ea_lenS.getD i 0))]) C lk_J0_335 (sp_J0_coder M i hi) (by decide) rfl hi rfl rfl (Nat.le_of_ble_eq_true rfl) dJ0_length_8abf5_6 ?_
  refine e_ishr C dJ0_length_8abf5_9 ?_
  refine e_iret C X rfl (vp_nar_int _) dJ0_length_8abf5_10 ⟨?_, rfl⟩
  rcases (show i = 0 ∨ i = 1 ∨ i = 2 ∨ i = 3 ∨ i = 4 by omega) with rfl | rfl | rfl | rfl | rfl <;> decide
theorem sp_J3_checkIndex (M : ea_M) (j n : Nat) (f : Value) (hf : f = .null ∨ f = .ref 210) (hj : j < n) (hn : n < 1000) : ea_Sp 0 yJ3_checkIndex_8e157 cJ3_checkIndex_8e157 3 (some .int) [.int (nI j), .int (nI n), f] M (some (.int (nI j))) M := by
  refine ea_intro (own := RJ3) (by decide +kernel) rfl (fun g => ?_) (fun k C X => ?_)
  · rcases hf with rfl | rfl <;> exact Nat.le_of_ble_eq_true rfl
  refine e_iload_n (n := 0) C dJ3_checkIndex_8e157_0 rfl rfl ?_
  refine e_if_lt (tgt := 9) C dJ3_checkIndex_8e157_1 (by decide) (fun c => absurd c (nI_pos (by omega))) (fun _ => ?_)
  refine e_iload_n (n := 0) C dJ3_checkIndex_8e157_4 rfl rfl ?_
  refine e_iload_n (n := 1) C dJ3_checkIndex_8e157_5 rfl rfl ?_
  refine e_icmp_lt (tgt := 16) C dJ3_checkIndex_8e157_6 (by decide) (fun _ => ?_) (fun c => absurd (nI_lt hj (by omega)) c)
  refine e_iload_n (n := 0) C dJ3_checkIndex_8e157_16 rfl rfl ?_
  exact e_iret C X rfl (vp_nar_int _) dJ3_checkIndex_8e157_17 ⟨rfl, rfl⟩
theorem sp_J0_checkIndex (M : ea_M) (j n : Nat) (hj : j < n) (hn : n < 1000) : ea_Sp 1 yJ0_checkIndex_df160 cJ0_checkIndex_df160 2 none [.int (nI j), .int (nI n)] M none M := by
  refine ea_intro (own := RJ0) (by decide +kernel) rfl (fun g => Nat.le_of_ble_eq_true rfl) (fun k C X => ?_)
  have go : ∀ f : Value, (f = .null ∨ f = .ref 210) → ea_E k 5 (lv_args 0 [.int (nI j), .int (nI n)]) [f, .int (nI n), .int (nI j)] M := by
    intro f hf
    refine e_callS1 (as := [.int (nI j), .int (nI n), f]) (rest := []) C lk_J0_1059 (sp_J3_checkIndex M j n f hf hj hn) (by decide) rfl rfl (Nat.le_of_ble_eq_true rfl) dJ0_checkIndex_df160_5 ?_
    refine e_pop C dJ0_checkIndex_df160_8 rfl ?_
    exact e_vret C X dJ0_checkIndex_df160_9 ⟨rfl, rfl⟩
  refine e_iload_n (n := 0) C dJ0_checkIndex_df160_0 rfl rfl ?_
  refine e_iload_n (n := 1) C dJ0_checkIndex_df160_1 rfl rfl ?_
  exact e_sfm C (wsm_10 (List.mem_of_getElem? (i := 2) rfl)) dJ0_checkIndex_df160_2 (go _ (Or.inl rfl)) (go _ (Or.inr rfl))
def ea_ch (i j : Nat) : Int32 := (ea_bytS.getD i []).getD j 0
theorem ea_chs : ∀ i, i < 5 → ∀ j, j < ea_lenS.getD i 0 → (((ea_bytS.getD i []).getD j 0 &&& 255).toUInt32 % 65536).toInt32 = ea_ch i j ∧ narrow .char (.int (ea_ch i j)) = .int (ea_ch i j) := by decide +kernel
theorem ea_len9 : ∀ i, i < 5 → ea_lenS.getD i 0 < 9 := by decide
theorem sp_J1_charAt (M : ea_M) (i j : Nat) (hi : i < 5) (hj : j < ea_lenS.getD i 0) : ea_Sp 2 yJ1_charAt_3b067 cJ1_charAt_3b067 2 (some .char) [.ref (220 + i), .int (nI j)] M (some (.int (ea_ch i j))) M := by
  refine ea_intro (own := RJ1) (by decide +kernel) rfl (fun g => Nat.le_of_ble_eq_true rfl) (fun k C X => ?_)
  have h9 := ea_len9 i hi
  obtain ⟨c1, c2⟩ := ea_chs i hi j hj
  refine e_iload_n (n := 1) C dJ1_charAt_3b067_0 rfl rfl ?_
  refine e_aload_n (n := 0) C dJ1_charAt_3b067_1 rfl rfl ?_
  refine e_slen (v := nI (ea_lenS.getD i 0)) C hi rfl dJ1_charAt_3b067_2 ?_
  refine e_callS0 (as := [.int (nI j), .int (nI (ea_lenS.getD i 0))]) (rest := []) C lk_J1_9 (sp_J0_checkIndex M j _ hj (by omega)) (by decide) rfl rfl (Nat.le_of_ble_eq_true rfl) dJ1_charAt_3b067_3 ?_
  refine e_aload_n (n := 0) C dJ1_charAt_3b067_6 rfl rfl ?_
  refine e_iload_n (n := 1) C dJ1_charAt_3b067_7 rfl rfl ?_
  refine e_sbyt (v := (ea_bytS.getD i []).getD j 0) C hi (vp_in_nI hj (by omega)) (by rw [nI_clamp (by omega)]) dJ1_charAt_3b067_8 ?_
  refine e_sipush (v := 255) C dJ1_charAt_3b067_9 (by decide) ?_
  refine e_iand C dJ1_charAt_3b067_12 ?_
  refine e_i2c C c1 dJ1_charAt_3b067_13 ?_
  exact e_iret C X rfl c2 dJ1_charAt_3b067_14 ⟨rfl, rfl⟩
theorem sp_J0_charAt (M : ea_M) (i j : Nat) (hi : i < 5) (hj : j < ea_lenS.getD i 0) : ea_Sp 3 yJ0_charAt_5068e cJ0_charAt_5068e 2 (some .char) [.ref (200 + i), .int (nI j)] M (some (.int (ea_ch i j))) M := by
  refine ea_intro (own := RJ0) (by decide +kernel) rfl (fun g => Nat.le_of_ble_eq_true rfl) (fun k C X => ?_)
  obtain ⟨c1, c2⟩ := ea_chs i hi j hj
  refine e_aload_n (n := 0) C dJ0_charAt_5068e_0 rfl rfl ?_
  refine e_callVS (as := []) (rest := []) C lk_J0_492 (sp_J0_isLatin1 M i hi) (by decide) rfl hi rfl rfl (Nat.le_of_ble_eq_true rfl) dJ0_charAt_5068e_1 ?_
  refine e_if_eq (tgt := 16) C dJ0_charAt_5068e_4 (by decide) (fun c => absurd c (by decide)) (fun _ => ?_)
  refine e_aload_n (n := 0) C dJ0_charAt_5068e_7 rfl rfl ?_
  refine e_sval C hi (wsm_9 (List.mem_of_getElem? (i := 4) rfl)) dJ0_charAt_5068e_8 ?_
  refine e_iload_n (n := 1) C dJ0_charAt_5068e_11 rfl rfl ?_
  refine e_callS1 (as := [.ref (220 + i), .int (nI j)]) (rest := []) C lk_J0_495 (sp_J1_charAt M i j hi hj) (by decide) rfl rfl (Nat.le_of_ble_eq_true rfl) dJ0_charAt_5068e_12 ?_
  exact e_iret C X rfl c2 dJ0_charAt_5068e_15 ⟨rfl, rfl⟩

