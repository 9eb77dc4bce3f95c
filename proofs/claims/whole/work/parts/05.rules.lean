theorem ea_cat (g : ea_G) (v : Value) : (ea_tr g v).category = v.category := by cases v <;> rfl
theorem ea_fil1 (g : ea_G) {i : Nat} {v : Value} {lv : List (Nat × Value)} : (i, ea_tr g v) :: (lv.map (fun q => (q.1, ea_tr g q.2))).filter (fun q => !(q.1 == i) && !(q.1 + 1 == i && q.2.category == 2)) = (((i, v) :: lv.filter (fun q => !(q.1 == i) && !(q.1 + 1 == i && q.2.category == 2))).map (fun q => (q.1, ea_tr g q.2))) := by
  simp only [List.map_cons, List.filter_map, Function.comp_def, ea_cat]
theorem ea_fil2 (g : ea_G) {i : Nat} {v : Value} {lv : List (Nat × Value)} : (i, ea_tr g v) :: (lv.map (fun q => (q.1, ea_tr g q.2))).filter (fun q => !(q.1 == i) && (!(q.1 == i + 1) && !(q.1 + 1 == i && q.2.category == 2))) = (((i, v) :: lv.filter (fun q => !(q.1 == i) && (!(q.1 == i + 1) && !(q.1 + 1 == i && q.2.category == 2)))).map (fun q => (q.1, ea_tr g q.2))) := by
  simp only [List.map_cons, List.filter_map, Function.comp_def, ea_cat]
theorem e_iconst {k : ea_K} {own : String} {cc : ByteArray} {nL d : Nat} (C : ea_C k own cc nL d) {pc : Nat} {lv : List (Nat × Value)} {st : List Value} {M : ea_M} {n : Int} {v : Int32} (hd : decode cc pc = .ok (.iconst n, 1)) (hv : Int32.ofInt n = v) (h : ea_E k (pc + 1) lv (.int v :: st) M) : ea_E k (pc) lv (st) M := by
  obtain ⟨p, l, e, R, s, m, args, below, meth, c, Q, A, cells, slots, nL0, g⟩ := k
  obtain ⟨hx, hb, hml, hown, hts, hlk, hD, hA, hE, hroom, rfl⟩ := C
  intro H locs ls hP hS hl
  exact lv_iconst hx hb hd hv (h H locs ls hP hS hl)

theorem e_bipush {k : ea_K} {own : String} {cc : ByteArray} {nL d : Nat} (C : ea_C k own cc nL d) {pc : Nat} {lv : List (Nat × Value)} {st : List Value} {M : ea_M} {n : Int} {v : Int32} (hd : decode cc pc = .ok (.bipush n, 2)) (hv : (Int8.ofInt n).toInt32 = v) (h : ea_E k (pc + 2) lv (.int v :: st) M) : ea_E k (pc) lv (st) M := by
  obtain ⟨p, l, e, R, s, m, args, below, meth, c, Q, A, cells, slots, nL0, g⟩ := k
  obtain ⟨hx, hb, hml, hown, hts, hlk, hD, hA, hE, hroom, rfl⟩ := C
  intro H locs ls hP hS hl
  exact lv_bipush hx hb hd hv (h H locs ls hP hS hl)

theorem e_sipush {k : ea_K} {own : String} {cc : ByteArray} {nL d : Nat} (C : ea_C k own cc nL d) {pc : Nat} {lv : List (Nat × Value)} {st : List Value} {M : ea_M} {n : Int} {v : Int32} (hd : decode cc pc = .ok (.sipush n, 3)) (hv : (Int16.ofInt n).toInt32 = v) (h : ea_E k (pc + 3) lv (.int v :: st) M) : ea_E k (pc) lv (st) M := by
  obtain ⟨p, l, e, R, s, m, args, below, meth, c, Q, A, cells, slots, nL0, g⟩ := k
  obtain ⟨hx, hb, hml, hown, hts, hlk, hD, hA, hE, hroom, rfl⟩ := C
  intro H locs ls hP hS hl
  exact lv_sipush hx hb hd hv (h H locs ls hP hS hl)

theorem e_lconst {k : ea_K} {own : String} {cc : ByteArray} {nL d : Nat} (C : ea_C k own cc nL d) {pc : Nat} {lv : List (Nat × Value)} {st : List Value} {M : ea_M} {n : Fin 2} {v : Int64} (hd : decode cc pc = .ok (.lconst n, 1)) (hv : Int64.ofNat (n : Nat) = v) (h : ea_E k (pc + 1) lv (.long v :: st) M) : ea_E k (pc) lv (st) M := by
  obtain ⟨p, l, e, R, s, m, args, below, meth, c, Q, A, cells, slots, nL0, g⟩ := k
  obtain ⟨hx, hb, hml, hown, hts, hlk, hD, hA, hE, hroom, rfl⟩ := C
  intro H locs ls hP hS hl
  exact lv_lconst hx hb hd hv (h H locs ls hP hS hl)

theorem e_null {k : ea_K} {own : String} {cc : ByteArray} {nL d : Nat} (C : ea_C k own cc nL d) {pc : Nat} {lv : List (Nat × Value)} {st : List Value} {M : ea_M} (hd : decode cc pc = .ok (.aconst_null, 1)) (h : ea_E k (pc + 1) lv (.null :: st) M) : ea_E k (pc) lv (st) M := by
  obtain ⟨p, l, e, R, s, m, args, below, meth, c, Q, A, cells, slots, nL0, g⟩ := k
  obtain ⟨hx, hb, hml, hown, hts, hlk, hD, hA, hE, hroom, rfl⟩ := C
  intro H locs ls hP hS hl
  exact lv_null hx hb hd (h H locs ls hP hS hl)

theorem e_iload_n {k : ea_K} {own : String} {cc : ByteArray} {nL d : Nat} (C : ea_C k own cc nL d) {pc : Nat} {lv : List (Nat × Value)} {st : List Value} {M : ea_M} {f : Fin 4} {i n : Nat} {x : Int32} (hd : decode cc pc = .ok (.iload_n f, 1)) (hi : (f : Nat) = i) (hk : lv[n]? = some (i, .int x)) (h : ea_E k (pc + 1) lv (.int x :: st) M) : ea_E k (pc) lv (st) M := by
  obtain ⟨p, l, e, R, s, m, args, below, meth, c, Q, A, cells, slots, nL0, g⟩ := k
  obtain ⟨hx, hb, hml, hown, hts, hlk, hD, hA, hE, hroom, rfl⟩ := C
  intro H locs ls hP hS hl
  exact lv_iload_n hx hb hd hi (lv_at hl n (by rw [List.getElem?_map, hk]; rfl)) (h H locs ls hP hS hl)

theorem e_iload {k : ea_K} {own : String} {cc : ByteArray} {nL d : Nat} (C : ea_C k own cc nL d) {pc : Nat} {lv : List (Nat × Value)} {st : List Value} {M : ea_M} {i n : Nat} {x : Int32} (hd : decode cc pc = .ok (.iload i, 2)) (hk : lv[n]? = some (i, .int x)) (h : ea_E k (pc + 2) lv (.int x :: st) M) : ea_E k (pc) lv (st) M := by
  obtain ⟨p, l, e, R, s, m, args, below, meth, c, Q, A, cells, slots, nL0, g⟩ := k
  obtain ⟨hx, hb, hml, hown, hts, hlk, hD, hA, hE, hroom, rfl⟩ := C
  intro H locs ls hP hS hl
  exact lv_iload hx hb hd (lv_at hl n (by rw [List.getElem?_map, hk]; rfl)) (h H locs ls hP hS hl)

theorem e_lload_n {k : ea_K} {own : String} {cc : ByteArray} {nL d : Nat} (C : ea_C k own cc nL d) {pc : Nat} {lv : List (Nat × Value)} {st : List Value} {M : ea_M} {f : Fin 4} {i n : Nat} {x : Int64} (hd : decode cc pc = .ok (.lload_n f, 1)) (hi : (f : Nat) = i) (hk : lv[n]? = some (i, .long x)) (h : ea_E k (pc + 1) lv (.long x :: st) M) : ea_E k (pc) lv (st) M := by
  obtain ⟨p, l, e, R, s, m, args, below, meth, c, Q, A, cells, slots, nL0, g⟩ := k
  obtain ⟨hx, hb, hml, hown, hts, hlk, hD, hA, hE, hroom, rfl⟩ := C
  intro H locs ls hP hS hl
  exact lv_lload_n hx hb hd hi (lv_at hl n (by rw [List.getElem?_map, hk]; rfl)) (h H locs ls hP hS hl)

theorem e_lload {k : ea_K} {own : String} {cc : ByteArray} {nL d : Nat} (C : ea_C k own cc nL d) {pc : Nat} {lv : List (Nat × Value)} {st : List Value} {M : ea_M} {i n : Nat} {x : Int64} (hd : decode cc pc = .ok (.lload i, 2)) (hk : lv[n]? = some (i, .long x)) (h : ea_E k (pc + 2) lv (.long x :: st) M) : ea_E k (pc) lv (st) M := by
  obtain ⟨p, l, e, R, s, m, args, below, meth, c, Q, A, cells, slots, nL0, g⟩ := k
  obtain ⟨hx, hb, hml, hown, hts, hlk, hD, hA, hE, hroom, rfl⟩ := C
  intro H locs ls hP hS hl
  exact lv_lload hx hb hd (lv_at hl n (by rw [List.getElem?_map, hk]; rfl)) (h H locs ls hP hS hl)

theorem e_aload_n {k : ea_K} {own : String} {cc : ByteArray} {nL d : Nat} (C : ea_C k own cc nL d) {pc : Nat} {lv : List (Nat × Value)} {st : List Value} {M : ea_M} {f : Fin 4} {i n : Nat} {x : Nat} (hd : decode cc pc = .ok (.aload_n f, 1)) (hi : (f : Nat) = i) (hk : lv[n]? = some (i, .ref x)) (h : ea_E k (pc + 1) lv (.ref x :: st) M) : ea_E k (pc) lv (st) M := by
  obtain ⟨p, l, e, R, s, m, args, below, meth, c, Q, A, cells, slots, nL0, g⟩ := k
  obtain ⟨hx, hb, hml, hown, hts, hlk, hD, hA, hE, hroom, rfl⟩ := C
  intro H locs ls hP hS hl
  exact lv_aload_n hx hb hd hi (lv_at hl n (by rw [List.getElem?_map, hk]; rfl)) (h H locs ls hP hS hl)

theorem e_aload {k : ea_K} {own : String} {cc : ByteArray} {nL d : Nat} (C : ea_C k own cc nL d) {pc : Nat} {lv : List (Nat × Value)} {st : List Value} {M : ea_M} {i n : Nat} {x : Nat} (hd : decode cc pc = .ok (.aload i, 2)) (hk : lv[n]? = some (i, .ref x)) (h : ea_E k (pc + 2) lv (.ref x :: st) M) : ea_E k (pc) lv (st) M := by
  obtain ⟨p, l, e, R, s, m, args, below, meth, c, Q, A, cells, slots, nL0, g⟩ := k
  obtain ⟨hx, hb, hml, hown, hts, hlk, hD, hA, hE, hroom, rfl⟩ := C
  intro H locs ls hP hS hl
  exact lv_aload hx hb hd (lv_at hl n (by rw [List.getElem?_map, hk]; rfl)) (h H locs ls hP hS hl)

theorem e_aloadN_n {k : ea_K} {own : String} {cc : ByteArray} {nL d : Nat} (C : ea_C k own cc nL d) {pc : Nat} {lv : List (Nat × Value)} {st : List Value} {M : ea_M} {f : Fin 4} {i n : Nat} (hd : decode cc pc = .ok (.aload_n f, 1)) (hi : (f : Nat) = i) (hk : lv[n]? = some (i, .null)) (h : ea_E k (pc + 1) lv (.null :: st) M) : ea_E k (pc) lv (st) M := by
  obtain ⟨p, l, e, R, s, m, args, below, meth, c, Q, A, cells, slots, nL0, g⟩ := k
  obtain ⟨hx, hb, hml, hown, hts, hlk, hD, hA, hE, hroom, rfl⟩ := C
  intro H locs ls hP hS hl
  exact lv_aload_nN hx hb hd hi (lv_at hl n (by rw [List.getElem?_map, hk]; rfl)) (h H locs ls hP hS hl)

theorem e_aloadN {k : ea_K} {own : String} {cc : ByteArray} {nL d : Nat} (C : ea_C k own cc nL d) {pc : Nat} {lv : List (Nat × Value)} {st : List Value} {M : ea_M} {i n : Nat} (hd : decode cc pc = .ok (.aload i, 2)) (hk : lv[n]? = some (i, .null)) (h : ea_E k (pc + 2) lv (.null :: st) M) : ea_E k (pc) lv (st) M := by
  obtain ⟨p, l, e, R, s, m, args, below, meth, c, Q, A, cells, slots, nL0, g⟩ := k
  obtain ⟨hx, hb, hml, hown, hts, hlk, hD, hA, hE, hroom, rfl⟩ := C
  intro H locs ls hP hS hl
  exact lv_aloadN hx hb hd (lv_at hl n (by rw [List.getElem?_map, hk]; rfl)) (h H locs ls hP hS hl)

theorem e_istore_n {k : ea_K} {own : String} {cc : ByteArray} {nL d : Nat} (C : ea_C k own cc nL d) {pc : Nat} {lv : List (Nat × Value)} {st : List Value} {M : ea_M} {f : Fin 4} {i : Nat} {lv' : List (Nat × Value)} {x : Int32} (hd : decode cc pc = .ok (.istore_n f, 1)) (hi : (f : Nat) = i) (hn : i < nL) (hl' : (i, Value.int x) :: lv.filter (fun q => !(q.1 == i) && !(q.1 + 1 == i && q.2.category == 2)) = lv') (h : ea_E k (pc + 1) lv' (st) M) : ea_E k (pc) lv (.int x :: st) M := by
  obtain ⟨p, l, e, R, s, m, args, below, meth, c, Q, A, cells, slots, nL0, g⟩ := k
  obtain ⟨hx, hb, hml, hown, hts, hlk, hD, hA, hE, hroom, rfl⟩ := C
  intro H locs ls hP hS hl
  refine lv_istore_n hx hb hd hi hl hn rfl (fun ls' hl2 => h H locs ls' hP hS ?_)
  subst hl'
  rw [← ea_fil1 g]
  exact hl2

theorem e_istore {k : ea_K} {own : String} {cc : ByteArray} {nL d : Nat} (C : ea_C k own cc nL d) {pc : Nat} {lv : List (Nat × Value)} {st : List Value} {M : ea_M} {i : Nat} {lv' : List (Nat × Value)} {x : Int32} (hd : decode cc pc = .ok (.istore i, 2)) (hn : i < nL) (hl' : (i, Value.int x) :: lv.filter (fun q => !(q.1 == i) && !(q.1 + 1 == i && q.2.category == 2)) = lv') (h : ea_E k (pc + 2) lv' (st) M) : ea_E k (pc) lv (.int x :: st) M := by
  obtain ⟨p, l, e, R, s, m, args, below, meth, c, Q, A, cells, slots, nL0, g⟩ := k
  obtain ⟨hx, hb, hml, hown, hts, hlk, hD, hA, hE, hroom, rfl⟩ := C
  intro H locs ls hP hS hl
  refine lv_istore hx hb hd hl hn rfl (fun ls' hl2 => h H locs ls' hP hS ?_)
  subst hl'
  rw [← ea_fil1 g]
  exact hl2

theorem e_lstore_n {k : ea_K} {own : String} {cc : ByteArray} {nL d : Nat} (C : ea_C k own cc nL d) {pc : Nat} {lv : List (Nat × Value)} {st : List Value} {M : ea_M} {f : Fin 4} {i : Nat} {lv' : List (Nat × Value)} {x : Int64} (hd : decode cc pc = .ok (.lstore_n f, 1)) (hi : (f : Nat) = i) (hn : i + 1 < nL) (hl' : (i, Value.long x) :: lv.filter (fun q => !(q.1 == i) && (!(q.1 == i + 1) && !(q.1 + 1 == i && q.2.category == 2))) = lv') (h : ea_E k (pc + 1) lv' (st) M) : ea_E k (pc) lv (.long x :: st) M := by
  obtain ⟨p, l, e, R, s, m, args, below, meth, c, Q, A, cells, slots, nL0, g⟩ := k
  obtain ⟨hx, hb, hml, hown, hts, hlk, hD, hA, hE, hroom, rfl⟩ := C
  intro H locs ls hP hS hl
  refine lv_lstore_n hx hb hd hi hl hn rfl (fun ls' hl2 => h H locs ls' hP hS ?_)
  subst hl'
  rw [← ea_fil2 g]
  exact hl2

theorem e_lstore {k : ea_K} {own : String} {cc : ByteArray} {nL d : Nat} (C : ea_C k own cc nL d) {pc : Nat} {lv : List (Nat × Value)} {st : List Value} {M : ea_M} {i : Nat} {lv' : List (Nat × Value)} {x : Int64} (hd : decode cc pc = .ok (.lstore i, 2)) (hn : i + 1 < nL) (hl' : (i, Value.long x) :: lv.filter (fun q => !(q.1 == i) && (!(q.1 == i + 1) && !(q.1 + 1 == i && q.2.category == 2))) = lv') (h : ea_E k (pc + 2) lv' (st) M) : ea_E k (pc) lv (.long x :: st) M := by
  obtain ⟨p, l, e, R, s, m, args, below, meth, c, Q, A, cells, slots, nL0, g⟩ := k
  obtain ⟨hx, hb, hml, hown, hts, hlk, hD, hA, hE, hroom, rfl⟩ := C
  intro H locs ls hP hS hl
  refine lv_lstore hx hb hd hl hn rfl (fun ls' hl2 => h H locs ls' hP hS ?_)
  subst hl'
  rw [← ea_fil2 g]
  exact hl2

theorem e_astore_n {k : ea_K} {own : String} {cc : ByteArray} {nL d : Nat} (C : ea_C k own cc nL d) {pc : Nat} {lv : List (Nat × Value)} {st : List Value} {M : ea_M} {f : Fin 4} {i : Nat} {lv' : List (Nat × Value)} {x : Nat} (hd : decode cc pc = .ok (.astore_n f, 1)) (hi : (f : Nat) = i) (hn : i < nL) (hl' : (i, Value.ref x) :: lv.filter (fun q => !(q.1 == i) && !(q.1 + 1 == i && q.2.category == 2)) = lv') (h : ea_E k (pc + 1) lv' (st) M) : ea_E k (pc) lv (.ref x :: st) M := by
  obtain ⟨p, l, e, R, s, m, args, below, meth, c, Q, A, cells, slots, nL0, g⟩ := k
  obtain ⟨hx, hb, hml, hown, hts, hlk, hD, hA, hE, hroom, rfl⟩ := C
  intro H locs ls hP hS hl
  refine lv_astore_n hx hb hd hi hl hn rfl (fun ls' hl2 => h H locs ls' hP hS ?_)
  subst hl'
  rw [← ea_fil1 g]
  exact hl2

theorem e_astore {k : ea_K} {own : String} {cc : ByteArray} {nL d : Nat} (C : ea_C k own cc nL d) {pc : Nat} {lv : List (Nat × Value)} {st : List Value} {M : ea_M} {i : Nat} {lv' : List (Nat × Value)} {x : Nat} (hd : decode cc pc = .ok (.astore i, 2)) (hn : i < nL) (hl' : (i, Value.ref x) :: lv.filter (fun q => !(q.1 == i) && !(q.1 + 1 == i && q.2.category == 2)) = lv') (h : ea_E k (pc + 2) lv' (st) M) : ea_E k (pc) lv (.ref x :: st) M := by
  obtain ⟨p, l, e, R, s, m, args, below, meth, c, Q, A, cells, slots, nL0, g⟩ := k
  obtain ⟨hx, hb, hml, hown, hts, hlk, hD, hA, hE, hroom, rfl⟩ := C
  intro H locs ls hP hS hl
  refine lv_astore hx hb hd hl hn rfl (fun ls' hl2 => h H locs ls' hP hS ?_)
  subst hl'
  rw [← ea_fil1 g]
  exact hl2

theorem e_astoreN_n {k : ea_K} {own : String} {cc : ByteArray} {nL d : Nat} (C : ea_C k own cc nL d) {pc : Nat} {lv : List (Nat × Value)} {st : List Value} {M : ea_M} {f : Fin 4} {i : Nat} {lv' : List (Nat × Value)}  (hd : decode cc pc = .ok (.astore_n f, 1)) (hi : (f : Nat) = i) (hn : i < nL) (hl' : (i, Value.null) :: lv.filter (fun q => !(q.1 == i) && !(q.1 + 1 == i && q.2.category == 2)) = lv') (h : ea_E k (pc + 1) lv' (st) M) : ea_E k (pc) lv (.null :: st) M := by
  obtain ⟨p, l, e, R, s, m, args, below, meth, c, Q, A, cells, slots, nL0, g⟩ := k
  obtain ⟨hx, hb, hml, hown, hts, hlk, hD, hA, hE, hroom, rfl⟩ := C
  intro H locs ls hP hS hl
  refine lv_astore_nN hx hb hd hi hl hn rfl (fun ls' hl2 => h H locs ls' hP hS ?_)
  subst hl'
  rw [← ea_fil1 g]
  exact hl2

theorem e_astoreN {k : ea_K} {own : String} {cc : ByteArray} {nL d : Nat} (C : ea_C k own cc nL d) {pc : Nat} {lv : List (Nat × Value)} {st : List Value} {M : ea_M} {i : Nat} {lv' : List (Nat × Value)}  (hd : decode cc pc = .ok (.astore i, 2)) (hn : i < nL) (hl' : (i, Value.null) :: lv.filter (fun q => !(q.1 == i) && !(q.1 + 1 == i && q.2.category == 2)) = lv') (h : ea_E k (pc + 2) lv' (st) M) : ea_E k (pc) lv (.null :: st) M := by
  obtain ⟨p, l, e, R, s, m, args, below, meth, c, Q, A, cells, slots, nL0, g⟩ := k
  obtain ⟨hx, hb, hml, hown, hts, hlk, hD, hA, hE, hroom, rfl⟩ := C
  intro H locs ls hP hS hl
  refine lv_astoreN hx hb hd hl hn rfl (fun ls' hl2 => h H locs ls' hP hS ?_)
  subst hl'
  rw [← ea_fil1 g]
  exact hl2

theorem e_iinc {k : ea_K} {own : String} {cc : ByteArray} {nL d : Nat} (C : ea_C k own cc nL d) {pc : Nat} {lv : List (Nat × Value)} {st : List Value} {M : ea_M} {i n : Nat} {z : Int} {x v : Int32} {lv' : List (Nat × Value)} (hd : decode cc pc = .ok (.iinc i z, 3)) (hk : lv[n]? = some (i, .int x)) (hv : x + Int32.ofInt z = v) (hn : i < nL) (hl' : (i, Value.int v) :: lv.filter (fun q => !(q.1 == i) && !(q.1 + 1 == i && q.2.category == 2)) = lv') (h : ea_E k (pc + 3) lv' (st) M) : ea_E k (pc) lv (st) M := by
  obtain ⟨p, l, e, R, s, m, args, below, meth, c, Q, A, cells, slots, nL0, g⟩ := k
  obtain ⟨hx, hb, hml, hown, hts, hlk, hD, hA, hE, hroom, rfl⟩ := C
  intro H locs ls hP hS hl
  refine lv_iinc (k := n) hx hb hd hl (by rw [List.getElem?_map, hk]; rfl) hv hn rfl (fun ls' hl2 => h H locs ls' hP hS ?_)
  subst hl'
  rw [← ea_fil1 g]
  exact hl2

theorem e_iadd {k : ea_K} {own : String} {cc : ByteArray} {nL d : Nat} (C : ea_C k own cc nL d) {pc : Nat} {lv : List (Nat × Value)} {st : List Value} {M : ea_M} {x y : Int32} (hd : decode cc pc = .ok (.iadd, 1)) (h : ea_E k (pc + 1) lv (.int (x + y) :: st) M) : ea_E k (pc) lv (.int y :: .int x :: st) M := by
  obtain ⟨p, l, e, R, s, m, args, below, meth, c, Q, A, cells, slots, nL0, g⟩ := k
  obtain ⟨hx, hb, hml, hown, hts, hlk, hD, hA, hE, hroom, rfl⟩ := C
  intro H locs ls hP hS hl
  exact lv_iadd hx hb hd (h H locs ls hP hS hl)

theorem e_isub {k : ea_K} {own : String} {cc : ByteArray} {nL d : Nat} (C : ea_C k own cc nL d) {pc : Nat} {lv : List (Nat × Value)} {st : List Value} {M : ea_M} {x y : Int32} (hd : decode cc pc = .ok (.isub, 1)) (h : ea_E k (pc + 1) lv (.int (x - y) :: st) M) : ea_E k (pc) lv (.int y :: .int x :: st) M := by
  obtain ⟨p, l, e, R, s, m, args, below, meth, c, Q, A, cells, slots, nL0, g⟩ := k
  obtain ⟨hx, hb, hml, hown, hts, hlk, hD, hA, hE, hroom, rfl⟩ := C
  intro H locs ls hP hS hl
  exact lv_isub hx hb hd (h H locs ls hP hS hl)

theorem e_imul {k : ea_K} {own : String} {cc : ByteArray} {nL d : Nat} (C : ea_C k own cc nL d) {pc : Nat} {lv : List (Nat × Value)} {st : List Value} {M : ea_M} {x y : Int32} (hd : decode cc pc = .ok (.imul, 1)) (h : ea_E k (pc + 1) lv (.int (x * y) :: st) M) : ea_E k (pc) lv (.int y :: .int x :: st) M := by
  obtain ⟨p, l, e, R, s, m, args, below, meth, c, Q, A, cells, slots, nL0, g⟩ := k
  obtain ⟨hx, hb, hml, hown, hts, hlk, hD, hA, hE, hroom, rfl⟩ := C
  intro H locs ls hP hS hl
  exact lv_imul hx hb hd (h H locs ls hP hS hl)

theorem e_iand {k : ea_K} {own : String} {cc : ByteArray} {nL d : Nat} (C : ea_C k own cc nL d) {pc : Nat} {lv : List (Nat × Value)} {st : List Value} {M : ea_M} {x y : Int32} (hd : decode cc pc = .ok (.iand, 1)) (h : ea_E k (pc + 1) lv (.int (x &&& y) :: st) M) : ea_E k (pc) lv (.int y :: .int x :: st) M := by
  obtain ⟨p, l, e, R, s, m, args, below, meth, c, Q, A, cells, slots, nL0, g⟩ := k
  obtain ⟨hx, hb, hml, hown, hts, hlk, hD, hA, hE, hroom, rfl⟩ := C
  intro H locs ls hP hS hl
  exact lv_iand hx hb hd (h H locs ls hP hS hl)

theorem e_ior {k : ea_K} {own : String} {cc : ByteArray} {nL d : Nat} (C : ea_C k own cc nL d) {pc : Nat} {lv : List (Nat × Value)} {st : List Value} {M : ea_M} {x y : Int32} (hd : decode cc pc = .ok (.ior, 1)) (h : ea_E k (pc + 1) lv (.int (x ||| y) :: st) M) : ea_E k (pc) lv (.int y :: .int x :: st) M := by
  obtain ⟨p, l, e, R, s, m, args, below, meth, c, Q, A, cells, slots, nL0, g⟩ := k
  obtain ⟨hx, hb, hml, hown, hts, hlk, hD, hA, hE, hroom, rfl⟩ := C
  intro H locs ls hP hS hl
  exact lv_ior hx hb hd (h H locs ls hP hS hl)

theorem e_ishl {k : ea_K} {own : String} {cc : ByteArray} {nL d : Nat} (C : ea_C k own cc nL d) {pc : Nat} {lv : List (Nat × Value)} {st : List Value} {M : ea_M} {x y : Int32} (hd : decode cc pc = .ok (.ishl, 1)) (h : ea_E k (pc + 1) lv (.int (x <<< (y &&& 31)) :: st) M) : ea_E k (pc) lv (.int y :: .int x :: st) M := by
  obtain ⟨p, l, e, R, s, m, args, below, meth, c, Q, A, cells, slots, nL0, g⟩ := k
  obtain ⟨hx, hb, hml, hown, hts, hlk, hD, hA, hE, hroom, rfl⟩ := C
  intro H locs ls hP hS hl
  exact lv_ishl hx hb hd (h H locs ls hP hS hl)

theorem e_idiv {k : ea_K} {own : String} {cc : ByteArray} {nL d : Nat} (C : ea_C k own cc nL d) {pc : Nat} {lv : List (Nat × Value)} {st : List Value} {M : ea_M} {x y : Int32} (hd : decode cc pc = .ok (.idiv, 1)) (hne : ¬ y = 0) (h : ea_E k (pc + 1) lv (.int (x / y) :: st) M) : ea_E k (pc) lv (.int y :: .int x :: st) M := by
  obtain ⟨p, l, e, R, s, m, args, below, meth, c, Q, A, cells, slots, nL0, g⟩ := k
  obtain ⟨hx, hb, hml, hown, hts, hlk, hD, hA, hE, hroom, rfl⟩ := C
  intro H locs ls hP hS hl
  exact lv_idiv hx hb hd hne (h H locs ls hP hS hl)

theorem e_irem {k : ea_K} {own : String} {cc : ByteArray} {nL d : Nat} (C : ea_C k own cc nL d) {pc : Nat} {lv : List (Nat × Value)} {st : List Value} {M : ea_M} {x y : Int32} (hd : decode cc pc = .ok (.irem, 1)) (hne : ¬ y = 0) (h : ea_E k (pc + 1) lv (.int (x - x / y * y) :: st) M) : ea_E k (pc) lv (.int y :: .int x :: st) M := by
  obtain ⟨p, l, e, R, s, m, args, below, meth, c, Q, A, cells, slots, nL0, g⟩ := k
  obtain ⟨hx, hb, hml, hown, hts, hlk, hD, hA, hE, hroom, rfl⟩ := C
  intro H locs ls hP hS hl
  exact lv_irem hx hb hd hne (h H locs ls hP hS hl)

theorem e_ladd {k : ea_K} {own : String} {cc : ByteArray} {nL d : Nat} (C : ea_C k own cc nL d) {pc : Nat} {lv : List (Nat × Value)} {st : List Value} {M : ea_M} {x y : Int64} (hd : decode cc pc = .ok (.ladd, 1)) (h : ea_E k (pc + 1) lv (.long (x + y) :: st) M) : ea_E k (pc) lv (.long y :: .long x :: st) M := by
  obtain ⟨p, l, e, R, s, m, args, below, meth, c, Q, A, cells, slots, nL0, g⟩ := k
  obtain ⟨hx, hb, hml, hown, hts, hlk, hD, hA, hE, hroom, rfl⟩ := C
  intro H locs ls hP hS hl
  exact lv_ladd hx hb hd (h H locs ls hP hS hl)

theorem e_lsub {k : ea_K} {own : String} {cc : ByteArray} {nL d : Nat} (C : ea_C k own cc nL d) {pc : Nat} {lv : List (Nat × Value)} {st : List Value} {M : ea_M} {x y : Int64} (hd : decode cc pc = .ok (.lsub, 1)) (h : ea_E k (pc + 1) lv (.long (x - y) :: st) M) : ea_E k (pc) lv (.long y :: .long x :: st) M := by
  obtain ⟨p, l, e, R, s, m, args, below, meth, c, Q, A, cells, slots, nL0, g⟩ := k
  obtain ⟨hx, hb, hml, hown, hts, hlk, hD, hA, hE, hroom, rfl⟩ := C
  intro H locs ls hP hS hl
  exact lv_lsub hx hb hd (h H locs ls hP hS hl)

theorem e_lmul {k : ea_K} {own : String} {cc : ByteArray} {nL d : Nat} (C : ea_C k own cc nL d) {pc : Nat} {lv : List (Nat × Value)} {st : List Value} {M : ea_M} {x y : Int64} (hd : decode cc pc = .ok (.lmul, 1)) (h : ea_E k (pc + 1) lv (.long (x * y) :: st) M) : ea_E k (pc) lv (.long y :: .long x :: st) M := by
  obtain ⟨p, l, e, R, s, m, args, below, meth, c, Q, A, cells, slots, nL0, g⟩ := k
  obtain ⟨hx, hb, hml, hown, hts, hlk, hD, hA, hE, hroom, rfl⟩ := C
  intro H locs ls hP hS hl
  exact lv_lmul hx hb hd (h H locs ls hP hS hl)

theorem e_ldiv {k : ea_K} {own : String} {cc : ByteArray} {nL d : Nat} (C : ea_C k own cc nL d) {pc : Nat} {lv : List (Nat × Value)} {st : List Value} {M : ea_M} {x y : Int64} (hd : decode cc pc = .ok (.ldiv, 1)) (hne : ¬ y = 0) (h : ea_E k (pc + 1) lv (.long (x / y) :: st) M) : ea_E k (pc) lv (.long y :: .long x :: st) M := by
  obtain ⟨p, l, e, R, s, m, args, below, meth, c, Q, A, cells, slots, nL0, g⟩ := k
  obtain ⟨hx, hb, hml, hown, hts, hlk, hD, hA, hE, hroom, rfl⟩ := C
  intro H locs ls hP hS hl
  exact lv_ldiv hx hb hd hne (h H locs ls hP hS hl)

theorem e_lrem {k : ea_K} {own : String} {cc : ByteArray} {nL d : Nat} (C : ea_C k own cc nL d) {pc : Nat} {lv : List (Nat × Value)} {st : List Value} {M : ea_M} {x y : Int64} (hd : decode cc pc = .ok (.lrem, 1)) (hne : ¬ y = 0) (h : ea_E k (pc + 1) lv (.long (x - x / y * y) :: st) M) : ea_E k (pc) lv (.long y :: .long x :: st) M := by
  obtain ⟨p, l, e, R, s, m, args, below, meth, c, Q, A, cells, slots, nL0, g⟩ := k
  obtain ⟨hx, hb, hml, hown, hts, hlk, hD, hA, hE, hroom, rfl⟩ := C
  intro H locs ls hP hS hl
  exact lv_lrem hx hb hd hne (h H locs ls hP hS hl)

theorem e_lneg {k : ea_K} {own : String} {cc : ByteArray} {nL d : Nat} (C : ea_C k own cc nL d) {pc : Nat} {lv : List (Nat × Value)} {st : List Value} {M : ea_M} {x : Int64} (hd : decode cc pc = .ok (.lneg, 1)) (h : ea_E k (pc + 1) lv (.long (-x) :: st) M) : ea_E k (pc) lv (.long x :: st) M := by
  obtain ⟨p, l, e, R, s, m, args, below, meth, c, Q, A, cells, slots, nL0, g⟩ := k
  obtain ⟨hx, hb, hml, hown, hts, hlk, hD, hA, hE, hroom, rfl⟩ := C
  intro H locs ls hP hS hl
  exact lv_lneg hx hb hd (h H locs ls hP hS hl)

theorem e_i2l {k : ea_K} {own : String} {cc : ByteArray} {nL d : Nat} (C : ea_C k own cc nL d) {pc : Nat} {lv : List (Nat × Value)} {st : List Value} {M : ea_M} {x : Int32} (hd : decode cc pc = .ok (.i2l, 1)) (h : ea_E k (pc + 1) lv (.long x.toInt64 :: st) M) : ea_E k (pc) lv (.int x :: st) M := by
  obtain ⟨p, l, e, R, s, m, args, below, meth, c, Q, A, cells, slots, nL0, g⟩ := k
  obtain ⟨hx, hb, hml, hown, hts, hlk, hD, hA, hE, hroom, rfl⟩ := C
  intro H locs ls hP hS hl
  exact lv_i2l hx hb hd rfl (h H locs ls hP hS hl)

theorem e_l2i {k : ea_K} {own : String} {cc : ByteArray} {nL d : Nat} (C : ea_C k own cc nL d) {pc : Nat} {lv : List (Nat × Value)} {st : List Value} {M : ea_M} {x : Int64} (hd : decode cc pc = .ok (.l2i, 1)) (h : ea_E k (pc + 1) lv (.int x.toInt32 :: st) M) : ea_E k (pc) lv (.long x :: st) M := by
  obtain ⟨p, l, e, R, s, m, args, below, meth, c, Q, A, cells, slots, nL0, g⟩ := k
  obtain ⟨hx, hb, hml, hown, hts, hlk, hD, hA, hE, hroom, rfl⟩ := C
  intro H locs ls hP hS hl
  exact lv_l2i hx hb hd rfl (h H locs ls hP hS hl)

theorem e_dup {k : ea_K} {own : String} {cc : ByteArray} {nL d : Nat} (C : ea_C k own cc nL d) {pc : Nat} {lv : List (Nat × Value)} {st : List Value} {M : ea_M} {v : Value} (hd : decode cc pc = .ok (.dup, 1)) (hc : v.category = 1) (h : ea_E k (pc + 1) lv (v :: v :: st) M) : ea_E k (pc) lv (v :: st) M := by
  obtain ⟨p, l, e, R, s, m, args, below, meth, c, Q, A, cells, slots, nL0, g⟩ := k
  obtain ⟨hx, hb, hml, hown, hts, hlk, hD, hA, hE, hroom, rfl⟩ := C
  intro H locs ls hP hS hl
  exact lv_dup hx hb hd (by rw [ea_cat]; exact hc) (h H locs ls hP hS hl)

theorem e_pop {k : ea_K} {own : String} {cc : ByteArray} {nL d : Nat} (C : ea_C k own cc nL d) {pc : Nat} {lv : List (Nat × Value)} {st : List Value} {M : ea_M} {v : Value} (hd : decode cc pc = .ok (.pop, 1)) (hc : v.category = 1) (h : ea_E k (pc + 1) lv (st) M) : ea_E k (pc) lv (v :: st) M := by
  obtain ⟨p, l, e, R, s, m, args, below, meth, c, Q, A, cells, slots, nL0, g⟩ := k
  obtain ⟨hx, hb, hml, hown, hts, hlk, hD, hA, hE, hroom, rfl⟩ := C
  intro H locs ls hP hS hl
  exact lv_pop hx hb hd (by rw [ea_cat]; exact hc) (h H locs ls hP hS hl)

theorem e_dup2 {k : ea_K} {own : String} {cc : ByteArray} {nL d : Nat} (C : ea_C k own cc nL d) {pc : Nat} {lv : List (Nat × Value)} {st : List Value} {M : ea_M} {v w : Value} (hd : decode cc pc = .ok (.dup2, 1)) (hc : v.category = 1) (hc2 : w.category = 1) (h : ea_E k (pc + 1) lv (v :: w :: v :: w :: st) M) : ea_E k (pc) lv (v :: w :: st) M := by
  obtain ⟨p, l, e, R, s, m, args, below, meth, c, Q, A, cells, slots, nL0, g⟩ := k
  obtain ⟨hx, hb, hml, hown, hts, hlk, hD, hA, hE, hroom, rfl⟩ := C
  intro H locs ls hP hS hl
  exact lv_dup2_11 hx hb hd (by rw [ea_cat]; exact hc) (by rw [ea_cat]; exact hc2) (h H locs ls hP hS hl)

-- BRANCHES
theorem e_goto {k : ea_K} {own : String} {cc : ByteArray} {nL d : Nat} (C : ea_C k own cc nL d) {pc : Nat} {lv : List (Nat × Value)} {st : List Value} {M : ea_M} {off : Int} {tgt : Nat} (hd : decode cc pc = .ok (.goto off, 3)) (ht : (pc : Int) + off = (tgt : Int)) (h : ea_E k (tgt) lv (st) M) : ea_E k (pc) lv (st) M := by
  obtain ⟨p, l, e, R, s, m, args, below, meth, c, Q, A, cells, slots, nL0, g⟩ := k
  obtain ⟨hx, hb, hml, hown, hts, hlk, hD, hA, hE, hroom, rfl⟩ := C
  intro H locs ls hP hS hl
  exact lv_goto hx hb hd ht (h H locs ls hP hS hl)

theorem e_ifnonnull {k : ea_K} {own : String} {cc : ByteArray} {nL d : Nat} (C : ea_C k own cc nL d) {pc : Nat} {lv : List (Nat × Value)} {st : List Value} {M : ea_M} {x : Nat} {off : Int} {tgt : Nat} (hd : decode cc pc = .ok (.ifnonnull off, 3)) (ht : (pc : Int) + off = (tgt : Int)) (h : ea_E k (tgt) lv (st) M) : ea_E k (pc) lv (.ref x :: st) M := by
  obtain ⟨p, l, e, R, s, m, args, below, meth, c, Q, A, cells, slots, nL0, g⟩ := k
  obtain ⟨hx, hb, hml, hown, hts, hlk, hD, hA, hE, hroom, rfl⟩ := C
  intro H locs ls hP hS hl
  exact lv_ifnonnull hx hb hd ht (h H locs ls hP hS hl)

theorem e_ifnull {k : ea_K} {own : String} {cc : ByteArray} {nL d : Nat} (C : ea_C k own cc nL d) {pc : Nat} {lv : List (Nat × Value)} {st : List Value} {M : ea_M} {x : Nat} {off : Int} (hd : decode cc pc = .ok (.ifnull off, 3)) (h : ea_E k (pc + 3) lv (st) M) : ea_E k (pc) lv (.ref x :: st) M := by
  obtain ⟨p, l, e, R, s, m, args, below, meth, c, Q, A, cells, slots, nL0, g⟩ := k
  obtain ⟨hx, hb, hml, hown, hts, hlk, hD, hA, hE, hroom, rfl⟩ := C
  intro H locs ls hP hS hl
  exact lv_ifnull hx hb hd (h H locs ls hP hS hl)

theorem e_ifnonnullN {k : ea_K} {own : String} {cc : ByteArray} {nL d : Nat} (C : ea_C k own cc nL d) {pc : Nat} {lv : List (Nat × Value)} {st : List Value} {M : ea_M} {off : Int} (hd : decode cc pc = .ok (.ifnonnull off, 3)) (h : ea_E k (pc + 3) lv (st) M) : ea_E k (pc) lv (.null :: st) M := by
  obtain ⟨p, l, e, R, s, m, args, below, meth, c, Q, A, cells, slots, nL0, g⟩ := k
  obtain ⟨hx, hb, hml, hown, hts, hlk, hD, hA, hE, hroom, rfl⟩ := C
  intro H locs ls hP hS hl
  exact lv_ifnonnullN hx hb hd (h H locs ls hP hS hl)

theorem e_ifnullN {k : ea_K} {own : String} {cc : ByteArray} {nL d : Nat} (C : ea_C k own cc nL d) {pc : Nat} {lv : List (Nat × Value)} {st : List Value} {M : ea_M} {off : Int} {tgt : Nat} (hd : decode cc pc = .ok (.ifnull off, 3)) (ht : (pc : Int) + off = (tgt : Int)) (h : ea_E k (tgt) lv (st) M) : ea_E k (pc) lv (.null :: st) M := by
  obtain ⟨p, l, e, R, s, m, args, below, meth, c, Q, A, cells, slots, nL0, g⟩ := k
  obtain ⟨hx, hb, hml, hown, hts, hlk, hD, hA, hE, hroom, rfl⟩ := C
  intro H locs ls hP hS hl
  exact lv_ifnullN hx hb hd ht (h H locs ls hP hS hl)

theorem e_tabOut {k : ea_K} {own : String} {cc : ByteArray} {nL d : Nat} (C : ea_C k own cc nL d) {pc : Nat} {lv : List (Nat × Value)} {st : List Value} {M : ea_M} {dflt lo hi : Int} {offs : Array Int} {len : Nat} {x : Int32} {tgt : Nat} (hd : decode cc pc = .ok (.tableswitch dflt lo hi offs, len)) (hx2 : x.toInt < lo ∨ hi < x.toInt) (ht : (pc : Int) + dflt = (tgt : Int)) (h : ea_E k (tgt) lv (st) M) : ea_E k (pc) lv (.int x :: st) M := by
  obtain ⟨p, l, e, R, s, m, args, below, meth, c, Q, A, cells, slots, nL0, g⟩ := k
  obtain ⟨hx, hb, hml, hown, hts, hlk, hD, hA, hE, hroom, rfl⟩ := C
  intro H locs ls hP hS hl
  exact lv_tableOut hx hb hd hx2 ht (h H locs ls hP hS hl)

theorem e_tabIn {k : ea_K} {own : String} {cc : ByteArray} {nL d : Nat} (C : ea_C k own cc nL d) {pc : Nat} {lv : List (Nat × Value)} {st : List Value} {M : ea_M} {dflt lo hi : Int} {offs : Array Int} {len : Nat} {x : Int32} {off : Int} {tgt : Nat} (hd : decode cc pc = .ok (.tableswitch dflt lo hi offs, len)) (h1 : ¬ x.toInt < lo) (h2 : ¬ hi < x.toInt) (ho : offs[(x.toInt - lo).toNat]? = some off) (ht : (pc : Int) + off = (tgt : Int)) (h : ea_E k (tgt) lv (st) M) : ea_E k (pc) lv (.int x :: st) M := by
  obtain ⟨p, l, e, R, s, m, args, below, meth, c, Q, A, cells, slots, nL0, g⟩ := k
  obtain ⟨hx, hb, hml, hown, hts, hlk, hD, hA, hE, hroom, rfl⟩ := C
  intro H locs ls hP hS hl
  exact lv_tableIn hx hb hd h1 h2 ho ht (h H locs ls hP hS hl)

theorem e_perm {k : ea_K} {own : String} {cc : ByteArray} {nL d : Nat} (C : ea_C k own cc nL d) {pc : Nat} {lv : List (Nat × Value)} {st : List Value} {M : ea_M} (ks : List Nat) {lv' : List (Nat × Value)} (hp : lv_pick lv ks = lv') (h : ea_E k (pc) lv' (st) M) : ea_E k (pc) lv (st) M := by
  obtain ⟨p, l, e, R, s, m, args, below, meth, c, Q, A, cells, slots, nL0, g⟩ := k
  obtain ⟨hx, hb, hml, hown, hts, hlk, hD, hA, hE, hroom, rfl⟩ := C
  intro H locs ls hP hS hl
  refine h H locs ls hP hS (lv_sub hl ks ?_)
  subst hp
  simp only [lv_pick, List.map_filterMap, List.getElem?_map]

theorem e_ldc {k : ea_K} {own : String} {cc : ByteArray} {nL d : Nat} (C : ea_C k own cc nL d) {pc : Nat} {lv : List (Nat × Value)} {st : List Value} {M : ea_M} {index : Nat} {v : Int32} (hc : Cond.constant own index v ∈ wsL_law) (hd : decode cc pc = .ok (.ldc index, 2)) (h : ea_E k (pc + 2) lv (.int v :: st) M) : ea_E k (pc) lv (st) M := by
  obtain ⟨p, l, e, R, s, m, args, below, meth, c, Q, A, cells, slots, nL0, g⟩ := k
  obtain ⟨hx, hb, hml, hown, hts, hlk, hD, hA, hE, hroom, rfl⟩ := C
  intro H locs ls hP hS hl
  exact lv_ldc hx hb hown (hts _ hc) hd (h H locs ls hP hS hl)

theorem e_ldc2 {k : ea_K} {own : String} {cc : ByteArray} {nL d : Nat} (C : ea_C k own cc nL d) {pc : Nat} {lv : List (Nat × Value)} {st : List Value} {M : ea_M} {index : Nat} {v : Int64} (hc : Cond.constantLong own index v ∈ wsL_law) (hd : decode cc pc = .ok (.ldc2_w index, 3)) (h : ea_E k (pc + 3) lv (.long v :: st) M) : ea_E k (pc) lv (st) M := by
  obtain ⟨p, l, e, R, s, m, args, below, meth, c, Q, A, cells, slots, nL0, g⟩ := k
  obtain ⟨hx, hb, hml, hown, hts, hlk, hD, hA, hE, hroom, rfl⟩ := C
  intro H locs ls hP hS hl
  exact lv_ldc2 hx hb hown (hts _ hc) hd (h H locs ls hP hS hl)

theorem e_if_eq {k : ea_K} {own : String} {cc : ByteArray} {nL d : Nat} (C : ea_C k own cc nL d) {pc : Nat} {lv : List (Nat × Value)} {st : List Value} {M : ea_M} {x : Int32} {off : Int} {tgt : Nat} (hd : decode cc pc = .ok (.ifCond .eq off, 3)) (ht : (pc : Int) + off = (tgt : Int)) (kt : x = 0 → ea_E k (tgt) lv (st) M) (kf : ¬ x = 0 → ea_E k (pc + 3) lv (st) M) : ea_E k (pc) lv (.int x :: st) M := by
  obtain ⟨p, l, e, R, s, m, args, below, meth, c, Q, A, cells, slots, nL0, g⟩ := k
  obtain ⟨hx, hb, hml, hown, hts, hlk, hD, hA, hE, hroom, rfl⟩ := C
  intro H locs ls hP hS hl
  exact lv_if_eq hx hb hd ht (fun q => kt q H locs ls hP hS hl) (fun q => kf q H locs ls hP hS hl)

theorem e_if_ne {k : ea_K} {own : String} {cc : ByteArray} {nL d : Nat} (C : ea_C k own cc nL d) {pc : Nat} {lv : List (Nat × Value)} {st : List Value} {M : ea_M} {x : Int32} {off : Int} {tgt : Nat} (hd : decode cc pc = .ok (.ifCond .ne off, 3)) (ht : (pc : Int) + off = (tgt : Int)) (kt : ¬ x = 0 → ea_E k (tgt) lv (st) M) (kf : x = 0 → ea_E k (pc + 3) lv (st) M) : ea_E k (pc) lv (.int x :: st) M := by
  obtain ⟨p, l, e, R, s, m, args, below, meth, c, Q, A, cells, slots, nL0, g⟩ := k
  obtain ⟨hx, hb, hml, hown, hts, hlk, hD, hA, hE, hroom, rfl⟩ := C
  intro H locs ls hP hS hl
  exact lv_if_ne hx hb hd ht (fun q => kt q H locs ls hP hS hl) (fun q => kf q H locs ls hP hS hl)

theorem e_if_lt {k : ea_K} {own : String} {cc : ByteArray} {nL d : Nat} (C : ea_C k own cc nL d) {pc : Nat} {lv : List (Nat × Value)} {st : List Value} {M : ea_M} {x : Int32} {off : Int} {tgt : Nat} (hd : decode cc pc = .ok (.ifCond .lt off, 3)) (ht : (pc : Int) + off = (tgt : Int)) (kt : x < 0 → ea_E k (tgt) lv (st) M) (kf : ¬ x < 0 → ea_E k (pc + 3) lv (st) M) : ea_E k (pc) lv (.int x :: st) M := by
  obtain ⟨p, l, e, R, s, m, args, below, meth, c, Q, A, cells, slots, nL0, g⟩ := k
  obtain ⟨hx, hb, hml, hown, hts, hlk, hD, hA, hE, hroom, rfl⟩ := C
  intro H locs ls hP hS hl
  exact lv_if_lt hx hb hd ht (fun q => kt q H locs ls hP hS hl) (fun q => kf q H locs ls hP hS hl)

theorem e_if_ge {k : ea_K} {own : String} {cc : ByteArray} {nL d : Nat} (C : ea_C k own cc nL d) {pc : Nat} {lv : List (Nat × Value)} {st : List Value} {M : ea_M} {x : Int32} {off : Int} {tgt : Nat} (hd : decode cc pc = .ok (.ifCond .ge off, 3)) (ht : (pc : Int) + off = (tgt : Int)) (kt : 0 ≤ x → ea_E k (tgt) lv (st) M) (kf : ¬ 0 ≤ x → ea_E k (pc + 3) lv (st) M) : ea_E k (pc) lv (.int x :: st) M := by
  obtain ⟨p, l, e, R, s, m, args, below, meth, c, Q, A, cells, slots, nL0, g⟩ := k
  obtain ⟨hx, hb, hml, hown, hts, hlk, hD, hA, hE, hroom, rfl⟩ := C
  intro H locs ls hP hS hl
  exact lv_if_ge hx hb hd ht (fun q => kt q H locs ls hP hS hl) (fun q => kf q H locs ls hP hS hl)

theorem e_if_gt {k : ea_K} {own : String} {cc : ByteArray} {nL d : Nat} (C : ea_C k own cc nL d) {pc : Nat} {lv : List (Nat × Value)} {st : List Value} {M : ea_M} {x : Int32} {off : Int} {tgt : Nat} (hd : decode cc pc = .ok (.ifCond .gt off, 3)) (ht : (pc : Int) + off = (tgt : Int)) (kt : 0 < x → ea_E k (tgt) lv (st) M) (kf : ¬ 0 < x → ea_E k (pc + 3) lv (st) M) : ea_E k (pc) lv (.int x :: st) M := by
  obtain ⟨p, l, e, R, s, m, args, below, meth, c, Q, A, cells, slots, nL0, g⟩ := k
  obtain ⟨hx, hb, hml, hown, hts, hlk, hD, hA, hE, hroom, rfl⟩ := C
  intro H locs ls hP hS hl
  exact lv_if_gt hx hb hd ht (fun q => kt q H locs ls hP hS hl) (fun q => kf q H locs ls hP hS hl)

theorem e_if_le {k : ea_K} {own : String} {cc : ByteArray} {nL d : Nat} (C : ea_C k own cc nL d) {pc : Nat} {lv : List (Nat × Value)} {st : List Value} {M : ea_M} {x : Int32} {off : Int} {tgt : Nat} (hd : decode cc pc = .ok (.ifCond .le off, 3)) (ht : (pc : Int) + off = (tgt : Int)) (kt : x ≤ 0 → ea_E k (tgt) lv (st) M) (kf : ¬ x ≤ 0 → ea_E k (pc + 3) lv (st) M) : ea_E k (pc) lv (.int x :: st) M := by
  obtain ⟨p, l, e, R, s, m, args, below, meth, c, Q, A, cells, slots, nL0, g⟩ := k
  obtain ⟨hx, hb, hml, hown, hts, hlk, hD, hA, hE, hroom, rfl⟩ := C
  intro H locs ls hP hS hl
  exact lv_if_le hx hb hd ht (fun q => kt q H locs ls hP hS hl) (fun q => kf q H locs ls hP hS hl)

theorem e_icmp_eq {k : ea_K} {own : String} {cc : ByteArray} {nL d : Nat} (C : ea_C k own cc nL d) {pc : Nat} {lv : List (Nat × Value)} {st : List Value} {M : ea_M} {x y : Int32} {off : Int} {tgt : Nat} (hd : decode cc pc = .ok (.if_icmp .eq off, 3)) (ht : (pc : Int) + off = (tgt : Int)) (kt : x = y → ea_E k (tgt) lv (st) M) (kf : ¬ x = y → ea_E k (pc + 3) lv (st) M) : ea_E k (pc) lv (.int y :: .int x :: st) M := by
  obtain ⟨p, l, e, R, s, m, args, below, meth, c, Q, A, cells, slots, nL0, g⟩ := k
  obtain ⟨hx, hb, hml, hown, hts, hlk, hD, hA, hE, hroom, rfl⟩ := C
  intro H locs ls hP hS hl
  exact lv_icmp_eq hx hb hd ht (fun q => kt q H locs ls hP hS hl) (fun q => kf q H locs ls hP hS hl)

theorem e_icmp_ne {k : ea_K} {own : String} {cc : ByteArray} {nL d : Nat} (C : ea_C k own cc nL d) {pc : Nat} {lv : List (Nat × Value)} {st : List Value} {M : ea_M} {x y : Int32} {off : Int} {tgt : Nat} (hd : decode cc pc = .ok (.if_icmp .ne off, 3)) (ht : (pc : Int) + off = (tgt : Int)) (kt : ¬ x = y → ea_E k (tgt) lv (st) M) (kf : x = y → ea_E k (pc + 3) lv (st) M) : ea_E k (pc) lv (.int y :: .int x :: st) M := by
  obtain ⟨p, l, e, R, s, m, args, below, meth, c, Q, A, cells, slots, nL0, g⟩ := k
  obtain ⟨hx, hb, hml, hown, hts, hlk, hD, hA, hE, hroom, rfl⟩ := C
  intro H locs ls hP hS hl
  exact lv_icmp_ne hx hb hd ht (fun q => kt q H locs ls hP hS hl) (fun q => kf q H locs ls hP hS hl)

theorem e_icmp_lt {k : ea_K} {own : String} {cc : ByteArray} {nL d : Nat} (C : ea_C k own cc nL d) {pc : Nat} {lv : List (Nat × Value)} {st : List Value} {M : ea_M} {x y : Int32} {off : Int} {tgt : Nat} (hd : decode cc pc = .ok (.if_icmp .lt off, 3)) (ht : (pc : Int) + off = (tgt : Int)) (kt : x < y → ea_E k (tgt) lv (st) M) (kf : ¬ x < y → ea_E k (pc + 3) lv (st) M) : ea_E k (pc) lv (.int y :: .int x :: st) M := by
  obtain ⟨p, l, e, R, s, m, args, below, meth, c, Q, A, cells, slots, nL0, g⟩ := k
  obtain ⟨hx, hb, hml, hown, hts, hlk, hD, hA, hE, hroom, rfl⟩ := C
  intro H locs ls hP hS hl
  exact lv_icmp_lt hx hb hd ht (fun q => kt q H locs ls hP hS hl) (fun q => kf q H locs ls hP hS hl)

theorem e_icmp_ge {k : ea_K} {own : String} {cc : ByteArray} {nL d : Nat} (C : ea_C k own cc nL d) {pc : Nat} {lv : List (Nat × Value)} {st : List Value} {M : ea_M} {x y : Int32} {off : Int} {tgt : Nat} (hd : decode cc pc = .ok (.if_icmp .ge off, 3)) (ht : (pc : Int) + off = (tgt : Int)) (kt : y ≤ x → ea_E k (tgt) lv (st) M) (kf : ¬ y ≤ x → ea_E k (pc + 3) lv (st) M) : ea_E k (pc) lv (.int y :: .int x :: st) M := by
  obtain ⟨p, l, e, R, s, m, args, below, meth, c, Q, A, cells, slots, nL0, g⟩ := k
  obtain ⟨hx, hb, hml, hown, hts, hlk, hD, hA, hE, hroom, rfl⟩ := C
  intro H locs ls hP hS hl
  exact lv_icmp_ge hx hb hd ht (fun q => kt q H locs ls hP hS hl) (fun q => kf q H locs ls hP hS hl)

theorem e_icmp_gt {k : ea_K} {own : String} {cc : ByteArray} {nL d : Nat} (C : ea_C k own cc nL d) {pc : Nat} {lv : List (Nat × Value)} {st : List Value} {M : ea_M} {x y : Int32} {off : Int} {tgt : Nat} (hd : decode cc pc = .ok (.if_icmp .gt off, 3)) (ht : (pc : Int) + off = (tgt : Int)) (kt : y < x → ea_E k (tgt) lv (st) M) (kf : ¬ y < x → ea_E k (pc + 3) lv (st) M) : ea_E k (pc) lv (.int y :: .int x :: st) M := by
  obtain ⟨p, l, e, R, s, m, args, below, meth, c, Q, A, cells, slots, nL0, g⟩ := k
  obtain ⟨hx, hb, hml, hown, hts, hlk, hD, hA, hE, hroom, rfl⟩ := C
  intro H locs ls hP hS hl
  exact lv_icmp_gt hx hb hd ht (fun q => kt q H locs ls hP hS hl) (fun q => kf q H locs ls hP hS hl)

theorem e_icmp_le {k : ea_K} {own : String} {cc : ByteArray} {nL d : Nat} (C : ea_C k own cc nL d) {pc : Nat} {lv : List (Nat × Value)} {st : List Value} {M : ea_M} {x y : Int32} {off : Int} {tgt : Nat} (hd : decode cc pc = .ok (.if_icmp .le off, 3)) (ht : (pc : Int) + off = (tgt : Int)) (kt : x ≤ y → ea_E k (tgt) lv (st) M) (kf : ¬ x ≤ y → ea_E k (pc + 3) lv (st) M) : ea_E k (pc) lv (.int y :: .int x :: st) M := by
  obtain ⟨p, l, e, R, s, m, args, below, meth, c, Q, A, cells, slots, nL0, g⟩ := k
  obtain ⟨hx, hb, hml, hown, hts, hlk, hD, hA, hE, hroom, rfl⟩ := C
  intro H locs ls hP hS hl
  exact lv_icmp_le hx hb hd ht (fun q => kt q H locs ls hP hS hl) (fun q => kf q H locs ls hP hS hl)

theorem e_lcmp {k : ea_K} {own : String} {cc : ByteArray} {nL d : Nat} (C : ea_C k own cc nL d) {pc : Nat} {lv : List (Nat × Value)} {st : List Value} {M : ea_M} {x y : Int64} (hd : decode cc pc = .ok (.lcmp, 1)) (h : ea_E k (pc + 1) lv (.int (lg_cmp x y) :: st) M) : ea_E k (pc) lv (.long y :: .long x :: st) M := by
  obtain ⟨p, l, e, R, s, m, args, below, meth, c, Q, A, cells, slots, nL0, g⟩ := k
  obtain ⟨hx, hb, hml, hown, hts, hlk, hD, hA, hE, hroom, rfl⟩ := C
  intro H locs ls hP hS hl
  exact W.lcmp hx hb hd (h H locs ls hP hS hl)

-- FIELDS, ROWS, CALLS
def ea_cT (ci : Nat) : u_T := match ci with
  | 0 => TX0 | 1 => TX1 | 2 => TX2 | 3 => TX3 | 4 => TX4 | 5 => TX5 | 6 => TX6 | _ => TX7
def ea_cR (ci : Nat) : String := match ci with
  | 0 => RX0 | 1 => RX1 | 2 => RX2 | 3 => RX3 | 4 => RX4 | 5 => RX5 | 6 => RX6 | _ => RX7
def ea_cN (ci : Nat) : Nat := match ci with
  | 0 => 5 | 1 => 5 | 2 => 3 | 3 => 5 | 4 => 9 | 5 => 7 | 6 => 5 | _ => 27
def ea_cY (ci : Nat) : Nat → FieldType := match ci with
  | 0 => tyX0 | 1 => tyX1 | 2 => tyX2 | 3 => tyX3 | 4 => tyX4 | 5 => tyX5 | 6 => tyX6 | _ => tyX7
theorem ea_c8 {P : Nat → Prop} (h0 : P 0) (h1 : P 1) (h2 : P 2) (h3 : P 3) (h4 : P 4) (h5 : P 5) (h6 : P 6) (h7 : P 7) {ci : Nat} (h : ci < 8) : P ci := by
  rcases (show ci = 0 ∨ ci = 1 ∨ ci = 2 ∨ ci = 3 ∨ ci = 4 ∨ ci = 5 ∨ ci = 6 ∨ ci = 7 by omega) with rfl | rfl | rfl | rfl | rfl | rfl | rfl | rfl <;> assumption
theorem ea_cCl {ci : Nat} (h : ci < 8) : vwCl[ci]? = some (ea_cR ci, ea_cT ci, ea_cN ci) := ea_c8 (P := fun ci => vwCl[ci]? = some (ea_cR ci, ea_cT ci, ea_cN ci)) rfl rfl rfl rfl rfl rfl rfl rfl h
theorem ea_cIn {ci : Nat} (h : ci < 8) : ∀ w ∈ u_ws (ea_cR ci) (ea_cT ci) (ea_cN ci), w ∈ wsL_law := ea_c8 (P := fun ci => ∀ w ∈ u_ws (ea_cR ci) (ea_cT ci) (ea_cN ci), w ∈ wsL_law) inlX0 inlX1 inlX2 inlX3 inlX4 inlX5 inlX6 inlX7 h
theorem ea_cTy {ci : Nat} (h : ci < 8) : ∀ k, k < ea_cN ci → parseFieldDescriptor (ea_cT ci k).2.2.1 = some (ea_cY ci k) := ea_c8 (P := fun ci => ∀ k, k < ea_cN ci → parseFieldDescriptor (ea_cT ci k).2.2.1 = some (ea_cY ci k)) tyX0_ok tyX1_ok tyX2_ok tyX3_ok tyX4_ok tyX5_ok tyX6_ok tyX7_ok h
theorem ea_cNm {ci : Nat} (h : ci < 8) : ∀ a, a < ea_cN ci → ∀ b, b < ea_cN ci → a ≠ b → (ea_cT ci a).2.1 ≠ (ea_cT ci b).2.1 := ea_c8 (P := fun ci => ∀ a, a < ea_cN ci → ∀ b, b < ea_cN ci → a ≠ b → (ea_cT ci a).2.1 ≠ (ea_cT ci b).2.1) nmX0 nmX1 nmX2 nmX3 nmX4 nmX5 nmX6 nmX7 h
theorem ea_cOw {ci : Nat} (h : ci < 8) : ∀ k, k < ea_cN ci → (ea_cT ci k).1 = ea_cR ci := ea_c8 (P := fun ci => ∀ k, k < ea_cN ci → (ea_cT ci k).1 = ea_cR ci) (by decide +kernel) (by decide +kernel) (by decide +kernel) (by decide +kernel) (by decide +kernel) (by decide +kernel) (by decide +kernel) (by decide +kernel) h
theorem ea_cLen {ci : Nat} (h : ci < 8) (x : Nat) (r : Nat → Int32) : (ea_fl ci x r).length = ea_cN ci := ea_c8 (P := fun ci => (ea_fl ci x r).length = ea_cN ci) rfl rfl rfl rfl rfl rfl rfl rfl h
theorem ea_ceO {g : ea_G} {x ci : Nat} (h : ci < 8) (hk : ea_kd x = ci) (r : Nat → Int32) : ea_ce g x r = .inr (ci, (ea_fl ci x r).map (ea_tr g)) := by
  subst hk
  simp [ea_ce, show ea_kd x < 1000 by omega]
theorem ea_ceI {g : ea_G} {x n : Nat} (h : n < 1000) (hk : ea_kd x = 1000 + n) (r : Nat → Int32) : ea_ce g x r = .inl (g.2.1 0, n, .inl r) := by
  simp only [ea_ce, hk]
  rw [if_neg (by omega), if_pos (by omega), Nat.add_sub_cancel_left]
theorem ea_ceZ {g : ea_G} {x n : Nat} (h : n < 1000) (hk : ea_kd x = 2000 + n) (r : Nat → Int32) : ea_ce g x r = .inl (g.2.1 1, n, .inl r) := by
  simp only [ea_ce, hk]
  rw [if_neg (by omega), if_neg (by omega), if_pos (by omega), Nat.add_sub_cancel_left]
theorem ea_ceB {g : ea_G} {x n : Nat} (h : n < 1000) (hk : ea_kd x = 3000 + n) (r : Nat → Int32) : ea_ce g x r = .inl (g.2.1 2, n, .inr (.inr (.inr (.inr (fun i => (ea_ra x i).map g.2.2.1))))) := by
  simp only [ea_ce, hk]
  rw [if_neg (by omega), if_neg (by omega), if_neg (by omega), if_pos (by omega), Nat.add_sub_cancel_left]
theorem ea_ceW {g : ea_G} {x n : Nat} (hk : ea_kd x = 4000 + n) (r : Nat → Int32) : ea_ce g x r = .inl (g.2.1 3, n, .inr (.inr (.inr (.inr (fun i => (ea_ra x i).map g.2.2.1))))) := by
  simp only [ea_ce, hk]
  rw [if_neg (by omega), if_neg (by omega), if_neg (by omega), if_neg (by omega), Nat.add_sub_cancel_left]
/-- field k of class ci, as the class 'own' names it at place idx of its pool -/
def ea_Fd (own : String) (idx ci k : Nat) : Prop := ci < 8 ∧ k < ea_cN ci ∧ Cond.fieldLink own idx (ea_cR ci) (ea_cT ci k).2.1 (ea_cT ci k).2.2.1 ∈ wsL_law
theorem e_get {k : ea_K} {own : String} {cc : ByteArray} {nL d : Nat} (C : ea_C k own cc nL d) {pc : Nat} {lv : List (Nat × Value)} {st : List Value} {M : ea_M} {x ci f idx : Nat} {v : Value} (F : ea_Fd own idx ci f) (hx7 : x < 79) (hkd : ea_kd x = ci) (hv : (ea_fl ci x (M x))[f]? = some v) (hd : decode cc pc = .ok (.getfield idx, 3)) (h : ea_E k (pc + 3) lv (v :: st) M) : ea_E k pc lv (.ref x :: st) M := by
  obtain ⟨p, l, e, R, s, m, args, below, meth, c, Q, A, cells, slots, nL0, g⟩ := k
  obtain ⟨hx, hb, hml, hown, hts, hlk, hD, hA, hE, hroom, rfl⟩ := C
  intro H locs ls hP hS hl
  obtain ⟨F1, F2, F3⟩ := F
  have hw := ea_Wd_at g M hx7
  rw [ea_ceO F1 hkd] at hw
  exact va_get (D := g.1) (ci := ci) (v := ea_tr g v) (C := ea_cR ci) (T := ea_cT ci) (N := ea_cN ci) hx hb hts (ea_cIn F1) hown hE.1 hP x hw (ea_cCl F1) f F2 (hts _ F3) (by rw [ea_cOw F1 f F2]; exact fun _ h9 => h9) (by rw [List.getElem?_map, hv]; rfl) hd (h H locs ls hP hS hl)
theorem e_put {k : ea_K} {own : String} {cc : ByteArray} {nL d : Nat} (C : ea_C k own cc nL d) {pc : Nat} {lv : List (Nat × Value)} {st : List Value} {M : ea_M} {x ci f idx : Nat} {ty : FieldType} {v : Int32} (F : ea_Fd own idx ci f) (hx7 : x < 79) (hkd : ea_kd x = ci) (hfin : (ea_cT ci f).2.2.2 = false) (hty : parseFieldDescriptor (ea_cT ci f).2.2.1 = some ty) (hn : narrow ty (.int v) = .int v) (hfit : fits ty (.int v) = true) (hv : ea_fl ci x (upd (M x) f v) = (ea_fl ci x (M x)).set f (.int v)) (hd : decode cc pc = .ok (.putfield idx, 3)) (h : ea_E k (pc + 3) lv st (ea_up M x f v)) : ea_E k pc lv (.int v :: .ref x :: st) M := by
  obtain ⟨p, l, e, R, s, m, args, below, meth, c, Q, A, cells, slots, nL0, g⟩ := k
  obtain ⟨hx, hb, hml, hown, hts, hlk, hD, hA, hE, hroom, rfl⟩ := C
  intro H locs ls hP hS hl
  obtain ⟨F1, F2, F3⟩ := F
  have hw := ea_Wd_at g M hx7
  rw [ea_ceO F1 hkd] at hw
  refine va_put (D := g.1) (ci := ci) (v := .int v) (ty := ty) (C := ea_cR ci) (T := ea_cT ci) (N := ea_cN ci) hx hb hts (ea_cIn F1) (ea_cY ci) (ea_cTy F1) (ea_cNm F1) hown hE.1 hP (ea_D_any hD) hS x hw (ea_cCl F1) f F2 (hts _ F3) (by rw [ea_cOw F1 f F2]; exact fun _ h9 => h9) hfin hty hn hfit (by rw [List.length_map, ea_cLen F1]; exact F2) hd (fun H1 locs1 hP1 hD1 hS1 => h H1 locs1 ls ?_ hS1 hl)
  have e2 : ((ea_fl ci x (M x)).map (ea_tr g)).set f (.int v) = (ea_fl ci x (upd (M x) f v)).map (ea_tr g) := by
    rw [hv, List.map_set]
    rfl
  rw [e2, ← ea_ceO F1 hkd, ea_Wd_set g M hx7] at hP1
  exact hP1
theorem e_iald {k : ea_K} {own : String} {cc : ByteArray} {nL d : Nat} (C : ea_C k own cc nL d) {pc : Nat} {lv : List (Nat × Value)} {st : List Value} {M : ea_M} {x n : Nat} {i : Int32} (hx7 : x < 79) (hkd : ea_kd x = 1000 + n) (hn : n < 1000) (hin : vp_in i n) (hd : decode cc pc = .ok (.iaload, 1)) (h : ea_E k (pc + 1) lv (.int (M x i.toNatClampNeg) :: st) M) : ea_E k pc lv (.int i :: .ref x :: st) M := by
  obtain ⟨p, l, e, R, s, m, args, below, meth, c, Q, A, cells, slots, nL0, g⟩ := k
  obtain ⟨hx, hb, hml, hown, hts, hlk, hD, hA, hE, hroom, rfl⟩ := C
  intro H locs ls hP hS hl
  have hw := ea_Wd_at g M hx7
  rw [ea_ceI hn hkd] at hw
  exact va_iald hx hb hE.1 hP x 0 hw rfl hin hd (h H locs ls hP hS hl)
theorem e_zald {k : ea_K} {own : String} {cc : ByteArray} {nL d : Nat} (C : ea_C k own cc nL d) {pc : Nat} {lv : List (Nat × Value)} {st : List Value} {M : ea_M} {x n : Nat} {i : Int32} (hx7 : x < 79) (hkd : ea_kd x = 2000 + n) (hn : n < 1000) (hin : vp_in i n) (hd : decode cc pc = .ok (.baload, 1)) (h : ea_E k (pc + 1) lv (.int (M x i.toNatClampNeg) :: st) M) : ea_E k pc lv (.int i :: .ref x :: st) M := by
  obtain ⟨p, l, e, R, s, m, args, below, meth, c, Q, A, cells, slots, nL0, g⟩ := k
  obtain ⟨hx, hb, hml, hown, hts, hlk, hD, hA, hE, hroom, rfl⟩ := C
  intro H locs ls hP hS hl
  have hw := ea_Wd_at g M hx7
  rw [ea_ceZ hn hkd] at hw
  exact va_zald hx hb hE.1 hP x 1 hw rfl hin hd (h H locs ls hP hS hl)
theorem e_iast {k : ea_K} {own : String} {cc : ByteArray} {nL d : Nat} (C : ea_C k own cc nL d) {pc : Nat} {lv : List (Nat × Value)} {st : List Value} {M : ea_M} {x n : Nat} {i v : Int32} (hx7 : x < 79) (hkd : ea_kd x = 1000 + n) (hn : n < 1000) (hin : vp_in i n) (hd : decode cc pc = .ok (.iastore, 1)) (h : ea_E k (pc + 1) lv st (ea_up M x i.toNatClampNeg v)) : ea_E k pc lv (.int v :: .int i :: .ref x :: st) M := by
  obtain ⟨p, l, e, R, s, m, args, below, meth, c, Q, A, cells, slots, nL0, g⟩ := k
  obtain ⟨hx, hb, hml, hown, hts, hlk, hD, hA, hE, hroom, rfl⟩ := C
  intro H locs ls hP hS hl
  have hw := ea_Wd_at g M hx7
  rw [ea_ceI hn hkd] at hw
  refine va_iast hx hb hE.1 hP (ea_D_any hD) hS x 0 hw rfl hin hd (fun H1 locs1 hP1 hD1 hS1 => h H1 locs1 ls ?_ hS1 hl)
  rw [← ea_ceI (g := g) hn hkd, ea_Wd_set g M hx7] at hP1
  exact hP1
theorem e_zast {k : ea_K} {own : String} {cc : ByteArray} {nL d : Nat} (C : ea_C k own cc nL d) {pc : Nat} {lv : List (Nat × Value)} {st : List Value} {M : ea_M} {x n : Nat} {i v : Int32} (hx7 : x < 79) (hkd : ea_kd x = 2000 + n) (hn : n < 1000) (hin : vp_in i n) (hv : vp_nar .boolean v = v) (hd : decode cc pc = .ok (.bastore, 1)) (h : ea_E k (pc + 1) lv st (ea_up M x i.toNatClampNeg v)) : ea_E k pc lv (.int v :: .int i :: .ref x :: st) M := by
  obtain ⟨p, l, e, R, s, m, args, below, meth, c, Q, A, cells, slots, nL0, g⟩ := k
  obtain ⟨hx, hb, hml, hown, hts, hlk, hD, hA, hE, hroom, rfl⟩ := C
  intro H locs ls hP hS hl
  have hw := ea_Wd_at g M hx7
  rw [ea_ceZ hn hkd] at hw
  refine va_zast hx hb hE.1 hP (ea_D_any hD) hS x 1 hw rfl hin hd (fun H1 locs1 hP1 hD1 hS1 => h H1 locs1 ls ?_ hS1 hl)
  rw [hv, ← ea_ceZ (g := g) hn hkd, ea_Wd_set g M hx7] at hP1
  exact hP1
theorem e_aaldB {k : ea_K} {own : String} {cc : ByteArray} {nL d : Nat} (C : ea_C k own cc nL d) {pc : Nat} {lv : List (Nat × Value)} {st : List Value} {M : ea_M} {x n z : Nat} {i : Int32} (hx7 : x < 79) (hkd : ea_kd x = 3000 + n) (hn : n < 1000) (hin : vp_in i n) (hz : ea_ra x i.toNatClampNeg = some z) (hd : decode cc pc = .ok (.aaload, 1)) (h : ea_E k (pc + 1) lv (.ref z :: st) M) : ea_E k pc lv (.int i :: .ref x :: st) M := by
  obtain ⟨p, l, e, R, s, m, args, below, meth, c, Q, A, cells, slots, nL0, g⟩ := k
  obtain ⟨hx, hb, hml, hown, hts, hlk, hD, hA, hE, hroom, rfl⟩ := C
  intro H locs ls hP hS hl
  have hw := ea_Wd_at g M hx7
  rw [ea_ceB hn hkd] at hw
  refine va_aldq hx hb hE.1 hP x 2 hw rfl hin hd ?_
  simp only [hz]
  exact h H locs ls hP hS hl
theorem e_aaldW {k : ea_K} {own : String} {cc : ByteArray} {nL d : Nat} (C : ea_C k own cc nL d) {pc : Nat} {lv : List (Nat × Value)} {st : List Value} {M : ea_M} {x n z : Nat} {i : Int32} (hx7 : x < 79) (hkd : ea_kd x = 4000 + n) (hin : vp_in i n) (hz : ea_ra x i.toNatClampNeg = some z) (hd : decode cc pc = .ok (.aaload, 1)) (h : ea_E k (pc + 1) lv (.ref z :: st) M) : ea_E k pc lv (.int i :: .ref x :: st) M := by
  obtain ⟨p, l, e, R, s, m, args, below, meth, c, Q, A, cells, slots, nL0, g⟩ := k
  obtain ⟨hx, hb, hml, hown, hts, hlk, hD, hA, hE, hroom, rfl⟩ := C
  intro H locs ls hP hS hl
  have hw := ea_Wd_at g M hx7
  rw [ea_ceW hkd] at hw
  refine va_aldq hx hb hE.1 hP x 3 hw rfl hin hd ?_
  simp only [hz]
  exact h H locs ls hP hS hl
theorem e_alenI {k : ea_K} {own : String} {cc : ByteArray} {nL d : Nat} (C : ea_C k own cc nL d) {pc : Nat} {lv : List (Nat × Value)} {st : List Value} {M : ea_M} {x n : Nat} {v : Int32} (hx7 : x < 79) (hkd : ea_kd x = 1000 + n) (hn : n < 1000) (hv : Int32.ofNat n = v) (hd : decode cc pc = .ok (.arraylength, 1)) (h : ea_E k (pc + 1) lv (.int v :: st) M) : ea_E k pc lv (.ref x :: st) M := by
  obtain ⟨p, l, e, R, s, m, args, below, meth, c, Q, A, cells, slots, nL0, g⟩ := k
  obtain ⟨hx, hb, hml, hown, hts, hlk, hD, hA, hE, hroom, rfl⟩ := C
  intro H locs ls hP hS hl
  have hw := ea_Wd_at g M hx7
  rw [ea_ceI hn hkd] at hw
  exact va_alen hx hb hE.1 hP x 0 hw rfl hv hd (h H locs ls hP hS hl)
theorem e_alenB {k : ea_K} {own : String} {cc : ByteArray} {nL d : Nat} (C : ea_C k own cc nL d) {pc : Nat} {lv : List (Nat × Value)} {st : List Value} {M : ea_M} {x n : Nat} {v : Int32} (hx7 : x < 79) (hkd : ea_kd x = 3000 + n) (hn : n < 1000) (hv : Int32.ofNat n = v) (hd : decode cc pc = .ok (.arraylength, 1)) (h : ea_E k (pc + 1) lv (.int v :: st) M) : ea_E k pc lv (.ref x :: st) M := by
  obtain ⟨p, l, e, R, s, m, args, below, meth, c, Q, A, cells, slots, nL0, g⟩ := k
  obtain ⟨hx, hb, hml, hown, hts, hlk, hD, hA, hE, hroom, rfl⟩ := C
  intro H locs ls hP hS hl
  have hw := ea_Wd_at g M hx7
  rw [ea_ceB hn hkd] at hw
  exact va_alen hx hb hE.1 hP x 2 hw rfl hv hd (h H locs ls hP hS hl)
theorem e_alenW {k : ea_K} {own : String} {cc : ByteArray} {nL d : Nat} (C : ea_C k own cc nL d) {pc : Nat} {lv : List (Nat × Value)} {st : List Value} {M : ea_M} {x n : Nat} {v : Int32} (hx7 : x < 79) (hkd : ea_kd x = 4000 + n) (hv : Int32.ofNat n = v) (hd : decode cc pc = .ok (.arraylength, 1)) (h : ea_E k (pc + 1) lv (.int v :: st) M) : ea_E k pc lv (.ref x :: st) M := by
  obtain ⟨p, l, e, R, s, m, args, below, meth, c, Q, A, cells, slots, nL0, g⟩ := k
  obtain ⟨hx, hb, hml, hown, hts, hlk, hD, hA, hE, hroom, rfl⟩ := C
  intro H locs ls hP hS hl
  have hw := ea_Wd_at g M hx7
  rw [ea_ceW hkd] at hw
  exact va_alen hx hb hE.1 hP x 3 hw rfl hv hd (h H locs ls hP hS hl)
-- RETURNS
theorem e_iret {k : ea_K} {own : String} {cc : ByteArray} {nL d : Nat} (C : ea_C k own cc nL d) {pc : Nat} {lv : List (Nat × Value)} {M : ea_M} {ret : Option FieldType} {ty : FieldType} {o : Option Value} {M' : ea_M} {v : Int32} (X : ea_X k ret o M') (hr : ret = some ty) (hn : narrow ty (.int v) = .int v) (hd : decode cc pc = .ok (.ireturn, 1)) (h : o = some (.int v) ∧ M' = M) : ea_E k pc lv [.int v] M := by
  obtain ⟨p, l, e, R, s, m, args, below, meth, c, Q, A, cells, slots, nL0, g⟩ := k
  obtain ⟨hx, hb, hml, hown, hts, hlk, hD, hA, hE, hroom, rfl⟩ := C
  intro H locs ls hP hS hl
  obtain ⟨rfl, rfl⟩ := h
  obtain ⟨X1, rfl⟩ := X
  exact W.zret hx hb (X1.trans hr) hn (fun t ht hW => ⟨⟨rfl, by rw [ht]; exact hP⟩, hS.F ht⟩) hS.2.2 hd hlk
theorem e_lret {k : ea_K} {own : String} {cc : ByteArray} {nL d : Nat} (C : ea_C k own cc nL d) {pc : Nat} {lv : List (Nat × Value)} {M : ea_M} {o : Option Value} {M' : ea_M} {v : Int64} (X : ea_X k (some .long) o M') (hd : decode cc pc = .ok (.lreturn, 1)) (h : o = some (.long v) ∧ M' = M) : ea_E k pc lv [.long v] M := by
  obtain ⟨p, l, e, R, s, m, args, below, meth, c, Q, A, cells, slots, nL0, g⟩ := k
  obtain ⟨hx, hb, hml, hown, hts, hlk, hD, hA, hE, hroom, rfl⟩ := C
  intro H locs ls hP hS hl
  obtain ⟨rfl, rfl⟩ := h
  obtain ⟨X1, rfl⟩ := X
  exact W.lret hx hb X1 (fun t ht hW => ⟨⟨rfl, by rw [ht]; exact hP⟩, hS.F ht⟩) hS.2.2 hd hlk
theorem e_vret {k : ea_K} {own : String} {cc : ByteArray} {nL d : Nat} (C : ea_C k own cc nL d) {pc : Nat} {lv : List (Nat × Value)} {M : ea_M} {o : Option Value} {M' : ea_M} (X : ea_X k none o M') (hd : decode cc pc = .ok (.return_, 1)) (h : o = none ∧ M' = M) : ea_E k pc lv [] M := by
  obtain ⟨p, l, e, R, s, m, args, below, meth, c, Q, A, cells, slots, nL0, g⟩ := k
  obtain ⟨hx, hb, hml, hown, hts, hlk, hD, hA, hE, hroom, rfl⟩ := C
  intro H locs ls hP hS hl
  obtain ⟨rfl, rfl⟩ := h
  obtain ⟨X1, rfl⟩ := X
  exact W.vret hx hb X1 (fun t ht hW => ⟨⟨rfl, by rw [ht]; exact hP⟩, hS.F ht⟩) hS.2.2 hd hlk
theorem e_aret {k : ea_K} {own : String} {cc : ByteArray} {nL d : Nat} (C : ea_C k own cc nL d) {pc : Nat} {lv : List (Nat × Value)} {M : ea_M} {C2 : String} {o : Option Value} {M' : ea_M} {v : Value} (X : ea_X k (some (.object C2)) o M') (hv : v = .null ∨ ∃ a, v = .ref a) (hd : decode cc pc = .ok (.areturn, 1)) (h : o = some v ∧ M' = M) : ea_E k pc lv [v] M := by
  obtain ⟨p, l, e, R, s, m, args, below, meth, c, Q, A, cells, slots, nL0, g⟩ := k
  obtain ⟨hx, hb, hml, hown, hts, hlk, hD, hA, hE, hroom, rfl⟩ := C
  intro H locs ls hP hS hl
  obtain ⟨rfl, rfl⟩ := h
  obtain ⟨X1, rfl⟩ := X
  refine W.aret hx hb X1 (Or.inl ⟨_, rfl⟩) ?_ (fun t ht hW => ⟨⟨rfl, by rw [ht]; exact hP⟩, hS.F ht⟩) hS.2.2 hd hlk
  rcases hv with rfl | ⟨a, rfl⟩
  · exact Or.inl rfl
  · exact Or.inr ⟨_, rfl⟩
-- CALLS
theorem ea_back {p : Program} {l : Launch} {e : Env} {R : Room} {s : State} {m : MethodId} {args : Array Value} {below : List Frame} {meth : Method} {c : Code} {H : Heap} {locs : List Loc} {cells slots pc : Nat} {Q : State → Prop} {ls : Array Slot} {rest st0 : List Value} {a : Array Value} {A0 A1 free : Nat → Prop} {H0 : Heap} {g : ea_G} {o : Option Value} {M' : ea_M}
    (hr : va_Run p l e R s m args below meth c H locs cells slots 0 0 (F0 m pc ls st0) rest (ea_Q g o M' A1 a) free) (hS : va_S A0 H0 H locs) (hA : ∀ q, q < H.size → A1 q → A0 q) (hf : ∀ q, free q → A0 q)
    (kk : ∀ (H1 : Heap) (locs1 : List Loc), va_P g.1 vwCl (ea_Wd g M') H1 → va_S A0 H0 H1 locs1 → W p l e R s m args below meth c H1 locs1 cells slots Q (F0 m (pc + 3) ls (o.toList ++ rest))) : W p l e R s m args below meth c H locs cells slots Q (F0 m pc ls st0) := by
  intro T hT X
  obtain ⟨v, st₀, t, T', L, h0, X', hL, e1, e2, ⟨⟨hv, hP1⟩, hz, hk⟩, st⟩ := hr T hT X
  cases hv
  rw [h0] at hz hk
  obtain ⟨t2, a1, b1⟩ := kk T'.heap (locs ++ L) (by rw [e1]; exact hP1)
    ⟨Nat.le_trans hS.1 (by rw [e1]; exact hz), fun q h1 h2 => by rw [e1, hk q (Nat.lt_of_lt_of_le h1 hS.1) (fun z => h2 (hA q (Nat.lt_of_lt_of_le h1 hS.1) z))]; exact hS.2.1 q h1 h2, fun q hq => by
      rcases List.mem_append.mp hq with h | h
      · exact hS.2.2 q h
      · exact hf _ (hL q h)⟩ T' rfl X'
  exact ⟨t2, st t2 a1, b1⟩
/-- what a callee wants of the state, out of what the caller holds -/
theorem ea_pre {g : ea_G} {A : Nat → Prop} {s : State} {H : Heap} {locs : List Loc} {M : ea_M} (hP : va_P g.1 vwCl (ea_Wd g M) H) (hD : va_D A (ea_Wd g M)) (hS : va_S A s.heap H locs) (hA : ∀ q, s.heap.size ≤ q → A q) (hE : ea_En g A s s.heap) : (∀ q, va_A (ea_Wd g M) H.size q → A q) ∧ ∀ U : State, U.heap = H → s.WarmedH U.vm → ea_Pr g H.size M U := by
  have hf : ∀ q, va_A (ea_Wd g M) H.size q → A q := by
    intro q h
    rcases h with ⟨i, e, h⟩ | h
    · exact hD.2 i _ h
    · exact hA q (Nat.le_trans hS.1 h)
  refine ⟨hf, fun U hU hW => ⟨by rw [hU], by rw [hU]; exact hP, hD.weaken (fun _ _ _ _ => trivial), ?_⟩⟩
  rw [hU]
  exact ((hE.kept hS.2.1).narrow hf).moved hW
/-- a method as a call names it: its code is among the words, its class is known, so many arguments -/
def ea_Lk (own : String) (idx : Nat) (y : MethodName) (cc : ByteArray) (nL : Nat) (ret : Option FieldType) (n : Nat) : Prop :=
  Cond.methodLink own idx y ∈ wsL_law ∧ Cond.code y cc nL ret ∈ wsL_law ∧ Cond.initialized y.cls ∈ wsL_law ∧ (y.cls ≠ "java/lang/invoke/MethodHandle" ∧ y.cls ≠ "java/lang/invoke/VarHandle" ∧ (parseMethodDescriptor y.desc).map (fun d => d.parameters.length) = some n) ∧ nL ≤ 21
def ea_LkV (own : String) (idx : Nat) (y : MethodName) (cc : ByteArray) (nL : Nat) (ret : Option FieldType) (n : Nat) : Prop :=
  ea_Lk own idx y cc nL ret n ∧ Cond.instanceMethod y ∈ wsL_law ∧ Cond.selects y.cls y y ∈ wsL_law
def ea_LkS (own : String) (idx : Nat) (y : MethodName) (cc : ByteArray) (nL : Nat) (ret : Option FieldType) (n : Nat) : Prop :=
  ea_Lk own idx y cc nL ret n ∧ Cond.static y ∈ wsL_law
def ea_LkN (own : String) (idx : Nat) (y : MethodName) (cc : ByteArray) (nL : Nat) (ret : Option FieldType) (n : Nat) : Prop :=
  (own, idx, y) ∈ ea_NS ∧ Cond.code y cc nL ret ∈ wsL_law ∧ Cond.initialized y.cls ∈ wsL_law ∧ (y.cls ≠ "java/lang/invoke/MethodHandle" ∧ y.cls ≠ "java/lang/invoke/VarHandle" ∧ (parseMethodDescriptor y.desc).map (fun d => d.parameters.length) = some n) ∧ nL ≤ 21 ∧ Cond.static y ∈ wsL_law
theorem ea_mapS (g : ea_G) {as rest st : List Value} (h : st = as.reverse ++ rest) : st.map (ea_tr g) = (as.map (ea_tr g)).reverse ++ rest.map (ea_tr g) := by
  subst h
  simp
theorem ea_toL (g : ea_G) (o : Option Value) (rest : List Value) : (o.map (ea_tr g)).toList ++ rest.map (ea_tr g) = (o.toList ++ rest).map (ea_tr g) := by
  cases o <;> rfl
theorem ea_mapC (g : ea_G) (rest : List Value) : ((rest.map (ea_tr g)).map fun v => v.category).sum = (rest.map fun v => v.category).sum := by
  rw [List.map_map]
  congr 1
  exact List.map_congr_left (fun v _ => ea_cat g v)
theorem e_callS {k : ea_K} {own : String} {cc : ByteArray} {nL d : Nat} (C : ea_C k own cc nL d) {pc : Nat} {lv : List (Nat × Value)} {st : List Value} {M : ea_M} {idx d' nL' n : Nat} {y : MethodName} {cc' : ByteArray} {ret : Option FieldType} {as rest : List Value} {o : Option Value} {M' : ea_M} (L : ea_LkS own idx y cc' nL' ret n) (hM : ea_Sp d' y cc' nL' ret as M o M') (hd' : d' < d) (hn : as.length = n) (hst : st = as.reverse ++ rest) (hcat : (rest.map fun v => v.category).sum ≤ 8) (hd : decode cc pc = .ok (.invokestatic idx, 3)) (h : ea_E k (pc + 3) lv (o.toList ++ rest) M') : ea_E k pc lv st M := by
  obtain ⟨p, l, e, R, s, m, args, below, meth, c, Q, A, cells, slots, nL0, g⟩ := k
  obtain ⟨hx, hb, hml, hown, hts, hlk, hD, hA, hE, hroom, rfl⟩ := C
  intro H locs ls hP hS hl
  obtain ⟨⟨L1, L2, L3, L4, L5⟩, L6⟩ := L
  obtain ⟨r1, r2, r3, r4⟩ := hroom
  obtain ⟨hf, hpre⟩ := ea_pre hP (ea_D_any hD) hS hA hE
  refine ea_back (rest := rest.map (ea_tr g)) (g := g) (o := o.map (ea_tr g)) (M' := M') (va_runS (As := as.map (ea_tr g)) (n := n) ⟨hx, hb, hml, hown, hts⟩ (hM l g H.size) ⟨callB_of n hts (ea_goodIn L2) rfl rfl rfl (hts _ L3) (hts _ L1) L4 ⟨Nat.le_trans hd' r1, by show 8 + (nL' + 11) + 40 * d' ≤ R.locals; omega⟩, hts _ L6⟩ ⟨ea_blind g _ _ _, fun U hU hW => ⟨rfl, hpre U hU hW⟩⟩ rfl (by rw [List.length_map]; exact hn) hl.1 (ea_mapS g hst) ?_ hd ⟨r3, r4⟩) hS (fun q _ z => hf q z) hf (fun H1 locs1 hP1 hS1 => ?_)
  · show 2 * (F0 m pc ls []).monitorRoom + _ ≤ 8
    have := lv_room (m := m) (pc := pc) (ls := ls) (rest := st.map (ea_tr g)) (st := rest.map (ea_tr g)) (by rw [ea_mapC]; exact hcat)
    exact this
  · rw [ea_toL]
    exact h H1 locs1 ls hP1 hS1 hl
theorem e_callN {k : ea_K} {own : String} {cc : ByteArray} {nL d : Nat} (C : ea_C k own cc nL d) {pc : Nat} {lv : List (Nat × Value)} {st : List Value} {M : ea_M} {idx d' nL' n : Nat} {y : MethodName} {cc' : ByteArray} {ret : Option FieldType} {as rest : List Value} {o : Option Value} {M' : ea_M} (L : ea_LkN own idx y cc' nL' ret n) (hM : ea_Sp d' y cc' nL' ret as M o M') (hd' : d' < d) (hn : as.length = n) (hst : st = as.reverse ++ rest) (hcat : (rest.map fun v => v.category).sum ≤ 8) (hd : decode cc pc = .ok (.invokestatic idx, 3)) (h : ea_E k (pc + 3) lv (o.toList ++ rest) M') : ea_E k pc lv st M := by
  obtain ⟨p, l, e, R, s, m, args, below, meth, c, Q, A, cells, slots, nL0, g⟩ := k
  obtain ⟨hx, hb, hml, hown, hts, hlk, hD, hA, hE, hroom, rfl⟩ := C
  intro H locs ls hP hS hl
  obtain ⟨L1, L2, L3, L4, L5, L6⟩ := L
  obtain ⟨r1, r2, r3, r4⟩ := hroom
  obtain ⟨hf, hpre⟩ := ea_pre hP (ea_D_any hD) hS hA hE
  refine ea_back (rest := rest.map (ea_tr g)) (g := g) (o := o.map (ea_tr g)) (M' := M') (va_runSN (As := as.map (ea_tr g)) (n := n) ⟨hx, hb, hml, hown, hts⟩ (hM l g H.size) ⟨va_cnB n hts (ea_goodIn L2) rfl rfl rfl (hE.2.1 _ L1) (hts _ L3) L4 ⟨Nat.le_trans hd' r1, by show 8 + (nL' + 11) + 40 * d' ≤ R.locals; omega⟩, hts _ L6, trivial⟩ ⟨ea_blind g _ _ _, fun U hU hW => ⟨rfl, hpre U hU hW⟩⟩ rfl (by rw [List.length_map]; exact hn) hl.1 (ea_mapS g hst) ?_ hd ⟨r3, r4⟩) hS (fun q _ z => hf q z) hf (fun H1 locs1 hP1 hS1 => ?_)
  · have := lv_room (m := m) (pc := pc) (ls := ls) (rest := st.map (ea_tr g)) (st := rest.map (ea_tr g)) (by rw [ea_mapC]; exact hcat)
    exact this
  · rw [ea_toL]
    exact h H1 locs1 ls hP1 hS1 hl
theorem e_callV {k : ea_K} {own : String} {cc : ByteArray} {nL d : Nat} (C : ea_C k own cc nL d) {pc : Nat} {lv : List (Nat × Value)} {st : List Value} {M : ea_M} {idx d' nL' n x ci : Nat} {y : MethodName} {cc' : ByteArray} {ret : Option FieldType} {as rest : List Value} {o : Option Value} {M' : ea_M} (L : ea_LkV own idx y cc' nL' ret n) (hM : ea_Sp d' y cc' nL' ret (.ref x :: as) M o M') (hd' : d' < d) (hn : as.length = n) (hx7 : x < 79) (hkd : ea_kd x = ci) (hci : ci < 8) (hcls : y.cls = ea_cR ci) (hst : st = as.reverse ++ .ref x :: rest) (hcat : (rest.map fun v => v.category).sum ≤ 8) (hd : decode cc pc = .ok (.invokevirtual idx, 3)) (h : ea_E k (pc + 3) lv (o.toList ++ rest) M') : ea_E k pc lv st M := by
  obtain ⟨p, l, e, R, s, m, args, below, meth, c, Q, A, cells, slots, nL0, g⟩ := k
  obtain ⟨hx, hb, hml, hown, hts, hlk, hD, hA, hE, hroom, rfl⟩ := C
  intro H locs ls hP hS hl
  obtain ⟨⟨L1, L2, L3, L4, L5⟩, L6, L7⟩ := L
  obtain ⟨r1, r2, r3, r4⟩ := hroom
  obtain ⟨hf, hpre⟩ := ea_pre hP (ea_D_any hD) hS hA hE
  have hw := ea_Wd_at g M hx7
  rw [ea_ceO hci hkd] at hw
  have hrec := va_recv hE.1 hP (ea_cCl hci) hw
  rw [← hcls] at hrec
  have hst2 : st.map (ea_tr g) = (as.map (ea_tr g)).reverse ++ .ref (g.2.2.1 x) :: rest.map (ea_tr g) := by
    subst hst
    simp [ea_tr]
  refine ea_back (rest := rest.map (ea_tr g)) (g := g) (o := o.map (ea_tr g)) (M' := M') (va_runV (As := as.map (ea_tr g)) (n := n) (C := y.cls) (b := g.2.2.1 x) ⟨hx, hb, hml, hown, hts⟩ (hM l g H.size) ⟨callB_of n hts (ea_goodIn L2) rfl rfl rfl (hts _ L3) (hts _ L1) L4 ⟨Nat.le_trans hd' r1, by show 8 + (nL' + 11) + 40 * d' ≤ R.locals; omega⟩, hts _ L6, hts _ L7⟩ ⟨ea_blind g _ _ _, hrec, fun U hU hW => ⟨rfl, hpre U hU hW⟩⟩ rfl (by rw [List.length_map]; exact hn) hl.1 hst2 ?_ hd ⟨r3, r4⟩) hS (fun q _ z => hf q z) hf (fun H1 locs1 hP1 hS1 => ?_)
  · have := lv_room (m := m) (pc := pc) (ls := ls) (rest := st.map (ea_tr g)) (st := rest.map (ea_tr g)) (by rw [ea_mapC]; exact hcat)
    exact this
  · rw [ea_toL]
    exact h H1 locs1 ls hP1 hS1 hl
-- MATH
theorem e_mmin {k : ea_K} {own : String} {cc : ByteArray} {nL d : Nat} (C : ea_C k own cc nL d) {pc : Nat} {lv : List (Nat × Value)} {st : List Value} {M : ea_M} {idx : Nat} {x y : Int32} (hw : Cond.methodLink own idx Lib.Math.min.name ∈ wsL_law) (hw2 : Cond.static Lib.Math.min.name ∈ wsL_law) (hw3 : Cond.initialized "java/lang/Math" ∈ wsL_law) (hw4 : Cond.code Lib.Math.min.name Lib.Math.min.code 2 (some .int) ∈ wsL_law) (hd1 : 1 ≤ d) (hcat : (st.map fun v => v.category).sum ≤ 8) (hd : decode cc pc = .ok (.invokestatic idx, 3)) (h : ea_E k (pc + 3) lv (.int (if y < x then y else x) :: st) M) : ea_E k pc lv (.int y :: .int x :: st) M := by
  obtain ⟨p, l, e, R, s, m, args, below, meth, c, Q, A, cells, slots, nL0, g⟩ := k
  obtain ⟨hx, hb, hml, hown, hts, hlk, hD, hA, hE, hroom, rfl⟩ := C
  intro H locs ls hP hS hl
  obtain ⟨r1, r2, r3, r4⟩ := hroom
  exact va_mmin hx hb (hml.trans hl.1.symm) hown (hts _ hw) (hts _ hw2) (hts _ hw3) (hts _ hw4) (Nat.le_trans hd1 r1) (by rw [ea_mapC]; omega) r3 r4 hd (h H locs ls hP hS hl)
theorem e_mmaxL {k : ea_K} {own : String} {cc : ByteArray} {nL d : Nat} (C : ea_C k own cc nL d) {pc : Nat} {lv : List (Nat × Value)} {st : List Value} {M : ea_M} {idx : Nat} {x y : Int64} (hw : Cond.methodLink own idx Lib.MathLoose.max_long.x ∈ wsL_law) (hw2 : Cond.static Lib.MathLoose.max_long.x ∈ wsL_law) (hw3 : Cond.initialized "java/lang/Math" ∈ wsL_law) (hw4 : Cond.code Lib.MathLoose.max_long.x Lib.MathLoose.max_long.code 4 (some .long) ∈ wsL_law) (hd1 : 1 ≤ d) (hcat : (st.map fun v => v.category).sum ≤ 8) (hd : decode cc pc = .ok (.invokestatic idx, 3)) (h : ea_E k (pc + 3) lv (.long (if y < x then x else y) :: st) M) : ea_E k pc lv (.long y :: .long x :: st) M := by
  obtain ⟨p, l, e, R, s, m, args, below, meth, c, Q, A, cells, slots, nL0, g⟩ := k
  obtain ⟨hx, hb, hml, hown, hts, hlk, hD, hA, hE, hroom, rfl⟩ := C
  intro H locs ls hP hS hl
  obtain ⟨r1, r2, r3, r4⟩ := hroom
  exact va_mmax_long hx hb (hml.trans hl.1.symm) hown (hts _ hw) (hts _ hw2) (hts _ hw3) (hts _ hw4) (Nat.le_trans hd1 r1) (by rw [ea_mapC]; omega) r3 r4 hd (h H locs ls hP hS hl)
theorem e_mabsL {k : ea_K} {own : String} {cc : ByteArray} {nL d : Nat} (C : ea_C k own cc nL d) {pc : Nat} {lv : List (Nat × Value)} {st : List Value} {M : ea_M} {idx : Nat} {x : Int64} (hw : Cond.methodLink own idx Lib.MathLoose.abs_long.x ∈ wsL_law) (hw2 : Cond.static Lib.MathLoose.abs_long.x ∈ wsL_law) (hw3 : Cond.initialized "java/lang/Math" ∈ wsL_law) (hw4 : Cond.code Lib.MathLoose.abs_long.x Lib.MathLoose.abs_long.code 2 (some .long) ∈ wsL_law) (hd1 : 1 ≤ d) (hcat : (st.map fun v => v.category).sum ≤ 8) (hd : decode cc pc = .ok (.invokestatic idx, 3)) (h : ea_E k (pc + 3) lv (.long (if 0 < x then x else -x) :: st) M) : ea_E k pc lv (.long x :: st) M := by
  obtain ⟨p, l, e, R, s, m, args, below, meth, c, Q, A, cells, slots, nL0, g⟩ := k
  obtain ⟨hx, hb, hml, hown, hts, hlk, hD, hA, hE, hroom, rfl⟩ := C
  intro H locs ls hP hS hl
  obtain ⟨r1, r2, r3, r4⟩ := hroom
  exact va_mabs_long hx hb (hml.trans hl.1.symm) hown (hts _ hw) (hts _ hw2) (hts _ hw3) (hts _ hw4) (Nat.le_trans hd1 r1) (by rw [ea_mapC]; omega) r3 r4 hd (h H locs ls hP hS hl)
-- THE TEXTS
theorem e_ldcS {k : ea_K} {own : String} {cc : ByteArray} {nL d : Nat} (C : ea_C k own cc nL d) {pc : Nat} {lv : List (Nat × Value)} {st : List Value} {M : ea_M} {idx i : Nat} {tx : String} (hq : ea_cpS[i]? = some (idx, tx)) (ho : own = RX2) (hd : decode cc pc = .ok (.ldc idx, 2)) (h : ea_E k (pc + 2) lv (.ref (200 + i) :: st) M) : ea_E k pc lv st M := by
  obtain ⟨p, l, e, R, s, m, args, below, meth, c, Q, A, cells, slots, nL0, g⟩ := k
  obtain ⟨hx, hb, hml, hown, hts, hlk, hD, hA, hE, hroom, rfl⟩ := C
  intro H locs ls hP hS hl
  subst ho
  exact va_ldcS hx hb hown (hE.2.2.2.2.1 i _ hq) hd (h H locs ls hP hS hl)
