/-! ===== constructors: a world that grows ===== -/
def cn_NS : List (String × Nat × MethodName) := [(RX6, 9, yX2_init), (RX6, 18, yX4_init), (RX6, 25, yX5_init), (RX6, 43, yX0_init), (RX1, 24, yX5_init), (RX2, 11, yX3_init), (RX2, 20, yX4_init), (RX4, 29, yX5_init)]
def cn_En (g : ea_G) (U : State) : Prop := va_K g.1 vwCl (ea_ty g) U ∧ (∀ w ∈ cn_NS, va_Nw (.methodLinkNest w.1 w.2.1 w.2.2 "WallHeat") U) ∧ va_AO RX0 U ∧ va_AO RX5 U
theorem cn_En.moved {g : ea_G} {u U : State} (hW : u.WarmedH U.vm) (h : cn_En g u) : cn_En g U := ⟨h.1.moved hW.alike, fun w hw => (h.2.1 w hw).warmM hW, h.2.2.1.moved hW.alike, h.2.2.2.moved hW.alike⟩
theorem cn_En.same {g : ea_G} {u U : State} (hv : u.vm = U.vm) (h : cn_En g u) : cn_En g U := by
  have ha : u.vm.Alike U.vm := by rw [hv]; exact Vm.Alike.refl _
  exact ⟨h.1.moved ha, fun w hw => (h.2.1 w hw).same rfl hv, h.2.2.1.moved ha, h.2.2.2.moved ha⟩
def cn_Pr (g : ea_G) (sz : Nat) (W : va_W) (U : State) : Prop := U.heap.size = sz ∧ va_P g.1 vwCl W U.heap ∧ va_D (fun _ => True) W ∧ cn_En g U
def cn_rm (d mc ms : Nat) : Room := { frames := d, cells := mc, slots := ms, locals := 40 * d }
def cn_Q (g : ea_G) (post : (Nat → Nat) → va_W) (h : Nat) (A : Nat → Prop) : Array Value → State → Outcome → State → Prop := va_Qv (S := Nat → Nat) (fun ad => ad 0 = h) (fun ad t => va_P g.1 vwCl (post ad) t.heap ∧ va_D A (post ad)) A
/-- a constructor's contract: from a new object to the cells that post names, at addresses ad -/
def cn_Sp (d : Nat) (y : MethodName) (cc : ByteArray) (nL ci : Nat) (zs : List Value) (mc ms : Nat) (post : ea_G → (Nat → Nat) → va_W) : Prop := ∀ (l : Launch) (g : ea_G) (sz h : Nat), Met l y (.code y cc nL none :: wsL_law) (cn_rm d mc ms) (va_Pc [.ref h] (cn_Pr g sz [(h, .inr (ci, zs))])) (cn_Q g (post g) h (va_A [(h, .inr (ci, zs))] sz)) mc ms (va_A [(h, .inr (ci, zs))] sz)
def cn_E (k : ea_K) (pc : Nat) (lv : List (Nat × Value)) (st : List Value) (W' : va_W) (cl sl : Nat) : Prop := match k with
  | (p, l, e, R, s, m, args, below, meth, c, Q, A, cells, slots, nL, g) => ∀ (H : Heap) (locs : List Loc) (ls : Array Slot), va_P g.1 vwCl W' H → va_D A W' → va_S A s.heap H locs → lv_has ls nL lv → W p l e R s m args below meth c H locs cl sl Q (F0 m pc ls st)
def cn_C (k : ea_K) (own : String) (cc : ByteArray) (nL' d RC RS : Nat) : Prop := match k with
  | (p, l, e, R, s, m, args, below, meth, c, Q, A, cells, slots, nL, g) => p.tables.exec = Jvm.exec ∧ c.code = cc ∧ c.maxLocals = nL ∧ s.vm.findClass own = some m.cls ∧ (∀ w ∈ wsL_law, w.before args s = true) ∧ meth.locks = false ∧ (∀ q, s.heap.size ≤ q → A q) ∧ cn_En g s ∧ (d ≤ R.frames ∧ 40 * d ≤ R.locals ∧ RC ≤ R.cells ∧ RS ≤ R.slots) ∧ nL = nL'
def cn_I (k : ea_K) : Prop := match k with
  | (p, l, e, R, s, m, args, below, meth, c, Q, A, cells, slots, nL, g) => meth.name = "<init>"
def cn_g (k : ea_K) : ea_G := match k with
  | (p, l, e, R, s, m, args, below, meth, c, Q, A, cells, slots, nL, g) => g
def cn_X (k : ea_K) (h mc ms : Nat) (post : ea_G → (Nat → Nat) → va_W) : Prop := match k with
  | (p, l, e, R, s, m, args, below, meth, c, Q, A, cells, slots, nL, g) => meth.sig.returnType = none ∧ Q = MQ below (cn_Q g (post g) h A) args s mc ms A
theorem c_aload_n {k : ea_K} {own : String} {cc : ByteArray} {nL d RC RS : Nat} (C : cn_C k own cc nL d RC RS) {pc : Nat} {lv : List (Nat × Value)} {st : List Value} {Y : va_W} {cl sl : Nat} {f : Fin 4} {i n x : Nat} (hd : decode cc pc = .ok (.aload_n f, 1)) (hi : (f : Nat) = i) (hk : lv[n]? = some (i, .ref x)) (h : cn_E k (pc + 1) lv (.ref x :: st) Y cl sl) : cn_E k (pc) lv (st) Y cl sl := by
  obtain ⟨p, l, e, R, s, m, args, below, meth, c, Q, A, cells, slots, nL0, g⟩ := k
  obtain ⟨hx, hb, hml, hown, hts, hlk, hA, hE, ⟨r1, r2, r3, r4⟩, rfl⟩ := C
  intro H locs ls hP hD hS hl
  exact lv_aload_n hx hb hd hi (lv_at hl n hk) (h H locs ls hP hD hS hl)
theorem c_iload_n {k : ea_K} {own : String} {cc : ByteArray} {nL d RC RS : Nat} (C : cn_C k own cc nL d RC RS) {pc : Nat} {lv : List (Nat × Value)} {st : List Value} {Y : va_W} {cl sl : Nat} {f : Fin 4} {i n : Nat} {x : Int32} (hd : decode cc pc = .ok (.iload_n f, 1)) (hi : (f : Nat) = i) (hk : lv[n]? = some (i, .int x)) (h : cn_E k (pc + 1) lv (.int x :: st) Y cl sl) : cn_E k (pc) lv (st) Y cl sl := by
  obtain ⟨p, l, e, R, s, m, args, below, meth, c, Q, A, cells, slots, nL0, g⟩ := k
  obtain ⟨hx, hb, hml, hown, hts, hlk, hA, hE, ⟨r1, r2, r3, r4⟩, rfl⟩ := C
  intro H locs ls hP hD hS hl
  exact lv_iload_n hx hb hd hi (lv_at hl n hk) (h H locs ls hP hD hS hl)
theorem c_iconst {k : ea_K} {own : String} {cc : ByteArray} {nL d RC RS : Nat} (C : cn_C k own cc nL d RC RS) {pc : Nat} {lv : List (Nat × Value)} {st : List Value} {Y : va_W} {cl sl : Nat} {n : Int} {v : Int32} (hd : decode cc pc = .ok (.iconst n, 1)) (hv : Int32.ofInt n = v) (h : cn_E k (pc + 1) lv (.int v :: st) Y cl sl) : cn_E k (pc) lv (st) Y cl sl := by
  obtain ⟨p, l, e, R, s, m, args, below, meth, c, Q, A, cells, slots, nL0, g⟩ := k
  obtain ⟨hx, hb, hml, hown, hts, hlk, hA, hE, ⟨r1, r2, r3, r4⟩, rfl⟩ := C
  intro H locs ls hP hD hS hl
  exact lv_iconst hx hb hd hv (h H locs ls hP hD hS hl)
theorem c_bipush {k : ea_K} {own : String} {cc : ByteArray} {nL d RC RS : Nat} (C : cn_C k own cc nL d RC RS) {pc : Nat} {lv : List (Nat × Value)} {st : List Value} {Y : va_W} {cl sl : Nat} {n : Int} {v : Int32} (hd : decode cc pc = .ok (.bipush n, 2)) (hv : (Int8.ofInt n).toInt32 = v) (h : cn_E k (pc + 2) lv (.int v :: st) Y cl sl) : cn_E k (pc) lv (st) Y cl sl := by
  obtain ⟨p, l, e, R, s, m, args, below, meth, c, Q, A, cells, slots, nL0, g⟩ := k
  obtain ⟨hx, hb, hml, hown, hts, hlk, hA, hE, ⟨r1, r2, r3, r4⟩, rfl⟩ := C
  intro H locs ls hP hD hS hl
  exact lv_bipush hx hb hd hv (h H locs ls hP hD hS hl)
theorem c_sipush {k : ea_K} {own : String} {cc : ByteArray} {nL d RC RS : Nat} (C : cn_C k own cc nL d RC RS) {pc : Nat} {lv : List (Nat × Value)} {st : List Value} {Y : va_W} {cl sl : Nat} {n : Int} {v : Int32} (hd : decode cc pc = .ok (.sipush n, 3)) (hv : (Int16.ofInt n).toInt32 = v) (h : cn_E k (pc + 3) lv (.int v :: st) Y cl sl) : cn_E k (pc) lv (st) Y cl sl := by
  obtain ⟨p, l, e, R, s, m, args, below, meth, c, Q, A, cells, slots, nL0, g⟩ := k
  obtain ⟨hx, hb, hml, hown, hts, hlk, hA, hE, ⟨r1, r2, r3, r4⟩, rfl⟩ := C
  intro H locs ls hP hD hS hl
  exact lv_sipush hx hb hd hv (h H locs ls hP hD hS hl)
theorem c_dup {k : ea_K} {own : String} {cc : ByteArray} {nL d RC RS : Nat} (C : cn_C k own cc nL d RC RS) {pc : Nat} {lv : List (Nat × Value)} {st : List Value} {Y : va_W} {cl sl : Nat} {x : Nat} (hd : decode cc pc = .ok (.dup, 1)) (h : cn_E k (pc + 1) lv (.ref x :: .ref x :: st) Y cl sl) : cn_E k (pc) lv (.ref x :: st) Y cl sl := by
  obtain ⟨p, l, e, R, s, m, args, below, meth, c, Q, A, cells, slots, nL0, g⟩ := k
  obtain ⟨hx, hb, hml, hown, hts, hlk, hA, hE, ⟨r1, r2, r3, r4⟩, rfl⟩ := C
  intro H locs ls hP hD hS hl
  exact lv_dup hx hb hd rfl (h H locs ls hP hD hS hl)
theorem c_istore_n {k : ea_K} {own : String} {cc : ByteArray} {nL d RC RS : Nat} (C : cn_C k own cc nL d RC RS) {pc : Nat} {lv : List (Nat × Value)} {st : List Value} {Y : va_W} {cl sl : Nat} {f : Fin 4} {i : Nat} {x : Int32} {lv' : List (Nat × Value)} (hd : decode cc pc = .ok (.istore_n f, 1)) (hi : (f : Nat) = i) (hn : i < nL) (hl' : (i, Value.int x) :: lv.filter (fun q => !(q.1 == i) && !(q.1 + 1 == i && q.2.category == 2)) = lv') (h : cn_E k (pc + 1) lv' (st) Y cl sl) : cn_E k (pc) lv (.int x :: st) Y cl sl := by
  obtain ⟨p, l, e, R, s, m, args, below, meth, c, Q, A, cells, slots, nL0, g⟩ := k
  obtain ⟨hx, hb, hml, hown, hts, hlk, hA, hE, ⟨r1, r2, r3, r4⟩, rfl⟩ := C
  intro H locs ls hP hD hS hl
  exact lv_istore_n hx hb hd hi hl hn hl' (fun ls hl => h H locs ls hP hD hS hl)
theorem c_astore_n {k : ea_K} {own : String} {cc : ByteArray} {nL d RC RS : Nat} (C : cn_C k own cc nL d RC RS) {pc : Nat} {lv : List (Nat × Value)} {st : List Value} {Y : va_W} {cl sl : Nat} {f : Fin 4} {i x : Nat} {lv' : List (Nat × Value)} (hd : decode cc pc = .ok (.astore_n f, 1)) (hi : (f : Nat) = i) (hn : i < nL) (hl' : (i, Value.ref x) :: lv.filter (fun q => !(q.1 == i) && !(q.1 + 1 == i && q.2.category == 2)) = lv') (h : cn_E k (pc + 1) lv' (st) Y cl sl) : cn_E k (pc) lv (.ref x :: st) Y cl sl := by
  obtain ⟨p, l, e, R, s, m, args, below, meth, c, Q, A, cells, slots, nL0, g⟩ := k
  obtain ⟨hx, hb, hml, hown, hts, hlk, hA, hE, ⟨r1, r2, r3, r4⟩, rfl⟩ := C
  intro H locs ls hP hD hS hl
  exact lv_astore_n hx hb hd hi hl hn hl' (fun ls hl => h H locs ls hP hD hS hl)
theorem c_iinc {k : ea_K} {own : String} {cc : ByteArray} {nL d RC RS : Nat} (C : cn_C k own cc nL d RC RS) {pc : Nat} {lv : List (Nat × Value)} {st : List Value} {Y : va_W} {cl sl : Nat} {i n : Nat} {z : Int} {x v : Int32} {lv' : List (Nat × Value)} (hd : decode cc pc = .ok (.iinc i z, 3)) (hk : lv[n]? = some (i, .int x)) (hv : x + Int32.ofInt z = v) (hn : i < nL) (hl' : (i, Value.int v) :: lv.filter (fun q => !(q.1 == i) && !(q.1 + 1 == i && q.2.category == 2)) = lv') (h : cn_E k (pc + 3) lv' (st) Y cl sl) : cn_E k (pc) lv (st) Y cl sl := by
  obtain ⟨p, l, e, R, s, m, args, below, meth, c, Q, A, cells, slots, nL0, g⟩ := k
  obtain ⟨hx, hb, hml, hown, hts, hlk, hA, hE, ⟨r1, r2, r3, r4⟩, rfl⟩ := C
  intro H locs ls hP hD hS hl
  exact lv_iinc hx hb hd hl hk hv hn hl' (fun ls hl => h H locs ls hP hD hS hl)
theorem c_goto {k : ea_K} {own : String} {cc : ByteArray} {nL d RC RS : Nat} (C : cn_C k own cc nL d RC RS) {pc : Nat} {lv : List (Nat × Value)} {st : List Value} {Y : va_W} {cl sl : Nat} {off : Int} {tgt : Nat} (hd : decode cc pc = .ok (.goto off, 3)) (ht : (pc : Int) + off = (tgt : Int)) (h : cn_E k (tgt) lv (st) Y cl sl) : cn_E k (pc) lv (st) Y cl sl := by
  obtain ⟨p, l, e, R, s, m, args, below, meth, c, Q, A, cells, slots, nL0, g⟩ := k
  obtain ⟨hx, hb, hml, hown, hts, hlk, hA, hE, ⟨r1, r2, r3, r4⟩, rfl⟩ := C
  intro H locs ls hP hD hS hl
  exact lv_goto hx hb hd ht (h H locs ls hP hD hS hl)
theorem c_icmp_geT {k : ea_K} {own : String} {cc : ByteArray} {nL d RC RS : Nat} (C : cn_C k own cc nL d RC RS) {pc : Nat} {lv : List (Nat × Value)} {st : List Value} {Y : va_W} {cl sl : Nat} {x y : Int32} {off : Int} {tgt : Nat} (hd : decode cc pc = .ok (.if_icmp .ge off, 3)) (ht : (pc : Int) + off = (tgt : Int)) (hc : y ≤ x) (h : cn_E k (tgt) lv (st) Y cl sl) : cn_E k (pc) lv (.int y :: .int x :: st) Y cl sl := by
  obtain ⟨p, l, e, R, s, m, args, below, meth, c, Q, A, cells, slots, nL0, g⟩ := k
  obtain ⟨hx, hb, hml, hown, hts, hlk, hA, hE, ⟨r1, r2, r3, r4⟩, rfl⟩ := C
  intro H locs ls hP hD hS hl
  exact lv_icmp_ge hx hb hd ht (fun _ => h H locs ls hP hD hS hl) (fun z => absurd hc z)
theorem c_icmp_geF {k : ea_K} {own : String} {cc : ByteArray} {nL d RC RS : Nat} (C : cn_C k own cc nL d RC RS) {pc : Nat} {lv : List (Nat × Value)} {st : List Value} {Y : va_W} {cl sl : Nat} {x y : Int32} {off : Int} {tgt : Nat} (hd : decode cc pc = .ok (.if_icmp .ge off, 3)) (ht : (pc : Int) + off = (tgt : Int)) (hc : ¬ y ≤ x) (h : cn_E k (pc + 3) lv (st) Y cl sl) : cn_E k (pc) lv (.int y :: .int x :: st) Y cl sl := by
  obtain ⟨p, l, e, R, s, m, args, below, meth, c, Q, A, cells, slots, nL0, g⟩ := k
  obtain ⟨hx, hb, hml, hown, hts, hlk, hA, hE, ⟨r1, r2, r3, r4⟩, rfl⟩ := C
  intro H locs ls hP hD hS hl
  exact lv_icmp_ge hx hb hd ht (fun z => absurd z hc) (fun _ => h H locs ls hP hD hS hl)
theorem c_init {k : ea_K} {own : String} {cc : ByteArray} {nL d RC RS : Nat} (C : cn_C k own cc nL d RC RS) {pc : Nat} {lv : List (Nat × Value)} {st : List Value} {Y : va_W} {cl sl : Nat} {idx a : Nat} (hw : Cond.methodLink own idx objectInit ∈ wsL_law ∧ Cond.instanceMethod objectInit ∈ wsL_law ∧ Cond.code objectInit ⟨#[0xb1]⟩ 1 none ∈ wsL_law) (h1 : 1 ≤ d) (hd : decode cc pc = .ok (.invokespecial idx, 3)) (h : cn_E k (pc + 3) lv ([]) Y cl sl) : cn_E k (pc) lv ([.ref a]) Y cl sl := by
  obtain ⟨p, l, e, R, s, m, args, below, meth, c, Q, A, cells, slots, nL0, g⟩ := k
  obtain ⟨hx, hb, hml, hown, hts, hlk, hA, hE, ⟨r1, r2, r3, r4⟩, rfl⟩ := C
  intro H locs ls hP hD hS hl
  refine W.objInit hx hb hown (hts _ hw.1) (hts _ hw.2.1) (hts _ hw.2.2) rfl (by rw [hml]; exact hl.1) rfl hd (by omega) (by show 2 * 0 + 0 + 12 ≤ _; omega) ?_
  exact h H locs ls hP hD hS hl
theorem cn_tyI {g : ea_G} {s : State} {cA : ClassId} (hE : va_K g.1 vwCl (ea_ty g) s) (hK : va_K g.1 vwCl (ea_ty g ++ [(cA, .int)]) s) : cA = g.2.1 0 := Option.some.inj ((show s.vm.findClass ("[" ++ FieldType.int.toString) = some cA from (hK.2 4 _ rfl).2).symm.trans (show s.vm.findClass ("[" ++ FieldType.int.toString) = some (g.2.1 0) from (hE.2 0 _ rfl).2))
theorem cn_tyZ {g : ea_G} {s : State} {cA : ClassId} (hE : va_K g.1 vwCl (ea_ty g) s) (hK : va_K g.1 vwCl (ea_ty g ++ [(cA, .boolean)]) s) : cA = g.2.1 1 := Option.some.inj ((show s.vm.findClass ("[" ++ FieldType.boolean.toString) = some cA from (hK.2 4 _ rfl).2).symm.trans (show s.vm.findClass ("[" ++ FieldType.boolean.toString) = some (g.2.1 1) from (hE.2 1 _ rfl).2))
theorem cn_tyB {g : ea_G} {s : State} {cA : ClassId} (hE : va_K g.1 vwCl (ea_ty g) s) (hK : va_K g.1 vwCl (ea_ty g ++ [(cA, .object RX0)]) s) : cA = g.2.1 2 := by
  obtain ⟨_, _, _, _, _, h4⟩ := (hK.2 4 _ rfl).2
  obtain ⟨_, _, _, _, _, h5⟩ := (hE.2 2 _ rfl).2
  exact Option.some.inj (h4.symm.trans h5)
theorem cn_tyW {g : ea_G} {s : State} {cA : ClassId} (hE : va_K g.1 vwCl (ea_ty g) s) (hK : va_K g.1 vwCl (ea_ty g ++ [(cA, .object RX5)]) s) : cA = g.2.1 3 := by
  obtain ⟨_, _, _, _, _, h4⟩ := (hK.2 4 _ rfl).2
  obtain ⟨_, _, _, _, _, h5⟩ := (hE.2 3 _ rfl).2
  exact Option.some.inj (h4.symm.trans h5)
theorem c_newI {k : ea_K} {own : String} {cc : ByteArray} {nL d RC RS : Nat} (C : cn_C k own cc nL d RC RS) {pc : Nat} {lv : List (Nat × Value)} {st : List Value} {Y : va_W} {cl sl : Nat} {n : Int32} {N : Nat} (hw : Cond.arrayClass .int ∈ wsL_law) (hn : ¬ n < 0) (hN : n.toNatClampNeg = N) (hb2 : N < 1000) (hc : cl + 1 ≤ RC) (hs : sl + N ≤ RS) (hd : decode cc pc = .ok (.newarray .int, 2)) (h : ∀ q, cn_E k (pc + 2) lv (.ref q :: st) (Y ++ [(q, .inl ((cn_g k).2.1 0, N, .inl (fun _ => 0)))]) (cl + 1) (sl + N)) : cn_E k (pc) lv (.int n :: st) Y cl sl := by
  obtain ⟨p, l, e, R, s, m, args, below, meth, c, Q, A, cells, slots, nL0, g⟩ := k
  obtain ⟨hx, hb, hml, hown, hts, hlk, hA, hE, ⟨r1, r2, r3, r4⟩, rfl⟩ := C
  intro H locs ls hP hD hS hl
  refine va_newa (atype := .int) (ty := .int) (a0 := (N, .inl (fun _ => 0))) hx hb (hts _ hw) rfl hE.1 hP hD hS hA (fun _ => rfl) hn hN (Nat.le_trans (Nat.mul_le_mul (Nat.le_of_lt hb2) (show componentBytes .int ≤ 8 by decide)) (by decide)) (by omega) (by omega) hd (fun q cA H1 hK1 hP1 hD1 hS1 => ?_)
  have ec := cn_tyI hE.1 hK1
  subst ec
  exact h q H1 locs ls hP1 hD1 hS1 hl
theorem c_newZ {k : ea_K} {own : String} {cc : ByteArray} {nL d RC RS : Nat} (C : cn_C k own cc nL d RC RS) {pc : Nat} {lv : List (Nat × Value)} {st : List Value} {Y : va_W} {cl sl : Nat} {n : Int32} {N : Nat} (hw : Cond.arrayClass .boolean ∈ wsL_law) (hn : ¬ n < 0) (hN : n.toNatClampNeg = N) (hb2 : N < 1000) (hc : cl + 1 ≤ RC) (hs : sl + N ≤ RS) (hd : decode cc pc = .ok (.newarray .boolean, 2)) (h : ∀ q, cn_E k (pc + 2) lv (.ref q :: st) (Y ++ [(q, .inl ((cn_g k).2.1 1, N, .inl (fun _ => 0)))]) (cl + 1) (sl + N)) : cn_E k (pc) lv (.int n :: st) Y cl sl := by
  obtain ⟨p, l, e, R, s, m, args, below, meth, c, Q, A, cells, slots, nL0, g⟩ := k
  obtain ⟨hx, hb, hml, hown, hts, hlk, hA, hE, ⟨r1, r2, r3, r4⟩, rfl⟩ := C
  intro H locs ls hP hD hS hl
  refine va_newa (atype := .boolean) (ty := .boolean) (a0 := (N, .inl (fun _ => 0))) hx hb (hts _ hw) rfl hE.1 hP hD hS hA (fun _ => rfl) hn hN (Nat.le_trans (Nat.mul_le_mul (Nat.le_of_lt hb2) (show componentBytes .boolean ≤ 8 by decide)) (by decide)) (by omega) (by omega) hd (fun q cA H1 hK1 hP1 hD1 hS1 => ?_)
  have ec := cn_tyZ hE.1 hK1
  subst ec
  exact h q H1 locs ls hP1 hD1 hS1 hl
theorem c_newB {k : ea_K} {own : String} {cc : ByteArray} {nL d RC RS : Nat} (C : cn_C k own cc nL d RC RS) {pc : Nat} {lv : List (Nat × Value)} {st : List Value} {Y : va_W} {cl sl : Nat} {n : Int32} {N idx : Nat} (hw : Cond.classLink own idx RX0 ∈ wsL_law) (hn : ¬ n < 0) (hN : n.toNatClampNeg = N) (hb2 : N < 1000) (hc : cl + 1 ≤ RC) (hs : sl + N ≤ RS) (hd : decode cc pc = .ok (.anewarray idx, 3)) (h : ∀ q, cn_E k (pc + 3) lv (.ref q :: st) (Y ++ [(q, .inl ((cn_g k).2.1 2, N, .inr (.inr (.inr (.inr (fun _ => none))))))]) (cl + 1) (sl + N)) : cn_E k (pc) lv (.int n :: st) Y cl sl := by
  obtain ⟨p, l, e, R, s, m, args, below, meth, c, Q, A, cells, slots, nL0, g⟩ := k
  obtain ⟨hx, hb, hml, hown, hts, hlk, hA, hE, ⟨r1, r2, r3, r4⟩, rfl⟩ := C
  intro H locs ls hP hD hS hl
  refine va_newq hx hb hown (hts _ hw) hE.2.2.1 hE.1 hP hD hS hA hn hN (by omega) (by omega) (by omega) hd (fun q cA H1 hK1 hP1 hD1 hS1 => ?_)
  have ec := cn_tyB hE.1 hK1
  subst ec
  exact h q H1 locs ls hP1 hD1 hS1 hl
theorem c_newW {k : ea_K} {own : String} {cc : ByteArray} {nL d RC RS : Nat} (C : cn_C k own cc nL d RC RS) {pc : Nat} {lv : List (Nat × Value)} {st : List Value} {Y : va_W} {cl sl : Nat} {n : Int32} {N idx : Nat} (hw : Cond.classLink own idx RX5 ∈ wsL_law) (hn : ¬ n < 0) (hN : n.toNatClampNeg = N) (hb2 : N < 1000) (hc : cl + 1 ≤ RC) (hs : sl + N ≤ RS) (hd : decode cc pc = .ok (.anewarray idx, 3)) (h : ∀ q, cn_E k (pc + 3) lv (.ref q :: st) (Y ++ [(q, .inl ((cn_g k).2.1 3, N, .inr (.inr (.inr (.inr (fun _ => none))))))]) (cl + 1) (sl + N)) : cn_E k (pc) lv (.int n :: st) Y cl sl := by
  obtain ⟨p, l, e, R, s, m, args, below, meth, c, Q, A, cells, slots, nL0, g⟩ := k
  obtain ⟨hx, hb, hml, hown, hts, hlk, hA, hE, ⟨r1, r2, r3, r4⟩, rfl⟩ := C
  intro H locs ls hP hD hS hl
  refine va_newq hx hb hown (hts _ hw) hE.2.2.2 hE.1 hP hD hS hA hn hN (by omega) (by omega) (by omega) hd (fun q cA H1 hK1 hP1 hD1 hS1 => ?_)
  have ec := cn_tyW hE.1 hK1
  subst ec
  exact h q H1 locs ls hP1 hD1 hS1 hl
theorem c_putF {k : ea_K} {own : String} {cc : ByteArray} {nL d RC RS : Nat} (C : cn_C k own cc nL d RC RS) {pc : Nat} {lv : List (Nat × Value)} {st : List Value} {Y : va_W} {cl sl : Nat} {idx ci f a q0 : Nat} {fs : List Value} {ty : FieldType} {v : Value} (I : cn_I k) (F : ea_Fd own idx ci f) (he : Y[q0]? = some (a, .inr (ci, fs))) (hfin : (ea_cT ci f).2.2.2 = true) (hdecl : ea_cR ci = own) (hty : parseFieldDescriptor (ea_cT ci f).2.2.1 = some ty) (hn : narrow ty v = v) (hfit : fits ty v = true) (hlen : f < fs.length) (hd : decode cc pc = .ok (.putfield idx, 3)) (h : cn_E k (pc + 3) lv (st) (Y.set q0 (a, .inr (ci, fs.set f v))) cl sl) : cn_E k (pc) lv (v :: .ref a :: st) Y cl sl := by
  obtain ⟨p, l, e, R, s, m, args, below, meth, c, Q, A, cells, slots, nL0, g⟩ := k
  obtain ⟨hx, hb, hml, hown, hts, hlk, hA, hE, ⟨r1, r2, r3, r4⟩, rfl⟩ := C
  intro H locs ls hP hD hS hl
  obtain ⟨F1, F2, F3⟩ := F
  exact va_putF (D := g.1) (ci := ci) (v := v) (ty := ty) (C := ea_cR ci) (T := ea_cT ci) (N := ea_cN ci) hx hb hts (ea_cIn F1) (ea_cY ci) (ea_cTy F1) (ea_cNm F1) hown hE.1 hP hD hS q0 he (ea_cCl F1) f F2 (hts _ F3) (by rw [ea_cOw F1 f F2]; exact fun _ h9 => h9) hfin I ((ea_cOw F1 f F2).trans hdecl) hty hn hfit hlen hd (fun H1 locs1 hP1 hD1 hS1 => h H1 locs1 ls hP1 hD1 hS1 hl)
theorem c_put {k : ea_K} {own : String} {cc : ByteArray} {nL d RC RS : Nat} (C : cn_C k own cc nL d RC RS) {pc : Nat} {lv : List (Nat × Value)} {st : List Value} {Y : va_W} {cl sl : Nat} {idx ci f a q0 : Nat} {fs : List Value} {ty : FieldType} {v : Value} (F : ea_Fd own idx ci f) (he : Y[q0]? = some (a, .inr (ci, fs))) (hfin : (ea_cT ci f).2.2.2 = false) (hty : parseFieldDescriptor (ea_cT ci f).2.2.1 = some ty) (hn : narrow ty v = v) (hfit : fits ty v = true) (hlen : f < fs.length) (hd : decode cc pc = .ok (.putfield idx, 3)) (h : cn_E k (pc + 3) lv (st) (Y.set q0 (a, .inr (ci, fs.set f v))) cl sl) : cn_E k (pc) lv (v :: .ref a :: st) Y cl sl := by
  obtain ⟨p, l, e, R, s, m, args, below, meth, c, Q, A, cells, slots, nL0, g⟩ := k
  obtain ⟨hx, hb, hml, hown, hts, hlk, hA, hE, ⟨r1, r2, r3, r4⟩, rfl⟩ := C
  intro H locs ls hP hD hS hl
  obtain ⟨F1, F2, F3⟩ := F
  exact va_put (D := g.1) (ci := ci) (v := v) (ty := ty) (C := ea_cR ci) (T := ea_cT ci) (N := ea_cN ci) hx hb hts (ea_cIn F1) (ea_cY ci) (ea_cTy F1) (ea_cNm F1) hown hE.1 hP hD hS q0 he (ea_cCl F1) f F2 (hts _ F3) (by rw [ea_cOw F1 f F2]; exact fun _ h9 => h9) hfin hty hn hfit hlen hd (fun H1 locs1 hP1 hD1 hS1 => h H1 locs1 ls hP1 hD1 hS1 hl)
theorem c_get {k : ea_K} {own : String} {cc : ByteArray} {nL d RC RS : Nat} (C : cn_C k own cc nL d RC RS) {pc : Nat} {lv : List (Nat × Value)} {st : List Value} {Y : va_W} {cl sl : Nat} {idx ci f a q0 : Nat} {fs : List Value} {v : Value} (F : ea_Fd own idx ci f) (he : Y[q0]? = some (a, .inr (ci, fs))) (hv : fs[f]? = some v) (hd : decode cc pc = .ok (.getfield idx, 3)) (h : cn_E k (pc + 3) lv (v :: st) Y cl sl) : cn_E k (pc) lv (.ref a :: st) Y cl sl := by
  obtain ⟨p, l, e, R, s, m, args, below, meth, c, Q, A, cells, slots, nL0, g⟩ := k
  obtain ⟨hx, hb, hml, hown, hts, hlk, hA, hE, ⟨r1, r2, r3, r4⟩, rfl⟩ := C
  intro H locs ls hP hD hS hl
  obtain ⟨F1, F2, F3⟩ := F
  exact va_get (D := g.1) (ci := ci) (v := v) (C := ea_cR ci) (T := ea_cT ci) (N := ea_cN ci) hx hb hts (ea_cIn F1) hown hE.1 hP q0 he (ea_cCl F1) f F2 (hts _ F3) (by rw [ea_cOw F1 f F2]; exact fun _ h9 => h9) hv hd (h H locs ls hP hD hS hl)
theorem c_alenB {k : ea_K} {own : String} {cc : ByteArray} {nL d RC RS : Nat} (C : cn_C k own cc nL d RC RS) {pc : Nat} {lv : List (Nat × Value)} {st : List Value} {Y : va_W} {cl sl : Nat} {a q0 N : Nat} {f : Nat → Option Nat} {v : Int32} (he : Y[q0]? = some (a, .inl ((cn_g k).2.1 2, N, .inr (.inr (.inr (.inr f)))))) (hv : Int32.ofNat N = v) (hd : decode cc pc = .ok (.arraylength, 1)) (h : cn_E k (pc + 1) lv (.int v :: st) Y cl sl) : cn_E k (pc) lv (.ref a :: st) Y cl sl := by
  obtain ⟨p, l, e, R, s, m, args, below, meth, c, Q, A, cells, slots, nL0, g⟩ := k
  obtain ⟨hx, hb, hml, hown, hts, hlk, hA, hE, ⟨r1, r2, r3, r4⟩, rfl⟩ := C
  intro H locs ls hP hD hS hl
  exact va_alen hx hb hE.1 hP q0 2 he rfl hv hd (h H locs ls hP hD hS hl)
theorem c_alenW {k : ea_K} {own : String} {cc : ByteArray} {nL d RC RS : Nat} (C : cn_C k own cc nL d RC RS) {pc : Nat} {lv : List (Nat × Value)} {st : List Value} {Y : va_W} {cl sl : Nat} {a q0 N : Nat} {f : Nat → Option Nat} {v : Int32} (he : Y[q0]? = some (a, .inl ((cn_g k).2.1 3, N, .inr (.inr (.inr (.inr f)))))) (hv : Int32.ofNat N = v) (hd : decode cc pc = .ok (.arraylength, 1)) (h : cn_E k (pc + 1) lv (.int v :: st) Y cl sl) : cn_E k (pc) lv (.ref a :: st) Y cl sl := by
  obtain ⟨p, l, e, R, s, m, args, below, meth, c, Q, A, cells, slots, nL0, g⟩ := k
  obtain ⟨hx, hb, hml, hown, hts, hlk, hA, hE, ⟨r1, r2, r3, r4⟩, rfl⟩ := C
  intro H locs ls hP hD hS hl
  exact va_alen hx hb hE.1 hP q0 3 he rfl hv hd (h H locs ls hP hD hS hl)
theorem c_aastB {k : ea_K} {own : String} {cc : ByteArray} {nL d RC RS : Nat} (C : cn_C k own cc nL d RC RS) {pc : Nat} {lv : List (Nat × Value)} {st : List Value} {Y : va_W} {cl sl : Nat} {a q0 qk N v : Nat} {f : Nat → Option Nat} {vs : List Value} {i : Int32} (he : Y[q0]? = some (a, .inl ((cn_g k).2.1 2, N, .inr (.inr (.inr (.inr f)))))) (hv : Y[qk]? = some (v, .inr (0, vs))) (hin : vp_in i N) (hd : decode cc pc = .ok (.aastore, 1)) (h : cn_E k (pc + 1) lv (st) (Y.set q0 (a, .inl ((cn_g k).2.1 2, N, .inr (.inr (.inr (.inr (va_up f i.toNatClampNeg (some v)))))))) cl sl) : cn_E k (pc) lv (.ref v :: .int i :: .ref a :: st) Y cl sl := by
  obtain ⟨p, l, e, R, s, m, args, below, meth, c, Q, A, cells, slots, nL0, g⟩ := k
  obtain ⟨hx, hb, hml, hown, hts, hlk, hA, hE, ⟨r1, r2, r3, r4⟩, rfl⟩ := C
  intro H locs ls hP hD hS hl
  exact va_astq hx hb hE.1 hP hD hS q0 2 qk 0 he rfl hv (ea_cCl (show 0 < 8 by decide)) hin hd (fun H1 locs1 hP1 hD1 hS1 => h H1 locs1 ls hP1 hD1 hS1 hl)
theorem c_aastW {k : ea_K} {own : String} {cc : ByteArray} {nL d RC RS : Nat} (C : cn_C k own cc nL d RC RS) {pc : Nat} {lv : List (Nat × Value)} {st : List Value} {Y : va_W} {cl sl : Nat} {a q0 qk N v : Nat} {f : Nat → Option Nat} {vs : List Value} {i : Int32} (he : Y[q0]? = some (a, .inl ((cn_g k).2.1 3, N, .inr (.inr (.inr (.inr f)))))) (hv : Y[qk]? = some (v, .inr (5, vs))) (hin : vp_in i N) (hd : decode cc pc = .ok (.aastore, 1)) (h : cn_E k (pc + 1) lv (st) (Y.set q0 (a, .inl ((cn_g k).2.1 3, N, .inr (.inr (.inr (.inr (va_up f i.toNatClampNeg (some v)))))))) cl sl) : cn_E k (pc) lv (.ref v :: .int i :: .ref a :: st) Y cl sl := by
  obtain ⟨p, l, e, R, s, m, args, below, meth, c, Q, A, cells, slots, nL0, g⟩ := k
  obtain ⟨hx, hb, hml, hown, hts, hlk, hA, hE, ⟨r1, r2, r3, r4⟩, rfl⟩ := C
  intro H locs ls hP hD hS hl
  exact va_astq hx hb hE.1 hP hD hS q0 3 qk 5 he rfl hv (ea_cCl (show 5 < 8 by decide)) hin hd (fun H1 locs1 hP1 hD1 hS1 => h H1 locs1 ls hP1 hD1 hS1 hl)
theorem c_iast {k : ea_K} {own : String} {cc : ByteArray} {nL d RC RS : Nat} (C : cn_C k own cc nL d RC RS) {pc : Nat} {lv : List (Nat × Value)} {st : List Value} {Y : va_W} {cl sl : Nat} {a q0 N : Nat} {f : Nat → Int32} {i x : Int32} (he : Y[q0]? = some (a, .inl ((cn_g k).2.1 0, N, .inl f))) (hin : vp_in i N) (hd : decode cc pc = .ok (.iastore, 1)) (h : cn_E k (pc + 1) lv (st) (Y.set q0 (a, .inl ((cn_g k).2.1 0, N, .inl (upd f i.toNatClampNeg x)))) cl sl) : cn_E k (pc) lv (.int x :: .int i :: .ref a :: st) Y cl sl := by
  obtain ⟨p, l, e, R, s, m, args, below, meth, c, Q, A, cells, slots, nL0, g⟩ := k
  obtain ⟨hx, hb, hml, hown, hts, hlk, hA, hE, ⟨r1, r2, r3, r4⟩, rfl⟩ := C
  intro H locs ls hP hD hS hl
  exact va_iast hx hb hE.1 hP hD hS q0 0 he rfl hin hd (fun H1 locs1 hP1 hD1 hS1 => h H1 locs1 ls hP1 hD1 hS1 hl)
theorem cn_arr {cA : ClassId} {n : Nat} {f f' : Nat → Value} (h : ∀ j, j < n → f' j = f j) : arrV cA n f' = arrV cA n f := by
  unfold arrV
  congr 1
  apply Array.ext
  · simp
  · intro i h1 h2
    simp only [Array.getElem_ofFn]
    exact h i (by simpa using h1)
/-- what stands behind a row's end doesn't matter -/
theorem c_fixI {k : ea_K} {own : String} {cc : ByteArray} {nL d RC RS : Nat} (C : cn_C k own cc nL d RC RS) {pc : Nat} {lv : List (Nat × Value)} {st : List Value} {Y : va_W} {cl sl : Nat} {a q0 N : Nat} {cA : ClassId} {f : Nat → Int32} (f' : Nat → Int32) (he : Y[q0]? = some (a, .inl (cA, N, .inl f))) (hf : ∀ j, j < N → f' j = f j) (h : cn_E k (pc) lv (st) (Y.set q0 (a, .inl (cA, N, .inl f'))) cl sl) : cn_E k (pc) lv (st) Y cl sl := by
  obtain ⟨p, l, e, R, s, m, args, below, meth, c, Q, A, cells, slots, nL0, g⟩ := k
  obtain ⟨hx, hb, hml, hown, hts, hlk, hA, hE, ⟨r1, r2, r3, r4⟩, rfl⟩ := C
  intro H locs ls hP hD hS hl
  refine h H locs ls (hP.set hD he ?_ (fun _ _ => rfl)) (hD.set he) hS hl
  have h1 : H[a]? = some (vp_cell cA (N, .inl f)) := hP q0 _ he
  show H[a]? = some (vp_cell cA (N, .inl f'))
  rw [h1, vp_cell_i, vp_cell_i, cn_arr (f' := fun j => .int (f' j)) (fun j hj => by rw [hf j hj])]
theorem c_fixQ {k : ea_K} {own : String} {cc : ByteArray} {nL d RC RS : Nat} (C : cn_C k own cc nL d RC RS) {pc : Nat} {lv : List (Nat × Value)} {st : List Value} {Y : va_W} {cl sl : Nat} {a q0 N : Nat} {cA : ClassId} {f : Nat → Option Nat} (f' : Nat → Option Nat) (he : Y[q0]? = some (a, .inl (cA, N, .inr (.inr (.inr (.inr f)))))) (hf : ∀ j, j < N → f' j = f j) (h : cn_E k (pc) lv (st) (Y.set q0 (a, .inl (cA, N, .inr (.inr (.inr (.inr f')))))) cl sl) : cn_E k (pc) lv (st) Y cl sl := by
  obtain ⟨p, l, e, R, s, m, args, below, meth, c, Q, A, cells, slots, nL0, g⟩ := k
  obtain ⟨hx, hb, hml, hown, hts, hlk, hA, hE, ⟨r1, r2, r3, r4⟩, rfl⟩ := C
  intro H locs ls hP hD hS hl
  refine h H locs ls (hP.set hD he ?_ (fun _ _ => rfl)) (hD.set he) hS hl
  have h1 : H[a]? = some (vp_cell cA (N, .inr (.inr (.inr (.inr f))))) := hP q0 _ he
  show H[a]? = some (vp_cell cA (N, .inr (.inr (.inr (.inr f')))))
  rw [h1, vp_cell_q, vp_cell_q, cn_arr (f' := fun j => va_rf (f' j)) (fun j hj => by rw [hf j hj])]
/-- the cells in another order -/
theorem c_pick {k : ea_K} {own : String} {cc : ByteArray} {nL d RC RS : Nat} (C : cn_C k own cc nL d RC RS) {pc : Nat} {lv : List (Nat × Value)} {st : List Value} {Y : va_W} {cl sl : Nat} {Y' : va_W} (is : List Nat) (hn : va_nd is = true) (hs : is.map (fun i => Y[i]?) = Y'.map some) (h : cn_E k (pc) lv (st) Y' cl sl) : cn_E k (pc) lv (st) Y cl sl := by
  obtain ⟨p, l, e, R, s, m, args, below, meth, c, Q, A, cells, slots, nL0, g⟩ := k
  obtain ⟨hx, hb, hml, hown, hts, hlk, hA, hE, ⟨r1, r2, r3, r4⟩, rfl⟩ := C
  intro H locs ls hP hD hS hl
  refine h H locs ls (fun k q hk => ?_) (hD.sub is hn hs) hS hl
  have h1 : (is.map (fun i => Y[i]?))[k]? = some (some q) := by rw [hs, List.getElem?_map, hk]; rfl
  rw [List.getElem?_map] at h1
  cases hi : is[k]? with
  | none => rw [hi] at h1; cases h1
  | some i => rw [hi] at h1; exact hP i q (Option.some.inj h1)
theorem c_vret {k : ea_K} {own : String} {cc : ByteArray} {nL d RC RS : Nat} (C : cn_C k own cc nL d RC RS) {pc h mc ms : Nat} {lv : List (Nat × Value)} {Y : va_W} {post : ea_G → (Nat → Nat) → va_W} (X : cn_X k h mc ms post) (ad : Nat → Nat) (had : ad 0 = h) (hW : Y = post (cn_g k) ad) (hd : decode cc pc = .ok (.return_, 1)) : cn_E k pc lv [] Y mc ms := by
  obtain ⟨p, l, e, R, s, m, args, below, meth, c, Q, A, cells, slots, nL0, g⟩ := k
  obtain ⟨hx, hb, hml, hown, hts, hlk, hA, hE, ⟨r1, r2, r3, r4⟩, rfl⟩ := C
  intro H locs ls hP hD hS hl
  obtain ⟨X1, rfl⟩ := X
  subst hW
  exact W.vret hx hb X1 (fun t ht hW => ⟨⟨ad, rfl, had, by rw [ht]; exact hP, hD⟩, hS.F ht⟩) hS.2.2 hd hlk
theorem cn_intro {d : Nat} {y : MethodName} {cc : ByteArray} {nL ci : Nat} {zs : List Value} {mc ms : Nat} {post : ea_G → (Nat → Nat) → va_W} {own : String} (hy : plainName y.cls = true) (hown : y.cls = own) (hin : y.name = "<init>") (h1 : 1 ≤ nL)
    (body : ∀ (k : ea_K) (h : Nat), cn_C k own cc nL d mc ms → cn_I k → cn_X k h mc ms post → cn_E k 0 [(0, .ref h)] [] [(h, .inr (ci, zs))] 0 0) : cn_Sp d y cc nL ci zs mc ms post := by
  subst hown
  intro l g sz h
  refine Met.ofW (cc := cc) (maxL := nL) (ret := none) hy rfl ?_
  intro p e s m args below meth c s₁ B hml hv
  obtain ⟨rfl, hsz, hP, hD0, hE⟩ := hv
  have hts : ∀ w ∈ wsL_law, w.before ([Value.ref h] : List Value).toArray s = true := fun w hw => atoms_spec B.pre w (List.mem_cons_of_mem _ hw)
  have hnm : meth.name = "<init>" := (name_of_methodNamed B.named B.method).1.trans hin
  subst hsz
  rw [lg_entry_eq]
  have hl := lv_entry ([.ref h]) (n := nL) (by show ([_] : List _).length ≤ nL; exact h1)
  exact body (p, l, e, cn_rm d mc ms, s, m, ([Value.ref h] : List Value).toArray, below, meth, c, _, va_A [(h, .inr (ci, zs))] s.heap.size, 0, 0, nL, g) h ⟨B.exec, B.bytes, hml, findClass_of_methodNamed B.named, hts, B.notSynchronized, fun q h => Or.inr h, hE, ⟨Nat.le_refl _, Nat.le_refl _, Nat.le_refl _, Nat.le_refl _⟩, rfl⟩ hnm ⟨B.returns, rfl⟩ s.heap [] _ hP hD0.self va_S.rf hl
theorem va_nd_range : ∀ (n a : Nat), va_nd ((List.range' a n)) = true := by
  intro n
  induction n with
  | zero => intro a; rfl
  | succ n ih =>
    intro a
    rw [List.range'_succ]
    show (decide (a ∉ List.range' (a + 1) n) && va_nd (List.range' (a + 1) n)) = true
    rw [ih (a + 1), Bool.and_true, decide_eq_true_iff, List.mem_range'_1]
    omega
/-- the new, the copy, the constructor -/
theorem c_make {k : ea_K} {own : String} {cc : ByteArray} {nL d RC RS : Nat} (C : cn_C k own cc nL d RC RS) {pc : Nat} {lv : List (Nat × Value)} {st : List Value} {Y : va_W} {cl sl : Nat} {idx idx2 ci d' mc ms nL' : Nat} {y : MethodName} {cc' : ByteArray} {zs : List Value} {post : ea_G → (Nat → Nat) → va_W} (K : ci < 8 ∧ Cond.classLink own idx (ea_cR ci) ∈ wsL_law ∧ Cond.instantiable (ea_cR ci) (ea_cN ci) ∈ wsL_law ∧ Cond.initialized (ea_cR ci) ∈ wsL_law) (hz : ∀ j, j < ea_cN ci → defaultValue (ea_cY ci j) = vp_V zs j) (hM : cn_Sp d' y cc' nL' ci zs mc ms post) (hd' : d' < d) (L : ((own, idx2, y) ∈ cn_NS ∨ Cond.methodLink own idx2 y ∈ wsL_law) ∧ Cond.code y cc' nL' none ∈ wsL_law ∧ Cond.initialized y.cls ∈ wsL_law ∧ (y.cls ≠ "java/lang/invoke/MethodHandle" ∧ y.cls ≠ "java/lang/invoke/VarHandle" ∧ (parseMethodDescriptor y.desc).map (fun d => d.parameters.length) = some 0) ∧ nL' ≤ 21 ∧ Cond.instanceMethod y ∈ wsL_law ∧ y.name = "<init>") (hd1 : decode cc pc = .ok (.new idx, 3)) (hd2 : decode cc (pc + 3) = .ok (.dup, 1)) (hd3 : decode cc (pc + 3 + 1) = .ok (.invokespecial idx2, 3)) (hc : cl + 1 + mc ≤ RC) (hs : sl + ea_cN ci + ms ≤ RS) (hcat : (st.map fun v => v.category).sum ≤ 7) (h : ∀ ad : Nat → Nat, cn_E k (pc + 3 + 1 + 3) lv (.ref (ad 0) :: st) (Y ++ post (cn_g k) ad) (cl + 1 + mc) (sl + ea_cN ci + ms)) : cn_E k (pc) lv (st) Y cl sl := by
  obtain ⟨p, l, e, R, s, m, args, below, meth, c, Q, A, cells, slots, nL0, g⟩ := k
  obtain ⟨hx, hb, hml, hown, hts, hlk, hA, hE, ⟨r1, r2, r3, r4⟩, rfl⟩ := C
  intro H locs ls hP hD hS hl
  obtain ⟨K1, K2, K3, K4⟩ := K
  obtain ⟨L1, L2, L3, L4, L5, L6, L7⟩ := L
  refine va_new (ci := ci) (fs := zs) (C := ea_cR ci) (T := ea_cT ci) (N := ea_cN ci) hx hb hts (ea_cIn K1) (ea_cY ci) (ea_cTy K1) hown (hts _ K2) (hts _ K3) (hts _ K4) hE.1 hP hD hS hA (ea_cCl K1) hz (by omega) (by omega) hd1 (fun q H hP hD hS => ?_)
  refine lv_dup hx hb hd2 rfl ?_
  have hC : [Y.length].map (fun i => (Y ++ [(q, (.inr (ci, zs) : va_E))])[i]?) = [(q, (.inr (ci, zs) : va_E))].map some := by simp
  have hR : (List.range' 0 Y.length).map (fun i => (Y ++ [(q, (.inr (ci, zs) : va_E))])[i]?) = Y.map some := by
    apply List.ext_getElem?
    intro i
    rw [List.getElem?_map, List.getElem?_map]
    by_cases hi : i < Y.length
    · rw [List.getElem?_range' hi]
      simp [List.getElem?_append_left hi, List.getElem?_eq_getElem hi]
    · rw [List.getElem?_eq_none (by simpa using hi), List.getElem?_eq_none (by simpa using hi)]
      rfl
  have hPc : va_P g.1 vwCl [(q, .inr (ci, zs))] H := fun k x hx => by
    have hk : k < 1 := (List.getElem?_eq_some_iff.mp hx).1
    have hk0 : k = 0 := by omega
    subst hk0
    cases hx
    exact hP Y.length _ (by simp)
  have hDc : va_D (fun _ => True) [(q, (.inr (ci, zs) : va_E))] := ⟨fun i j p q hi hj _ => by
    have h1 : i < 1 := (List.getElem?_eq_some_iff.mp hi).1
    have h2 : j < 1 := (List.getElem?_eq_some_iff.mp hj).1
    omega, fun _ _ _ => trivial⟩
  have hFc := va_free (wc := [(q, .inr (ci, zs))]) hD hS hA [Y.length] hC
  have hblind : FrameBlind (va_Pc [Value.ref q] (cn_Pr g H.size [(q, .inr (ci, zs))])) := by
    intro a U f mk z
    obtain ⟨q0, q1, q2, q3, q4⟩ := z
    exact ⟨q0, q1, q2, q3, q4.same (U := U.calling f mk a) rfl⟩
  have hpre : ∀ U : State, U.heap = H → s.WarmedH U.vm → va_Pc [Value.ref q] (cn_Pr g H.size [(q, .inr (ci, zs))]) ([Value.ref q] : List Value).toArray U := fun U hU hW => ⟨rfl, by rw [hU], by rw [hU]; exact hPc, hDc, hE.moved hW⟩
  have hroom : 2 * (F0 m (pc + 3 + 1) ls (.ref q :: .ref q :: st)).monitorRoom + ((.ref q :: st).map fun v => v.category).sum ≤ 8 := lv_room (by
    show (Value.ref q).category + (st.map fun v => v.category).sum ≤ 8
    have : (Value.ref q).category = 1 := rfl
    omega)
  have run : va_Run p l e R s m args below meth c H locs (cl + 1) (sl + ea_cN ci) mc ms (F0 m (pc + 3 + 1) ls (.ref q :: .ref q :: st)) (.ref q :: st) (cn_Q g (post g) q (va_A [(q, .inr (ci, zs))] H.size) ([Value.ref q] : List Value).toArray) (va_A [(q, .inr (ci, zs))] H.size) := by
    rcases L1 with L1 | L1
    · exact va_runIN (As := []) (rest := .ref q :: st) ⟨hx, hb, hml, hown, hts⟩ (hM l g H.size q) ⟨va_cnB 0 hts (ea_goodIn L2) rfl rfl rfl (hE.2.1 _ L1) (hts _ L3) L4 ⟨Nat.le_trans hd' r1, by show 8 + (nL' + 11) + 40 * d' ≤ R.locals; omega⟩, L7, hts _ L6⟩ ⟨hblind, hpre⟩ rfl rfl hl.1 rfl hroom hd3 ⟨by omega, by omega⟩
    · exact va_runI (As := []) (rest := .ref q :: st) ⟨hx, hb, hml, hown, hts⟩ (hM l g H.size q) ⟨callB_of 0 hts (ea_goodIn L2) rfl rfl rfl (hts _ L3) (hts _ L1) L4 ⟨Nat.le_trans hd' r1, by show 8 + (nL' + 11) + 40 * d' ≤ R.locals; omega⟩, L7, hts _ L6⟩ ⟨hblind, hpre⟩ rfl rfl hl.1 rfl hroom hd3 ⟨by omega, by omega⟩
  refine va_callv run hS (fun q _ h => hFc q h) hFc (fun ad t H1 locs1 ht hvm hw hB hz1 hk1 hS => ?_)
  obtain ⟨hP1, hD1⟩ := hB
  rw [ht] at hP1
  obtain ⟨hP, hD⟩ := va_join (wr := Y) (w1 := post g ad) hP hD [Y.length] (List.range' 0 Y.length) hC hR (va_nd_range _ _) (fun i hi => by
    rw [List.mem_range'_1] at hi
    simp
    omega) hk1 hFc hP1 hD1
  have := h ad H1 locs1 ls hP hD hS hl
  rw [hw] at this
  exact this
