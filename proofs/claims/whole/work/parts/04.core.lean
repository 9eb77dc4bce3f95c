/-! THE LIGHT LOGIC. A frame of a method, the whole world of both objects in one list of 79 cells (ids 0 .. 78, addresses by a map), the numbers in them as ea_M: id, place, value. -/
abbrev ea_M : Type := Nat → Nat → Int32
abbrev ea_G : Type := va_G × (Nat → ClassId) × (Nat → Nat) × (Nat → Nat)
def ea_tr (g : ea_G) : Value → Value := fun v => match v with
  | .ref a => .ref (g.2.2.1 a)
  | v => v
/-- what a cell is: 0 .. 7 the class's number, 1000 + n a row of n ints, 2000 + n of booleans, 3000 + n of books, 4000 + n of warmths -/
def ea_kL : List Nat := [6, 2, 3, 1200,
  4, 1042, 1006, 1006, 1006, 1010, 1011, 5, 1010,
  4, 1042, 1006, 1006, 1006, 1010, 1011, 5, 1010,
  5, 1010,
  1, 4008, 4002, 1002, 5, 1010, 5, 1010, 5, 1010, 5, 1010, 5, 1010, 5, 1010, 5, 1010, 5, 1010, 5, 1010, 5, 1010,
  3003, 0, 1008, 1008, 1008, 0, 1008, 1008, 1008, 0, 1008, 1008, 1008,
  7, 1192, 1006, 1006, 1042, 1006, 1010, 2002, 1200, 1003, 1024, 1024, 1024, 1042, 1006, 1003, 1025, 1011]
def ea_kd (x : Nat) : Nat := ea_kL.getD x 9999
def ea_fl (ci x : Nat) (r : Nat → Int32) : List Value := match ci with
  | 0 => [.int (r 0), .int (r 1), .ref (x + 1), .ref (x + 2), .ref (x + 3)]
  | 1 => [.ref (x + 1), .ref (x + 2), .ref (x + 3), .int (r 3), .int (r 4)]
  | 2 => [.ref (x + 1), .ref (x + 3), .int (r 2)]
  | 3 => [.ref (x + 1), .int (r 1), .int (r 2), .int (r 3), .int (r 4)]
  | 4 => [.int (r 0), .ref (x + 1), .ref (x + 2), .ref (x + 3), .ref (x + 4), .int (r 5), .ref (x + 5), .ref (x + 7), .ref (x + 6)]
  | 5 => [.ref (x + 1), .int (r 1), .int (r 2), .int (r 3), .int (r 4), .int (r 5), .int (r 6)]
  | 6 => [.ref (x + 1), .ref (x + 13), .ref (x + 22), .ref (x + 24), .ref (x + 48)]
  | _ => [.ref (x + 1), .int (r 1), .ref (x + 2), .ref (x + 3), .ref (x + 4), .ref (x + 5), .int (r 6), .ref (x + 6), .int (r 8), .ref (x + 7), .ref (x + 8), .int (r 11), .ref (x + 9), .ref (x + 10), .ref (x + 11), .ref (x + 12), .int (r 16), .int (r 17), .int (r 18), .int (r 19), .ref (x + 13), .ref (x + 14), .int (r 22), .int (r 23), .ref (x + 15), .ref (x + 16), .ref (x + 17)]
/-- what a row of references holds -/
def ea_ra (x : Nat) : Nat → Option Nat := fun i => if x = 25 then some (28 + 2 * i) else if x = 26 then some (44 + 2 * i) else some (49 + 4 * i)
def ea_ce (g : ea_G) (x : Nat) (r : Nat → Int32) : va_E :=
  if ea_kd x < 1000 then .inr (ea_kd x, (ea_fl (ea_kd x) x r).map (ea_tr g))
  else if ea_kd x < 2000 then .inl (g.2.1 0, ea_kd x - 1000, .inl r)
  else if ea_kd x < 3000 then .inl (g.2.1 1, ea_kd x - 2000, .inl r)
  else if ea_kd x < 4000 then .inl (g.2.1 2, ea_kd x - 3000, .inr (.inr (.inr (.inr (fun i => (ea_ra x i).map g.2.2.1)))))
  else .inl (g.2.1 3, ea_kd x - 4000, .inr (.inr (.inr (.inr (fun i => (ea_ra x i).map g.2.2.1)))))
def ea_Wd (g : ea_G) (M : ea_M) : va_W := (List.range 79).map (fun x => (g.2.2.1 x, ea_ce g x (M x)))
def ea_up (M : ea_M) (x k : Nat) (v : Int32) : ea_M := fun a => if a = x then upd (M x) k v else M a
theorem ea_Wd_at (g : ea_G) (M : ea_M) {x : Nat} (h : x < 79) : (ea_Wd g M)[x]? = some (g.2.2.1 x, ea_ce g x (M x)) := by
  simp [ea_Wd, List.getElem?_map, List.getElem?_range h]
theorem ea_Wd_set (g : ea_G) (M : ea_M) {x : Nat} (h : x < 79) (k : Nat) (v : Int32) : (ea_Wd g M).set x (g.2.2.1 x, ea_ce g x (upd (M x) k v)) = ea_Wd g (ea_up M x k v) := by
  apply List.ext_getElem?
  intro j
  rw [List.getElem?_set]
  by_cases hj : j < 79
  · rw [ea_Wd_at g _ hj, ea_Wd_at g _ hj]
    by_cases e : x = j
    · subst e
      simp [ea_Wd, h, ea_up]
    · have e2 : j ≠ x := fun q => e q.symm
      simp [e, ea_up, e2]
  · have e : ¬ x = j := fun q => hj (q ▸ h)
    simp [e, ea_Wd, hj]
theorem ea_D_any {g : ea_G} {A : Nat → Prop} {M M' : ea_M} (h : va_D A (ea_Wd g M)) : va_D A (ea_Wd g M') := by
  have key : ∀ (N : ea_M) (i : Nat) (p : Nat × va_E), (ea_Wd g N)[i]? = some p → i < 79 ∧ p.1 = g.2.2.1 i := by
    intro N i p hp
    by_cases hi : i < 79
    · rw [ea_Wd_at g N hi] at hp
      cases hp
      exact ⟨hi, rfl⟩
    · simp [ea_Wd, hi] at hp
  refine ⟨fun i j p q hi hj e => ?_, fun i p hi => ?_⟩
  · obtain ⟨a1, a2⟩ := key _ _ _ hi
    obtain ⟨b1, b2⟩ := key _ _ _ hj
    exact h.1 i j _ _ (ea_Wd_at g M a1) (ea_Wd_at g M b1) (by rw [← a2, ← b2]; exact e)
  · obtain ⟨a1, a2⟩ := key _ _ _ hi
    rw [a2]
    exact h.2 i _ (ea_Wd_at g M a1)
theorem ea_A_any (g : ea_G) (M M' : ea_M) (sz : Nat) : va_A (ea_Wd g M) sz = va_A (ea_Wd g M') sz := by
  have key : ∀ (N N' : ea_M) (q : Nat), va_A (ea_Wd g N) sz q → va_A (ea_Wd g N') sz q := by
    intro N N' q h
    rcases h with ⟨k, e, h⟩ | h
    · by_cases hk : k < 79
      · rw [ea_Wd_at g N hk] at h
        cases h
        exact Or.inl ⟨k, _, ea_Wd_at g N' hk⟩
      · simp [ea_Wd, hk] at h
    · exact Or.inr h
  funext q
  exact propext ⟨key M M' q, key M' M q⟩
def ea_ty (g : ea_G) : List (ClassId × FieldType) := [(g.2.1 0, .int), (g.2.1 1, .boolean), (g.2.1 2, .object RX0), (g.2.1 3, .object RX5)]
/-- the words on private members of a nest mate (constructors apart) -/
def ea_NS : List (String × Nat × MethodName) := [(RX0, 25, yX6_at), (RX0, 29, yX6_set), (RX1, 29, yX6_set), (RX1, 50, yX6_at), (RX2, 135, yX6_set), (RX3, 19, yX6_set), (RX3, 26, yX6_at), (RX4, 122, yX6_cut), (RX4, 143, yX6_halfResists), (RX4, 41, yX6_copyRow), (RX4, 61, yX6_at), (RX4, 71, yX6_set), (RX4, 95, yX6_isHeat), (RX5, 19, yX6_copyRow), (RX5, 38, yX6_total)]
def ea_lenS : List Nat := [4, 5, 5, 3, 4]
def ea_bytS : List (List Int32) := [[119, 97, 108, 108], [115, 116, 117, 102, 102], [108, 97, 121, 101, 114], [97, 105, 114], [104, 101, 97, 116]]
def ea_cpS : List (Nat × String) := [(53, "wall"), (65, "stuff"), (70, "layer"), (75, "air"), (80, "heat")]
/-- what stands of the tables, of the JDK's statics and of the texts, as long as only the world is written -/
def ea_En (g : ea_G) (A : Nat → Prop) (U : State) (H : Heap) : Prop :=
  va_K g.1 vwCl (ea_ty g) U ∧ (∀ w ∈ ea_NS, va_Nw (.methodLinkNest w.1 w.2.1 w.2.2 "WallHeat") U) ∧ vk_S 5 ea_lenS ea_bytS (fun i => g.2.2.1 (200 + i)) (fun i => g.2.2.1 (220 + i)) A U H ∧ va_Z "java/lang/String" "COMPACT_STRINGS" "Z" (.int 1) A U H ∧
  (∀ (i : Nat) (q : Nat × String), ea_cpS[i]? = some q → vk_R RX2 q.1 q.2 (g.2.2.1 (200 + i)) U) ∧ (va_Z "jdk/internal/util/Preconditions" "SIOOBE_FORMATTER" "Ljava/util/function/BiFunction;" .null A U H ∨ va_Z "jdk/internal/util/Preconditions" "SIOOBE_FORMATTER" "Ljava/util/function/BiFunction;" (.ref (g.2.2.1 210)) A U H)
def ea_Pr (g : ea_G) (sz : Nat) (M : ea_M) (U : State) : Prop := U.heap.size = sz ∧ va_P g.1 vwCl (ea_Wd g M) U.heap ∧ va_D (fun _ => True) (ea_Wd g M) ∧ ea_En g (va_A (ea_Wd g M) sz) U U.heap
def ea_Q (g : ea_G) (o : Option Value) (M : ea_M) (A : Nat → Prop) : Array Value → State → Outcome → State → Prop := fun _ st oc t => (oc = .returned o ∧ va_P g.1 vwCl (ea_Wd g M) t.heap) ∧ va_F A st t
def ea_rm (d : Nat) : Room := { frames := d, cells := 0, slots := 0, locals := 40 * d }
/-- a method's contract: from a world M with these arguments (ids for references) it returns o, and the world is M' -/
def ea_Sp (d : Nat) (y : MethodName) (cc : ByteArray) (nL : Nat) (ret : Option FieldType) (as : List Value) (M : ea_M) (o : Option Value) (M' : ea_M) : Prop :=
  ∀ (l : Launch) (g : ea_G) (sz : Nat), Met l y (.code y cc nL ret :: wsL_law) (ea_rm d) (va_Pc (as.map (ea_tr g)) (ea_Pr g sz M)) (ea_Q g (o.map (ea_tr g)) M' (va_A (ea_Wd g M) sz)) 0 0 (va_A (ea_Wd g M) sz)
abbrev ea_K : Type := Program × Launch × Env × Room × State × MethodId × Array Value × List Frame × Method × Code × (State → Prop) × (Nat → Prop) × Nat × Nat × Nat × ea_G
def ea_E (k : ea_K) (pc : Nat) (lv : List (Nat × Value)) (st : List Value) (M : ea_M) : Prop := match k with
  | (p, l, e, R, s, m, args, below, meth, c, Q, A, cells, slots, nL, g) => ∀ (H : Heap) (locs : List Loc) (ls : Array Slot), va_P g.1 vwCl (ea_Wd g M) H → va_S A s.heap H locs → lv_has ls nL (lv.map (fun q => (q.1, ea_tr g q.2))) → W p l e R s m args below meth c H locs cells slots Q (F0 m pc ls (st.map (ea_tr g)))
def ea_C (k : ea_K) (own : String) (cc : ByteArray) (nL' d : Nat) : Prop := match k with
  | (p, l, e, R, s, m, args, below, meth, c, Q, A, cells, slots, nL, g) => p.tables.exec = Jvm.exec ∧ c.code = cc ∧ c.maxLocals = nL ∧ s.vm.findClass own = some m.cls ∧ (∀ w ∈ wsL_law, w.before args s = true) ∧ meth.locks = false ∧ va_D A (ea_Wd g (fun _ _ => 0)) ∧ (∀ q, s.heap.size ≤ q → A q) ∧ ea_En g A s s.heap ∧ (d ≤ R.frames ∧ 40 * d ≤ R.locals ∧ cells ≤ R.cells ∧ slots ≤ R.slots) ∧ nL = nL'
def ea_X (k : ea_K) (ret : Option FieldType) (o : Option Value) (M' : ea_M) : Prop := match k with
  | (p, l, e, R, s, m, args, below, meth, c, Q, A, cells, slots, nL, g) => meth.sig.returnType = ret ∧ Q = MQ below (ea_Q g (o.map (ea_tr g)) M' A) args s cells slots A
theorem ea_En.moved {g : ea_G} {A : Nat → Prop} {u U : State} {H : Heap} (hW : u.WarmedH U.vm) (h : ea_En g A u H) : ea_En g A U H :=
  ⟨h.1.moved hW.alike, fun w hw => (h.2.1 w hw).warmM hW, h.2.2.1.moved hW.alike, h.2.2.2.1.moved hW.alike, fun i q hq => (h.2.2.2.2.1 i q hq).warm hW, h.2.2.2.2.2.imp (fun z => z.moved hW.alike) (fun z => z.moved hW.alike)⟩
theorem ea_En.same {g : ea_G} {A : Nat → Prop} {u U : State} {H : Heap} (hv : u.vm = U.vm) (h : ea_En g A u H) : ea_En g A U H := by
  have ha : u.vm.Alike U.vm := by rw [hv]; exact Vm.Alike.refl _
  exact ⟨h.1.moved ha, fun w hw => (h.2.1 w hw).same rfl hv, h.2.2.1.moved ha, h.2.2.2.1.moved ha, fun i q hq => (h.2.2.2.2.1 i q hq).same hv.symm, h.2.2.2.2.2.imp (fun z => z.moved ha) (fun z => z.moved ha)⟩
theorem ea_En.kept {g : ea_G} {A : Nat → Prop} {U : State} {H H1 : Heap} (h : ea_En g A U H) (hq : ∀ a : Nat, a < H.size → ¬ A a → H1[a]? = H[a]?) : ea_En g A U H1 :=
  ⟨h.1, h.2.1, h.2.2.1.kept hq, h.2.2.2.1.kept hq, h.2.2.2.2.1, h.2.2.2.2.2.imp (fun z => z.kept hq) (fun z => z.kept hq)⟩
theorem ea_En.narrow {g : ea_G} {A B : Nat → Prop} {U : State} {H : Heap} (h : ea_En g A U H) (hAB : ∀ q, B q → A q) : ea_En g B U H :=
  ⟨h.1, h.2.1, h.2.2.1.narrow hAB, h.2.2.2.1.narrow hAB, h.2.2.2.2.1, h.2.2.2.2.2.imp (fun z => z.narrow hAB) (fun z => z.narrow hAB)⟩
theorem ea_blind (g : ea_G) (as : List Value) (sz : Nat) (M : ea_M) : FrameBlind (va_Pc as (ea_Pr g sz M)) := by
  intro a U f mk q
  obtain ⟨q0, q1, q2, q3, q4⟩ := q
  exact ⟨q0, q1, q2, q3, q4.same (U := U.calling f mk a) rfl⟩
theorem ea_args (g : ea_G) : ∀ (as : List Value) (j : Nat), lv_args j (as.map (ea_tr g)) = (lv_args j as).map (fun q => (q.1, ea_tr g q.2)) := by
  intro as
  induction as with
  | nil => intro j; rfl
  | cons v as ih =>
    intro j
    have hc : (ea_tr g v).category = v.category := by cases v <;> rfl
    show (j, ea_tr g v) :: lv_args (if (ea_tr g v).category = 2 then j + 2 else j + 1) (as.map (ea_tr g)) = _
    rw [hc, ih]
    rfl
theorem ea_good : ∀ w ∈ wsL_law, (w.onTables && w.keeps) = true ∨ ∃ ty, w = .arrayClass ty := by
  have h : wsL_law.all goodWord = true := by decide +kernel
  intro w hw
  exact good_of_word (List.all_eq_true.mp h w hw)
theorem ea_goodIn {w : Cond} (h : w ∈ wsL_law) : GoodIn wsL_law (w :: wsL_law) := by
  intro v hv
  rcases List.mem_cons.mp hv with rfl | hv
  · exact ⟨h, ea_good _ h⟩
  · exact ⟨hv, ea_good _ hv⟩
set_option maxHeartbeats 1000000 in
/-- a contract out of the walk of its body -/
theorem ea_intro {d : Nat} {y : MethodName} {cc : ByteArray} {nL : Nat} {ret : Option FieldType} {as : List Value} {M : ea_M} {o : Option Value} {M' : ea_M} {own : String} (hy : plainName y.cls = true) (hown : y.cls = own) (hsl : ∀ g : ea_G, (lg_sl (as.map (ea_tr g))).length ≤ nL)
    (body : ∀ k : ea_K, ea_C k own cc nL d → ea_X k ret o M' → ea_E k 0 (lv_args 0 as) [] M) : ea_Sp d y cc nL ret as M o M' := by
  subst hown
  intro l g sz
  refine Met.ofW (cc := cc) (maxL := nL) (ret := ret) hy rfl ?_
  intro p e s m args below meth c s₁ B hml hv
  obtain ⟨rfl, hsz, hP, hD0, hE⟩ := hv
  have hts : ∀ w ∈ wsL_law, w.before (as.map (ea_tr g)).toArray s = true := fun w hw => atoms_spec B.pre w (List.mem_cons_of_mem _ hw)
  subst hsz
  rw [lg_entry_eq]
  have hl := lv_entry (as.map (ea_tr g)) (n := nL) (hsl g)
  rw [ea_args] at hl
  exact body (p, l, e, ea_rm d, s, m, (as.map (ea_tr g)).toArray, below, meth, c, _, va_A (ea_Wd g M) s.heap.size, 0, 0, nL, g) ⟨B.exec, B.bytes, hml, findClass_of_methodNamed B.named, hts, B.notSynchronized, ea_D_any hD0.self, fun q h => Or.inr h, hE, ⟨Nat.le_refl _, Nat.le_refl _, Nat.le_refl _, Nat.le_refl _⟩, rfl⟩ ⟨B.returns, rfl⟩ s.heap [] _ hP va_S.rf hl
