/-! ===== the law's loop ===== -/
/-- the script of the law's frame: id 300 -/
def ea_Sc (k : ea_K) (L : Nat) (xs : Nat → Int32) : Prop := match k with
  | (p, l, e, R, s, m, args, below, meth, c, Q, A, cells, slots, nL, g) => va_X (g.2.2.1 300) L xs s s.heap ∧ g.2.2.1 300 < s.heap.size ∧ ¬ A (g.2.2.1 300)
theorem e_slen0 {k : ea_K} {own : String} {cc : ByteArray} {nL d L : Nat} {xs : Nat → Int32} (C : ea_C k own cc nL d) (S : ea_Sc k L xs) {pc : Nat} {lv : List (Nat × Value)} {st : List Value} {M : ea_M} (hd : decode cc pc = .ok (.arraylength, 1)) (h : ea_E k (pc + 1) lv (.int (nI L) :: st) M) : ea_E k pc lv (.ref 300 :: st) M := by
  obtain ⟨p, l, e, R, s, m, args, below, meth, c, Q, A, cells, slots, nL0, g⟩ := k
  obtain ⟨hx, hb, hml, hown, hts, hlk, hD, hA, hE, hroom, rfl⟩ := C
  intro H locs ls hP hS hl
  exact va_slen hx hb S.1 S.2.1 S.2.2 hS hd (h H locs ls hP hS hl)
theorem e_sld0 {k : ea_K} {own : String} {cc : ByteArray} {nL d L : Nat} {xs : Nat → Int32} (C : ea_C k own cc nL d) (S : ea_Sc k L xs) {pc : Nat} {lv : List (Nat × Value)} {st : List Value} {M : ea_M} {i : Int32} (hin : vp_in i L) (hd : decode cc pc = .ok (.iaload, 1)) (h : ea_E k (pc + 1) lv (.int (xs i.toNatClampNeg) :: st) M) : ea_E k pc lv (.int i :: .ref 300 :: st) M := by
  obtain ⟨p, l, e, R, s, m, args, below, meth, c, Q, A, cells, slots, nL0, g⟩ := k
  obtain ⟨hx, hb, hml, hown, hts, hlk, hD, hA, hE, hroom, rfl⟩ := C
  intro H locs ls hP hS hl
  exact va_sld hx hb S.1 S.2.1 S.2.2 hS hin hd (h H locs ls hP hS hl)
theorem Rel_cgN {s : sg} {M N N' : ea_M} (h : Rel s M N) (e : ∀ a, 61 ≤ a → N' a = N a) : Rel s M N' :=
  Rel_q h rfl (fun _ _ => rfl) (fun k _ => by rw [e 61 (by decide)]) (fun j _ => by rw [e 62 (by decide)]) (fun a ha => e a (by omega))
theorem Rel_cgM {s : sg} {M M' N : ea_M} (h : Rel s M N) (e : ∀ a, a < 61 → M' a = M a) : Rel s M' N :=
  Rel_q h (by rw [e 2 (by decide)]) (fun a ha => e a (by omega)) (fun _ _ => rfl) (fun _ _ => rfl) (fun _ _ => rfl)
/-- a call of the one, the same call of the other -/
theorem pm_two {dx : Nat} {yx : MethodName} {cx : ByteArray} {nx dm : Nat} {ym : MethodName} {cm : ByteArray} {nm : Nat} {ret : Option FieldType} {as : List Value} (h : pm dx yx cx nx dm ym cm nm ret as) {s : sg} {M : ea_M} (hR : Rel s M M) : ∃ (r : ea_V ret) (M1 M2 : ea_M) (s' : sg), ea_Sp dx yx cx nx ret (.ref 0 :: as) M (some r.v) M1 ∧ ea_Sp dm ym cm nm ret (.ref 61 :: as) M1 (some r.v) M2 ∧ Rel s' M2 M2 := by
  obtain ⟨r, M1, s', h1, h2, h3⟩ := h s M M hR
  obtain ⟨M2, h4, h5, h6⟩ := h3 M1 (Rel_cgN hR h2)
  exact ⟨r, M1, M2, s', h1, h4, Rel_cgM h6 h5⟩
theorem and31 (x : Int32) : ∃ j : Nat, j < 32 ∧ x &&& 31 = nI j := by
  refine ⟨(x &&& 31).toBitVec.toNat, ?_, ?_⟩
  · rw [Int32.toBitVec_and, BitVec.toNat_and]
    exact Nat.lt_of_le_of_lt Nat.and_le_right (by decide)
  · apply Int32.toBitVec_inj.mp
    show _ = (Int32.ofNat _).toBitVec
    rw [Int32.toBitVec_ofNat']
    simp
theorem law_gt {L i : Nat} (h : ¬ i + 5 ≤ L) (h2 : i ≤ L + 5) (hL : L ≤ 2560) : nI L - 5 < nI i := by
  rcases Nat.lt_or_ge L 5 with z | z
  · have h0 : (-1 : Int32) < nI i := Int32.lt_of_lt_of_le (by decide) (nI_pos' (show i < 2 ^ 31 by omega))
    rcases (show L = 0 ∨ L = 1 ∨ L = 2 ∨ L = 3 ∨ L = 4 by omega) with rfl | rfl | rfl | rfl | rfl
    all_goals exact Int32.lt_of_le_of_lt (b := (-1 : Int32)) (by decide) h0
  · rw [show (5 : Int32) = nI 5 from rfl, pk_sub z]
    exact nI_lt (by omega) (by omega)
theorem law_le {L i : Nat} (h : i + 5 ≤ L) (hL : L ≤ 2560) : ¬ nI L - 5 < nI i := by
  rw [show (5 : Int32) = nI 5 from rfl, pk_sub (show 5 ≤ L by omega)]
  exact nI_nlt (by omega) (by omega)
section LAW
variable {k : ea_K} {L : Nat} {xs : Nat → Int32}
theorem law_c0 (C : ea_C k RL cL_law 4 10) (S : ea_Sc k L xs) (hL : L ≤ 2560) {s : sg} {M : ea_M} {i : Nat} (hi : i + 5 ≤ L) (hR : Rel s M M) (next : ∀ (s' : sg) (M2 : ea_M), Rel s' M2 M2 → ea_E k 925 [(0, .ref 300), (1, .ref 0), (2, .ref 61), (3, .int (nI i))] [] M2) : ea_E k 160 [(0, .ref 300), (1, .ref 0), (2, .ref 61), (3, .int (nI i))] [] M := by
  have v1 : vp_in (nI i + 1) L := by
    rw [show ((1 : Int32)) = nI 1 from rfl, nI_add]
    exact vp_in_nI (by omega) (by omega)
  obtain ⟨r, M1, M2, s', h1, h2, hR2⟩ := pm_two (pm_write (xs (nI i + 1).toNatClampNeg)) hR
  refine e_aload_n (n := 1) C dL_law_160 rfl rfl ?_
  refine e_aload_n (n := 0) C dL_law_161 rfl rfl ?_
  refine e_iload_n (n := 3) C dL_law_162 rfl rfl ?_
  refine e_iconst (v := 1) C dL_law_163 (by decide) ?_
  refine e_iadd C dL_law_164 ?_
  refine e_sld0 C S v1 dL_law_165 ?_
  refine e_callV1 (as := [.int (xs (nI i + 1).toNatClampNeg)]) (rest := []) C lk_L_13 h1 (by decide) rfl (by decide) rfl (by decide) rfl rfl (Nat.le_of_ble_eq_true rfl) dL_law_166 ?_
  refine e_aload_n (n := 2) C dL_law_169 rfl rfl ?_
  refine e_aload_n (n := 0) C dL_law_170 rfl rfl ?_
  refine e_iload_n (n := 3) C dL_law_171 rfl rfl ?_
  refine e_iconst (v := 1) C dL_law_172 (by decide) ?_
  refine e_iadd C dL_law_173 ?_
  refine e_sld0 C S v1 dL_law_174 ?_
  refine e_callV1 (as := [.int (xs (nI i + 1).toNatClampNeg)]) (rest := [r.v]) C lk_L_17 h2 (by decide) rfl (by decide) rfl (by decide) rfl rfl (Nat.le_of_ble_eq_true rfl) dL_law_175 ?_
  refine e_icmp_eq (tgt := 925) C dL_law_178 (by decide) (fun _ => ?_) (fun z => absurd rfl z)
  exact next s' M2 hR2
theorem law_c1 (C : ea_C k RL cL_law 4 10) (S : ea_Sc k L xs) (hL : L ≤ 2560) {s : sg} {M : ea_M} {i : Nat} (hi : i + 5 ≤ L) (hR : Rel s M M) (next : ∀ (s' : sg) (M2 : ea_M), Rel s' M2 M2 → ea_E k 925 [(0, .ref 300), (1, .ref 0), (2, .ref 61), (3, .int (nI i))] [] M2) : ea_E k 183 [(0, .ref 300), (1, .ref 0), (2, .ref 61), (3, .int (nI i))] [] M := by
  obtain ⟨r, M1, M2, s', h1, h2, hR2⟩ := pm_two (pm_erase) hR
  refine e_aload_n (n := 1) C dL_law_183 rfl rfl ?_
  refine e_callV1 (as := []) (rest := []) C lk_L_18 h1 (by decide) rfl (by decide) rfl (by decide) rfl rfl (Nat.le_of_ble_eq_true rfl) dL_law_184 ?_
  refine e_aload_n (n := 2) C dL_law_187 rfl rfl ?_
  refine e_callV1 (as := []) (rest := [r.v]) C lk_L_22 h2 (by decide) rfl (by decide) rfl (by decide) rfl rfl (Nat.le_of_ble_eq_true rfl) dL_law_188 ?_
  refine e_icmp_eq (tgt := 925) C dL_law_191 (by decide) (fun _ => ?_) (fun z => absurd rfl z)
  exact next s' M2 hR2
theorem law_c2 (C : ea_C k RL cL_law 4 10) (S : ea_Sc k L xs) (hL : L ≤ 2560) {s : sg} {M : ea_M} {i : Nat} (hi : i + 5 ≤ L) (hR : Rel s M M) (next : ∀ (s' : sg) (M2 : ea_M), Rel s' M2 M2 → ea_E k 925 [(0, .ref 300), (1, .ref 0), (2, .ref 61), (3, .int (nI i))] [] M2) : ea_E k 196 [(0, .ref 300), (1, .ref 0), (2, .ref 61), (3, .int (nI i))] [] M := by
  obtain ⟨r, M1, M2, s', h1, h2, hR2⟩ := pm_two (pm_fault) hR
  refine e_aload_n (n := 1) C dL_law_196 rfl rfl ?_
  refine e_callV1 (as := []) (rest := []) C lk_L_23 h1 (by decide) rfl (by decide) rfl (by decide) rfl rfl (Nat.le_of_ble_eq_true rfl) dL_law_197 ?_
  refine e_aload_n (n := 2) C dL_law_200 rfl rfl ?_
  refine e_callV1 (as := []) (rest := [r.v]) C lk_L_26 h2 (by decide) rfl (by decide) rfl (by decide) rfl rfl (Nat.le_of_ble_eq_true rfl) dL_law_201 ?_
  refine e_icmp_eq (tgt := 925) C dL_law_204 (by decide) (fun _ => ?_) (fun z => absurd rfl z)
  exact next s' M2 hR2
theorem law_c3 (C : ea_C k RL cL_law 4 10) (S : ea_Sc k L xs) (hL : L ≤ 2560) {s : sg} {M : ea_M} {i : Nat} (hi : i + 5 ≤ L) (hR : Rel s M M) (next : ∀ (s' : sg) (M2 : ea_M), Rel s' M2 M2 → ea_E k 925 [(0, .ref 300), (1, .ref 0), (2, .ref 61), (3, .int (nI i))] [] M2) : ea_E k 209 [(0, .ref 300), (1, .ref 0), (2, .ref 61), (3, .int (nI i))] [] M := by
  obtain ⟨r, M1, M2, s', h1, h2, hR2⟩ := pm_two (pm_wall) hR
  refine e_aload_n (n := 1) C dL_law_209 rfl rfl ?_
  refine e_callV1 (as := []) (rest := []) C lk_L_27 h1 (by decide) rfl (by decide) rfl (by decide) rfl rfl (Nat.le_of_ble_eq_true rfl) dL_law_210 ?_
  refine e_aload_n (n := 2) C dL_law_213 rfl rfl ?_
  refine e_callV1 (as := []) (rest := [r.v]) C lk_L_30 h2 (by decide) rfl (by decide) rfl (by decide) rfl rfl (Nat.le_of_ble_eq_true rfl) dL_law_214 ?_
  refine e_icmp_eq (tgt := 925) C dL_law_217 (by decide) (fun _ => ?_) (fun z => absurd rfl z)
  exact next s' M2 hR2
theorem law_c4 (C : ea_C k RL cL_law 4 10) (S : ea_Sc k L xs) (hL : L ≤ 2560) {s : sg} {M : ea_M} {i : Nat} (hi : i + 5 ≤ L) (hR : Rel s M M) (next : ∀ (s' : sg) (M2 : ea_M), Rel s' M2 M2 → ea_E k 925 [(0, .ref 300), (1, .ref 0), (2, .ref 61), (3, .int (nI i))] [] M2) : ea_E k 222 [(0, .ref 300), (1, .ref 0), (2, .ref 61), (3, .int (nI i))] [] M := by
  obtain ⟨r, M1, M2, s', h1, h2, hR2⟩ := pm_two (pm_find) hR
  refine e_aload_n (n := 1) C dL_law_222 rfl rfl ?_
  refine e_callV1 (as := []) (rest := []) C lk_L_31 h1 (by decide) rfl (by decide) rfl (by decide) rfl rfl (Nat.le_of_ble_eq_true rfl) dL_law_223 ?_
  refine e_aload_n (n := 2) C dL_law_226 rfl rfl ?_
  refine e_callV1 (as := []) (rest := [r.v]) C lk_L_34 h2 (by decide) rfl (by decide) rfl (by decide) rfl rfl (Nat.le_of_ble_eq_true rfl) dL_law_227 ?_
  refine e_icmp_eq (tgt := 925) C dL_law_230 (by decide) (fun _ => ?_) (fun z => absurd rfl z)
  exact next s' M2 hR2
theorem law_c5 (C : ea_C k RL cL_law 4 10) (S : ea_Sc k L xs) (hL : L ≤ 2560) {s : sg} {M : ea_M} {i : Nat} (hi : i + 5 ≤ L) (hR : Rel s M M) (next : ∀ (s' : sg) (M2 : ea_M), Rel s' M2 M2 → ea_E k 925 [(0, .ref 300), (1, .ref 0), (2, .ref 61), (3, .int (nI i))] [] M2) : ea_E k 235 [(0, .ref 300), (1, .ref 0), (2, .ref 61), (3, .int (nI i))] [] M := by
  have v1 : vp_in (nI i + 1) L := by
    rw [show ((1 : Int32)) = nI 1 from rfl, nI_add]
    exact vp_in_nI (by omega) (by omega)
  have v2 : vp_in (nI i + 2) L := by
    rw [show ((2 : Int32)) = nI 2 from rfl, nI_add]
    exact vp_in_nI (by omega) (by omega)
  obtain ⟨r, M1, M2, s', h1, h2, hR2⟩ := pm_two (pm_stuff (xs (nI i + 1).toNatClampNeg) (xs (nI i + 2).toNatClampNeg)) hR
  refine e_aload_n (n := 1) C dL_law_235 rfl rfl ?_
  refine e_aload_n (n := 0) C dL_law_236 rfl rfl ?_
  refine e_iload_n (n := 3) C dL_law_237 rfl rfl ?_
  refine e_iconst (v := 1) C dL_law_238 (by decide) ?_
  refine e_iadd C dL_law_239 ?_
  refine e_sld0 C S v1 dL_law_240 ?_
  refine e_aload_n (n := 0) C dL_law_241 rfl rfl ?_
  refine e_iload_n (n := 3) C dL_law_242 rfl rfl ?_
  refine e_iconst (v := 2) C dL_law_243 (by decide) ?_
  refine e_iadd C dL_law_244 ?_
  refine e_sld0 C S v2 dL_law_245 ?_
  refine e_callV1 (as := [.int (xs (nI i + 1).toNatClampNeg), .int (xs (nI i + 2).toNatClampNeg)]) (rest := []) C lk_L_35 h1 (by decide) rfl (by decide) rfl (by decide) rfl rfl (Nat.le_of_ble_eq_true rfl) dL_law_246 ?_
  refine e_aload_n (n := 2) C dL_law_249 rfl rfl ?_
  refine e_aload_n (n := 0) C dL_law_250 rfl rfl ?_
  refine e_iload_n (n := 3) C dL_law_251 rfl rfl ?_
  refine e_iconst (v := 1) C dL_law_252 (by decide) ?_
  refine e_iadd C dL_law_253 ?_
  refine e_sld0 C S v1 dL_law_254 ?_
  refine e_aload_n (n := 0) C dL_law_255 rfl rfl ?_
  refine e_iload_n (n := 3) C dL_law_256 rfl rfl ?_
  refine e_iconst (v := 2) C dL_law_257 (by decide) ?_
  refine e_iadd C dL_law_258 ?_
  refine e_sld0 C S v2 dL_law_259 ?_
  refine e_callV1 (as := [.int (xs (nI i + 1).toNatClampNeg), .int (xs (nI i + 2).toNatClampNeg)]) (rest := [r.v]) C lk_L_39 h2 (by decide) rfl (by decide) rfl (by decide) rfl rfl (Nat.le_of_ble_eq_true rfl) dL_law_260 ?_
  refine e_icmp_eq (tgt := 925) C dL_law_263 (by decide) (fun _ => ?_) (fun z => absurd rfl z)
  exact next s' M2 hR2
theorem law_c6 (C : ea_C k RL cL_law 4 10) (S : ea_Sc k L xs) (hL : L ≤ 2560) {s : sg} {M : ea_M} {i : Nat} (hi : i + 5 ≤ L) (hR : Rel s M M) (next : ∀ (s' : sg) (M2 : ea_M), Rel s' M2 M2 → ea_E k 925 [(0, .ref 300), (1, .ref 0), (2, .ref 61), (3, .int (nI i))] [] M2) : ea_E k 268 [(0, .ref 300), (1, .ref 0), (2, .ref 61), (3, .int (nI i))] [] M := by
  have v1 : vp_in (nI i + 1) L := by
    rw [show ((1 : Int32)) = nI 1 from rfl, nI_add]
    exact vp_in_nI (by omega) (by omega)
  have v2 : vp_in (nI i + 2) L := by
    rw [show ((2 : Int32)) = nI 2 from rfl, nI_add]
    exact vp_in_nI (by omega) (by omega)
  obtain ⟨r, M1, M2, s', h1, h2, hR2⟩ := pm_two (pm_cell (xs (nI i + 1).toNatClampNeg) (xs (nI i + 2).toNatClampNeg)) hR
  refine e_aload_n (n := 1) C dL_law_268 rfl rfl ?_
  refine e_aload_n (n := 0) C dL_law_269 rfl rfl ?_
  refine e_iload_n (n := 3) C dL_law_270 rfl rfl ?_
  refine e_iconst (v := 1) C dL_law_271 (by decide) ?_
  refine e_iadd C dL_law_272 ?_
  refine e_sld0 C S v1 dL_law_273 ?_
  refine e_aload_n (n := 0) C dL_law_274 rfl rfl ?_
  refine e_iload_n (n := 3) C dL_law_275 rfl rfl ?_
  refine e_iconst (v := 2) C dL_law_276 (by decide) ?_
  refine e_iadd C dL_law_277 ?_
  refine e_sld0 C S v2 dL_law_278 ?_
  refine e_callV1 (as := [.int (xs (nI i + 1).toNatClampNeg), .int (xs (nI i + 2).toNatClampNeg)]) (rest := []) C lk_L_40 h1 (by decide) rfl (by decide) rfl (by decide) rfl rfl (Nat.le_of_ble_eq_true rfl) dL_law_279 ?_
  refine e_aload_n (n := 2) C dL_law_282 rfl rfl ?_
  refine e_aload_n (n := 0) C dL_law_283 rfl rfl ?_
  refine e_iload_n (n := 3) C dL_law_284 rfl rfl ?_
  refine e_iconst (v := 1) C dL_law_285 (by decide) ?_
  refine e_iadd C dL_law_286 ?_
  refine e_sld0 C S v1 dL_law_287 ?_
  refine e_aload_n (n := 0) C dL_law_288 rfl rfl ?_
  refine e_iload_n (n := 3) C dL_law_289 rfl rfl ?_
  refine e_iconst (v := 2) C dL_law_290 (by decide) ?_
  refine e_iadd C dL_law_291 ?_
  refine e_sld0 C S v2 dL_law_292 ?_
  refine e_callV1 (as := [.int (xs (nI i + 1).toNatClampNeg), .int (xs (nI i + 2).toNatClampNeg)]) (rest := [r.v]) C lk_L_43 h2 (by decide) rfl (by decide) rfl (by decide) rfl rfl (Nat.le_of_ble_eq_true rfl) dL_law_293 ?_
  refine e_icmp_eq (tgt := 925) C dL_law_296 (by decide) (fun _ => ?_) (fun z => absurd rfl z)
  exact next s' M2 hR2
theorem law_c7 (C : ea_C k RL cL_law 4 10) (S : ea_Sc k L xs) (hL : L ≤ 2560) {s : sg} {M : ea_M} {i : Nat} (hi : i + 5 ≤ L) (hR : Rel s M M) (next : ∀ (s' : sg) (M2 : ea_M), Rel s' M2 M2 → ea_E k 925 [(0, .ref 300), (1, .ref 0), (2, .ref 61), (3, .int (nI i))] [] M2) : ea_E k 301 [(0, .ref 300), (1, .ref 0), (2, .ref 61), (3, .int (nI i))] [] M := by
  have v1 : vp_in (nI i + 1) L := by
    rw [show ((1 : Int32)) = nI 1 from rfl, nI_add]
    exact vp_in_nI (by omega) (by omega)
  have v2 : vp_in (nI i + 2) L := by
    rw [show ((2 : Int32)) = nI 2 from rfl, nI_add]
    exact vp_in_nI (by omega) (by omega)
  obtain ⟨r, M1, M2, s', h1, h2, hR2⟩ := pm_two (pm_rest (xs (nI i + 1).toNatClampNeg) (xs (nI i + 2).toNatClampNeg)) hR
  refine e_aload_n (n := 1) C dL_law_301 rfl rfl ?_
  refine e_aload_n (n := 0) C dL_law_302 rfl rfl ?_
  refine e_iload_n (n := 3) C dL_law_303 rfl rfl ?_
  refine e_iconst (v := 1) C dL_law_304 (by decide) ?_
  refine e_iadd C dL_law_305 ?_
  refine e_sld0 C S v1 dL_law_306 ?_
  refine e_aload_n (n := 0) C dL_law_307 rfl rfl ?_
  refine e_iload_n (n := 3) C dL_law_308 rfl rfl ?_
  refine e_iconst (v := 2) C dL_law_309 (by decide) ?_
  refine e_iadd C dL_law_310 ?_
  refine e_sld0 C S v2 dL_law_311 ?_
  refine e_callV1 (as := [.int (xs (nI i + 1).toNatClampNeg), .int (xs (nI i + 2).toNatClampNeg)]) (rest := []) C lk_L_44 h1 (by decide) rfl (by decide) rfl (by decide) rfl rfl (Nat.le_of_ble_eq_true rfl) dL_law_312 ?_
  refine e_aload_n (n := 2) C dL_law_315 rfl rfl ?_
  refine e_aload_n (n := 0) C dL_law_316 rfl rfl ?_
  refine e_iload_n (n := 3) C dL_law_317 rfl rfl ?_
  refine e_iconst (v := 1) C dL_law_318 (by decide) ?_
  refine e_iadd C dL_law_319 ?_
  refine e_sld0 C S v1 dL_law_320 ?_
  refine e_aload_n (n := 0) C dL_law_321 rfl rfl ?_
  refine e_iload_n (n := 3) C dL_law_322 rfl rfl ?_
  refine e_iconst (v := 2) C dL_law_323 (by decide) ?_
  refine e_iadd C dL_law_324 ?_
  refine e_sld0 C S v2 dL_law_325 ?_
  refine e_callV1 (as := [.int (xs (nI i + 1).toNatClampNeg), .int (xs (nI i + 2).toNatClampNeg)]) (rest := [r.v]) C lk_L_48 h2 (by decide) rfl (by decide) rfl (by decide) rfl rfl (Nat.le_of_ble_eq_true rfl) dL_law_326 ?_
  refine e_lc_eq (tgt := 925) C dL_law_329 dL_law_330 (by decide) (fun _ => ?_) (fun z => absurd rfl z)
  exact next s' M2 hR2
theorem law_c8 (C : ea_C k RL cL_law 4 10) (S : ea_Sc k L xs) (hL : L ≤ 2560) {s : sg} {M : ea_M} {i : Nat} (hi : i + 5 ≤ L) (hR : Rel s M M) (next : ∀ (s' : sg) (M2 : ea_M), Rel s' M2 M2 → ea_E k 925 [(0, .ref 300), (1, .ref 0), (2, .ref 61), (3, .int (nI i))] [] M2) : ea_E k 335 [(0, .ref 300), (1, .ref 0), (2, .ref 61), (3, .int (nI i))] [] M := by
  have v1 : vp_in (nI i + 1) L := by
    rw [show ((1 : Int32)) = nI 1 from rfl, nI_add]
    exact vp_in_nI (by omega) (by omega)
  obtain ⟨r, M1, M2, s', h1, h2, hR2⟩ := pm_two (pm_step (xs (nI i + 1).toNatClampNeg)) hR
  refine e_aload_n (n := 1) C dL_law_335 rfl rfl ?_
  refine e_aload_n (n := 0) C dL_law_336 rfl rfl ?_
  refine e_iload_n (n := 3) C dL_law_337 rfl rfl ?_
  refine e_iconst (v := 1) C dL_law_338 (by decide) ?_
  refine e_iadd C dL_law_339 ?_
  refine e_sld0 C S v1 dL_law_340 ?_
  refine e_callV1 (as := [.int (xs (nI i + 1).toNatClampNeg)]) (rest := []) C lk_L_49 h1 (by decide) rfl (by decide) rfl (by decide) rfl rfl (Nat.le_of_ble_eq_true rfl) dL_law_341 ?_
  refine e_aload_n (n := 2) C dL_law_344 rfl rfl ?_
  refine e_aload_n (n := 0) C dL_law_345 rfl rfl ?_
  refine e_iload_n (n := 3) C dL_law_346 rfl rfl ?_
  refine e_iconst (v := 1) C dL_law_347 (by decide) ?_
  refine e_iadd C dL_law_348 ?_
  refine e_sld0 C S v1 dL_law_349 ?_
  refine e_callV1 (as := [.int (xs (nI i + 1).toNatClampNeg)]) (rest := [r.v]) C lk_L_52 h2 (by decide) rfl (by decide) rfl (by decide) rfl rfl (Nat.le_of_ble_eq_true rfl) dL_law_350 ?_
  refine e_icmp_eq (tgt := 925) C dL_law_353 (by decide) (fun _ => ?_) (fun z => absurd rfl z)
  exact next s' M2 hR2
theorem law_c9 (C : ea_C k RL cL_law 4 10) (S : ea_Sc k L xs) (hL : L ≤ 2560) {s : sg} {M : ea_M} {i : Nat} (hi : i + 5 ≤ L) (hR : Rel s M M) (next : ∀ (s' : sg) (M2 : ea_M), Rel s' M2 M2 → ea_E k 925 [(0, .ref 300), (1, .ref 0), (2, .ref 61), (3, .int (nI i))] [] M2) : ea_E k 358 [(0, .ref 300), (1, .ref 0), (2, .ref 61), (3, .int (nI i))] [] M := by
  have v1 : vp_in (nI i + 1) L := by
    rw [show ((1 : Int32)) = nI 1 from rfl, nI_add]
    exact vp_in_nI (by omega) (by omega)
  have v2 : vp_in (nI i + 2) L := by
    rw [show ((2 : Int32)) = nI 2 from rfl, nI_add]
    exact vp_in_nI (by omega) (by omega)
  obtain ⟨r, M1, M2, s', h1, h2, hR2⟩ := pm_two (pm_heat (xs (nI i + 1).toNatClampNeg) (xs (nI i + 2).toNatClampNeg)) hR
  refine e_aload_n (n := 1) C dL_law_358 rfl rfl ?_
  refine e_aload_n (n := 0) C dL_law_359 rfl rfl ?_
  refine e_iload_n (n := 3) C dL_law_360 rfl rfl ?_
  refine e_iconst (v := 1) C dL_law_361 (by decide) ?_
  refine e_iadd C dL_law_362 ?_
  refine e_sld0 C S v1 dL_law_363 ?_
  refine e_aload_n (n := 0) C dL_law_364 rfl rfl ?_
  refine e_iload_n (n := 3) C dL_law_365 rfl rfl ?_
  refine e_iconst (v := 2) C dL_law_366 (by decide) ?_
  refine e_iadd C dL_law_367 ?_
  refine e_sld0 C S v2 dL_law_368 ?_
  refine e_callV1 (as := [.int (xs (nI i + 1).toNatClampNeg), .int (xs (nI i + 2).toNatClampNeg)]) (rest := []) C lk_L_53 h1 (by decide) rfl (by decide) rfl (by decide) rfl rfl (Nat.le_of_ble_eq_true rfl) dL_law_369 ?_
  refine e_aload_n (n := 2) C dL_law_372 rfl rfl ?_
  refine e_aload_n (n := 0) C dL_law_373 rfl rfl ?_
  refine e_iload_n (n := 3) C dL_law_374 rfl rfl ?_
  refine e_iconst (v := 1) C dL_law_375 (by decide) ?_
  refine e_iadd C dL_law_376 ?_
  refine e_sld0 C S v1 dL_law_377 ?_
  refine e_aload_n (n := 0) C dL_law_378 rfl rfl ?_
  refine e_iload_n (n := 3) C dL_law_379 rfl rfl ?_
  refine e_iconst (v := 2) C dL_law_380 (by decide) ?_
  refine e_iadd C dL_law_381 ?_
  refine e_sld0 C S v2 dL_law_382 ?_
  refine e_callV1 (as := [.int (xs (nI i + 1).toNatClampNeg), .int (xs (nI i + 2).toNatClampNeg)]) (rest := [r.v]) C lk_L_56 h2 (by decide) rfl (by decide) rfl (by decide) rfl rfl (Nat.le_of_ble_eq_true rfl) dL_law_383 ?_
  refine e_icmp_eq (tgt := 925) C dL_law_386 (by decide) (fun _ => ?_) (fun z => absurd rfl z)
  exact next s' M2 hR2
theorem law_c10 (C : ea_C k RL cL_law 4 10) (S : ea_Sc k L xs) (hL : L ≤ 2560) {s : sg} {M : ea_M} {i : Nat} (hi : i + 5 ≤ L) (hR : Rel s M M) (next : ∀ (s' : sg) (M2 : ea_M), Rel s' M2 M2 → ea_E k 925 [(0, .ref 300), (1, .ref 0), (2, .ref 61), (3, .int (nI i))] [] M2) : ea_E k 391 [(0, .ref 300), (1, .ref 0), (2, .ref 61), (3, .int (nI i))] [] M := by
  have v1 : vp_in (nI i + 1) L := by
    rw [show ((1 : Int32)) = nI 1 from rfl, nI_add]
    exact vp_in_nI (by omega) (by omega)
  have v2 : vp_in (nI i + 2) L := by
    rw [show ((2 : Int32)) = nI 2 from rfl, nI_add]
    exact vp_in_nI (by omega) (by omega)
  obtain ⟨r, M1, M2, s', h1, h2, hR2⟩ := pm_two (pm_air (xs (nI i + 1).toNatClampNeg) (xs (nI i + 2).toNatClampNeg)) hR
  refine e_aload_n (n := 1) C dL_law_391 rfl rfl ?_
  refine e_aload_n (n := 0) C dL_law_392 rfl rfl ?_
  refine e_iload_n (n := 3) C dL_law_393 rfl rfl ?_
  refine e_iconst (v := 1) C dL_law_394 (by decide) ?_
  refine e_iadd C dL_law_395 ?_
  refine e_sld0 C S v1 dL_law_396 ?_
  refine e_aload_n (n := 0) C dL_law_397 rfl rfl ?_
  refine e_iload_n (n := 3) C dL_law_398 rfl rfl ?_
  refine e_iconst (v := 2) C dL_law_399 (by decide) ?_
  refine e_iadd C dL_law_400 ?_
  refine e_sld0 C S v2 dL_law_401 ?_
  refine e_callV1 (as := [.int (xs (nI i + 1).toNatClampNeg), .int (xs (nI i + 2).toNatClampNeg)]) (rest := []) C lk_L_57 h1 (by decide) rfl (by decide) rfl (by decide) rfl rfl (Nat.le_of_ble_eq_true rfl) dL_law_402 ?_
  refine e_aload_n (n := 2) C dL_law_405 rfl rfl ?_
  refine e_aload_n (n := 0) C dL_law_406 rfl rfl ?_
  refine e_iload_n (n := 3) C dL_law_407 rfl rfl ?_
  refine e_iconst (v := 1) C dL_law_408 (by decide) ?_
  refine e_iadd C dL_law_409 ?_
  refine e_sld0 C S v1 dL_law_410 ?_
  refine e_aload_n (n := 0) C dL_law_411 rfl rfl ?_
  refine e_iload_n (n := 3) C dL_law_412 rfl rfl ?_
  refine e_iconst (v := 2) C dL_law_413 (by decide) ?_
  refine e_iadd C dL_law_414 ?_
  refine e_sld0 C S v2 dL_law_415 ?_
  refine e_callV1 (as := [.int (xs (nI i + 1).toNatClampNeg), .int (xs (nI i + 2).toNatClampNeg)]) (rest := [r.v]) C lk_L_60 h2 (by decide) rfl (by decide) rfl (by decide) rfl rfl (Nat.le_of_ble_eq_true rfl) dL_law_416 ?_
  refine e_icmp_eq (tgt := 925) C dL_law_419 (by decide) (fun _ => ?_) (fun z => absurd rfl z)
  exact next s' M2 hR2
theorem law_c11 (C : ea_C k RL cL_law 4 10) (S : ea_Sc k L xs) (hL : L ≤ 2560) {s : sg} {M : ea_M} {i : Nat} (hi : i + 5 ≤ L) (hR : Rel s M M) (next : ∀ (s' : sg) (M2 : ea_M), Rel s' M2 M2 → ea_E k 925 [(0, .ref 300), (1, .ref 0), (2, .ref 61), (3, .int (nI i))] [] M2) : ea_E k 424 [(0, .ref 300), (1, .ref 0), (2, .ref 61), (3, .int (nI i))] [] M := by
  have v1 : vp_in (nI i + 1) L := by
    rw [show ((1 : Int32)) = nI 1 from rfl, nI_add]
    exact vp_in_nI (by omega) (by omega)
  obtain ⟨r, M1, M2, s', h1, h2, hR2⟩ := pm_two (pm_pace (xs (nI i + 1).toNatClampNeg)) hR
  refine e_aload_n (n := 1) C dL_law_424 rfl rfl ?_
  refine e_aload_n (n := 0) C dL_law_425 rfl rfl ?_
  refine e_iload_n (n := 3) C dL_law_426 rfl rfl ?_
  refine e_iconst (v := 1) C dL_law_427 (by decide) ?_
  refine e_iadd C dL_law_428 ?_
  refine e_sld0 C S v1 dL_law_429 ?_
  refine e_callV1 (as := [.int (xs (nI i + 1).toNatClampNeg)]) (rest := []) C lk_L_61 h1 (by decide) rfl (by decide) rfl (by decide) rfl rfl (Nat.le_of_ble_eq_true rfl) dL_law_430 ?_
  refine e_aload_n (n := 2) C dL_law_433 rfl rfl ?_
  refine e_aload_n (n := 0) C dL_law_434 rfl rfl ?_
  refine e_iload_n (n := 3) C dL_law_435 rfl rfl ?_
  refine e_iconst (v := 1) C dL_law_436 (by decide) ?_
  refine e_iadd C dL_law_437 ?_
  refine e_sld0 C S v1 dL_law_438 ?_
  refine e_callV1 (as := [.int (xs (nI i + 1).toNatClampNeg)]) (rest := [r.v]) C lk_L_64 h2 (by decide) rfl (by decide) rfl (by decide) rfl rfl (Nat.le_of_ble_eq_true rfl) dL_law_439 ?_
  refine e_icmp_eq (tgt := 925) C dL_law_442 (by decide) (fun _ => ?_) (fun z => absurd rfl z)
  exact next s' M2 hR2
theorem law_c12 (C : ea_C k RL cL_law 4 10) (S : ea_Sc k L xs) (hL : L ≤ 2560) {s : sg} {M : ea_M} {i : Nat} (hi : i + 5 ≤ L) (hR : Rel s M M) (next : ∀ (s' : sg) (M2 : ea_M), Rel s' M2 M2 → ea_E k 925 [(0, .ref 300), (1, .ref 0), (2, .ref 61), (3, .int (nI i))] [] M2) : ea_E k 447 [(0, .ref 300), (1, .ref 0), (2, .ref 61), (3, .int (nI i))] [] M := by
  obtain ⟨r, M1, M2, s', h1, h2, hR2⟩ := pm_two (pm_undo) hR
  refine e_aload_n (n := 1) C dL_law_447 rfl rfl ?_
  refine e_callV1 (as := []) (rest := []) C lk_L_65 h1 (by decide) rfl (by decide) rfl (by decide) rfl rfl (Nat.le_of_ble_eq_true rfl) dL_law_448 ?_
  refine e_aload_n (n := 2) C dL_law_451 rfl rfl ?_
  refine e_callV1 (as := []) (rest := [r.v]) C lk_L_68 h2 (by decide) rfl (by decide) rfl (by decide) rfl rfl (Nat.le_of_ble_eq_true rfl) dL_law_452 ?_
  refine e_icmp_eq (tgt := 925) C dL_law_455 (by decide) (fun _ => ?_) (fun z => absurd rfl z)
  exact next s' M2 hR2
theorem law_c13 (C : ea_C k RL cL_law 4 10) (S : ea_Sc k L xs) (hL : L ≤ 2560) {s : sg} {M : ea_M} {i : Nat} (hi : i + 5 ≤ L) (hR : Rel s M M) (next : ∀ (s' : sg) (M2 : ea_M), Rel s' M2 M2 → ea_E k 925 [(0, .ref 300), (1, .ref 0), (2, .ref 61), (3, .int (nI i))] [] M2) : ea_E k 460 [(0, .ref 300), (1, .ref 0), (2, .ref 61), (3, .int (nI i))] [] M := by
  have v1 : vp_in (nI i + 1) L := by
    rw [show ((1 : Int32)) = nI 1 from rfl, nI_add]
    exact vp_in_nI (by omega) (by omega)
  obtain ⟨r, M1, M2, s', h1, h2, hR2⟩ := pm_two (pm_keep (xs (nI i + 1).toNatClampNeg)) hR
  refine e_aload_n (n := 1) C dL_law_460 rfl rfl ?_
  refine e_aload_n (n := 0) C dL_law_461 rfl rfl ?_
  refine e_iload_n (n := 3) C dL_law_462 rfl rfl ?_
  refine e_iconst (v := 1) C dL_law_463 (by decide) ?_
  refine e_iadd C dL_law_464 ?_
  refine e_sld0 C S v1 dL_law_465 ?_
  refine e_callV1 (as := [.int (xs (nI i + 1).toNatClampNeg)]) (rest := []) C lk_L_69 h1 (by decide) rfl (by decide) rfl (by decide) rfl rfl (Nat.le_of_ble_eq_true rfl) dL_law_466 ?_
  refine e_aload_n (n := 2) C dL_law_469 rfl rfl ?_
  refine e_aload_n (n := 0) C dL_law_470 rfl rfl ?_
  refine e_iload_n (n := 3) C dL_law_471 rfl rfl ?_
  refine e_iconst (v := 1) C dL_law_472 (by decide) ?_
  refine e_iadd C dL_law_473 ?_
  refine e_sld0 C S v1 dL_law_474 ?_
  refine e_callV1 (as := [.int (xs (nI i + 1).toNatClampNeg)]) (rest := [r.v]) C lk_L_72 h2 (by decide) rfl (by decide) rfl (by decide) rfl rfl (Nat.le_of_ble_eq_true rfl) dL_law_475 ?_
  refine e_icmp_eq (tgt := 925) C dL_law_478 (by decide) (fun _ => ?_) (fun z => absurd rfl z)
  exact next s' M2 hR2
theorem law_c14 (C : ea_C k RL cL_law 4 10) (S : ea_Sc k L xs) (hL : L ≤ 2560) {s : sg} {M : ea_M} {i : Nat} (hi : i + 5 ≤ L) (hR : Rel s M M) (next : ∀ (s' : sg) (M2 : ea_M), Rel s' M2 M2 → ea_E k 925 [(0, .ref 300), (1, .ref 0), (2, .ref 61), (3, .int (nI i))] [] M2) : ea_E k 483 [(0, .ref 300), (1, .ref 0), (2, .ref 61), (3, .int (nI i))] [] M := by
  have v1 : vp_in (nI i + 1) L := by
    rw [show ((1 : Int32)) = nI 1 from rfl, nI_add]
    exact vp_in_nI (by omega) (by omega)
  obtain ⟨r, M1, M2, s', h1, h2, hR2⟩ := pm_two (pm_back (xs (nI i + 1).toNatClampNeg)) hR
  refine e_aload_n (n := 1) C dL_law_483 rfl rfl ?_
  refine e_aload_n (n := 0) C dL_law_484 rfl rfl ?_
  refine e_iload_n (n := 3) C dL_law_485 rfl rfl ?_
  refine e_iconst (v := 1) C dL_law_486 (by decide) ?_
  refine e_iadd C dL_law_487 ?_
  refine e_sld0 C S v1 dL_law_488 ?_
  refine e_callV1 (as := [.int (xs (nI i + 1).toNatClampNeg)]) (rest := []) C lk_L_73 h1 (by decide) rfl (by decide) rfl (by decide) rfl rfl (Nat.le_of_ble_eq_true rfl) dL_law_489 ?_
  refine e_aload_n (n := 2) C dL_law_492 rfl rfl ?_
  refine e_aload_n (n := 0) C dL_law_493 rfl rfl ?_
  refine e_iload_n (n := 3) C dL_law_494 rfl rfl ?_
  refine e_iconst (v := 1) C dL_law_495 (by decide) ?_
  refine e_iadd C dL_law_496 ?_
  refine e_sld0 C S v1 dL_law_497 ?_
  refine e_callV1 (as := [.int (xs (nI i + 1).toNatClampNeg)]) (rest := [r.v]) C lk_L_76 h2 (by decide) rfl (by decide) rfl (by decide) rfl rfl (Nat.le_of_ble_eq_true rfl) dL_law_498 ?_
  refine e_icmp_eq (tgt := 925) C dL_law_501 (by decide) (fun _ => ?_) (fun z => absurd rfl z)
  exact next s' M2 hR2
theorem law_c15 (C : ea_C k RL cL_law 4 10) (S : ea_Sc k L xs) (hL : L ≤ 2560) {s : sg} {M : ea_M} {i : Nat} (hi : i + 5 ≤ L) (hR : Rel s M M) (next : ∀ (s' : sg) (M2 : ea_M), Rel s' M2 M2 → ea_E k 925 [(0, .ref 300), (1, .ref 0), (2, .ref 61), (3, .int (nI i))] [] M2) : ea_E k 506 [(0, .ref 300), (1, .ref 0), (2, .ref 61), (3, .int (nI i))] [] M := by
  have v1 : vp_in (nI i + 1) L := by
    rw [show ((1 : Int32)) = nI 1 from rfl, nI_add]
    exact vp_in_nI (by omega) (by omega)
  obtain ⟨r, M1, M2, s', h1, h2, hR2⟩ := pm_two (pm_flow (xs (nI i + 1).toNatClampNeg)) hR
  refine e_aload_n (n := 1) C dL_law_506 rfl rfl ?_
  refine e_aload_n (n := 0) C dL_law_507 rfl rfl ?_
  refine e_iload_n (n := 3) C dL_law_508 rfl rfl ?_
  refine e_iconst (v := 1) C dL_law_509 (by decide) ?_
  refine e_iadd C dL_law_510 ?_
  refine e_sld0 C S v1 dL_law_511 ?_
  refine e_callV1 (as := [.int (xs (nI i + 1).toNatClampNeg)]) (rest := []) C lk_L_77 h1 (by decide) rfl (by decide) rfl (by decide) rfl rfl (Nat.le_of_ble_eq_true rfl) dL_law_512 ?_
  refine e_aload_n (n := 2) C dL_law_515 rfl rfl ?_
  refine e_aload_n (n := 0) C dL_law_516 rfl rfl ?_
  refine e_iload_n (n := 3) C dL_law_517 rfl rfl ?_
  refine e_iconst (v := 1) C dL_law_518 (by decide) ?_
  refine e_iadd C dL_law_519 ?_
  refine e_sld0 C S v1 dL_law_520 ?_
  refine e_callV1 (as := [.int (xs (nI i + 1).toNatClampNeg)]) (rest := [r.v]) C lk_L_80 h2 (by decide) rfl (by decide) rfl (by decide) rfl rfl (Nat.le_of_ble_eq_true rfl) dL_law_521 ?_
  refine e_icmp_eq (tgt := 925) C dL_law_524 (by decide) (fun _ => ?_) (fun z => absurd rfl z)
  exact next s' M2 hR2
theorem law_c16 (C : ea_C k RL cL_law 4 10) (S : ea_Sc k L xs) (hL : L ≤ 2560) {s : sg} {M : ea_M} {i : Nat} (hi : i + 5 ≤ L) (hR : Rel s M M) (next : ∀ (s' : sg) (M2 : ea_M), Rel s' M2 M2 → ea_E k 925 [(0, .ref 300), (1, .ref 0), (2, .ref 61), (3, .int (nI i))] [] M2) : ea_E k 529 [(0, .ref 300), (1, .ref 0), (2, .ref 61), (3, .int (nI i))] [] M := by
  have v1 : vp_in (nI i + 1) L := by
    rw [show ((1 : Int32)) = nI 1 from rfl, nI_add]
    exact vp_in_nI (by omega) (by omega)
  have v2 : vp_in (nI i + 2) L := by
    rw [show ((2 : Int32)) = nI 2 from rfl, nI_add]
    exact vp_in_nI (by omega) (by omega)
  obtain ⟨r, M1, M2, s', h1, h2, hR2⟩ := pm_two (pm_until (xs (nI i + 1).toNatClampNeg) (xs (nI i + 2).toNatClampNeg)) hR
  refine e_aload_n (n := 1) C dL_law_529 rfl rfl ?_
  refine e_aload_n (n := 0) C dL_law_530 rfl rfl ?_
  refine e_iload_n (n := 3) C dL_law_531 rfl rfl ?_
  refine e_iconst (v := 1) C dL_law_532 (by decide) ?_
  refine e_iadd C dL_law_533 ?_
  refine e_sld0 C S v1 dL_law_534 ?_
  refine e_aload_n (n := 0) C dL_law_535 rfl rfl ?_
  refine e_iload_n (n := 3) C dL_law_536 rfl rfl ?_
  refine e_iconst (v := 2) C dL_law_537 (by decide) ?_
  refine e_iadd C dL_law_538 ?_
  refine e_sld0 C S v2 dL_law_539 ?_
  refine e_callV1 (as := [.int (xs (nI i + 1).toNatClampNeg), .int (xs (nI i + 2).toNatClampNeg)]) (rest := []) C lk_L_81 h1 (by decide) rfl (by decide) rfl (by decide) rfl rfl (Nat.le_of_ble_eq_true rfl) dL_law_540 ?_
  refine e_aload_n (n := 2) C dL_law_543 rfl rfl ?_
  refine e_aload_n (n := 0) C dL_law_544 rfl rfl ?_
  refine e_iload_n (n := 3) C dL_law_545 rfl rfl ?_
  refine e_iconst (v := 1) C dL_law_546 (by decide) ?_
  refine e_iadd C dL_law_547 ?_
  refine e_sld0 C S v1 dL_law_548 ?_
  refine e_aload_n (n := 0) C dL_law_549 rfl rfl ?_
  refine e_iload_n (n := 3) C dL_law_550 rfl rfl ?_
  refine e_iconst (v := 2) C dL_law_551 (by decide) ?_
  refine e_iadd C dL_law_552 ?_
  refine e_sld0 C S v2 dL_law_553 ?_
  refine e_callV1 (as := [.int (xs (nI i + 1).toNatClampNeg), .int (xs (nI i + 2).toNatClampNeg)]) (rest := [r.v]) C lk_L_84 h2 (by decide) rfl (by decide) rfl (by decide) rfl rfl (Nat.le_of_ble_eq_true rfl) dL_law_554 ?_
  refine e_icmp_eq (tgt := 925) C dL_law_557 (by decide) (fun _ => ?_) (fun z => absurd rfl z)
  exact next s' M2 hR2
theorem law_c17 (C : ea_C k RL cL_law 4 10) (S : ea_Sc k L xs) (hL : L ≤ 2560) {s : sg} {M : ea_M} {i : Nat} (hi : i + 5 ≤ L) (hR : Rel s M M) (next : ∀ (s' : sg) (M2 : ea_M), Rel s' M2 M2 → ea_E k 925 [(0, .ref 300), (1, .ref 0), (2, .ref 61), (3, .int (nI i))] [] M2) : ea_E k 562 [(0, .ref 300), (1, .ref 0), (2, .ref 61), (3, .int (nI i))] [] M := by
  have v1 : vp_in (nI i + 1) L := by
    rw [show ((1 : Int32)) = nI 1 from rfl, nI_add]
    exact vp_in_nI (by omega) (by omega)
  obtain ⟨r, M1, M2, s', h1, h2, hR2⟩ := pm_two (pm_resists (xs (nI i + 1).toNatClampNeg)) hR
  refine e_aload_n (n := 1) C dL_law_562 rfl rfl ?_
  refine e_aload_n (n := 0) C dL_law_563 rfl rfl ?_
  refine e_iload_n (n := 3) C dL_law_564 rfl rfl ?_
  refine e_iconst (v := 1) C dL_law_565 (by decide) ?_
  refine e_iadd C dL_law_566 ?_
  refine e_sld0 C S v1 dL_law_567 ?_
  refine e_callV1 (as := [.int (xs (nI i + 1).toNatClampNeg)]) (rest := []) C lk_L_85 h1 (by decide) rfl (by decide) rfl (by decide) rfl rfl (Nat.le_of_ble_eq_true rfl) dL_law_568 ?_
  refine e_aload_n (n := 2) C dL_law_571 rfl rfl ?_
  refine e_aload_n (n := 0) C dL_law_572 rfl rfl ?_
  refine e_iload_n (n := 3) C dL_law_573 rfl rfl ?_
  refine e_iconst (v := 1) C dL_law_574 (by decide) ?_
  refine e_iadd C dL_law_575 ?_
  refine e_sld0 C S v1 dL_law_576 ?_
  refine e_callV1 (as := [.int (xs (nI i + 1).toNatClampNeg)]) (rest := [r.v]) C lk_L_88 h2 (by decide) rfl (by decide) rfl (by decide) rfl rfl (Nat.le_of_ble_eq_true rfl) dL_law_577 ?_
  refine e_icmp_eq (tgt := 925) C dL_law_580 (by decide) (fun _ => ?_) (fun z => absurd rfl z)
  exact next s' M2 hR2
theorem law_c18 (C : ea_C k RL cL_law 4 10) (S : ea_Sc k L xs) (hL : L ≤ 2560) {s : sg} {M : ea_M} {i : Nat} (hi : i + 5 ≤ L) (hR : Rel s M M) (next : ∀ (s' : sg) (M2 : ea_M), Rel s' M2 M2 → ea_E k 925 [(0, .ref 300), (1, .ref 0), (2, .ref 61), (3, .int (nI i))] [] M2) : ea_E k 585 [(0, .ref 300), (1, .ref 0), (2, .ref 61), (3, .int (nI i))] [] M := by
  have v1 : vp_in (nI i + 1) L := by
    rw [show ((1 : Int32)) = nI 1 from rfl, nI_add]
    exact vp_in_nI (by omega) (by omega)
  have v2 : vp_in (nI i + 2) L := by
    rw [show ((2 : Int32)) = nI 2 from rfl, nI_add]
    exact vp_in_nI (by omega) (by omega)
  have v3 : vp_in (nI i + 3) L := by
    rw [show ((3 : Int32)) = nI 3 from rfl, nI_add]
    exact vp_in_nI (by omega) (by omega)
  obtain ⟨r, M1, M2, s', h1, h2, hR2⟩ := pm_two (pm_swapped (xs (nI i + 1).toNatClampNeg) (xs (nI i + 2).toNatClampNeg) (xs (nI i + 3).toNatClampNeg)) hR
  refine e_aload_n (n := 1) C dL_law_585 rfl rfl ?_
  refine e_aload_n (n := 0) C dL_law_586 rfl rfl ?_
  refine e_iload_n (n := 3) C dL_law_587 rfl rfl ?_
  refine e_iconst (v := 1) C dL_law_588 (by decide) ?_
  refine e_iadd C dL_law_589 ?_
  refine e_sld0 C S v1 dL_law_590 ?_
  refine e_aload_n (n := 0) C dL_law_591 rfl rfl ?_
  refine e_iload_n (n := 3) C dL_law_592 rfl rfl ?_
  refine e_iconst (v := 2) C dL_law_593 (by decide) ?_
  refine e_iadd C dL_law_594 ?_
  refine e_sld0 C S v2 dL_law_595 ?_
  refine e_aload_n (n := 0) C dL_law_596 rfl rfl ?_
  refine e_iload_n (n := 3) C dL_law_597 rfl rfl ?_
  refine e_iconst (v := 3) C dL_law_598 (by decide) ?_
  refine e_iadd C dL_law_599 ?_
  refine e_sld0 C S v3 dL_law_600 ?_
  refine e_callV1 (as := [.int (xs (nI i + 1).toNatClampNeg), .int (xs (nI i + 2).toNatClampNeg), .int (xs (nI i + 3).toNatClampNeg)]) (rest := []) C lk_L_89 h1 (by decide) rfl (by decide) rfl (by decide) rfl rfl (Nat.le_of_ble_eq_true rfl) dL_law_601 ?_
  refine e_aload_n (n := 2) C dL_law_604 rfl rfl ?_
  refine e_aload_n (n := 0) C dL_law_605 rfl rfl ?_
  refine e_iload_n (n := 3) C dL_law_606 rfl rfl ?_
  refine e_iconst (v := 1) C dL_law_607 (by decide) ?_
  refine e_iadd C dL_law_608 ?_
  refine e_sld0 C S v1 dL_law_609 ?_
  refine e_aload_n (n := 0) C dL_law_610 rfl rfl ?_
  refine e_iload_n (n := 3) C dL_law_611 rfl rfl ?_
  refine e_iconst (v := 2) C dL_law_612 (by decide) ?_
  refine e_iadd C dL_law_613 ?_
  refine e_sld0 C S v2 dL_law_614 ?_
  refine e_aload_n (n := 0) C dL_law_615 rfl rfl ?_
  refine e_iload_n (n := 3) C dL_law_616 rfl rfl ?_
  refine e_iconst (v := 3) C dL_law_617 (by decide) ?_
  refine e_iadd C dL_law_618 ?_
  refine e_sld0 C S v3 dL_law_619 ?_
  refine e_callV1 (as := [.int (xs (nI i + 1).toNatClampNeg), .int (xs (nI i + 2).toNatClampNeg), .int (xs (nI i + 3).toNatClampNeg)]) (rest := [r.v]) C lk_L_93 h2 (by decide) rfl (by decide) rfl (by decide) rfl rfl (Nat.le_of_ble_eq_true rfl) dL_law_620 ?_
  refine e_icmp_eq (tgt := 925) C dL_law_623 (by decide) (fun _ => ?_) (fun z => absurd rfl z)
  exact next s' M2 hR2
theorem law_c19 (C : ea_C k RL cL_law 4 10) (S : ea_Sc k L xs) (hL : L ≤ 2560) {s : sg} {M : ea_M} {i : Nat} (hi : i + 5 ≤ L) (hR : Rel s M M) (next : ∀ (s' : sg) (M2 : ea_M), Rel s' M2 M2 → ea_E k 925 [(0, .ref 300), (1, .ref 0), (2, .ref 61), (3, .int (nI i))] [] M2) : ea_E k 628 [(0, .ref 300), (1, .ref 0), (2, .ref 61), (3, .int (nI i))] [] M := by
  have v1 : vp_in (nI i + 1) L := by
    rw [show ((1 : Int32)) = nI 1 from rfl, nI_add]
    exact vp_in_nI (by omega) (by omega)
  obtain ⟨r, M1, M2, s', h1, h2, hR2⟩ := pm_two (pm_gain (xs (nI i + 1).toNatClampNeg)) hR
  refine e_aload_n (n := 1) C dL_law_628 rfl rfl ?_
  refine e_aload_n (n := 0) C dL_law_629 rfl rfl ?_
  refine e_iload_n (n := 3) C dL_law_630 rfl rfl ?_
  refine e_iconst (v := 1) C dL_law_631 (by decide) ?_
  refine e_iadd C dL_law_632 ?_
  refine e_sld0 C S v1 dL_law_633 ?_
  refine e_callV1 (as := [.int (xs (nI i + 1).toNatClampNeg)]) (rest := []) C lk_L_94 h1 (by decide) rfl (by decide) rfl (by decide) rfl rfl (Nat.le_of_ble_eq_true rfl) dL_law_634 ?_
  refine e_aload_n (n := 2) C dL_law_637 rfl rfl ?_
  refine e_aload_n (n := 0) C dL_law_638 rfl rfl ?_
  refine e_iload_n (n := 3) C dL_law_639 rfl rfl ?_
  refine e_iconst (v := 1) C dL_law_640 (by decide) ?_
  refine e_iadd C dL_law_641 ?_
  refine e_sld0 C S v1 dL_law_642 ?_
  refine e_callV1 (as := [.int (xs (nI i + 1).toNatClampNeg)]) (rest := [r.v]) C lk_L_97 h2 (by decide) rfl (by decide) rfl (by decide) rfl rfl (Nat.le_of_ble_eq_true rfl) dL_law_643 ?_
  refine e_icmp_eq (tgt := 925) C dL_law_646 (by decide) (fun _ => ?_) (fun z => absurd rfl z)
  exact next s' M2 hR2
theorem law_c20 (C : ea_C k RL cL_law 4 10) (S : ea_Sc k L xs) (hL : L ≤ 2560) {s : sg} {M : ea_M} {i : Nat} (hi : i + 5 ≤ L) (hR : Rel s M M) (next : ∀ (s' : sg) (M2 : ea_M), Rel s' M2 M2 → ea_E k 925 [(0, .ref 300), (1, .ref 0), (2, .ref 61), (3, .int (nI i))] [] M2) : ea_E k 651 [(0, .ref 300), (1, .ref 0), (2, .ref 61), (3, .int (nI i))] [] M := by
  have v1 : vp_in (nI i + 1) L := by
    rw [show ((1 : Int32)) = nI 1 from rfl, nI_add]
    exact vp_in_nI (by omega) (by omega)
  obtain ⟨r, M1, M2, s', h1, h2, hR2⟩ := pm_two (pm_page (xs (nI i + 1).toNatClampNeg)) hR
  refine e_aload_n (n := 1) C dL_law_651 rfl rfl ?_
  refine e_aload_n (n := 0) C dL_law_652 rfl rfl ?_
  refine e_iload_n (n := 3) C dL_law_653 rfl rfl ?_
  refine e_iconst (v := 1) C dL_law_654 (by decide) ?_
  refine e_iadd C dL_law_655 ?_
  refine e_sld0 C S v1 dL_law_656 ?_
  refine e_callV1 (as := [.int (xs (nI i + 1).toNatClampNeg)]) (rest := []) C lk_L_98 h1 (by decide) rfl (by decide) rfl (by decide) rfl rfl (Nat.le_of_ble_eq_true rfl) dL_law_657 ?_
  refine e_aload_n (n := 2) C dL_law_660 rfl rfl ?_
  refine e_aload_n (n := 0) C dL_law_661 rfl rfl ?_
  refine e_iload_n (n := 3) C dL_law_662 rfl rfl ?_
  refine e_iconst (v := 1) C dL_law_663 (by decide) ?_
  refine e_iadd C dL_law_664 ?_
  refine e_sld0 C S v1 dL_law_665 ?_
  refine e_callV1 (as := [.int (xs (nI i + 1).toNatClampNeg)]) (rest := [r.v]) C lk_L_101 h2 (by decide) rfl (by decide) rfl (by decide) rfl rfl (Nat.le_of_ble_eq_true rfl) dL_law_666 ?_
  refine e_icmp_eq (tgt := 925) C dL_law_669 (by decide) (fun _ => ?_) (fun z => absurd rfl z)
  exact next s' M2 hR2
theorem law_c21 (C : ea_C k RL cL_law 4 10) (S : ea_Sc k L xs) (hL : L ≤ 2560) {s : sg} {M : ea_M} {i : Nat} (hi : i + 5 ≤ L) (hR : Rel s M M) (next : ∀ (s' : sg) (M2 : ea_M), Rel s' M2 M2 → ea_E k 925 [(0, .ref 300), (1, .ref 0), (2, .ref 61), (3, .int (nI i))] [] M2) : ea_E k 674 [(0, .ref 300), (1, .ref 0), (2, .ref 61), (3, .int (nI i))] [] M := by
  have v1 : vp_in (nI i + 1) L := by
    rw [show ((1 : Int32)) = nI 1 from rfl, nI_add]
    exact vp_in_nI (by omega) (by omega)
  have v2 : vp_in (nI i + 2) L := by
    rw [show ((2 : Int32)) = nI 2 from rfl, nI_add]
    exact vp_in_nI (by omega) (by omega)
  have v3 : vp_in (nI i + 3) L := by
    rw [show ((3 : Int32)) = nI 3 from rfl, nI_add]
    exact vp_in_nI (by omega) (by omega)
  have v4 : vp_in (nI i + 4) L := by
    rw [show ((4 : Int32)) = nI 4 from rfl, nI_add]
    exact vp_in_nI (by omega) (by omega)
  obtain ⟨r, M1, M2, s', h1, h2, hR2⟩ := pm_two (pm_put (xs (nI i + 1).toNatClampNeg) (xs (nI i + 2).toNatClampNeg) (xs (nI i + 3).toNatClampNeg) (xs (nI i + 4).toNatClampNeg)) hR
  refine e_aload_n (n := 1) C dL_law_674 rfl rfl ?_
  refine e_aload_n (n := 0) C dL_law_675 rfl rfl ?_
  refine e_iload_n (n := 3) C dL_law_676 rfl rfl ?_
  refine e_iconst (v := 1) C dL_law_677 (by decide) ?_
  refine e_iadd C dL_law_678 ?_
  refine e_sld0 C S v1 dL_law_679 ?_
  refine e_aload_n (n := 0) C dL_law_680 rfl rfl ?_
  refine e_iload_n (n := 3) C dL_law_681 rfl rfl ?_
  refine e_iconst (v := 2) C dL_law_682 (by decide) ?_
  refine e_iadd C dL_law_683 ?_
  refine e_sld0 C S v2 dL_law_684 ?_
  refine e_aload_n (n := 0) C dL_law_685 rfl rfl ?_
  refine e_iload_n (n := 3) C dL_law_686 rfl rfl ?_
  refine e_iconst (v := 3) C dL_law_687 (by decide) ?_
  refine e_iadd C dL_law_688 ?_
  refine e_sld0 C S v3 dL_law_689 ?_
  refine e_aload_n (n := 0) C dL_law_690 rfl rfl ?_
  refine e_iload_n (n := 3) C dL_law_691 rfl rfl ?_
  refine e_iconst (v := 4) C dL_law_692 (by decide) ?_
  refine e_iadd C dL_law_693 ?_
  refine e_sld0 C S v4 dL_law_694 ?_
  refine e_callV1 (as := [.int (xs (nI i + 1).toNatClampNeg), .int (xs (nI i + 2).toNatClampNeg), .int (xs (nI i + 3).toNatClampNeg), .int (xs (nI i + 4).toNatClampNeg)]) (rest := []) C lk_L_102 h1 (by decide) rfl (by decide) rfl (by decide) rfl rfl (Nat.le_of_ble_eq_true rfl) dL_law_695 ?_
  refine e_aload_n (n := 2) C dL_law_698 rfl rfl ?_
  refine e_aload_n (n := 0) C dL_law_699 rfl rfl ?_
  refine e_iload_n (n := 3) C dL_law_700 rfl rfl ?_
  refine e_iconst (v := 1) C dL_law_701 (by decide) ?_
  refine e_iadd C dL_law_702 ?_
  refine e_sld0 C S v1 dL_law_703 ?_
  refine e_aload_n (n := 0) C dL_law_704 rfl rfl ?_
  refine e_iload_n (n := 3) C dL_law_705 rfl rfl ?_
  refine e_iconst (v := 2) C dL_law_706 (by decide) ?_
  refine e_iadd C dL_law_707 ?_
  refine e_sld0 C S v2 dL_law_708 ?_
  refine e_aload_n (n := 0) C dL_law_709 rfl rfl ?_
  refine e_iload_n (n := 3) C dL_law_710 rfl rfl ?_
  refine e_iconst (v := 3) C dL_law_711 (by decide) ?_
  refine e_iadd C dL_law_712 ?_
  refine e_sld0 C S v3 dL_law_713 ?_
  refine e_aload_n (n := 0) C dL_law_714 rfl rfl ?_
  refine e_iload_n (n := 3) C dL_law_715 rfl rfl ?_
  refine e_iconst (v := 4) C dL_law_716 (by decide) ?_
  refine e_iadd C dL_law_717 ?_
  refine e_sld0 C S v4 dL_law_718 ?_
  refine e_callV1 (as := [.int (xs (nI i + 1).toNatClampNeg), .int (xs (nI i + 2).toNatClampNeg), .int (xs (nI i + 3).toNatClampNeg), .int (xs (nI i + 4).toNatClampNeg)]) (rest := [r.v]) C lk_L_106 h2 (by decide) rfl (by decide) rfl (by decide) rfl rfl (Nat.le_of_ble_eq_true rfl) dL_law_719 ?_
  refine e_icmp_eq (tgt := 925) C dL_law_722 (by decide) (fun _ => ?_) (fun z => absurd rfl z)
  exact next s' M2 hR2
theorem law_c22 (C : ea_C k RL cL_law 4 10) (S : ea_Sc k L xs) (hL : L ≤ 2560) {s : sg} {M : ea_M} {i : Nat} (hi : i + 5 ≤ L) (hR : Rel s M M) (next : ∀ (s' : sg) (M2 : ea_M), Rel s' M2 M2 → ea_E k 925 [(0, .ref 300), (1, .ref 0), (2, .ref 61), (3, .int (nI i))] [] M2) : ea_E k 727 [(0, .ref 300), (1, .ref 0), (2, .ref 61), (3, .int (nI i))] [] M := by
  have v1 : vp_in (nI i + 1) L := by
    rw [show ((1 : Int32)) = nI 1 from rfl, nI_add]
    exact vp_in_nI (by omega) (by omega)
  have v2 : vp_in (nI i + 2) L := by
    rw [show ((2 : Int32)) = nI 2 from rfl, nI_add]
    exact vp_in_nI (by omega) (by omega)
  have v3 : vp_in (nI i + 3) L := by
    rw [show ((3 : Int32)) = nI 3 from rfl, nI_add]
    exact vp_in_nI (by omega) (by omega)
  obtain ⟨r, M1, M2, s', h1, h2, hR2⟩ := pm_two (pm_get (xs (nI i + 1).toNatClampNeg) (xs (nI i + 2).toNatClampNeg) (xs (nI i + 3).toNatClampNeg)) hR
  refine e_aload_n (n := 1) C dL_law_727 rfl rfl ?_
  refine e_aload_n (n := 0) C dL_law_728 rfl rfl ?_
  refine e_iload_n (n := 3) C dL_law_729 rfl rfl ?_
  refine e_iconst (v := 1) C dL_law_730 (by decide) ?_
  refine e_iadd C dL_law_731 ?_
  refine e_sld0 C S v1 dL_law_732 ?_
  refine e_aload_n (n := 0) C dL_law_733 rfl rfl ?_
  refine e_iload_n (n := 3) C dL_law_734 rfl rfl ?_
  refine e_iconst (v := 2) C dL_law_735 (by decide) ?_
  refine e_iadd C dL_law_736 ?_
  refine e_sld0 C S v2 dL_law_737 ?_
  refine e_aload_n (n := 0) C dL_law_738 rfl rfl ?_
  refine e_iload_n (n := 3) C dL_law_739 rfl rfl ?_
  refine e_iconst (v := 3) C dL_law_740 (by decide) ?_
  refine e_iadd C dL_law_741 ?_
  refine e_sld0 C S v3 dL_law_742 ?_
  refine e_callV1 (as := [.int (xs (nI i + 1).toNatClampNeg), .int (xs (nI i + 2).toNatClampNeg), .int (xs (nI i + 3).toNatClampNeg)]) (rest := []) C lk_L_107 h1 (by decide) rfl (by decide) rfl (by decide) rfl rfl (Nat.le_of_ble_eq_true rfl) dL_law_743 ?_
  refine e_aload_n (n := 2) C dL_law_746 rfl rfl ?_
  refine e_aload_n (n := 0) C dL_law_747 rfl rfl ?_
  refine e_iload_n (n := 3) C dL_law_748 rfl rfl ?_
  refine e_iconst (v := 1) C dL_law_749 (by decide) ?_
  refine e_iadd C dL_law_750 ?_
  refine e_sld0 C S v1 dL_law_751 ?_
  refine e_aload_n (n := 0) C dL_law_752 rfl rfl ?_
  refine e_iload_n (n := 3) C dL_law_753 rfl rfl ?_
  refine e_iconst (v := 2) C dL_law_754 (by decide) ?_
  refine e_iadd C dL_law_755 ?_
  refine e_sld0 C S v2 dL_law_756 ?_
  refine e_aload_n (n := 0) C dL_law_757 rfl rfl ?_
  refine e_iload_n (n := 3) C dL_law_758 rfl rfl ?_
  refine e_iconst (v := 3) C dL_law_759 (by decide) ?_
  refine e_iadd C dL_law_760 ?_
  refine e_sld0 C S v3 dL_law_761 ?_
  refine e_callV1 (as := [.int (xs (nI i + 1).toNatClampNeg), .int (xs (nI i + 2).toNatClampNeg), .int (xs (nI i + 3).toNatClampNeg)]) (rest := [r.v]) C lk_L_110 h2 (by decide) rfl (by decide) rfl (by decide) rfl rfl (Nat.le_of_ble_eq_true rfl) dL_law_762 ?_
  refine e_icmp_eq (tgt := 925) C dL_law_765 (by decide) (fun _ => ?_) (fun z => absurd rfl z)
  exact next s' M2 hR2
theorem law_c23 (C : ea_C k RL cL_law 4 10) (S : ea_Sc k L xs) (hL : L ≤ 2560) {s : sg} {M : ea_M} {i : Nat} (hi : i + 5 ≤ L) (hR : Rel s M M) (next : ∀ (s' : sg) (M2 : ea_M), Rel s' M2 M2 → ea_E k 925 [(0, .ref 300), (1, .ref 0), (2, .ref 61), (3, .int (nI i))] [] M2) : ea_E k 770 [(0, .ref 300), (1, .ref 0), (2, .ref 61), (3, .int (nI i))] [] M := by
  have v1 : vp_in (nI i + 1) L := by
    rw [show ((1 : Int32)) = nI 1 from rfl, nI_add]
    exact vp_in_nI (by omega) (by omega)
  have v2 : vp_in (nI i + 2) L := by
    rw [show ((2 : Int32)) = nI 2 from rfl, nI_add]
    exact vp_in_nI (by omega) (by omega)
  have v3 : vp_in (nI i + 3) L := by
    rw [show ((3 : Int32)) = nI 3 from rfl, nI_add]
    exact vp_in_nI (by omega) (by omega)
  obtain ⟨r, M1, M2, s', h1, h2, hR2⟩ := pm_two (pm_strike (xs (nI i + 1).toNatClampNeg) (xs (nI i + 2).toNatClampNeg) (xs (nI i + 3).toNatClampNeg)) hR
  refine e_aload_n (n := 1) C dL_law_770 rfl rfl ?_
  refine e_aload_n (n := 0) C dL_law_771 rfl rfl ?_
  refine e_iload_n (n := 3) C dL_law_772 rfl rfl ?_
  refine e_iconst (v := 1) C dL_law_773 (by decide) ?_
  refine e_iadd C dL_law_774 ?_
  refine e_sld0 C S v1 dL_law_775 ?_
  refine e_aload_n (n := 0) C dL_law_776 rfl rfl ?_
  refine e_iload_n (n := 3) C dL_law_777 rfl rfl ?_
  refine e_iconst (v := 2) C dL_law_778 (by decide) ?_
  refine e_iadd C dL_law_779 ?_
  refine e_sld0 C S v2 dL_law_780 ?_
  refine e_aload_n (n := 0) C dL_law_781 rfl rfl ?_
  refine e_iload_n (n := 3) C dL_law_782 rfl rfl ?_
  refine e_iconst (v := 3) C dL_law_783 (by decide) ?_
  refine e_iadd C dL_law_784 ?_
  refine e_sld0 C S v3 dL_law_785 ?_
  refine e_callV1 (as := [.int (xs (nI i + 1).toNatClampNeg), .int (xs (nI i + 2).toNatClampNeg), .int (xs (nI i + 3).toNatClampNeg)]) (rest := []) C lk_L_111 h1 (by decide) rfl (by decide) rfl (by decide) rfl rfl (Nat.le_of_ble_eq_true rfl) dL_law_786 ?_
  refine e_aload_n (n := 2) C dL_law_789 rfl rfl ?_
  refine e_aload_n (n := 0) C dL_law_790 rfl rfl ?_
  refine e_iload_n (n := 3) C dL_law_791 rfl rfl ?_
  refine e_iconst (v := 1) C dL_law_792 (by decide) ?_
  refine e_iadd C dL_law_793 ?_
  refine e_sld0 C S v1 dL_law_794 ?_
  refine e_aload_n (n := 0) C dL_law_795 rfl rfl ?_
  refine e_iload_n (n := 3) C dL_law_796 rfl rfl ?_
  refine e_iconst (v := 2) C dL_law_797 (by decide) ?_
  refine e_iadd C dL_law_798 ?_
  refine e_sld0 C S v2 dL_law_799 ?_
  refine e_aload_n (n := 0) C dL_law_800 rfl rfl ?_
  refine e_iload_n (n := 3) C dL_law_801 rfl rfl ?_
  refine e_iconst (v := 3) C dL_law_802 (by decide) ?_
  refine e_iadd C dL_law_803 ?_
  refine e_sld0 C S v3 dL_law_804 ?_
  refine e_callV1 (as := [.int (xs (nI i + 1).toNatClampNeg), .int (xs (nI i + 2).toNatClampNeg), .int (xs (nI i + 3).toNatClampNeg)]) (rest := [r.v]) C lk_L_114 h2 (by decide) rfl (by decide) rfl (by decide) rfl rfl (Nat.le_of_ble_eq_true rfl) dL_law_805 ?_
  refine e_icmp_eq (tgt := 925) C dL_law_808 (by decide) (fun _ => ?_) (fun z => absurd rfl z)
  exact next s' M2 hR2
theorem law_c24 (C : ea_C k RL cL_law 4 10) (S : ea_Sc k L xs) (hL : L ≤ 2560) {s : sg} {M : ea_M} {i : Nat} (hi : i + 5 ≤ L) (hR : Rel s M M) (next : ∀ (s' : sg) (M2 : ea_M), Rel s' M2 M2 → ea_E k 925 [(0, .ref 300), (1, .ref 0), (2, .ref 61), (3, .int (nI i))] [] M2) : ea_E k 813 [(0, .ref 300), (1, .ref 0), (2, .ref 61), (3, .int (nI i))] [] M := by
  have v1 : vp_in (nI i + 1) L := by
    rw [show ((1 : Int32)) = nI 1 from rfl, nI_add]
    exact vp_in_nI (by omega) (by omega)
  have v2 : vp_in (nI i + 2) L := by
    rw [show ((2 : Int32)) = nI 2 from rfl, nI_add]
    exact vp_in_nI (by omega) (by omega)
  obtain ⟨r, M1, M2, s', h1, h2, hR2⟩ := pm_two (pm_common (xs (nI i + 1).toNatClampNeg) (xs (nI i + 2).toNatClampNeg)) hR
  refine e_aload_n (n := 1) C dL_law_813 rfl rfl ?_
  refine e_aload_n (n := 0) C dL_law_814 rfl rfl ?_
  refine e_iload_n (n := 3) C dL_law_815 rfl rfl ?_
  refine e_iconst (v := 1) C dL_law_816 (by decide) ?_
  refine e_iadd C dL_law_817 ?_
  refine e_sld0 C S v1 dL_law_818 ?_
  refine e_aload_n (n := 0) C dL_law_819 rfl rfl ?_
  refine e_iload_n (n := 3) C dL_law_820 rfl rfl ?_
  refine e_iconst (v := 2) C dL_law_821 (by decide) ?_
  refine e_iadd C dL_law_822 ?_
  refine e_sld0 C S v2 dL_law_823 ?_
  refine e_callV1 (as := [.int (xs (nI i + 1).toNatClampNeg), .int (xs (nI i + 2).toNatClampNeg)]) (rest := []) C lk_L_115 h1 (by decide) rfl (by decide) rfl (by decide) rfl rfl (Nat.le_of_ble_eq_true rfl) dL_law_824 ?_
  refine e_aload_n (n := 2) C dL_law_827 rfl rfl ?_
  refine e_aload_n (n := 0) C dL_law_828 rfl rfl ?_
  refine e_iload_n (n := 3) C dL_law_829 rfl rfl ?_
  refine e_iconst (v := 1) C dL_law_830 (by decide) ?_
  refine e_iadd C dL_law_831 ?_
  refine e_sld0 C S v1 dL_law_832 ?_
  refine e_aload_n (n := 0) C dL_law_833 rfl rfl ?_
  refine e_iload_n (n := 3) C dL_law_834 rfl rfl ?_
  refine e_iconst (v := 2) C dL_law_835 (by decide) ?_
  refine e_iadd C dL_law_836 ?_
  refine e_sld0 C S v2 dL_law_837 ?_
  refine e_callV1 (as := [.int (xs (nI i + 1).toNatClampNeg), .int (xs (nI i + 2).toNatClampNeg)]) (rest := [r.v]) C lk_L_118 h2 (by decide) rfl (by decide) rfl (by decide) rfl rfl (Nat.le_of_ble_eq_true rfl) dL_law_838 ?_
  refine e_icmp_eq (tgt := 925) C dL_law_841 (by decide) (fun _ => ?_) (fun z => absurd rfl z)
  exact next s' M2 hR2
theorem law_c25 (C : ea_C k RL cL_law 4 10) (S : ea_Sc k L xs) (hL : L ≤ 2560) {s : sg} {M : ea_M} {i : Nat} (hi : i + 5 ≤ L) (hR : Rel s M M) (next : ∀ (s' : sg) (M2 : ea_M), Rel s' M2 M2 → ea_E k 925 [(0, .ref 300), (1, .ref 0), (2, .ref 61), (3, .int (nI i))] [] M2) : ea_E k 846 [(0, .ref 300), (1, .ref 0), (2, .ref 61), (3, .int (nI i))] [] M := by
  have v1 : vp_in (nI i + 1) L := by
    rw [show ((1 : Int32)) = nI 1 from rfl, nI_add]
    exact vp_in_nI (by omega) (by omega)
  have v2 : vp_in (nI i + 2) L := by
    rw [show ((2 : Int32)) = nI 2 from rfl, nI_add]
    exact vp_in_nI (by omega) (by omega)
  obtain ⟨r, M1, M2, s', h1, h2, hR2⟩ := pm_two (pm_sum (xs (nI i + 1).toNatClampNeg) (xs (nI i + 2).toNatClampNeg)) hR
  refine e_aload_n (n := 1) C dL_law_846 rfl rfl ?_
  refine e_aload_n (n := 0) C dL_law_847 rfl rfl ?_
  refine e_iload_n (n := 3) C dL_law_848 rfl rfl ?_
  refine e_iconst (v := 1) C dL_law_849 (by decide) ?_
  refine e_iadd C dL_law_850 ?_
  refine e_sld0 C S v1 dL_law_851 ?_
  refine e_aload_n (n := 0) C dL_law_852 rfl rfl ?_
  refine e_iload_n (n := 3) C dL_law_853 rfl rfl ?_
  refine e_iconst (v := 2) C dL_law_854 (by decide) ?_
  refine e_iadd C dL_law_855 ?_
  refine e_sld0 C S v2 dL_law_856 ?_
  refine e_callV1 (as := [.int (xs (nI i + 1).toNatClampNeg), .int (xs (nI i + 2).toNatClampNeg)]) (rest := []) C lk_L_119 h1 (by decide) rfl (by decide) rfl (by decide) rfl rfl (Nat.le_of_ble_eq_true rfl) dL_law_857 ?_
  refine e_aload_n (n := 2) C dL_law_860 rfl rfl ?_
  refine e_aload_n (n := 0) C dL_law_861 rfl rfl ?_
  refine e_iload_n (n := 3) C dL_law_862 rfl rfl ?_
  refine e_iconst (v := 1) C dL_law_863 (by decide) ?_
  refine e_iadd C dL_law_864 ?_
  refine e_sld0 C S v1 dL_law_865 ?_
  refine e_aload_n (n := 0) C dL_law_866 rfl rfl ?_
  refine e_iload_n (n := 3) C dL_law_867 rfl rfl ?_
  refine e_iconst (v := 2) C dL_law_868 (by decide) ?_
  refine e_iadd C dL_law_869 ?_
  refine e_sld0 C S v2 dL_law_870 ?_
  refine e_callV1 (as := [.int (xs (nI i + 1).toNatClampNeg), .int (xs (nI i + 2).toNatClampNeg)]) (rest := [r.v]) C lk_L_122 h2 (by decide) rfl (by decide) rfl (by decide) rfl rfl (Nat.le_of_ble_eq_true rfl) dL_law_871 ?_
  refine e_icmp_eq (tgt := 925) C dL_law_874 (by decide) (fun _ => ?_) (fun z => absurd rfl z)
  exact next s' M2 hR2
theorem law_c26 (C : ea_C k RL cL_law 4 10) (S : ea_Sc k L xs) (hL : L ≤ 2560) {s : sg} {M : ea_M} {i : Nat} (hi : i + 5 ≤ L) (hR : Rel s M M) (next : ∀ (s' : sg) (M2 : ea_M), Rel s' M2 M2 → ea_E k 925 [(0, .ref 300), (1, .ref 0), (2, .ref 61), (3, .int (nI i))] [] M2) : ea_E k 879 [(0, .ref 300), (1, .ref 0), (2, .ref 61), (3, .int (nI i))] [] M := by
  have v1 : vp_in (nI i + 1) L := by
    rw [show ((1 : Int32)) = nI 1 from rfl, nI_add]
    exact vp_in_nI (by omega) (by omega)
  obtain ⟨r, M1, M2, s', h1, h2, hR2⟩ := pm_two (pm_drop (xs (nI i + 1).toNatClampNeg)) hR
  refine e_aload_n (n := 1) C dL_law_879 rfl rfl ?_
  refine e_aload_n (n := 0) C dL_law_880 rfl rfl ?_
  refine e_iload_n (n := 3) C dL_law_881 rfl rfl ?_
  refine e_iconst (v := 1) C dL_law_882 (by decide) ?_
  refine e_iadd C dL_law_883 ?_
  refine e_sld0 C S v1 dL_law_884 ?_
  refine e_callV1 (as := [.int (xs (nI i + 1).toNatClampNeg)]) (rest := []) C lk_L_123 h1 (by decide) rfl (by decide) rfl (by decide) rfl rfl (Nat.le_of_ble_eq_true rfl) dL_law_885 ?_
  refine e_aload_n (n := 2) C dL_law_888 rfl rfl ?_
  refine e_aload_n (n := 0) C dL_law_889 rfl rfl ?_
  refine e_iload_n (n := 3) C dL_law_890 rfl rfl ?_
  refine e_iconst (v := 1) C dL_law_891 (by decide) ?_
  refine e_iadd C dL_law_892 ?_
  refine e_sld0 C S v1 dL_law_893 ?_
  refine e_callV1 (as := [.int (xs (nI i + 1).toNatClampNeg)]) (rest := [r.v]) C lk_L_126 h2 (by decide) rfl (by decide) rfl (by decide) rfl rfl (Nat.le_of_ble_eq_true rfl) dL_law_894 ?_
  refine e_icmp_eq (tgt := 925) C dL_law_897 (by decide) (fun _ => ?_) (fun z => absurd rfl z)
  exact next s' M2 hR2
theorem law_c27 (C : ea_C k RL cL_law 4 10) (S : ea_Sc k L xs) (hL : L ≤ 2560) {s : sg} {M : ea_M} {i : Nat} (hi : i + 5 ≤ L) (hR : Rel s M M) (next : ∀ (s' : sg) (M2 : ea_M), Rel s' M2 M2 → ea_E k 925 [(0, .ref 300), (1, .ref 0), (2, .ref 61), (3, .int (nI i))] [] M2) : ea_E k 902 [(0, .ref 300), (1, .ref 0), (2, .ref 61), (3, .int (nI i))] [] M := by
  have v1 : vp_in (nI i + 1) L := by
    rw [show ((1 : Int32)) = nI 1 from rfl, nI_add]
    exact vp_in_nI (by omega) (by omega)
  obtain ⟨r, M1, M2, s', h1, h2, hR2⟩ := pm_two (pm_count (xs (nI i + 1).toNatClampNeg)) hR
  refine e_aload_n (n := 1) C dL_law_902 rfl rfl ?_
  refine e_aload_n (n := 0) C dL_law_903 rfl rfl ?_
  refine e_iload_n (n := 3) C dL_law_904 rfl rfl ?_
  refine e_iconst (v := 1) C dL_law_905 (by decide) ?_
  refine e_iadd C dL_law_906 ?_
  refine e_sld0 C S v1 dL_law_907 ?_
  refine e_callV1 (as := [.int (xs (nI i + 1).toNatClampNeg)]) (rest := []) C lk_L_127 h1 (by decide) rfl (by decide) rfl (by decide) rfl rfl (Nat.le_of_ble_eq_true rfl) dL_law_908 ?_
  refine e_aload_n (n := 2) C dL_law_911 rfl rfl ?_
  refine e_aload_n (n := 0) C dL_law_912 rfl rfl ?_
  refine e_iload_n (n := 3) C dL_law_913 rfl rfl ?_
  refine e_iconst (v := 1) C dL_law_914 (by decide) ?_
  refine e_iadd C dL_law_915 ?_
  refine e_sld0 C S v1 dL_law_916 ?_
  refine e_callV1 (as := [.int (xs (nI i + 1).toNatClampNeg)]) (rest := [r.v]) C lk_L_130 h2 (by decide) rfl (by decide) rfl (by decide) rfl rfl (Nat.le_of_ble_eq_true rfl) dL_law_917 ?_
  refine e_icmp_eq (tgt := 925) C dL_law_920 (by decide) (fun _ => ?_) (fun z => absurd rfl z)
  exact next s' M2 hR2
theorem law_loop (C : ea_C k RL cL_law 4 10) (S : ea_Sc k L xs) (hL : L ≤ 2560) (hend : ∀ (M : ea_M) (lv : List (Nat × Value)), ea_E k 932 lv [.int 1] M) : ∀ (n i : Nat) (s : sg) (M : ea_M), L < i + 5 * n → i ≤ L + 5 → Rel s M M → ea_E k 18 [(0, .ref 300), (1, .ref 0), (2, .ref 61), (3, .int (nI i))] [] M := by
  intro n
  induction n with
  | zero =>
    intro i s M h1 h2 hR
    refine e_iload_n (n := 3) C dL_law_18 rfl rfl ?_
    refine e_aload_n (n := 0) C dL_law_19 rfl rfl ?_
    refine e_slen0 C S dL_law_20 ?_
    refine e_iconst (v := 5) C dL_law_21 (by decide) ?_
    refine e_isub C dL_law_22 ?_
    refine e_icmp_gt (tgt := 931) C dL_law_23 (by decide) (fun _ => ?_) (fun z => absurd ?_ z)
    · refine e_iconst (v := 1) C dL_law_931 (by decide) ?_
      exact hend _ _
    · exact law_gt (by omega) (by omega) hL
  | succ n ih =>
    intro i s M h1 h2 hR
    refine e_iload_n (n := 3) C dL_law_18 rfl rfl ?_
    refine e_aload_n (n := 0) C dL_law_19 rfl rfl ?_
    refine e_slen0 C S dL_law_20 ?_
    refine e_iconst (v := 5) C dL_law_21 (by decide) ?_
    refine e_isub C dL_law_22 ?_
    by_cases hi : i + 5 ≤ L
    case neg =>
      refine e_icmp_gt (tgt := 931) C dL_law_23 (by decide) (fun _ => ?_) (fun z => absurd (law_gt (by omega) h2 hL) z)
      refine e_iconst (v := 1) C dL_law_931 (by decide) ?_
      exact hend _ _
    refine e_icmp_gt (tgt := 931) C dL_law_23 (by decide) (fun z => absurd z (law_le hi hL)) (fun _ => ?_)
    have v0 : vp_in (nI i) L := vp_in_nI (by omega) (by omega)
    refine e_aload_n (n := 0) C dL_law_26 rfl rfl ?_
    refine e_iload_n (n := 3) C dL_law_27 rfl rfl ?_
    refine e_sld0 C S v0 dL_law_28 ?_
    refine e_bipush (v := 31) C dL_law_29 (by decide) ?_
    refine e_iand C dL_law_31 ?_
    have next : ∀ (s' : sg) (M2 : ea_M), Rel s' M2 M2 → ea_E k 925 [(0, .ref 300), (1, .ref 0), (2, .ref 61), (3, .int (nI i))] [] M2 := fun s' M2 h => by
      have e5 : nI i + Int32.ofInt 5 = nI (i + 5) := nI_add i 5
      refine e_iinc (n := 3) (v := nI (i + 5)) C dL_law_925 rfl e5 (by decide) rfl ?_
      refine e_goto (tgt := 18) C dL_law_928 (by decide) ?_
      refine e_perm C [1, 2, 3, 0] rfl ?_
      exact ih (i + 5) s' M2 (by omega) (by omega) h
    obtain ⟨j, hj, ej⟩ := and31 (xs (nI i).toNatClampNeg)
    rw [ej]
    rcases (show j = 0 ∨ j = 1 ∨ j = 2 ∨ j = 3 ∨ j = 4 ∨ j = 5 ∨ j = 6 ∨ j = 7 ∨ j = 8 ∨ j = 9 ∨ j = 10 ∨ j = 11 ∨ j = 12 ∨ j = 13 ∨ j = 14 ∨ j = 15 ∨ j = 16 ∨ j = 17 ∨ j = 18 ∨ j = 19 ∨ j = 20 ∨ j = 21 ∨ j = 22 ∨ j = 23 ∨ j = 24 ∨ j = 25 ∨ j = 26 ∨ j = 27 ∨ j = 28 ∨ j = 29 ∨ j = 30 ∨ j = 31 by omega) with rfl | rfl | rfl | rfl | rfl | rfl | rfl | rfl | rfl | rfl | rfl | rfl | rfl | rfl | rfl | rfl | rfl | rfl | rfl | rfl | rfl | rfl | rfl | rfl | rfl | rfl | rfl | rfl | rfl | rfl | rfl | rfl
    · exact e_tabIn (off := 128) (tgt := 160) C dL_law_32 (by decide) (by decide) (by decide) (by decide) (law_c0 C S hL hi hR next)
    · exact e_tabIn (off := 151) (tgt := 183) C dL_law_32 (by decide) (by decide) (by decide) (by decide) (law_c1 C S hL hi hR next)
    · exact e_tabIn (off := 164) (tgt := 196) C dL_law_32 (by decide) (by decide) (by decide) (by decide) (law_c2 C S hL hi hR next)
    · exact e_tabIn (off := 177) (tgt := 209) C dL_law_32 (by decide) (by decide) (by decide) (by decide) (law_c3 C S hL hi hR next)
    · exact e_tabIn (off := 190) (tgt := 222) C dL_law_32 (by decide) (by decide) (by decide) (by decide) (law_c4 C S hL hi hR next)
    · exact e_tabIn (off := 203) (tgt := 235) C dL_law_32 (by decide) (by decide) (by decide) (by decide) (law_c5 C S hL hi hR next)
    · exact e_tabIn (off := 236) (tgt := 268) C dL_law_32 (by decide) (by decide) (by decide) (by decide) (law_c6 C S hL hi hR next)
    · exact e_tabIn (off := 269) (tgt := 301) C dL_law_32 (by decide) (by decide) (by decide) (by decide) (law_c7 C S hL hi hR next)
    · exact e_tabIn (off := 303) (tgt := 335) C dL_law_32 (by decide) (by decide) (by decide) (by decide) (law_c8 C S hL hi hR next)
    · exact e_tabIn (off := 326) (tgt := 358) C dL_law_32 (by decide) (by decide) (by decide) (by decide) (law_c9 C S hL hi hR next)
    · exact e_tabIn (off := 359) (tgt := 391) C dL_law_32 (by decide) (by decide) (by decide) (by decide) (law_c10 C S hL hi hR next)
    · exact e_tabIn (off := 392) (tgt := 424) C dL_law_32 (by decide) (by decide) (by decide) (by decide) (law_c11 C S hL hi hR next)
    · exact e_tabIn (off := 415) (tgt := 447) C dL_law_32 (by decide) (by decide) (by decide) (by decide) (law_c12 C S hL hi hR next)
    · exact e_tabIn (off := 428) (tgt := 460) C dL_law_32 (by decide) (by decide) (by decide) (by decide) (law_c13 C S hL hi hR next)
    · exact e_tabIn (off := 451) (tgt := 483) C dL_law_32 (by decide) (by decide) (by decide) (by decide) (law_c14 C S hL hi hR next)
    · exact e_tabIn (off := 474) (tgt := 506) C dL_law_32 (by decide) (by decide) (by decide) (by decide) (law_c15 C S hL hi hR next)
    · exact e_tabIn (off := 497) (tgt := 529) C dL_law_32 (by decide) (by decide) (by decide) (by decide) (law_c16 C S hL hi hR next)
    · exact e_tabIn (off := 530) (tgt := 562) C dL_law_32 (by decide) (by decide) (by decide) (by decide) (law_c17 C S hL hi hR next)
    · exact e_tabIn (off := 553) (tgt := 585) C dL_law_32 (by decide) (by decide) (by decide) (by decide) (law_c18 C S hL hi hR next)
    · exact e_tabIn (off := 596) (tgt := 628) C dL_law_32 (by decide) (by decide) (by decide) (by decide) (law_c19 C S hL hi hR next)
    · exact e_tabIn (off := 619) (tgt := 651) C dL_law_32 (by decide) (by decide) (by decide) (by decide) (law_c20 C S hL hi hR next)
    · exact e_tabIn (off := 642) (tgt := 674) C dL_law_32 (by decide) (by decide) (by decide) (by decide) (law_c21 C S hL hi hR next)
    · exact e_tabIn (off := 695) (tgt := 727) C dL_law_32 (by decide) (by decide) (by decide) (by decide) (law_c22 C S hL hi hR next)
    · exact e_tabIn (off := 738) (tgt := 770) C dL_law_32 (by decide) (by decide) (by decide) (by decide) (law_c23 C S hL hi hR next)
    · exact e_tabIn (off := 781) (tgt := 813) C dL_law_32 (by decide) (by decide) (by decide) (by decide) (law_c24 C S hL hi hR next)
    · exact e_tabIn (off := 814) (tgt := 846) C dL_law_32 (by decide) (by decide) (by decide) (by decide) (law_c25 C S hL hi hR next)
    · exact e_tabIn (off := 847) (tgt := 879) C dL_law_32 (by decide) (by decide) (by decide) (by decide) (law_c26 C S hL hi hR next)
    · exact e_tabIn (off := 870) (tgt := 902) C dL_law_32 (by decide) (by decide) (by decide) (by decide) (law_c27 C S hL hi hR next)
    · exact e_tabOut (tgt := 925) C dL_law_32 (by decide) (by decide) (next s M hR)
    · exact e_tabOut (tgt := 925) C dL_law_32 (by decide) (by decide) (next s M hR)
    · exact e_tabOut (tgt := 925) C dL_law_32 (by decide) (by decide) (next s M hR)
    · exact e_tabOut (tgt := 925) C dL_law_32 (by decide) (by decide) (next s M hR)
end LAW
