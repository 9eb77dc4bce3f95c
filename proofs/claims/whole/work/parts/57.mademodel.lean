/-! ===== the model's constructor ===== -/
theorem c_newI1 {k : ea_K} {own : String} {cc : ByteArray} {nL d RC RS : Nat} (C : cn_C k own cc nL d RC RS) {pc : Nat} {lv : List (Nat × Value)} {st : List Value} {y : Nat × va_E} {Y : va_W} {cl sl : Nat} {n : Int32} {N : Nat} (hw : Cond.arrayClass .int ∈ wsL_law) (hn : ¬ n < 0) (hN : n.toNatClampNeg = N) (hb2 : N < 1000) (hc : cl + 1 ≤ RC) (hs : sl + N ≤ RS) (hd : decode cc pc = .ok (.newarray .int, 2)) (h : ∀ q, cn_E k (pc + 2) lv (.ref q :: st) (y :: (Y ++ [(q, .inl ((cn_g k).2.1 0, N, .inl (fun _ => 0)))])) (cl + 1) (sl + N)) : cn_E k pc lv (.int n :: st) (y :: Y) cl sl := c_newI C hw hn hN hb2 hc hs hd h
theorem c_newZ1 {k : ea_K} {own : String} {cc : ByteArray} {nL d RC RS : Nat} (C : cn_C k own cc nL d RC RS) {pc : Nat} {lv : List (Nat × Value)} {st : List Value} {y : Nat × va_E} {Y : va_W} {cl sl : Nat} {n : Int32} {N : Nat} (hw : Cond.arrayClass .boolean ∈ wsL_law) (hn : ¬ n < 0) (hN : n.toNatClampNeg = N) (hb2 : N < 1000) (hc : cl + 1 ≤ RC) (hs : sl + N ≤ RS) (hd : decode cc pc = .ok (.newarray .boolean, 2)) (h : ∀ q, cn_E k (pc + 2) lv (.ref q :: st) (y :: (Y ++ [(q, .inl ((cn_g k).2.1 1, N, .inl (fun _ => 0)))])) (cl + 1) (sl + N)) : cn_E k pc lv (.int n :: st) (y :: Y) cl sl := c_newZ C hw hn hN hb2 hc hs hd h
theorem c_putF1 {k : ea_K} {own : String} {cc : ByteArray} {nL d RC RS : Nat} (C : cn_C k own cc nL d RC RS) {pc : Nat} {lv : List (Nat × Value)} {st : List Value} {Y : va_W} {cl sl : Nat} {idx ci f a : Nat} {fs : List Value} {v : Value} (I : cn_I k) (F : ea_Fd own idx ci f) (hfin : (ea_cT ci f).2.2.2 = true) (hdecl : ea_cR ci = own) (hn : narrow (ea_cY ci f) v = v) (hfit : fits (ea_cY ci f) v = true) (hlen : fs.length = ea_cN ci) (hd : decode cc pc = .ok (.putfield idx, 3)) (h : cn_E k (pc + 3) lv st ((a, .inr (ci, fs.set f v)) :: Y) cl sl) : cn_E k pc lv (v :: .ref a :: st) ((a, .inr (ci, fs)) :: Y) cl sl :=
  c_putF (q0 := 0) C I F rfl hfin hdecl (ea_cTy F.1 f F.2.1) hn hfit (by rw [hlen]; exact F.2.1) hd h
theorem c_iastS {k : ea_K} {own : String} {cc : ByteArray} {nL d RC RS : Nat} (C : cn_C k own cc nL d RC RS) {pc : Nat} {lv : List (Nat × Value)} {st : List Value} {y : Nat × va_E} {Y : va_W} {cl sl : Nat} {a N : Nat} {f : Nat → Int32} {i x : Int32} (hin : vp_in i N) (hd : decode cc pc = .ok (.iastore, 1)) (h : cn_E k (pc + 1) lv st (y :: (Y ++ [(a, .inl ((cn_g k).2.1 0, N, .inl (upd f i.toNatClampNeg x)))])) cl sl) : cn_E k pc lv (.int x :: .int i :: .ref a :: st) (y :: (Y ++ [(a, .inl ((cn_g k).2.1 0, N, .inl f))])) cl sl := by
  refine c_iast (q0 := Y.length + 1) (N := N) (f := f) C (by simp) hin hd ?_
  have e : ∀ z z' : Nat × va_E, (y :: (Y ++ [z])).set (Y.length + 1) z' = y :: (Y ++ [z']) := fun z z' => by simp
  rw [e]
  exact h
theorem c_eq {k : ea_K} {pc : Nat} {lv : List (Nat × Value)} {st : List Value} {Y Y' : va_W} {cl sl : Nat} (hY : Y = Y') (h : cn_E k pc lv st Y' cl sl) : cn_E k pc lv st Y cl sl := by
  rw [hY]
  exact h
def po_7 (g : ea_G) (ad : Nat → Nat) : va_W := [(ad 0, .inr (7, [.ref (ad 1), .int 0, .ref (ad 2), .ref (ad 3), .ref (ad 4), .ref (ad 5), .int 0, .ref (ad 6), .int 0, .ref (ad 7), .ref (ad 8), .int 0, .ref (ad 9), .ref (ad 10), .ref (ad 11), .ref (ad 12), .int 0, .int 0, .int 0, .int 0, .ref (ad 13), .ref (ad 14), .int 0, .int 0, .ref (ad 15), .ref (ad 16), .ref (ad 17)])), (ad 1, .inl (g.2.1 0, 192, .inl (fun j => if j = 12 then (40 : Int32) else 0))), (ad 2, .inl (g.2.1 0, 6, .inl (fun _ => 0))), (ad 3, .inl (g.2.1 0, 6, .inl (fun _ => 0))), (ad 4, .inl (g.2.1 0, 42, .inl (fun _ => 0))), (ad 5, .inl (g.2.1 0, 6, .inl (fun _ => 0))), (ad 6, .inl (g.2.1 0, 10, .inl (fun _ => 0))), (ad 7, .inl (g.2.1 1, 2, .inl (fun _ => 0))), (ad 8, .inl (g.2.1 0, 200, .inl (fun _ => 0))), (ad 9, .inl (g.2.1 0, 3, .inl (fun j => if j < 3 then (-1 : Int32) else 0))), (ad 10, .inl (g.2.1 0, 24, .inl (fun _ => 0))), (ad 11, .inl (g.2.1 0, 24, .inl (fun _ => 0))), (ad 12, .inl (g.2.1 0, 24, .inl (fun _ => 0))), (ad 13, .inl (g.2.1 0, 42, .inl (fun _ => 0))), (ad 14, .inl (g.2.1 0, 6, .inl (fun _ => 0))), (ad 15, .inl (g.2.1 0, 3, .inl (fun _ => 0))), (ad 16, .inl (g.2.1 0, 25, .inl (fun j => wordsL.getD j 0))), (ad 17, .inl (g.2.1 0, 11, .inl (fun _ => 0)))]
theorem cn_z7 : ∀ j, j < ea_cN 7 → defaultValue (ea_cY 7 j) = vp_V [.null, .int 0, .null, .null, .null, .null, .int 0, .null, .int 0, .null, .null, .int 0, .null, .null, .null, .null, .int 0, .int 0, .int 0, .int 0, .null, .null, .int 0, .int 0, .null, .null, .null] j := fun j hj => by
  rcases (show j = 0 ∨ j = 1 ∨ j = 2 ∨ j = 3 ∨ j = 4 ∨ j = 5 ∨ j = 6 ∨ j = 7 ∨ j = 8 ∨ j = 9 ∨ j = 10 ∨ j = 11 ∨ j = 12 ∨ j = 13 ∨ j = 14 ∨ j = 15 ∨ j = 16 ∨ j = 17 ∨ j = 18 ∨ j = 19 ∨ j = 20 ∨ j = 21 ∨ j = 22 ∨ j = 23 ∨ j = 24 ∨ j = 25 ∨ j = 26 by have : j < 27 := hj; omega) with rfl | rfl | rfl | rfl | rfl | rfl | rfl | rfl | rfl | rfl | rfl | rfl | rfl | rfl | rfl | rfl | rfl | rfl | rfl | rfl | rfl | rfl | rfl | rfl | rfl | rfl | rfl <;> rfl
set_option maxRecDepth 100000 in
set_option maxHeartbeats 4000000 in
theorem cn_7 : cn_Sp 1 yX7_init cX7_init 1 7 [.null, .int 0, .null, .null, .null, .null, .int 0, .null, .int 0, .null, .null, .int 0, .null, .null, .null, .null, .int 0, .int 0, .int 0, .int 0, .null, .null, .int 0, .int 0, .null, .null, .null] 17 626 po_7 := by
  refine cn_intro (own := RX7) (by decide +kernel) rfl rfl (by decide) (fun k h C I X => ?_)
  refine c_aload_n (n := 0) C dX7_init_0 rfl rfl ?_
  refine c_init (st := []) C ⟨wsm_4 (List.mem_of_getElem? (i := 7) rfl), wsm_1 (List.mem_of_getElem? (i := 10) rfl), wsm_1 (List.mem_of_getElem? (i := 11) rfl)⟩ (by decide) dX7_init_1 ?_
  refine c_aload_n (n := 0) C dX7_init_4 rfl rfl ?_
  refine c_sipush (v := 192) C dX7_init_5 (by decide) ?_
  refine c_newI1 (N := 192) C (wsm_2 (List.mem_of_getElem? (i := 20) rfl)) (by decide) (by decide) (by decide) (Nat.le_of_ble_eq_true rfl) (Nat.le_of_ble_eq_true rfl) dX7_init_8 (fun q0 => ?_)
  refine c_putF1 C I fd_X7_7 rfl rfl rfl rfl (by first | (simp only [List.length_set]; rfl) | rfl) dX7_init_10 ?_
  refine c_aload_n (n := 0) C dX7_init_13 rfl rfl ?_
  refine c_bipush (v := 6) C dX7_init_14 (by decide) ?_
  refine c_newI1 (N := 6) C (wsm_2 (List.mem_of_getElem? (i := 20) rfl)) (by decide) (by decide) (by decide) (Nat.le_of_ble_eq_true rfl) (Nat.le_of_ble_eq_true rfl) dX7_init_16 (fun q1 => ?_)
  refine c_putF1 C I fd_X7_13 rfl rfl rfl rfl (by first | (simp only [List.length_set]; rfl) | rfl) dX7_init_18 ?_
  refine c_aload_n (n := 0) C dX7_init_21 rfl rfl ?_
  refine c_bipush (v := 6) C dX7_init_22 (by decide) ?_
  refine c_newI1 (N := 6) C (wsm_2 (List.mem_of_getElem? (i := 20) rfl)) (by decide) (by decide) (by decide) (Nat.le_of_ble_eq_true rfl) (Nat.le_of_ble_eq_true rfl) dX7_init_24 (fun q2 => ?_)
  refine c_putF1 C I fd_X7_16 rfl rfl rfl rfl (by first | (simp only [List.length_set]; rfl) | rfl) dX7_init_26 ?_
  refine c_aload_n (n := 0) C dX7_init_29 rfl rfl ?_
  refine c_bipush (v := 42) C dX7_init_30 (by decide) ?_
  refine c_newI1 (N := 42) C (wsm_2 (List.mem_of_getElem? (i := 20) rfl)) (by decide) (by decide) (by decide) (Nat.le_of_ble_eq_true rfl) (Nat.le_of_ble_eq_true rfl) dX7_init_32 (fun q3 => ?_)
  refine c_putF1 C I fd_X7_19 rfl rfl rfl rfl (by first | (simp only [List.length_set]; rfl) | rfl) dX7_init_34 ?_
  refine c_aload_n (n := 0) C dX7_init_37 rfl rfl ?_
  refine c_bipush (v := 6) C dX7_init_38 (by decide) ?_
  refine c_newI1 (N := 6) C (wsm_2 (List.mem_of_getElem? (i := 20) rfl)) (by decide) (by decide) (by decide) (Nat.le_of_ble_eq_true rfl) (Nat.le_of_ble_eq_true rfl) dX7_init_40 (fun q4 => ?_)
  refine c_putF1 C I fd_X7_22 rfl rfl rfl rfl (by first | (simp only [List.length_set]; rfl) | rfl) dX7_init_42 ?_
  refine c_aload_n (n := 0) C dX7_init_45 rfl rfl ?_
  refine c_bipush (v := 10) C dX7_init_46 (by decide) ?_
  refine c_newI1 (N := 10) C (wsm_2 (List.mem_of_getElem? (i := 20) rfl)) (by decide) (by decide) (by decide) (Nat.le_of_ble_eq_true rfl) (Nat.le_of_ble_eq_true rfl) dX7_init_48 (fun q5 => ?_)
  refine c_putF1 C I fd_X7_25 rfl rfl rfl rfl (by first | (simp only [List.length_set]; rfl) | rfl) dX7_init_50 ?_
  refine c_aload_n (n := 0) C dX7_init_53 rfl rfl ?_
  refine c_iconst (v := 2) C dX7_init_54 (by decide) ?_
  refine c_newZ1 (N := 2) C (wsm_4 (List.mem_of_getElem? (i := 14) rfl)) (by decide) (by decide) (by decide) (Nat.le_of_ble_eq_true rfl) (Nat.le_of_ble_eq_true rfl) dX7_init_55 (fun q6 => ?_)
  refine c_putF1 C I fd_X7_28 rfl rfl rfl rfl (by first | (simp only [List.length_set]; rfl) | rfl) dX7_init_57 ?_
  refine c_aload_n (n := 0) C dX7_init_60 rfl rfl ?_
  refine c_sipush (v := 200) C dX7_init_61 (by decide) ?_
  refine c_newI1 (N := 200) C (wsm_2 (List.mem_of_getElem? (i := 20) rfl)) (by decide) (by decide) (by decide) (Nat.le_of_ble_eq_true rfl) (Nat.le_of_ble_eq_true rfl) dX7_init_64 (fun q7 => ?_)
  refine c_putF1 C I fd_X7_32 rfl rfl rfl rfl (by first | (simp only [List.length_set]; rfl) | rfl) dX7_init_66 ?_
  refine c_aload_n (n := 0) C dX7_init_69 rfl rfl ?_
  refine c_iconst (v := 3) C dX7_init_70 (by decide) ?_
  refine c_newI1 (N := 3) C (wsm_2 (List.mem_of_getElem? (i := 20) rfl)) (by decide) (by decide) (by decide) (Nat.le_of_ble_eq_true rfl) (Nat.le_of_ble_eq_true rfl) dX7_init_71 (fun q8 => ?_)
  refine c_dup C dX7_init_73 ?_
  refine c_iconst (v := 0) C dX7_init_74 (by decide) ?_
  refine c_iconst (v := -1) C dX7_init_75 (by decide) ?_
  refine c_iastS C (vp_in_nI (n := 0) (by decide) (by decide)) dX7_init_76 ?_
  refine c_dup C dX7_init_77 ?_
  refine c_iconst (v := 1) C dX7_init_78 (by decide) ?_
  refine c_iconst (v := -1) C dX7_init_79 (by decide) ?_
  refine c_iastS C (vp_in_nI (n := 1) (by decide) (by decide)) dX7_init_80 ?_
  refine c_dup C dX7_init_81 ?_
  refine c_iconst (v := 2) C dX7_init_82 (by decide) ?_
  refine c_iconst (v := -1) C dX7_init_83 (by decide) ?_
  refine c_iastS C (vp_in_nI (n := 2) (by decide) (by decide)) dX7_init_84 ?_
  refine c_putF1 C I fd_X7_35 rfl rfl rfl rfl (by first | (simp only [List.length_set]; rfl) | rfl) dX7_init_85 ?_
  refine c_aload_n (n := 0) C dX7_init_88 rfl rfl ?_
  refine c_bipush (v := 24) C dX7_init_89 (by decide) ?_
  refine c_newI1 (N := 24) C (wsm_2 (List.mem_of_getElem? (i := 20) rfl)) (by decide) (by decide) (by decide) (Nat.le_of_ble_eq_true rfl) (Nat.le_of_ble_eq_true rfl) dX7_init_91 (fun q9 => ?_)
  refine c_putF1 C I fd_X7_38 rfl rfl rfl rfl (by first | (simp only [List.length_set]; rfl) | rfl) dX7_init_93 ?_
  refine c_aload_n (n := 0) C dX7_init_96 rfl rfl ?_
  refine c_bipush (v := 24) C dX7_init_97 (by decide) ?_
  refine c_newI1 (N := 24) C (wsm_2 (List.mem_of_getElem? (i := 20) rfl)) (by decide) (by decide) (by decide) (Nat.le_of_ble_eq_true rfl) (Nat.le_of_ble_eq_true rfl) dX7_init_99 (fun q10 => ?_)
  refine c_putF1 C I fd_X7_41 rfl rfl rfl rfl (by first | (simp only [List.length_set]; rfl) | rfl) dX7_init_101 ?_
  refine c_aload_n (n := 0) C dX7_init_104 rfl rfl ?_
  refine c_bipush (v := 24) C dX7_init_105 (by decide) ?_
  refine c_newI1 (N := 24) C (wsm_2 (List.mem_of_getElem? (i := 20) rfl)) (by decide) (by decide) (by decide) (Nat.le_of_ble_eq_true rfl) (Nat.le_of_ble_eq_true rfl) dX7_init_107 (fun q11 => ?_)
  refine c_putF1 C I fd_X7_44 rfl rfl rfl rfl (by first | (simp only [List.length_set]; rfl) | rfl) dX7_init_109 ?_
  refine c_aload_n (n := 0) C dX7_init_112 rfl rfl ?_
  refine c_bipush (v := 42) C dX7_init_113 (by decide) ?_
  refine c_newI1 (N := 42) C (wsm_2 (List.mem_of_getElem? (i := 20) rfl)) (by decide) (by decide) (by decide) (Nat.le_of_ble_eq_true rfl) (Nat.le_of_ble_eq_true rfl) dX7_init_115 (fun q12 => ?_)
  refine c_putF1 C I fd_X7_47 rfl rfl rfl rfl (by first | (simp only [List.length_set]; rfl) | rfl) dX7_init_117 ?_
  refine c_aload_n (n := 0) C dX7_init_120 rfl rfl ?_
  refine c_bipush (v := 6) C dX7_init_121 (by decide) ?_
  refine c_newI1 (N := 6) C (wsm_2 (List.mem_of_getElem? (i := 20) rfl)) (by decide) (by decide) (by decide) (Nat.le_of_ble_eq_true rfl) (Nat.le_of_ble_eq_true rfl) dX7_init_123 (fun q13 => ?_)
  refine c_putF1 C I fd_X7_50 rfl rfl rfl rfl (by first | (simp only [List.length_set]; rfl) | rfl) dX7_init_125 ?_
  refine c_aload_n (n := 0) C dX7_init_128 rfl rfl ?_
  refine c_iconst (v := 3) C dX7_init_129 (by decide) ?_
  refine c_newI1 (N := 3) C (wsm_2 (List.mem_of_getElem? (i := 20) rfl)) (by decide) (by decide) (by decide) (Nat.le_of_ble_eq_true rfl) (Nat.le_of_ble_eq_true rfl) dX7_init_130 (fun q14 => ?_)
  refine c_putF1 C I fd_X7_53 rfl rfl rfl rfl (by first | (simp only [List.length_set]; rfl) | rfl) dX7_init_132 ?_
  refine c_aload_n (n := 0) C dX7_init_135 rfl rfl ?_
  refine c_bipush (v := 25) C dX7_init_136 (by decide) ?_
  refine c_newI1 (N := 25) C (wsm_2 (List.mem_of_getElem? (i := 20) rfl)) (by decide) (by decide) (by decide) (Nat.le_of_ble_eq_true rfl) (Nat.le_of_ble_eq_true rfl) dX7_init_138 (fun q15 => ?_)
  refine c_dup C dX7_init_140 ?_
  refine c_iconst (v := 0) C dX7_init_141 (by decide) ?_
  refine c_bipush (v := 119) C dX7_init_142 (by decide) ?_
  refine c_iastS C (vp_in_nI (n := 0) (by decide) (by decide)) dX7_init_144 ?_
  refine c_dup C dX7_init_145 ?_
  refine c_iconst (v := 1) C dX7_init_146 (by decide) ?_
  refine c_bipush (v := 97) C dX7_init_147 (by decide) ?_
  refine c_iastS C (vp_in_nI (n := 1) (by decide) (by decide)) dX7_init_149 ?_
  refine c_dup C dX7_init_150 ?_
  refine c_iconst (v := 2) C dX7_init_151 (by decide) ?_
  refine c_bipush (v := 108) C dX7_init_152 (by decide) ?_
  refine c_iastS C (vp_in_nI (n := 2) (by decide) (by decide)) dX7_init_154 ?_
  refine c_dup C dX7_init_155 ?_
  refine c_iconst (v := 3) C dX7_init_156 (by decide) ?_
  refine c_bipush (v := 108) C dX7_init_157 (by decide) ?_
  refine c_iastS C (vp_in_nI (n := 3) (by decide) (by decide)) dX7_init_159 ?_
  refine c_dup C dX7_init_160 ?_
  refine c_iconst (v := 4) C dX7_init_161 (by decide) ?_
  refine c_iconst (v := 0) C dX7_init_162 (by decide) ?_
  refine c_iastS C (vp_in_nI (n := 4) (by decide) (by decide)) dX7_init_163 ?_
  refine c_dup C dX7_init_164 ?_
  refine c_iconst (v := 5) C dX7_init_165 (by decide) ?_
  refine c_bipush (v := 115) C dX7_init_166 (by decide) ?_
  refine c_iastS C (vp_in_nI (n := 5) (by decide) (by decide)) dX7_init_168 ?_
  refine c_dup C dX7_init_169 ?_
  refine c_bipush (v := 6) C dX7_init_170 (by decide) ?_
  refine c_bipush (v := 116) C dX7_init_172 (by decide) ?_
  refine c_iastS C (vp_in_nI (n := 6) (by decide) (by decide)) dX7_init_174 ?_
  refine c_dup C dX7_init_175 ?_
  refine c_bipush (v := 7) C dX7_init_176 (by decide) ?_
  refine c_bipush (v := 117) C dX7_init_178 (by decide) ?_
  refine c_iastS C (vp_in_nI (n := 7) (by decide) (by decide)) dX7_init_180 ?_
  refine c_dup C dX7_init_181 ?_
  refine c_bipush (v := 8) C dX7_init_182 (by decide) ?_
  refine c_bipush (v := 102) C dX7_init_184 (by decide) ?_
  refine c_iastS C (vp_in_nI (n := 8) (by decide) (by decide)) dX7_init_186 ?_
  refine c_dup C dX7_init_187 ?_
  refine c_bipush (v := 9) C dX7_init_188 (by decide) ?_
  refine c_bipush (v := 102) C dX7_init_190 (by decide) ?_
  refine c_iastS C (vp_in_nI (n := 9) (by decide) (by decide)) dX7_init_192 ?_
  refine c_dup C dX7_init_193 ?_
  refine c_bipush (v := 10) C dX7_init_194 (by decide) ?_
  refine c_bipush (v := 108) C dX7_init_196 (by decide) ?_
  refine c_iastS C (vp_in_nI (n := 10) (by decide) (by decide)) dX7_init_198 ?_
  refine c_dup C dX7_init_199 ?_
  refine c_bipush (v := 11) C dX7_init_200 (by decide) ?_
  refine c_bipush (v := 97) C dX7_init_202 (by decide) ?_
  refine c_iastS C (vp_in_nI (n := 11) (by decide) (by decide)) dX7_init_204 ?_
  refine c_dup C dX7_init_205 ?_
  refine c_bipush (v := 12) C dX7_init_206 (by decide) ?_
  refine c_bipush (v := 121) C dX7_init_208 (by decide) ?_
  refine c_iastS C (vp_in_nI (n := 12) (by decide) (by decide)) dX7_init_210 ?_
  refine c_dup C dX7_init_211 ?_
  refine c_bipush (v := 13) C dX7_init_212 (by decide) ?_
  refine c_bipush (v := 101) C dX7_init_214 (by decide) ?_
  refine c_iastS C (vp_in_nI (n := 13) (by decide) (by decide)) dX7_init_216 ?_
  refine c_dup C dX7_init_217 ?_
  refine c_bipush (v := 14) C dX7_init_218 (by decide) ?_
  refine c_bipush (v := 114) C dX7_init_220 (by decide) ?_
  refine c_iastS C (vp_in_nI (n := 14) (by decide) (by decide)) dX7_init_222 ?_
  refine c_dup C dX7_init_223 ?_
  refine c_bipush (v := 15) C dX7_init_224 (by decide) ?_
  refine c_bipush (v := 97) C dX7_init_226 (by decide) ?_
  refine c_iastS C (vp_in_nI (n := 15) (by decide) (by decide)) dX7_init_228 ?_
  refine c_dup C dX7_init_229 ?_
  refine c_bipush (v := 16) C dX7_init_230 (by decide) ?_
  refine c_bipush (v := 105) C dX7_init_232 (by decide) ?_
  refine c_iastS C (vp_in_nI (n := 16) (by decide) (by decide)) dX7_init_234 ?_
  refine c_dup C dX7_init_235 ?_
  refine c_bipush (v := 17) C dX7_init_236 (by decide) ?_
  refine c_bipush (v := 114) C dX7_init_238 (by decide) ?_
  refine c_iastS C (vp_in_nI (n := 17) (by decide) (by decide)) dX7_init_240 ?_
  refine c_dup C dX7_init_241 ?_
  refine c_bipush (v := 18) C dX7_init_242 (by decide) ?_
  refine c_iconst (v := 0) C dX7_init_244 (by decide) ?_
  refine c_iastS C (vp_in_nI (n := 18) (by decide) (by decide)) dX7_init_245 ?_
  refine c_dup C dX7_init_246 ?_
  refine c_bipush (v := 19) C dX7_init_247 (by decide) ?_
  refine c_iconst (v := 0) C dX7_init_249 (by decide) ?_
  refine c_iastS C (vp_in_nI (n := 19) (by decide) (by decide)) dX7_init_250 ?_
  refine c_dup C dX7_init_251 ?_
  refine c_bipush (v := 20) C dX7_init_252 (by decide) ?_
  refine c_bipush (v := 104) C dX7_init_254 (by decide) ?_
  refine c_iastS C (vp_in_nI (n := 20) (by decide) (by decide)) dX7_init_256 ?_
  refine c_dup C dX7_init_257 ?_
  refine c_bipush (v := 21) C dX7_init_258 (by decide) ?_
  refine c_bipush (v := 101) C dX7_init_260 (by decide) ?_
  refine c_iastS C (vp_in_nI (n := 21) (by decide) (by decide)) dX7_init_262 ?_
  refine c_dup C dX7_init_263 ?_
  refine c_bipush (v := 22) C dX7_init_264 (by decide) ?_
  refine c_bipush (v := 97) C dX7_init_266 (by decide) ?_
  refine c_iastS C (vp_in_nI (n := 22) (by decide) (by decide)) dX7_init_268 ?_
  refine c_dup C dX7_init_269 ?_
  refine c_bipush (v := 23) C dX7_init_270 (by decide) ?_
  refine c_bipush (v := 116) C dX7_init_272 (by decide) ?_
  refine c_iastS C (vp_in_nI (n := 23) (by decide) (by decide)) dX7_init_274 ?_
  refine c_dup C dX7_init_275 ?_
  refine c_bipush (v := 24) C dX7_init_276 (by decide) ?_
  refine c_iconst (v := 0) C dX7_init_278 (by decide) ?_
  refine c_iastS C (vp_in_nI (n := 24) (by decide) (by decide)) dX7_init_279 ?_
  refine c_putF1 C I fd_X7_56 rfl rfl rfl rfl (by first | (simp only [List.length_set]; rfl) | rfl) dX7_init_280 ?_
  refine c_aload_n (n := 0) C dX7_init_283 rfl rfl ?_
  refine c_bipush (v := 11) C dX7_init_284 (by decide) ?_
  refine c_newI1 (N := 11) C (wsm_2 (List.mem_of_getElem? (i := 20) rfl)) (by decide) (by decide) (by decide) (Nat.le_of_ble_eq_true rfl) (Nat.le_of_ble_eq_true rfl) dX7_init_286 (fun q16 => ?_)
  refine c_putF1 C I fd_X7_59 rfl rfl rfl rfl (by first | (simp only [List.length_set]; rfl) | rfl) dX7_init_288 ?_
  refine c_eq (Y' := ([(h, .inr (7, [.ref q0, .int 0, .ref q1, .ref q2, .ref q3, .ref q4, .int 0, .ref q5, .int 0, .ref q6, .ref q7, .int 0, .ref q8, .ref q9, .ref q10, .ref q11, .int 0, .int 0, .int 0, .int 0, .ref q12, .ref q13, .int 0, .int 0, .ref q14, .ref q15, .ref q16])), (q0, .inl ((cn_g k).2.1 0, 192, .inl (fun _ => 0))), (q1, .inl ((cn_g k).2.1 0, 6, .inl (fun _ => 0))), (q2, .inl ((cn_g k).2.1 0, 6, .inl (fun _ => 0))), (q3, .inl ((cn_g k).2.1 0, 42, .inl (fun _ => 0))), (q4, .inl ((cn_g k).2.1 0, 6, .inl (fun _ => 0))), (q5, .inl ((cn_g k).2.1 0, 10, .inl (fun _ => 0))), (q6, .inl ((cn_g k).2.1 1, 2, .inl (fun _ => 0))), (q7, .inl ((cn_g k).2.1 0, 200, .inl (fun _ => 0))), (q8, .inl ((cn_g k).2.1 0, 3, .inl (upd (upd (upd (fun _ => 0) (Int32.toNatClampNeg 0) (-1)) (Int32.toNatClampNeg 1) (-1)) (Int32.toNatClampNeg 2) (-1)))), (q9, .inl ((cn_g k).2.1 0, 24, .inl (fun _ => 0))), (q10, .inl ((cn_g k).2.1 0, 24, .inl (fun _ => 0))), (q11, .inl ((cn_g k).2.1 0, 24, .inl (fun _ => 0))), (q12, .inl ((cn_g k).2.1 0, 42, .inl (fun _ => 0))), (q13, .inl ((cn_g k).2.1 0, 6, .inl (fun _ => 0))), (q14, .inl ((cn_g k).2.1 0, 3, .inl (fun _ => 0))), (q15, .inl ((cn_g k).2.1 0, 25, .inl (upd (upd (upd (upd (upd (upd (upd (upd (upd (upd (upd (upd (upd (upd (upd (upd (upd (upd (upd (upd (upd (upd (upd (upd (upd (fun _ => 0) (Int32.toNatClampNeg 0) 119) (Int32.toNatClampNeg 1) 97) (Int32.toNatClampNeg 2) 108) (Int32.toNatClampNeg 3) 108) (Int32.toNatClampNeg 4) 0) (Int32.toNatClampNeg 5) 115) (Int32.toNatClampNeg 6) 116) (Int32.toNatClampNeg 7) 117) (Int32.toNatClampNeg 8) 102) (Int32.toNatClampNeg 9) 102) (Int32.toNatClampNeg 10) 108) (Int32.toNatClampNeg 11) 97) (Int32.toNatClampNeg 12) 121) (Int32.toNatClampNeg 13) 101) (Int32.toNatClampNeg 14) 114) (Int32.toNatClampNeg 15) 97) (Int32.toNatClampNeg 16) 105) (Int32.toNatClampNeg 17) 114) (Int32.toNatClampNeg 18) 0) (Int32.toNatClampNeg 19) 0) (Int32.toNatClampNeg 20) 104) (Int32.toNatClampNeg 21) 101) (Int32.toNatClampNeg 22) 97) (Int32.toNatClampNeg 23) 116) (Int32.toNatClampNeg 24) 0))), (q16, .inl ((cn_g k).2.1 0, 11, .inl (fun _ => 0)))] : va_W)) (by simp only [List.cons_append, List.nil_append, List.append_nil, List.set_cons_succ, List.set_cons_zero]) ?_
  refine c_aload_n (n := 0) C dX7_init_291 rfl rfl ?_
  refine c_get (q0 := 0) C fd_X7_7 rfl rfl dX7_init_292 ?_
  refine c_bipush (v := 12) C dX7_init_295 (by decide) ?_
  refine c_bipush (v := 40) C dX7_init_297 (by decide) ?_
  refine c_iast (q0 := 1) C rfl (vp_in_nI (n := 12) (by decide) (by decide)) dX7_init_299 ?_
  refine c_eq (Y' := ([(h, .inr (7, [.ref q0, .int 0, .ref q1, .ref q2, .ref q3, .ref q4, .int 0, .ref q5, .int 0, .ref q6, .ref q7, .int 0, .ref q8, .ref q9, .ref q10, .ref q11, .int 0, .int 0, .int 0, .int 0, .ref q12, .ref q13, .int 0, .int 0, .ref q14, .ref q15, .ref q16])), (q0, .inl ((cn_g k).2.1 0, 192, .inl (upd (fun _ => 0) (Int32.toNatClampNeg 12) 40))), (q1, .inl ((cn_g k).2.1 0, 6, .inl (fun _ => 0))), (q2, .inl ((cn_g k).2.1 0, 6, .inl (fun _ => 0))), (q3, .inl ((cn_g k).2.1 0, 42, .inl (fun _ => 0))), (q4, .inl ((cn_g k).2.1 0, 6, .inl (fun _ => 0))), (q5, .inl ((cn_g k).2.1 0, 10, .inl (fun _ => 0))), (q6, .inl ((cn_g k).2.1 1, 2, .inl (fun _ => 0))), (q7, .inl ((cn_g k).2.1 0, 200, .inl (fun _ => 0))), (q8, .inl ((cn_g k).2.1 0, 3, .inl (upd (upd (upd (fun _ => 0) (Int32.toNatClampNeg 0) (-1)) (Int32.toNatClampNeg 1) (-1)) (Int32.toNatClampNeg 2) (-1)))), (q9, .inl ((cn_g k).2.1 0, 24, .inl (fun _ => 0))), (q10, .inl ((cn_g k).2.1 0, 24, .inl (fun _ => 0))), (q11, .inl ((cn_g k).2.1 0, 24, .inl (fun _ => 0))), (q12, .inl ((cn_g k).2.1 0, 42, .inl (fun _ => 0))), (q13, .inl ((cn_g k).2.1 0, 6, .inl (fun _ => 0))), (q14, .inl ((cn_g k).2.1 0, 3, .inl (fun _ => 0))), (q15, .inl ((cn_g k).2.1 0, 25, .inl (upd (upd (upd (upd (upd (upd (upd (upd (upd (upd (upd (upd (upd (upd (upd (upd (upd (upd (upd (upd (upd (upd (upd (upd (upd (fun _ => 0) (Int32.toNatClampNeg 0) 119) (Int32.toNatClampNeg 1) 97) (Int32.toNatClampNeg 2) 108) (Int32.toNatClampNeg 3) 108) (Int32.toNatClampNeg 4) 0) (Int32.toNatClampNeg 5) 115) (Int32.toNatClampNeg 6) 116) (Int32.toNatClampNeg 7) 117) (Int32.toNatClampNeg 8) 102) (Int32.toNatClampNeg 9) 102) (Int32.toNatClampNeg 10) 108) (Int32.toNatClampNeg 11) 97) (Int32.toNatClampNeg 12) 121) (Int32.toNatClampNeg 13) 101) (Int32.toNatClampNeg 14) 114) (Int32.toNatClampNeg 15) 97) (Int32.toNatClampNeg 16) 105) (Int32.toNatClampNeg 17) 114) (Int32.toNatClampNeg 18) 0) (Int32.toNatClampNeg 19) 0) (Int32.toNatClampNeg 20) 104) (Int32.toNatClampNeg 21) 101) (Int32.toNatClampNeg 22) 97) (Int32.toNatClampNeg 23) 116) (Int32.toNatClampNeg 24) 0))), (q16, .inl ((cn_g k).2.1 0, 11, .inl (fun _ => 0)))] : va_W)) (by simp only [List.cons_append, List.nil_append, List.append_nil, List.set_cons_succ, List.set_cons_zero]) ?_
  refine c_fixI (q0 := 1) C (fun j => if j = 12 then (40 : Int32) else 0) rfl (by decide +kernel) ?_
  refine c_eq (Y' := ([(h, .inr (7, [.ref q0, .int 0, .ref q1, .ref q2, .ref q3, .ref q4, .int 0, .ref q5, .int 0, .ref q6, .ref q7, .int 0, .ref q8, .ref q9, .ref q10, .ref q11, .int 0, .int 0, .int 0, .int 0, .ref q12, .ref q13, .int 0, .int 0, .ref q14, .ref q15, .ref q16])), (q0, .inl ((cn_g k).2.1 0, 192, .inl ((fun j => if j = 12 then (40 : Int32) else 0)))), (q1, .inl ((cn_g k).2.1 0, 6, .inl (fun _ => 0))), (q2, .inl ((cn_g k).2.1 0, 6, .inl (fun _ => 0))), (q3, .inl ((cn_g k).2.1 0, 42, .inl (fun _ => 0))), (q4, .inl ((cn_g k).2.1 0, 6, .inl (fun _ => 0))), (q5, .inl ((cn_g k).2.1 0, 10, .inl (fun _ => 0))), (q6, .inl ((cn_g k).2.1 1, 2, .inl (fun _ => 0))), (q7, .inl ((cn_g k).2.1 0, 200, .inl (fun _ => 0))), (q8, .inl ((cn_g k).2.1 0, 3, .inl (upd (upd (upd (fun _ => 0) (Int32.toNatClampNeg 0) (-1)) (Int32.toNatClampNeg 1) (-1)) (Int32.toNatClampNeg 2) (-1)))), (q9, .inl ((cn_g k).2.1 0, 24, .inl (fun _ => 0))), (q10, .inl ((cn_g k).2.1 0, 24, .inl (fun _ => 0))), (q11, .inl ((cn_g k).2.1 0, 24, .inl (fun _ => 0))), (q12, .inl ((cn_g k).2.1 0, 42, .inl (fun _ => 0))), (q13, .inl ((cn_g k).2.1 0, 6, .inl (fun _ => 0))), (q14, .inl ((cn_g k).2.1 0, 3, .inl (fun _ => 0))), (q15, .inl ((cn_g k).2.1 0, 25, .inl (upd (upd (upd (upd (upd (upd (upd (upd (upd (upd (upd (upd (upd (upd (upd (upd (upd (upd (upd (upd (upd (upd (upd (upd (upd (fun _ => 0) (Int32.toNatClampNeg 0) 119) (Int32.toNatClampNeg 1) 97) (Int32.toNatClampNeg 2) 108) (Int32.toNatClampNeg 3) 108) (Int32.toNatClampNeg 4) 0) (Int32.toNatClampNeg 5) 115) (Int32.toNatClampNeg 6) 116) (Int32.toNatClampNeg 7) 117) (Int32.toNatClampNeg 8) 102) (Int32.toNatClampNeg 9) 102) (Int32.toNatClampNeg 10) 108) (Int32.toNatClampNeg 11) 97) (Int32.toNatClampNeg 12) 121) (Int32.toNatClampNeg 13) 101) (Int32.toNatClampNeg 14) 114) (Int32.toNatClampNeg 15) 97) (Int32.toNatClampNeg 16) 105) (Int32.toNatClampNeg 17) 114) (Int32.toNatClampNeg 18) 0) (Int32.toNatClampNeg 19) 0) (Int32.toNatClampNeg 20) 104) (Int32.toNatClampNeg 21) 101) (Int32.toNatClampNeg 22) 97) (Int32.toNatClampNeg 23) 116) (Int32.toNatClampNeg 24) 0))), (q16, .inl ((cn_g k).2.1 0, 11, .inl (fun _ => 0)))] : va_W)) (by simp only [List.cons_append, List.nil_append, List.append_nil, List.set_cons_succ, List.set_cons_zero]) ?_
  refine c_fixI (q0 := 9) C (fun j => if j < 3 then (-1 : Int32) else 0) rfl (by decide +kernel) ?_
  refine c_eq (Y' := ([(h, .inr (7, [.ref q0, .int 0, .ref q1, .ref q2, .ref q3, .ref q4, .int 0, .ref q5, .int 0, .ref q6, .ref q7, .int 0, .ref q8, .ref q9, .ref q10, .ref q11, .int 0, .int 0, .int 0, .int 0, .ref q12, .ref q13, .int 0, .int 0, .ref q14, .ref q15, .ref q16])), (q0, .inl ((cn_g k).2.1 0, 192, .inl ((fun j => if j = 12 then (40 : Int32) else 0)))), (q1, .inl ((cn_g k).2.1 0, 6, .inl (fun _ => 0))), (q2, .inl ((cn_g k).2.1 0, 6, .inl (fun _ => 0))), (q3, .inl ((cn_g k).2.1 0, 42, .inl (fun _ => 0))), (q4, .inl ((cn_g k).2.1 0, 6, .inl (fun _ => 0))), (q5, .inl ((cn_g k).2.1 0, 10, .inl (fun _ => 0))), (q6, .inl ((cn_g k).2.1 1, 2, .inl (fun _ => 0))), (q7, .inl ((cn_g k).2.1 0, 200, .inl (fun _ => 0))), (q8, .inl ((cn_g k).2.1 0, 3, .inl ((fun j => if j < 3 then (-1 : Int32) else 0)))), (q9, .inl ((cn_g k).2.1 0, 24, .inl (fun _ => 0))), (q10, .inl ((cn_g k).2.1 0, 24, .inl (fun _ => 0))), (q11, .inl ((cn_g k).2.1 0, 24, .inl (fun _ => 0))), (q12, .inl ((cn_g k).2.1 0, 42, .inl (fun _ => 0))), (q13, .inl ((cn_g k).2.1 0, 6, .inl (fun _ => 0))), (q14, .inl ((cn_g k).2.1 0, 3, .inl (fun _ => 0))), (q15, .inl ((cn_g k).2.1 0, 25, .inl (upd (upd (upd (upd (upd (upd (upd (upd (upd (upd (upd (upd (upd (upd (upd (upd (upd (upd (upd (upd (upd (upd (upd (upd (upd (fun _ => 0) (Int32.toNatClampNeg 0) 119) (Int32.toNatClampNeg 1) 97) (Int32.toNatClampNeg 2) 108) (Int32.toNatClampNeg 3) 108) (Int32.toNatClampNeg 4) 0) (Int32.toNatClampNeg 5) 115) (Int32.toNatClampNeg 6) 116) (Int32.toNatClampNeg 7) 117) (Int32.toNatClampNeg 8) 102) (Int32.toNatClampNeg 9) 102) (Int32.toNatClampNeg 10) 108) (Int32.toNatClampNeg 11) 97) (Int32.toNatClampNeg 12) 121) (Int32.toNatClampNeg 13) 101) (Int32.toNatClampNeg 14) 114) (Int32.toNatClampNeg 15) 97) (Int32.toNatClampNeg 16) 105) (Int32.toNatClampNeg 17) 114) (Int32.toNatClampNeg 18) 0) (Int32.toNatClampNeg 19) 0) (Int32.toNatClampNeg 20) 104) (Int32.toNatClampNeg 21) 101) (Int32.toNatClampNeg 22) 97) (Int32.toNatClampNeg 23) 116) (Int32.toNatClampNeg 24) 0))), (q16, .inl ((cn_g k).2.1 0, 11, .inl (fun _ => 0)))] : va_W)) (by simp only [List.cons_append, List.nil_append, List.append_nil, List.set_cons_succ, List.set_cons_zero]) ?_
  refine c_fixI (q0 := 16) C (fun j => wordsL.getD j 0) rfl (by decide +kernel) ?_
  refine c_eq (Y' := ([(h, .inr (7, [.ref q0, .int 0, .ref q1, .ref q2, .ref q3, .ref q4, .int 0, .ref q5, .int 0, .ref q6, .ref q7, .int 0, .ref q8, .ref q9, .ref q10, .ref q11, .int 0, .int 0, .int 0, .int 0, .ref q12, .ref q13, .int 0, .int 0, .ref q14, .ref q15, .ref q16])), (q0, .inl ((cn_g k).2.1 0, 192, .inl ((fun j => if j = 12 then (40 : Int32) else 0)))), (q1, .inl ((cn_g k).2.1 0, 6, .inl (fun _ => 0))), (q2, .inl ((cn_g k).2.1 0, 6, .inl (fun _ => 0))), (q3, .inl ((cn_g k).2.1 0, 42, .inl (fun _ => 0))), (q4, .inl ((cn_g k).2.1 0, 6, .inl (fun _ => 0))), (q5, .inl ((cn_g k).2.1 0, 10, .inl (fun _ => 0))), (q6, .inl ((cn_g k).2.1 1, 2, .inl (fun _ => 0))), (q7, .inl ((cn_g k).2.1 0, 200, .inl (fun _ => 0))), (q8, .inl ((cn_g k).2.1 0, 3, .inl ((fun j => if j < 3 then (-1 : Int32) else 0)))), (q9, .inl ((cn_g k).2.1 0, 24, .inl (fun _ => 0))), (q10, .inl ((cn_g k).2.1 0, 24, .inl (fun _ => 0))), (q11, .inl ((cn_g k).2.1 0, 24, .inl (fun _ => 0))), (q12, .inl ((cn_g k).2.1 0, 42, .inl (fun _ => 0))), (q13, .inl ((cn_g k).2.1 0, 6, .inl (fun _ => 0))), (q14, .inl ((cn_g k).2.1 0, 3, .inl (fun _ => 0))), (q15, .inl ((cn_g k).2.1 0, 25, .inl ((fun j => wordsL.getD j 0)))), (q16, .inl ((cn_g k).2.1 0, 11, .inl (fun _ => 0)))] : va_W)) (by simp only [List.cons_append, List.nil_append, List.append_nil, List.set_cons_succ, List.set_cons_zero]) ?_
  exact c_vret C X (fun j => ([h, q0, q1, q2, q3, q4, q5, q6, q7, q8, q9, q10, q11, q12, q13, q14, q15, q16] : List Nat).getD j 0) rfl rfl dX7_init_300
