theorem ea_lt {x : Nat} (h : ea_kd x < 9999) : x < 79 := by
  by_cases q : x < 79
  · exact q
  · exfalso
    have hl : ea_kL.length ≤ x := by
      have : ea_kL.length = 79 := by decide
      omega
    have : ea_kd x = 9999 := by
      simp [ea_kd, List.getD_eq_getElem?_getD, List.getElem?_eq_none hl]
    omega
theorem ea_ltO {x ci : Nat} (h : ci < 8) (hk : ea_kd x = ci) : x < 79 := ea_lt (by omega)
theorem ea_ltA {x n : Nat} (hk : ea_kd x = 1000 + n) (h : n < 1000) : x < 79 := ea_lt (by omega)
theorem ea_nz {v : Int32} (h : v = 0 ∨ v = 1) : narrow .boolean (.int v) = .int v := by
  rcases h with rfl | rfl <;> rfl
theorem ea_fz {v : Int32} (h : v = 0 ∨ v = 1) : fits .boolean (.int v) = true := by
  rcases h with rfl | rfl <;> rfl
theorem ea_toI0 {x : Int32} {j : Int} (h : ¬ x = Int32.ofInt j) (h2 : -2147483648 ≤ j) (h3 : j < 2147483648) : x.toInt ≠ j := by
  intro q
  apply h
  apply Int32.toInt_inj.mp
  rw [q, Int32.toInt_ofInt_of_le h2 h3]
theorem ea_tab3 {x : Int32} (h0 : ¬ x = 0) (h1 : ¬ x = 1) (h2 : ¬ x = 2) (h3 : ¬ x = 3) : x.toInt < 0 ∨ 3 < x.toInt := by
  have q0 := ea_toI0 (x := x) (j := 0) h0 (by decide) (by decide)
  have q1 := ea_toI0 (x := x) (j := 1) h1 (by decide) (by decide)
  have q2 := ea_toI0 (x := x) (j := 2) h2 (by decide) (by decide)
  have q3 := ea_toI0 (x := x) (j := 3) h3 (by decide) (by decide)
  omega
theorem ea_tab4 {x : Int32} (h0 : ¬ x = 0) (h1 : ¬ x = 1) (h2 : ¬ x = 2) (h3 : ¬ x = 3) (h4 : ¬ x = 4) : x.toInt < 0 ∨ 4 < x.toInt := by
  have q0 := ea_toI0 (x := x) (j := 0) h0 (by decide) (by decide)
  have q1 := ea_toI0 (x := x) (j := 1) h1 (by decide) (by decide)
  have q2 := ea_toI0 (x := x) (j := 2) h2 (by decide) (by decide)
  have q3 := ea_toI0 (x := x) (j := 3) h3 (by decide) (by decide)
  have q4 := ea_toI0 (x := x) (j := 4) h4 (by decide) (by decide)
  omega
theorem ea_tab15 {x : Int32} (h0 : ¬ x = 0) (h1 : ¬ x = 1) (h2 : ¬ x = 2) (h3 : ¬ x = 3) (h4 : ¬ x = 4) (h5 : ¬ x = 5) (h6 : ¬ x = 6) (h7 : ¬ x = 7) (h8 : ¬ x = 8) (h9 : ¬ x = 9) (h10 : ¬ x = 10) (h11 : ¬ x = 11) (h12 : ¬ x = 12) (h13 : ¬ x = 13) (h14 : ¬ x = 14) (h15 : ¬ x = 15) : x.toInt < 0 ∨ 15 < x.toInt := by
  have q0 := ea_toI0 (x := x) (j := 0) h0 (by decide) (by decide)
  have q1 := ea_toI0 (x := x) (j := 1) h1 (by decide) (by decide)
  have q2 := ea_toI0 (x := x) (j := 2) h2 (by decide) (by decide)
  have q3 := ea_toI0 (x := x) (j := 3) h3 (by decide) (by decide)
  have q4 := ea_toI0 (x := x) (j := 4) h4 (by decide) (by decide)
  have q5 := ea_toI0 (x := x) (j := 5) h5 (by decide) (by decide)
  have q6 := ea_toI0 (x := x) (j := 6) h6 (by decide) (by decide)
  have q7 := ea_toI0 (x := x) (j := 7) h7 (by decide) (by decide)
  have q8 := ea_toI0 (x := x) (j := 8) h8 (by decide) (by decide)
  have q9 := ea_toI0 (x := x) (j := 9) h9 (by decide) (by decide)
  have q10 := ea_toI0 (x := x) (j := 10) h10 (by decide) (by decide)
  have q11 := ea_toI0 (x := x) (j := 11) h11 (by decide) (by decide)
  have q12 := ea_toI0 (x := x) (j := 12) h12 (by decide) (by decide)
  have q13 := ea_toI0 (x := x) (j := 13) h13 (by decide) (by decide)
  have q14 := ea_toI0 (x := x) (j := 14) h14 (by decide) (by decide)
  have q15 := ea_toI0 (x := x) (j := 15) h15 (by decide) (by decide)
  omega
theorem ea_tab27 {x : Int32} (h0 : ¬ x = 0) (h1 : ¬ x = 1) (h2 : ¬ x = 2) (h3 : ¬ x = 3) (h4 : ¬ x = 4) (h5 : ¬ x = 5) (h6 : ¬ x = 6) (h7 : ¬ x = 7) (h8 : ¬ x = 8) (h9 : ¬ x = 9) (h10 : ¬ x = 10) (h11 : ¬ x = 11) (h12 : ¬ x = 12) (h13 : ¬ x = 13) (h14 : ¬ x = 14) (h15 : ¬ x = 15) (h16 : ¬ x = 16) (h17 : ¬ x = 17) (h18 : ¬ x = 18) (h19 : ¬ x = 19) (h20 : ¬ x = 20) (h21 : ¬ x = 21) (h22 : ¬ x = 22) (h23 : ¬ x = 23) (h24 : ¬ x = 24) (h25 : ¬ x = 25) (h26 : ¬ x = 26) (h27 : ¬ x = 27) : x.toInt < 0 ∨ 27 < x.toInt := by
  have q0 := ea_toI0 (x := x) (j := 0) h0 (by decide) (by decide)
  have q1 := ea_toI0 (x := x) (j := 1) h1 (by decide) (by decide)
  have q2 := ea_toI0 (x := x) (j := 2) h2 (by decide) (by decide)
  have q3 := ea_toI0 (x := x) (j := 3) h3 (by decide) (by decide)
  have q4 := ea_toI0 (x := x) (j := 4) h4 (by decide) (by decide)
  have q5 := ea_toI0 (x := x) (j := 5) h5 (by decide) (by decide)
  have q6 := ea_toI0 (x := x) (j := 6) h6 (by decide) (by decide)
  have q7 := ea_toI0 (x := x) (j := 7) h7 (by decide) (by decide)
  have q8 := ea_toI0 (x := x) (j := 8) h8 (by decide) (by decide)
  have q9 := ea_toI0 (x := x) (j := 9) h9 (by decide) (by decide)
  have q10 := ea_toI0 (x := x) (j := 10) h10 (by decide) (by decide)
  have q11 := ea_toI0 (x := x) (j := 11) h11 (by decide) (by decide)
  have q12 := ea_toI0 (x := x) (j := 12) h12 (by decide) (by decide)
  have q13 := ea_toI0 (x := x) (j := 13) h13 (by decide) (by decide)
  have q14 := ea_toI0 (x := x) (j := 14) h14 (by decide) (by decide)
  have q15 := ea_toI0 (x := x) (j := 15) h15 (by decide) (by decide)
  have q16 := ea_toI0 (x := x) (j := 16) h16 (by decide) (by decide)
  have q17 := ea_toI0 (x := x) (j := 17) h17 (by decide) (by decide)
  have q18 := ea_toI0 (x := x) (j := 18) h18 (by decide) (by decide)
  have q19 := ea_toI0 (x := x) (j := 19) h19 (by decide) (by decide)
  have q20 := ea_toI0 (x := x) (j := 20) h20 (by decide) (by decide)
  have q21 := ea_toI0 (x := x) (j := 21) h21 (by decide) (by decide)
  have q22 := ea_toI0 (x := x) (j := 22) h22 (by decide) (by decide)
  have q23 := ea_toI0 (x := x) (j := 23) h23 (by decide) (by decide)
  have q24 := ea_toI0 (x := x) (j := 24) h24 (by decide) (by decide)
  have q25 := ea_toI0 (x := x) (j := 25) h25 (by decide) (by decide)
  have q26 := ea_toI0 (x := x) (j := 26) h26 (by decide) (by decide)
  have q27 := ea_toI0 (x := x) (j := 27) h27 (by decide) (by decide)
  omega
theorem kd0_1 {x : Nat} (h : ea_kd x = 0) : ea_kd (x + 1) = 1008 := by
  have q : ∀ y, y < 79 → ea_kd y = 0 → ea_kd (y + 1) = 1008 := by decide +kernel
  exact q x (ea_ltO (by decide) h) h
theorem lt0_1 {x : Nat} (h : ea_kd x = 0) : x + 1 < 79 := ea_lt (by rw [kd0_1 h]; decide)
theorem kd0_2 {x : Nat} (h : ea_kd x = 0) : ea_kd (x + 2) = 1008 := by
  have q : ∀ y, y < 79 → ea_kd y = 0 → ea_kd (y + 2) = 1008 := by decide +kernel
  exact q x (ea_ltO (by decide) h) h
theorem lt0_2 {x : Nat} (h : ea_kd x = 0) : x + 2 < 79 := ea_lt (by rw [kd0_2 h]; decide)
theorem kd0_3 {x : Nat} (h : ea_kd x = 0) : ea_kd (x + 3) = 1008 := by
  have q : ∀ y, y < 79 → ea_kd y = 0 → ea_kd (y + 3) = 1008 := by decide +kernel
  exact q x (ea_ltO (by decide) h) h
theorem lt0_3 {x : Nat} (h : ea_kd x = 0) : x + 3 < 79 := ea_lt (by rw [kd0_3 h]; decide)
theorem kd4_1 {x : Nat} (h : ea_kd x = 4) : ea_kd (x + 1) = 1042 := by
  have q : ∀ y, y < 79 → ea_kd y = 4 → ea_kd (y + 1) = 1042 := by decide +kernel
  exact q x (ea_ltO (by decide) h) h
theorem lt4_1 {x : Nat} (h : ea_kd x = 4) : x + 1 < 79 := ea_lt (by rw [kd4_1 h]; decide)
theorem kd4_2 {x : Nat} (h : ea_kd x = 4) : ea_kd (x + 2) = 1006 := by
  have q : ∀ y, y < 79 → ea_kd y = 4 → ea_kd (y + 2) = 1006 := by decide +kernel
  exact q x (ea_ltO (by decide) h) h
theorem lt4_2 {x : Nat} (h : ea_kd x = 4) : x + 2 < 79 := ea_lt (by rw [kd4_2 h]; decide)
theorem kd4_3 {x : Nat} (h : ea_kd x = 4) : ea_kd (x + 3) = 1006 := by
  have q : ∀ y, y < 79 → ea_kd y = 4 → ea_kd (y + 3) = 1006 := by decide +kernel
  exact q x (ea_ltO (by decide) h) h
theorem lt4_3 {x : Nat} (h : ea_kd x = 4) : x + 3 < 79 := ea_lt (by rw [kd4_3 h]; decide)
theorem kd4_4 {x : Nat} (h : ea_kd x = 4) : ea_kd (x + 4) = 1006 := by
  have q : ∀ y, y < 79 → ea_kd y = 4 → ea_kd (y + 4) = 1006 := by decide +kernel
  exact q x (ea_ltO (by decide) h) h
theorem lt4_4 {x : Nat} (h : ea_kd x = 4) : x + 4 < 79 := ea_lt (by rw [kd4_4 h]; decide)
theorem kd4_5 {x : Nat} (h : ea_kd x = 4) : ea_kd (x + 5) = 1010 := by
  have q : ∀ y, y < 79 → ea_kd y = 4 → ea_kd (y + 5) = 1010 := by decide +kernel
  exact q x (ea_ltO (by decide) h) h
theorem lt4_5 {x : Nat} (h : ea_kd x = 4) : x + 5 < 79 := ea_lt (by rw [kd4_5 h]; decide)
theorem kd4_6 {x : Nat} (h : ea_kd x = 4) : ea_kd (x + 6) = 1011 := by
  have q : ∀ y, y < 79 → ea_kd y = 4 → ea_kd (y + 6) = 1011 := by decide +kernel
  exact q x (ea_ltO (by decide) h) h
theorem lt4_6 {x : Nat} (h : ea_kd x = 4) : x + 6 < 79 := ea_lt (by rw [kd4_6 h]; decide)
theorem kd4_7 {x : Nat} (h : ea_kd x = 4) : ea_kd (x + 7) = 5 := by
  have q : ∀ y, y < 79 → ea_kd y = 4 → ea_kd (y + 7) = 5 := by decide +kernel
  exact q x (ea_ltO (by decide) h) h
theorem lt4_7 {x : Nat} (h : ea_kd x = 4) : x + 7 < 79 := ea_lt (by rw [kd4_7 h]; decide)
theorem kd4_8 {x : Nat} (h : ea_kd x = 4) : ea_kd (x + 8) = 1010 := by
  have q : ∀ y, y < 79 → ea_kd y = 4 → ea_kd (y + 8) = 1010 := by decide +kernel
  exact q x (ea_ltO (by decide) h) h
theorem lt4_8 {x : Nat} (h : ea_kd x = 4) : x + 8 < 79 := ea_lt (by rw [kd4_8 h]; decide)
theorem kd5_1 {x : Nat} (h : ea_kd x = 5) : ea_kd (x + 1) = 1010 := by
  have q : ∀ y, y < 79 → ea_kd y = 5 → ea_kd (y + 1) = 1010 := by decide +kernel
  exact q x (ea_ltO (by decide) h) h
theorem lt5_1 {x : Nat} (h : ea_kd x = 5) : x + 1 < 79 := ea_lt (by rw [kd5_1 h]; decide)
theorem ea_set0_0 (x : Nat) (r : Nat → Int32) (v : Int32) : ea_fl 0 x (upd r 0 v) = (ea_fl 0 x r).set 0 (.int v) := rfl
theorem ea_set0_1 (x : Nat) (r : Nat → Int32) (v : Int32) : ea_fl 0 x (upd r 1 v) = (ea_fl 0 x r).set 1 (.int v) := rfl
theorem ea_set1_3 (x : Nat) (r : Nat → Int32) (v : Int32) : ea_fl 1 x (upd r 3 v) = (ea_fl 1 x r).set 3 (.int v) := rfl
theorem ea_set1_4 (x : Nat) (r : Nat → Int32) (v : Int32) : ea_fl 1 x (upd r 4 v) = (ea_fl 1 x r).set 4 (.int v) := rfl
theorem ea_set2_2 (x : Nat) (r : Nat → Int32) (v : Int32) : ea_fl 2 x (upd r 2 v) = (ea_fl 2 x r).set 2 (.int v) := rfl
theorem ea_set3_1 (x : Nat) (r : Nat → Int32) (v : Int32) : ea_fl 3 x (upd r 1 v) = (ea_fl 3 x r).set 1 (.int v) := rfl
theorem ea_set3_2 (x : Nat) (r : Nat → Int32) (v : Int32) : ea_fl 3 x (upd r 2 v) = (ea_fl 3 x r).set 2 (.int v) := rfl
theorem ea_set3_3 (x : Nat) (r : Nat → Int32) (v : Int32) : ea_fl 3 x (upd r 3 v) = (ea_fl 3 x r).set 3 (.int v) := rfl
theorem ea_set3_4 (x : Nat) (r : Nat → Int32) (v : Int32) : ea_fl 3 x (upd r 4 v) = (ea_fl 3 x r).set 4 (.int v) := rfl
theorem ea_set4_0 (x : Nat) (r : Nat → Int32) (v : Int32) : ea_fl 4 x (upd r 0 v) = (ea_fl 4 x r).set 0 (.int v) := rfl
theorem ea_set4_5 (x : Nat) (r : Nat → Int32) (v : Int32) : ea_fl 4 x (upd r 5 v) = (ea_fl 4 x r).set 5 (.int v) := rfl
theorem ea_set5_1 (x : Nat) (r : Nat → Int32) (v : Int32) : ea_fl 5 x (upd r 1 v) = (ea_fl 5 x r).set 1 (.int v) := rfl
theorem ea_set5_2 (x : Nat) (r : Nat → Int32) (v : Int32) : ea_fl 5 x (upd r 2 v) = (ea_fl 5 x r).set 2 (.int v) := rfl
theorem ea_set5_3 (x : Nat) (r : Nat → Int32) (v : Int32) : ea_fl 5 x (upd r 3 v) = (ea_fl 5 x r).set 3 (.int v) := rfl
theorem ea_set5_4 (x : Nat) (r : Nat → Int32) (v : Int32) : ea_fl 5 x (upd r 4 v) = (ea_fl 5 x r).set 4 (.int v) := rfl
theorem ea_set5_5 (x : Nat) (r : Nat → Int32) (v : Int32) : ea_fl 5 x (upd r 5 v) = (ea_fl 5 x r).set 5 (.int v) := rfl
theorem ea_set5_6 (x : Nat) (r : Nat → Int32) (v : Int32) : ea_fl 5 x (upd r 6 v) = (ea_fl 5 x r).set 6 (.int v) := rfl
theorem ea_set7_1 (x : Nat) (r : Nat → Int32) (v : Int32) : ea_fl 7 x (upd r 1 v) = (ea_fl 7 x r).set 1 (.int v) := rfl
theorem ea_set7_6 (x : Nat) (r : Nat → Int32) (v : Int32) : ea_fl 7 x (upd r 6 v) = (ea_fl 7 x r).set 6 (.int v) := rfl
theorem ea_set7_8 (x : Nat) (r : Nat → Int32) (v : Int32) : ea_fl 7 x (upd r 8 v) = (ea_fl 7 x r).set 8 (.int v) := rfl
theorem ea_set7_11 (x : Nat) (r : Nat → Int32) (v : Int32) : ea_fl 7 x (upd r 11 v) = (ea_fl 7 x r).set 11 (.int v) := rfl
theorem ea_set7_16 (x : Nat) (r : Nat → Int32) (v : Int32) : ea_fl 7 x (upd r 16 v) = (ea_fl 7 x r).set 16 (.int v) := rfl
theorem ea_set7_17 (x : Nat) (r : Nat → Int32) (v : Int32) : ea_fl 7 x (upd r 17 v) = (ea_fl 7 x r).set 17 (.int v) := rfl
theorem ea_set7_18 (x : Nat) (r : Nat → Int32) (v : Int32) : ea_fl 7 x (upd r 18 v) = (ea_fl 7 x r).set 18 (.int v) := rfl
theorem ea_set7_19 (x : Nat) (r : Nat → Int32) (v : Int32) : ea_fl 7 x (upd r 19 v) = (ea_fl 7 x r).set 19 (.int v) := rfl
theorem ea_set7_22 (x : Nat) (r : Nat → Int32) (v : Int32) : ea_fl 7 x (upd r 22 v) = (ea_fl 7 x r).set 22 (.int v) := rfl
theorem ea_set7_23 (x : Nat) (r : Nat → Int32) (v : Int32) : ea_fl 7 x (upd r 23 v) = (ea_fl 7 x r).set 23 (.int v) := rfl
theorem e_callS0 {k : ea_K} {own : String} {cc : ByteArray} {nL d : Nat} (C : ea_C k own cc nL d) {pc : Nat} {lv : List (Nat × Value)} {st : List Value} {M : ea_M} {idx d' nL' n : Nat} {y : MethodName} {cc' : ByteArray} {ret : Option FieldType} {as rest : List Value} {M' : ea_M} (L : ea_LkS own idx y cc' nL' ret n) (hM : ea_Sp d' y cc' nL' ret as M none M') (hd' : d' < d) (hn : as.length = n) (hst : st = as.reverse ++ rest) (hcat : (rest.map fun v => v.category).sum ≤ 8) (hd : decode cc pc = .ok (.invokestatic idx, 3)) (h : ea_E k (pc + 3) lv rest M') : ea_E k pc lv st M := e_callS C L hM hd' hn hst hcat hd h
theorem e_callS1 {k : ea_K} {own : String} {cc : ByteArray} {nL d : Nat} (C : ea_C k own cc nL d) {pc : Nat} {lv : List (Nat × Value)} {st : List Value} {M : ea_M} {idx d' nL' n : Nat} {y : MethodName} {cc' : ByteArray} {ret : Option FieldType} {as rest : List Value} {v : Value} {M' : ea_M} (L : ea_LkS own idx y cc' nL' ret n) (hM : ea_Sp d' y cc' nL' ret as M (some v) M') (hd' : d' < d) (hn : as.length = n) (hst : st = as.reverse ++ rest) (hcat : (rest.map fun v => v.category).sum ≤ 8) (hd : decode cc pc = .ok (.invokestatic idx, 3)) (h : ea_E k (pc + 3) lv (v :: rest) M') : ea_E k pc lv st M := e_callS C L hM hd' hn hst hcat hd h
theorem e_callN0 {k : ea_K} {own : String} {cc : ByteArray} {nL d : Nat} (C : ea_C k own cc nL d) {pc : Nat} {lv : List (Nat × Value)} {st : List Value} {M : ea_M} {idx d' nL' n : Nat} {y : MethodName} {cc' : ByteArray} {ret : Option FieldType} {as rest : List Value} {M' : ea_M} (L : ea_LkN own idx y cc' nL' ret n) (hM : ea_Sp d' y cc' nL' ret as M none M') (hd' : d' < d) (hn : as.length = n) (hst : st = as.reverse ++ rest) (hcat : (rest.map fun v => v.category).sum ≤ 8) (hd : decode cc pc = .ok (.invokestatic idx, 3)) (h : ea_E k (pc + 3) lv rest M') : ea_E k pc lv st M := e_callN C L hM hd' hn hst hcat hd h
theorem e_callN1 {k : ea_K} {own : String} {cc : ByteArray} {nL d : Nat} (C : ea_C k own cc nL d) {pc : Nat} {lv : List (Nat × Value)} {st : List Value} {M : ea_M} {idx d' nL' n : Nat} {y : MethodName} {cc' : ByteArray} {ret : Option FieldType} {as rest : List Value} {v : Value} {M' : ea_M} (L : ea_LkN own idx y cc' nL' ret n) (hM : ea_Sp d' y cc' nL' ret as M (some v) M') (hd' : d' < d) (hn : as.length = n) (hst : st = as.reverse ++ rest) (hcat : (rest.map fun v => v.category).sum ≤ 8) (hd : decode cc pc = .ok (.invokestatic idx, 3)) (h : ea_E k (pc + 3) lv (v :: rest) M') : ea_E k pc lv st M := e_callN C L hM hd' hn hst hcat hd h
theorem e_callV0 {k : ea_K} {own : String} {cc : ByteArray} {nL d : Nat} (C : ea_C k own cc nL d) {pc : Nat} {lv : List (Nat × Value)} {st : List Value} {M : ea_M} {idx d' nL' n x ci : Nat} {y : MethodName} {cc' : ByteArray} {ret : Option FieldType} {as rest : List Value} {M' : ea_M} (L : ea_LkV own idx y cc' nL' ret n) (hM : ea_Sp d' y cc' nL' ret (.ref x :: as) M none M') (hd' : d' < d) (hn : as.length = n) (hx7 : x < 79) (hkd : ea_kd x = ci) (hci : ci < 8) (hcls : y.cls = ea_cR ci) (hst : st = as.reverse ++ .ref x :: rest) (hcat : (rest.map fun v => v.category).sum ≤ 8) (hd : decode cc pc = .ok (.invokevirtual idx, 3)) (h : ea_E k (pc + 3) lv rest M') : ea_E k pc lv st M := e_callV C L hM hd' hn hx7 hkd hci hcls hst hcat hd h
theorem e_callV1 {k : ea_K} {own : String} {cc : ByteArray} {nL d : Nat} (C : ea_C k own cc nL d) {pc : Nat} {lv : List (Nat × Value)} {st : List Value} {M : ea_M} {idx d' nL' n x ci : Nat} {y : MethodName} {cc' : ByteArray} {ret : Option FieldType} {as rest : List Value} {v : Value} {M' : ea_M} (L : ea_LkV own idx y cc' nL' ret n) (hM : ea_Sp d' y cc' nL' ret (.ref x :: as) M (some v) M') (hd' : d' < d) (hn : as.length = n) (hx7 : x < 79) (hkd : ea_kd x = ci) (hci : ci < 8) (hcls : y.cls = ea_cR ci) (hst : st = as.reverse ++ .ref x :: rest) (hcat : (rest.map fun v => v.category).sum ≤ 8) (hd : decode cc pc = .ok (.invokevirtual idx, 3)) (h : ea_E k (pc + 3) lv (v :: rest) M') : ea_E k pc lv st M := e_callV C L hM hd' hn hx7 hkd hci hcls hst hcat hd h
theorem ea_lceq (x y : Int64) : lg_cmp x y = 0 ↔ x = y := by
  unfold lg_cmp
  have a1 := @Int64.lt_iff_toInt_lt x y
  have a2 := @Int64.lt_iff_toInt_lt y x
  have a3 := @Int64.le_iff_toInt_le x y
  have a4 := @Int64.le_iff_toInt_le y x
  have a5 := @Int64.toInt_inj x y
  have z1 : ¬ ((1 : Int32) = 0) := by decide
  have z2 : ¬ ((-1 : Int32) = 0) := by decide
  by_cases h1 : y < x <;> by_cases h2 : x = y <;> simp [h1, h2] <;> (first | decide | omega | (constructor <;> intro <;> first | decide | omega | (simp_all; done)) | (simp_all; omega) | (simp_all; done))
theorem e_lc_eq {k : ea_K} {own : String} {cc : ByteArray} {nL d : Nat} (C : ea_C k own cc nL d) {pc : Nat} {lv : List (Nat × Value)} {st : List Value} {M : ea_M} {x y : Int64} {off : Int} {tgt : Nat} (hd : decode cc pc = .ok (.lcmp, 1)) (hd2 : decode cc (pc + 1) = .ok (.ifCond .eq off, 3)) (ht : ((pc + 1 : Nat) : Int) + off = (tgt : Int)) (kt : x = y → ea_E k tgt lv st M) (kf : ¬ x = y → ea_E k (pc + 4) lv st M) : ea_E k pc lv (.long y :: .long x :: st) M :=
  e_lcmp C hd (e_if_eq C hd2 ht (fun q => kt ((ea_lceq x y).mp q)) (fun q => kf (fun z => q ((ea_lceq x y).mpr z))))
theorem e_lc_ne {k : ea_K} {own : String} {cc : ByteArray} {nL d : Nat} (C : ea_C k own cc nL d) {pc : Nat} {lv : List (Nat × Value)} {st : List Value} {M : ea_M} {x y : Int64} {off : Int} {tgt : Nat} (hd : decode cc pc = .ok (.lcmp, 1)) (hd2 : decode cc (pc + 1) = .ok (.ifCond .ne off, 3)) (ht : ((pc + 1 : Nat) : Int) + off = (tgt : Int)) (kt : ¬ x = y → ea_E k tgt lv st M) (kf : x = y → ea_E k (pc + 4) lv st M) : ea_E k pc lv (.long y :: .long x :: st) M :=
  e_lcmp C hd (e_if_ne C hd2 ht (fun q => kt (fun z => q ((ea_lceq x y).mpr z))) (fun q => kf ((ea_lceq x y).mp q)))
theorem ea_lclt (x y : Int64) : lg_cmp x y < 0 ↔ x < y := by
  unfold lg_cmp
  have a1 := @Int64.lt_iff_toInt_lt x y
  have a2 := @Int64.lt_iff_toInt_lt y x
  have a3 := @Int64.le_iff_toInt_le x y
  have a4 := @Int64.le_iff_toInt_le y x
  have a5 := @Int64.toInt_inj x y
  have z1 : ¬ ((1 : Int32) = 0) := by decide
  have z2 : ¬ ((-1 : Int32) = 0) := by decide
  by_cases h1 : y < x <;> by_cases h2 : x = y <;> simp [h1, h2] <;> (first | decide | omega | (constructor <;> intro <;> first | decide | omega | (simp_all; done)) | (simp_all; omega) | (simp_all; done))
theorem e_lc_lt {k : ea_K} {own : String} {cc : ByteArray} {nL d : Nat} (C : ea_C k own cc nL d) {pc : Nat} {lv : List (Nat × Value)} {st : List Value} {M : ea_M} {x y : Int64} {off : Int} {tgt : Nat} (hd : decode cc pc = .ok (.lcmp, 1)) (hd2 : decode cc (pc + 1) = .ok (.ifCond .lt off, 3)) (ht : ((pc + 1 : Nat) : Int) + off = (tgt : Int)) (kt : x < y → ea_E k tgt lv st M) (kf : ¬ x < y → ea_E k (pc + 4) lv st M) : ea_E k pc lv (.long y :: .long x :: st) M :=
  e_lcmp C hd (e_if_lt C hd2 ht (fun q => kt ((ea_lclt x y).mp q)) (fun q => kf (fun z => q ((ea_lclt x y).mpr z))))
theorem ea_lcge (x y : Int64) : 0 ≤ lg_cmp x y ↔ y ≤ x := by
  unfold lg_cmp
  have a1 := @Int64.lt_iff_toInt_lt x y
  have a2 := @Int64.lt_iff_toInt_lt y x
  have a3 := @Int64.le_iff_toInt_le x y
  have a4 := @Int64.le_iff_toInt_le y x
  have a5 := @Int64.toInt_inj x y
  have z1 : ¬ ((1 : Int32) = 0) := by decide
  have z2 : ¬ ((-1 : Int32) = 0) := by decide
  by_cases h1 : y < x <;> by_cases h2 : x = y <;> simp [h1, h2] <;> (first | decide | omega | (constructor <;> intro <;> first | decide | omega | (simp_all; done)) | (simp_all; omega) | (simp_all; done))
theorem e_lc_ge {k : ea_K} {own : String} {cc : ByteArray} {nL d : Nat} (C : ea_C k own cc nL d) {pc : Nat} {lv : List (Nat × Value)} {st : List Value} {M : ea_M} {x y : Int64} {off : Int} {tgt : Nat} (hd : decode cc pc = .ok (.lcmp, 1)) (hd2 : decode cc (pc + 1) = .ok (.ifCond .ge off, 3)) (ht : ((pc + 1 : Nat) : Int) + off = (tgt : Int)) (kt : y ≤ x → ea_E k tgt lv st M) (kf : ¬ y ≤ x → ea_E k (pc + 4) lv st M) : ea_E k pc lv (.long y :: .long x :: st) M :=
  e_lcmp C hd (e_if_ge C hd2 ht (fun q => kt ((ea_lcge x y).mp q)) (fun q => kf (fun z => q ((ea_lcge x y).mpr z))))
theorem ea_lcgt (x y : Int64) : 0 < lg_cmp x y ↔ y < x := by
  unfold lg_cmp
  have a1 := @Int64.lt_iff_toInt_lt x y
  have a2 := @Int64.lt_iff_toInt_lt y x
  have a3 := @Int64.le_iff_toInt_le x y
  have a4 := @Int64.le_iff_toInt_le y x
  have a5 := @Int64.toInt_inj x y
  have z1 : ¬ ((1 : Int32) = 0) := by decide
  have z2 : ¬ ((-1 : Int32) = 0) := by decide
  by_cases h1 : y < x <;> by_cases h2 : x = y <;> simp [h1, h2] <;> (first | decide | omega | (constructor <;> intro <;> first | decide | omega | (simp_all; done)) | (simp_all; omega) | (simp_all; done))
theorem e_lc_gt {k : ea_K} {own : String} {cc : ByteArray} {nL d : Nat} (C : ea_C k own cc nL d) {pc : Nat} {lv : List (Nat × Value)} {st : List Value} {M : ea_M} {x y : Int64} {off : Int} {tgt : Nat} (hd : decode cc pc = .ok (.lcmp, 1)) (hd2 : decode cc (pc + 1) = .ok (.ifCond .gt off, 3)) (ht : ((pc + 1 : Nat) : Int) + off = (tgt : Int)) (kt : y < x → ea_E k tgt lv st M) (kf : ¬ y < x → ea_E k (pc + 4) lv st M) : ea_E k pc lv (.long y :: .long x :: st) M :=
  e_lcmp C hd (e_if_gt C hd2 ht (fun q => kt ((ea_lcgt x y).mp q)) (fun q => kf (fun z => q ((ea_lcgt x y).mpr z))))
theorem ea_lcle (x y : Int64) : lg_cmp x y ≤ 0 ↔ x ≤ y := by
  unfold lg_cmp
  have a1 := @Int64.lt_iff_toInt_lt x y
  have a2 := @Int64.lt_iff_toInt_lt y x
  have a3 := @Int64.le_iff_toInt_le x y
  have a4 := @Int64.le_iff_toInt_le y x
  have a5 := @Int64.toInt_inj x y
  have z1 : ¬ ((1 : Int32) = 0) := by decide
  have z2 : ¬ ((-1 : Int32) = 0) := by decide
  by_cases h1 : y < x <;> by_cases h2 : x = y <;> simp [h1, h2] <;> (first | decide | omega | (constructor <;> intro <;> first | decide | omega | (simp_all; done)) | (simp_all; omega) | (simp_all; done))
theorem e_lc_le {k : ea_K} {own : String} {cc : ByteArray} {nL d : Nat} (C : ea_C k own cc nL d) {pc : Nat} {lv : List (Nat × Value)} {st : List Value} {M : ea_M} {x y : Int64} {off : Int} {tgt : Nat} (hd : decode cc pc = .ok (.lcmp, 1)) (hd2 : decode cc (pc + 1) = .ok (.ifCond .le off, 3)) (ht : ((pc + 1 : Nat) : Int) + off = (tgt : Int)) (kt : x ≤ y → ea_E k tgt lv st M) (kf : ¬ x ≤ y → ea_E k (pc + 4) lv st M) : ea_E k pc lv (.long y :: .long x :: st) M :=
  e_lcmp C hd (e_if_le C hd2 ht (fun q => kt ((ea_lcle x y).mp q)) (fun q => kf (fun z => q ((ea_lcle x y).mpr z))))
theorem pa_b01 (P : Prop) [Decidable P] : (if P then (1 : Int32) else 0) = 0 ∨ (if P then (1 : Int32) else 0) = 1 := by
  by_cases h : P
  · exact Or.inr (if_pos h)
  · exact Or.inl (if_neg h)
theorem pa_bc {P Q : Prop} [Decidable P] [Decidable Q] (h : P ↔ Q) : (if P then (1 : Int32) else 0) = (if Q then (1 : Int32) else 0) := by
  by_cases q : Q
  · rw [if_pos q, if_pos (h.mpr q)]
  · rw [if_neg q, if_neg (fun z => q (h.mp z))]
theorem e_ifb_eq {k : ea_K} {own : String} {cc : ByteArray} {nL d : Nat} (C : ea_C k own cc nL d) {pc : Nat} {lv : List (Nat × Value)} {st : List Value} {M : ea_M} {P : Prop} [Decidable P] {off : Int} {tgt : Nat} (hd : decode cc pc = .ok (.ifCond .eq off, 3)) (ht : (pc : Int) + off = (tgt : Int)) (kt : ¬ P → ea_E k tgt lv st M) (kf : P → ea_E k (pc + 3) lv st M) : ea_E k pc lv (.int (if P then (1 : Int32) else 0) :: st) M := e_if_eq C hd ht (fun q => kt (fun z => absurd ((if_pos z).symm.trans q) (by decide))) (fun q => kf (Classical.byContradiction (fun z => q (if_neg z))))
theorem e_ifb_ne {k : ea_K} {own : String} {cc : ByteArray} {nL d : Nat} (C : ea_C k own cc nL d) {pc : Nat} {lv : List (Nat × Value)} {st : List Value} {M : ea_M} {P : Prop} [Decidable P] {off : Int} {tgt : Nat} (hd : decode cc pc = .ok (.ifCond .ne off, 3)) (ht : (pc : Int) + off = (tgt : Int)) (kt : P → ea_E k tgt lv st M) (kf : ¬ P → ea_E k (pc + 3) lv st M) : ea_E k pc lv (.int (if P then (1 : Int32) else 0) :: st) M := e_if_ne C hd ht (fun q => kt (Classical.byContradiction (fun z => q (if_neg z)))) (fun q => kf (fun z => absurd ((if_pos z).symm.trans q) (by decide)))
