set_option maxRecDepth 100000 in
set_option maxHeartbeats 4000000 in
theorem kb_X3_isToken_0 {k : ea_K} {o : Option Value} {M' : ea_M} (C : ea_C k RX3 cX3_isToken 3 5) (X : ea_X k (some .boolean) o M') {M : ea_M} {w : Nat} (hw : w < 5)  (h2 : (f_X3_tokenLength M) = (nI (ea_lenS.getD w 0)) → ea_E k 15 [(0, .ref 2), (1, .ref (200 + w)), (2, .int (0 : Int32))] [] M) (h3 : ¬ (f_X3_tokenLength M) = (nI (ea_lenS.getD w 0)) → o = some (.int (0 : Int32)) ∧ M' = M) : ea_E k 0 [(0, .ref 2), (1, .ref (200 + w))] [] M := by
  refine e_aload_n (n := 0) C dX3_isToken_0 rfl rfl ?_
  refine e_callV1 (as := []) (rest := []) C lk_X3_40 (sp_X3_tokenLength (M := M)  ) (by decide) rfl (by decide) rfl (by decide) rfl rfl (Nat.le_of_ble_eq_true rfl) dX3_isToken_1 ?_
  refine e_aload_n (n := 1) C dX3_isToken_4 rfl rfl ?_
  refine e_callVS (i := w) (as := []) (rest := [.int (f_X3_tokenLength M)]) C lk_X3_44 (sp_J0_length M w hw ) (by decide) rfl hw rfl rfl (Nat.le_of_ble_eq_true rfl) dX3_isToken_5 ?_
  refine e_icmp_eq (tgt := 13) C dX3_isToken_8 (by decide) (fun c1 => ?_) (fun c1 => ?_)
  · refine e_iconst (v := 0) C dX3_isToken_13 (by decide) ?_
    refine e_istore_n C dX3_isToken_14 rfl (by decide) rfl ?_
    refine e_perm C [1, 2, 0] rfl ?_
    exact (h2 c1)
  · refine e_iconst (v := 0) C dX3_isToken_11 (by decide) ?_
    exact e_iret C X rfl rfl dX3_isToken_12 (h3 c1)
set_option maxRecDepth 100000 in
set_option maxHeartbeats 4000000 in
theorem kb_X3_isToken_15 {k : ea_K} {o : Option Value} {M' : ea_M} (C : ea_C k RX3 cX3_isToken 3 5) (X : ea_X k (some .boolean) o M') {M : ea_M} {w : Nat} {i : Int32} (hw : w < 5)  (h2 : (nI (ea_lenS.getD w 0)) ≤ i → o = some (.int (1 : Int32)) ∧ M' = M) (q3 : ¬ (nI (ea_lenS.getD w 0)) ≤ i → ea_Sp 3 yJ0_charAt_5068e cJ0_charAt_5068e 2 (some .char) [.ref (200 + w), .int i] M (some (.int (ea_ch w i.toNatClampNeg))) M) (h5 : ¬ (nI (ea_lenS.getD w 0)) ≤ i → (pa_at (M 3) 200 ((M 2 2) + i)) = (ea_ch w i.toNatClampNeg) → ea_E k 15 [(0, .ref 2), (1, .ref (200 + w)), (2, .int (i + 1))] [] M) (h6 : ¬ (nI (ea_lenS.getD w 0)) ≤ i → ¬ (pa_at (M 3) 200 ((M 2 2) + i)) = (ea_ch w i.toNatClampNeg) → o = some (.int (0 : Int32)) ∧ M' = M) : ea_E k 15 [(0, .ref 2), (1, .ref (200 + w)), (2, .int i)] [] M := by
  refine e_iload_n (n := 2) C dX3_isToken_15 rfl rfl ?_
  refine e_aload_n (n := 1) C dX3_isToken_16 rfl rfl ?_
  refine e_callVS (i := w) (as := []) (rest := [.int i]) C lk_X3_44 (sp_J0_length M w hw ) (by decide) rfl hw rfl rfl (Nat.le_of_ble_eq_true rfl) dX3_isToken_17 ?_
  refine e_icmp_ge (tgt := 52) C dX3_isToken_20 (by decide) (fun c1 => ?_) (fun c1 => ?_)
  · refine e_iconst (v := 1) C dX3_isToken_52 (by decide) ?_
    exact e_iret C X rfl rfl dX3_isToken_53 (h2 c1)
  · refine e_aload_n (n := 0) C dX3_isToken_23 rfl rfl ?_
    refine e_get (v := .ref 3) C fd_X3_9 (by decide) rfl rfl dX3_isToken_24 ?_
    refine e_aload_n (n := 0) C dX3_isToken_27 rfl rfl ?_
    refine e_get (v := .int (M 2 2)) C fd_X3_23 (by decide) rfl rfl dX3_isToken_28 ?_
    refine e_iload_n (n := 2) C dX3_isToken_31 rfl rfl ?_
    refine e_iadd C dX3_isToken_32 ?_
    refine e_callN1 (as := [.ref 3, .int ((M 2 2) + i)]) (rest := []) C lk_X3_26 (sp_X6_at M 3 200 ((M 2 2) + i) rfl (by decide) ) (by decide) rfl rfl (Nat.le_of_ble_eq_true rfl) dX3_isToken_33 ?_
    refine e_aload_n (n := 1) C dX3_isToken_36 rfl rfl ?_
    refine e_iload_n (n := 2) C dX3_isToken_37 rfl rfl ?_
    refine e_callVS (i := w) (as := [.int i]) (rest := [.int (pa_at (M 3) 200 ((M 2 2) + i))]) C lk_X3_49 (q3 c1) (by decide) rfl hw rfl rfl (Nat.le_of_ble_eq_true rfl) dX3_isToken_38 ?_
    refine e_icmp_eq (tgt := 46) C dX3_isToken_41 (by decide) (fun c4 => ?_) (fun c4 => ?_)
    · refine e_iinc (n := 2) (v := (i + 1)) C dX3_isToken_46 rfl rfl (by decide) rfl ?_
      refine e_goto (tgt := 15) C dX3_isToken_49 (by decide) ?_
      refine e_perm C [1, 2, 0] rfl ?_
      exact (h5 c1 c4)
    · refine e_iconst (v := 0) C dX3_isToken_44 (by decide) ?_
      exact e_iret C X rfl rfl dX3_isToken_45 (h6 c1 c4)
set_option maxRecDepth 100000 in
set_option maxHeartbeats 4000000 in
theorem kb_X2_takeWord_0 {k : ea_K} {o : Option Value} {M' : ea_M} (C : ea_C k RX2 cX2_takeWord 2 6) (X : ea_X k (some .boolean) o M') {M : ea_M} {w : Nat} {M2 : ea_M} {r1 : Int32} (hw : w < 5)  (q1 : ea_Sp 5 yX3_isToken cX3_isToken 3 (some .boolean) [.ref 2, .ref (200 + w)] M (some (.int r1)) M) (q3 : ¬ r1 = 0 → ea_Sp 1 yX3_lookFrom cX3_lookFrom 2 none [.ref 2, .int (M 2 3)] M none M2) (h4 : ¬ r1 = 0 → o = some (.int (1 : Int32)) ∧ M' = M2) (h5 : r1 = 0 → o = some (.int (0 : Int32)) ∧ M' = M) : ea_E k 0 [(0, .ref 1), (1, .ref (200 + w))] [] M := by
  refine e_aload_n (n := 0) C dX2_takeWord_0 rfl rfl ?_
  refine e_get (v := .ref 2) C fd_X2_12 (by decide) rfl rfl dX2_takeWord_1 ?_
  refine e_aload_n (n := 1) C dX2_takeWord_4 rfl rfl ?_
  refine e_callV1 (as := [.ref (200 + w)]) (rest := []) C lk_X2_139 q1 (by decide) rfl (by decide) rfl (by decide) rfl rfl (Nat.le_of_ble_eq_true rfl) dX2_takeWord_5 ?_
  refine e_if_ne (tgt := 13) C dX2_takeWord_8 (by decide) (fun c2 => ?_) (fun c2 => ?_)
  · refine e_aload_n (n := 0) C dX2_takeWord_13 rfl rfl ?_
    refine e_get (v := .ref 2) C fd_X2_12 (by decide) rfl rfl dX2_takeWord_14 ?_
    refine e_aload_n (n := 0) C dX2_takeWord_17 rfl rfl ?_
    refine e_get (v := .ref 2) C fd_X2_12 (by decide) rfl rfl dX2_takeWord_18 ?_
    refine e_get (v := .int (M 2 3)) C fd_X2_50 (by decide) rfl rfl dX2_takeWord_21 ?_
    refine e_callV0 (as := [.int (M 2 3)]) (rest := []) C lk_X2_29 (q3 c2) (by decide) rfl (by decide) rfl (by decide) rfl rfl (Nat.le_of_ble_eq_true rfl) dX2_takeWord_24 ?_
    refine e_iconst (v := 1) C dX2_takeWord_27 (by decide) ?_
    exact e_iret C X rfl rfl dX2_takeWord_28 (h4 c2)
  · refine e_iconst (v := 0) C dX2_takeWord_11 (by decide) ?_
    exact e_iret C X rfl rfl dX2_takeWord_12 (h5 c2)
set_option maxRecDepth 100000 in
set_option maxHeartbeats 4000000 in
theorem kb_X2_takeNumber_0 {k : ea_K} {o : Option Value} {M' : ea_M} (C : ea_C k RX2 cX2_takeNumber 4 2) (X : ea_X k (some .int) o M') {M : ea_M} {a b : Int32} {M2 : ea_M} {r1 : Int32}   (q1 : ea_Sp 1 yX3_number cX3_number 3 (some .int) [.ref 2] M (some (.int r1)) M) (h3 : r1 = (-1 : Int32) → o = some (.int (-1 : Int32)) ∧ M' = M) (h5 : ¬ r1 = (-1 : Int32) → r1 < a → o = some (.int (-1 : Int32)) ∧ M' = M) (q7 : ¬ r1 = (-1 : Int32) → ¬ r1 < a → r1 ≤ b → ea_Sp 1 yX3_lookFrom cX3_lookFrom 2 none [.ref 2, .int (M 2 3)] M none M2) (h8 : ¬ r1 = (-1 : Int32) → ¬ r1 < a → r1 ≤ b → o = some (.int r1) ∧ M' = M2) (h9 : ¬ r1 = (-1 : Int32) → ¬ r1 < a → ¬ r1 ≤ b → o = some (.int (-1 : Int32)) ∧ M' = M) : ea_E k 0 [(0, .ref 1), (1, .int a), (2, .int b)] [] M := by
  refine e_aload_n (n := 0) C dX2_takeNumber_0 rfl rfl ?_
  refine e_get (v := .ref 2) C fd_X2_12 (by decide) rfl rfl dX2_takeNumber_1 ?_
  refine e_callV1 (as := []) (rest := []) C lk_X2_142 q1 (by decide) rfl (by decide) rfl (by decide) rfl rfl (Nat.le_of_ble_eq_true rfl) dX2_takeNumber_4 ?_
  refine e_istore_n C dX2_takeNumber_7 rfl (by decide) rfl ?_
  refine e_iload_n (n := 0) C dX2_takeNumber_8 rfl rfl ?_
  refine e_iconst (v := -1) C dX2_takeNumber_9 (by decide) ?_
  refine e_icmp_eq (tgt := 23) C dX2_takeNumber_10 (by decide) (fun c2 => ?_) (fun c2 => ?_)
  · refine e_iconst (v := -1) C dX2_takeNumber_23 (by decide) ?_
    exact e_iret C X rfl (vp_nar_int _) dX2_takeNumber_24 (h3 c2)
  · refine e_iload_n (n := 0) C dX2_takeNumber_13 rfl rfl ?_
    refine e_iload_n (n := 2) C dX2_takeNumber_14 rfl rfl ?_
    refine e_icmp_lt (tgt := 23) C dX2_takeNumber_15 (by decide) (fun c4 => ?_) (fun c4 => ?_)
    · refine e_iconst (v := -1) C dX2_takeNumber_23 (by decide) ?_
      exact e_iret C X rfl (vp_nar_int _) dX2_takeNumber_24 (h5 c2 c4)
    · refine e_iload_n (n := 0) C dX2_takeNumber_18 rfl rfl ?_
      refine e_iload_n (n := 3) C dX2_takeNumber_19 rfl rfl ?_
      refine e_icmp_le (tgt := 25) C dX2_takeNumber_20 (by decide) (fun c6 => ?_) (fun c6 => ?_)
      · refine e_aload_n (n := 1) C dX2_takeNumber_25 rfl rfl ?_
        refine e_get (v := .ref 2) C fd_X2_12 (by decide) rfl rfl dX2_takeNumber_26 ?_
        refine e_aload_n (n := 1) C dX2_takeNumber_29 rfl rfl ?_
        refine e_get (v := .ref 2) C fd_X2_12 (by decide) rfl rfl dX2_takeNumber_30 ?_
        refine e_get (v := .int (M 2 3)) C fd_X2_50 (by decide) rfl rfl dX2_takeNumber_33 ?_
        refine e_callV0 (as := [.int (M 2 3)]) (rest := []) C lk_X2_29 (q7 c2 c4 c6) (by decide) rfl (by decide) rfl (by decide) rfl rfl (Nat.le_of_ble_eq_true rfl) dX2_takeNumber_36 ?_
        refine e_iload_n (n := 0) C dX2_takeNumber_39 rfl rfl ?_
        exact e_iret C X rfl (vp_nar_int _) dX2_takeNumber_40 (h8 c2 c4 c6)
      · refine e_iconst (v := -1) C dX2_takeNumber_23 (by decide) ?_
        exact e_iret C X rfl (vp_nar_int _) dX2_takeNumber_24 (h9 c2 c4 c6)
set_option maxRecDepth 100000 in
set_option maxHeartbeats 4000000 in
theorem kb_X2_readWall_0 {k : ea_K} {o : Option Value} {M' : ea_M} (C : ea_C k RX2 cX2_readWall 2 3) (X : ea_X k (some .boolean) o M') {M : ea_M} {M1 : ea_M} {r1 : Int32}   (q1 : ea_Sp 2 yX2_takeNumber cX2_takeNumber 4 (some .int) [.ref 1, .int (1 : Int32), .int (999 : Int32)] M (some (.int r1)) M1) (h3 : ¬ r1 = (-1 : Int32) → o = some (.int (1 : Int32)) ∧ M' = (g_X4_clear M1 4 r1)) (h4 : r1 = (-1 : Int32) → o = some (.int (0 : Int32)) ∧ M' = M1) : ea_E k 0 [(0, .ref 1)] [] M := by
  refine e_aload_n (n := 0) C dX2_readWall_0 rfl rfl ?_
  refine e_iconst (v := 1) C dX2_readWall_1 (by decide) ?_
  refine e_sipush (v := 999) C dX2_readWall_2 (by decide) ?_
  refine e_callV1 (as := [.int (1 : Int32), .int (999 : Int32)]) (rest := []) C lk_X2_85 q1 (by decide) rfl (by decide) rfl (by decide) rfl rfl (Nat.le_of_ble_eq_true rfl) dX2_readWall_5 ?_
  refine e_istore_n C dX2_readWall_8 rfl (by decide) rfl ?_
  refine e_iload_n (n := 0) C dX2_readWall_9 rfl rfl ?_
  refine e_iconst (v := -1) C dX2_readWall_10 (by decide) ?_
  refine e_icmp_ne (tgt := 16) C dX2_readWall_11 (by decide) (fun c2 => ?_) (fun c2 => ?_)
  · refine e_aload_n (n := 1) C dX2_readWall_16 rfl rfl ?_
    refine e_get (v := .ref 4) C fd_X2_21 (by decide) rfl rfl dX2_readWall_17 ?_
    refine e_iload_n (n := 0) C dX2_readWall_20 rfl rfl ?_
    refine e_callV0 (as := [.int r1]) (rest := []) C lk_X2_89 (sp_X4_clear (M := M1) (x := 4) (t := r1) rfl ) (by decide) rfl (by decide) rfl (by decide) rfl rfl (Nat.le_of_ble_eq_true rfl) dX2_readWall_21 ?_
    refine e_iconst (v := 1) C dX2_readWall_24 (by decide) ?_
    exact e_iret C X rfl rfl dX2_readWall_25 (h3 c2)
  · refine e_iconst (v := 0) C dX2_readWall_14 (by decide) ?_
    exact e_iret C X rfl rfl dX2_readWall_15 (h4 c2)
set_option maxRecDepth 100000 in
set_option maxHeartbeats 4000000 in
theorem kb_X2_readStuff_0 {k : ea_K} {o : Option Value} {M' : ea_M} (C : ea_C k RX2 cX2_readStuff 3 3) (X : ea_X k (some .boolean) o M') {M : ea_M} {M2 M3 M4 M5 : ea_M} {r1 r4 r5 : Int32}   (h2 : ¬ (M 2 4) = (1 : Int32) → o = some (.int (0 : Int32)) ∧ M' = M) (q4 : (M 2 4) = (1 : Int32) → (f_X3_tokenLength M) ≤ (7 : Int32) → ea_Sp 2 yX4_stuffNamed cX4_stuffNamed 5 (some .int) [.ref 4, .ref 2, .int (M 2 2), .int (M 2 3)] M (some (.int r1)) M) (q6 : (M 2 4) = (1 : Int32) → (f_X3_tokenLength M) ≤ (7 : Int32) → r1 = (-1 : Int32) → ea_Sp 1 yX4_nameNext cX4_nameNext 3 none [.ref 4, .ref 2] M none M2) (q7 : (M 2 4) = (1 : Int32) → (f_X3_tokenLength M) ≤ (7 : Int32) → r1 = (-1 : Int32) → ea_Sp 1 yX3_lookFrom cX3_lookFrom 2 none [.ref 2, .int (M2 2 3)] M2 none M3) (q8 : (M 2 4) = (1 : Int32) → (f_X3_tokenLength M) ≤ (7 : Int32) → r1 = (-1 : Int32) → ea_Sp 2 yX2_takeNumber cX2_takeNumber 4 (some .int) [.ref 1, .int (1 : Int32), .int (20 : Int32)] M3 (some (.int r4)) M4) (q10 : (M 2 4) = (1 : Int32) → (f_X3_tokenLength M) ≤ (7 : Int32) → r1 = (-1 : Int32) → ¬ r4 = (-1 : Int32) → ea_Sp 2 yX2_takeNumber cX2_takeNumber 4 (some .int) [.ref 1, .int (1 : Int32), .int (20 : Int32)] M4 (some (.int r5)) M5) (h12 : (M 2 4) = (1 : Int32) → (f_X3_tokenLength M) ≤ (7 : Int32) → r1 = (-1 : Int32) → ¬ r4 = (-1 : Int32) → ¬ r5 = (-1 : Int32) → o = some (.int (1 : Int32)) ∧ M' = (g_X4_addStuff M5 4 r4 r5)) (h13 : (M 2 4) = (1 : Int32) → (f_X3_tokenLength M) ≤ (7 : Int32) → r1 = (-1 : Int32) → ¬ r4 = (-1 : Int32) → r5 = (-1 : Int32) → o = some (.int (0 : Int32)) ∧ M' = M5) (h14 : (M 2 4) = (1 : Int32) → (f_X3_tokenLength M) ≤ (7 : Int32) → r1 = (-1 : Int32) → r4 = (-1 : Int32) → o = some (.int (0 : Int32)) ∧ M' = M4) (h15 : (M 2 4) = (1 : Int32) → (f_X3_tokenLength M) ≤ (7 : Int32) → ¬ r1 = (-1 : Int32) → o = some (.int (0 : Int32)) ∧ M' = M) (h16 : (M 2 4) = (1 : Int32) → ¬ (f_X3_tokenLength M) ≤ (7 : Int32) → o = some (.int (0 : Int32)) ∧ M' = M) : ea_E k 0 [(0, .ref 1)] [] M := by
  refine e_aload_n (n := 0) C dX2_readStuff_0 rfl rfl ?_
  refine e_get (v := .ref 2) C fd_X2_12 (by decide) rfl rfl dX2_readStuff_1 ?_
  refine e_get (v := .int (M 2 4)) C fd_X2_44 (by decide) rfl rfl dX2_readStuff_4 ?_
  refine e_iconst (v := 1) C dX2_readStuff_7 (by decide) ?_
  refine e_icmp_ne (tgt := 23) C dX2_readStuff_8 (by decide) (fun c1 => ?_) (fun c1 => ?_)
  · refine e_iconst (v := 0) C dX2_readStuff_23 (by decide) ?_
    exact e_iret C X rfl rfl dX2_readStuff_24 (h2 c1)
  · refine e_aload_n (n := 0) C dX2_readStuff_11 rfl rfl ?_
    refine e_get (v := .ref 2) C fd_X2_12 (by decide) rfl rfl dX2_readStuff_12 ?_
    refine e_callV1 (as := []) (rest := []) C lk_X2_92 (sp_X3_tokenLength (M := M)  ) (by decide) rfl (by decide) rfl (by decide) rfl rfl (Nat.le_of_ble_eq_true rfl) dX2_readStuff_15 ?_
    refine e_bipush (v := 7) C dX2_readStuff_18 (by decide) ?_
    refine e_icmp_le (tgt := 25) C dX2_readStuff_20 (by decide) (fun c3 => ?_) (fun c3 => ?_)
    · refine e_aload_n (n := 0) C dX2_readStuff_25 rfl rfl ?_
      refine e_get (v := .ref 4) C fd_X2_21 (by decide) rfl rfl dX2_readStuff_26 ?_
      refine e_aload_n (n := 0) C dX2_readStuff_29 rfl rfl ?_
      refine e_get (v := .ref 2) C fd_X2_12 (by decide) rfl rfl dX2_readStuff_30 ?_
      refine e_aload_n (n := 0) C dX2_readStuff_33 rfl rfl ?_
      refine e_get (v := .ref 2) C fd_X2_12 (by decide) rfl rfl dX2_readStuff_34 ?_
      refine e_get (v := .int (M 2 2)) C fd_X2_41 (by decide) rfl rfl dX2_readStuff_37 ?_
      refine e_aload_n (n := 0) C dX2_readStuff_40 rfl rfl ?_
      refine e_get (v := .ref 2) C fd_X2_12 (by decide) rfl rfl dX2_readStuff_41 ?_
      refine e_get (v := .int (M 2 3)) C fd_X2_50 (by decide) rfl rfl dX2_readStuff_44 ?_
      refine e_callV1 (as := [.ref 2, .int (M 2 2), .int (M 2 3)]) (rest := []) C lk_X2_96 (q4 c1 c3) (by decide) rfl (by decide) rfl (by decide) rfl rfl (Nat.le_of_ble_eq_true rfl) dX2_readStuff_47 ?_
      refine e_iconst (v := -1) C dX2_readStuff_50 (by decide) ?_
      refine e_icmp_eq (tgt := 56) C dX2_readStuff_51 (by decide) (fun c5 => ?_) (fun c5 => ?_)
      · refine e_aload_n (n := 0) C dX2_readStuff_56 rfl rfl ?_
        refine e_get (v := .ref 4) C fd_X2_21 (by decide) rfl rfl dX2_readStuff_57 ?_
        refine e_aload_n (n := 0) C dX2_readStuff_60 rfl rfl ?_
        refine e_get (v := .ref 2) C fd_X2_12 (by decide) rfl rfl dX2_readStuff_61 ?_
        refine e_callV0 (as := [.ref 2]) (rest := []) C lk_X2_100 (q6 c1 c3 c5) (by decide) rfl (by decide) rfl (by decide) rfl rfl (Nat.le_of_ble_eq_true rfl) dX2_readStuff_64 ?_
        refine e_aload_n (n := 0) C dX2_readStuff_67 rfl rfl ?_
        refine e_get (v := .ref 2) C fd_X2_12 (by decide) rfl rfl dX2_readStuff_68 ?_
        refine e_aload_n (n := 0) C dX2_readStuff_71 rfl rfl ?_
        refine e_get (v := .ref 2) C fd_X2_12 (by decide) rfl rfl dX2_readStuff_72 ?_
        refine e_get (v := .int (M2 2 3)) C fd_X2_50 (by decide) rfl rfl dX2_readStuff_75 ?_
        refine e_callV0 (as := [.int (M2 2 3)]) (rest := []) C lk_X2_29 (q7 c1 c3 c5) (by decide) rfl (by decide) rfl (by decide) rfl rfl (Nat.le_of_ble_eq_true rfl) dX2_readStuff_78 ?_
        refine e_aload_n (n := 0) C dX2_readStuff_81 rfl rfl ?_
        refine e_iconst (v := 1) C dX2_readStuff_82 (by decide) ?_
        refine e_bipush (v := 20) C dX2_readStuff_83 (by decide) ?_
        refine e_callV1 (as := [.int (1 : Int32), .int (20 : Int32)]) (rest := []) C lk_X2_85 (q8 c1 c3 c5) (by decide) rfl (by decide) rfl (by decide) rfl rfl (Nat.le_of_ble_eq_true rfl) dX2_readStuff_85 ?_
        refine e_istore_n C dX2_readStuff_88 rfl (by decide) rfl ?_
        refine e_iload_n (n := 0) C dX2_readStuff_89 rfl rfl ?_
        refine e_iconst (v := -1) C dX2_readStuff_90 (by decide) ?_
        refine e_icmp_ne (tgt := 96) C dX2_readStuff_91 (by decide) (fun c9 => ?_) (fun c9 => ?_)
        · refine e_aload_n (n := 1) C dX2_readStuff_96 rfl rfl ?_
          refine e_iconst (v := 1) C dX2_readStuff_97 (by decide) ?_
          refine e_bipush (v := 20) C dX2_readStuff_98 (by decide) ?_
          refine e_callV1 (as := [.int (1 : Int32), .int (20 : Int32)]) (rest := []) C lk_X2_85 (q10 c1 c3 c5 c9) (by decide) rfl (by decide) rfl (by decide) rfl rfl (Nat.le_of_ble_eq_true rfl) dX2_readStuff_100 ?_
          refine e_istore_n C dX2_readStuff_103 rfl (by decide) rfl ?_
          refine e_iload_n (n := 0) C dX2_readStuff_104 rfl rfl ?_
          refine e_iconst (v := -1) C dX2_readStuff_105 (by decide) ?_
          refine e_icmp_ne (tgt := 111) C dX2_readStuff_106 (by decide) (fun c11 => ?_) (fun c11 => ?_)
          · refine e_aload_n (n := 2) C dX2_readStuff_111 rfl rfl ?_
            refine e_get (v := .ref 4) C fd_X2_21 (by decide) rfl rfl dX2_readStuff_112 ?_
            refine e_iload_n (n := 1) C dX2_readStuff_115 rfl rfl ?_
            refine e_iload_n (n := 0) C dX2_readStuff_116 rfl rfl ?_
            refine e_callV0 (as := [.int r4, .int r5]) (rest := []) C lk_X2_104 (sp_X4_addStuff (M := M5) (x := 4) (p := r4) (c := r5) rfl ) (by decide) rfl (by decide) rfl (by decide) rfl rfl (Nat.le_of_ble_eq_true rfl) dX2_readStuff_117 ?_
            refine e_iconst (v := 1) C dX2_readStuff_120 (by decide) ?_
            exact e_iret C X rfl rfl dX2_readStuff_121 (h12 c1 c3 c5 c9 c11)
          · refine e_iconst (v := 0) C dX2_readStuff_109 (by decide) ?_
            exact e_iret C X rfl rfl dX2_readStuff_110 (h13 c1 c3 c5 c9 c11)
        · refine e_iconst (v := 0) C dX2_readStuff_94 (by decide) ?_
          exact e_iret C X rfl rfl dX2_readStuff_95 (h14 c1 c3 c5 c9)
      · refine e_iconst (v := 0) C dX2_readStuff_54 (by decide) ?_
        exact e_iret C X rfl rfl dX2_readStuff_55 (h15 c1 c3 c5)
    · refine e_iconst (v := 0) C dX2_readStuff_23 (by decide) ?_
      exact e_iret C X rfl rfl dX2_readStuff_24 (h16 c1 c3)
set_option maxRecDepth 100000 in
set_option maxHeartbeats 4000000 in
theorem kb_X2_readLayer_0 {k : ea_K} {o : Option Value} {M' : ea_M} (C : ea_C k RX2 cX2_readLayer 3 3) (X : ea_X k (some .boolean) o M') {M : ea_M} {M2 M3 M4 : ea_M} {r1 r3 : Int32}   (q1 : ea_Sp 2 yX4_stuffNamed cX4_stuffNamed 5 (some .int) [.ref 4, .ref 2, .int (M 2 2), .int (M 2 3)] M (some (.int r1)) M) (q3 : ¬ r1 = (-1 : Int32) → ea_Sp 1 yX3_lookFrom cX3_lookFrom 2 none [.ref 2, .int (M 2 3)] M none M2) (q4 : ¬ r1 = (-1 : Int32) → ea_Sp 2 yX2_takeNumber cX2_takeNumber 4 (some .int) [.ref 1, .int (1 : Int32), .int (if ((10 : Int32) - (M2 4 5)) < (9 : Int32) then ((10 : Int32) - (M2 4 5)) else (9 : Int32))] M2 (some (.int r3)) M3) (q6 : ¬ r1 = (-1 : Int32) → ¬ r3 = (-1 : Int32) → ea_Sp 1 yX4_addCells cX4_addCells 4 none [.ref 4, .int r1, .int r3] M3 none M4) (h7 : ¬ r1 = (-1 : Int32) → ¬ r3 = (-1 : Int32) → o = some (.int (1 : Int32)) ∧ M' = M4) (h8 : ¬ r1 = (-1 : Int32) → r3 = (-1 : Int32) → o = some (.int (0 : Int32)) ∧ M' = M3) (h9 : r1 = (-1 : Int32) → o = some (.int (0 : Int32)) ∧ M' = M) : ea_E k 0 [(0, .ref 1)] [] M := by
  refine e_aload_n (n := 0) C dX2_readLayer_0 rfl rfl ?_
  refine e_get (v := .ref 4) C fd_X2_21 (by decide) rfl rfl dX2_readLayer_1 ?_
  refine e_aload_n (n := 0) C dX2_readLayer_4 rfl rfl ?_
  refine e_get (v := .ref 2) C fd_X2_12 (by decide) rfl rfl dX2_readLayer_5 ?_
  refine e_aload_n (n := 0) C dX2_readLayer_8 rfl rfl ?_
  refine e_get (v := .ref 2) C fd_X2_12 (by decide) rfl rfl dX2_readLayer_9 ?_
  refine e_get (v := .int (M 2 2)) C fd_X2_41 (by decide) rfl rfl dX2_readLayer_12 ?_
  refine e_aload_n (n := 0) C dX2_readLayer_15 rfl rfl ?_
  refine e_get (v := .ref 2) C fd_X2_12 (by decide) rfl rfl dX2_readLayer_16 ?_
  refine e_get (v := .int (M 2 3)) C fd_X2_50 (by decide) rfl rfl dX2_readLayer_19 ?_
  refine e_callV1 (as := [.ref 2, .int (M 2 2), .int (M 2 3)]) (rest := []) C lk_X2_96 q1 (by decide) rfl (by decide) rfl (by decide) rfl rfl (Nat.le_of_ble_eq_true rfl) dX2_readLayer_22 ?_
  refine e_istore_n C dX2_readLayer_25 rfl (by decide) rfl ?_
  refine e_iload_n (n := 0) C dX2_readLayer_26 rfl rfl ?_
  refine e_iconst (v := -1) C dX2_readLayer_27 (by decide) ?_
  refine e_icmp_ne (tgt := 33) C dX2_readLayer_28 (by decide) (fun c2 => ?_) (fun c2 => ?_)
  · refine e_aload_n (n := 1) C dX2_readLayer_33 rfl rfl ?_
    refine e_get (v := .ref 2) C fd_X2_12 (by decide) rfl rfl dX2_readLayer_34 ?_
    refine e_aload_n (n := 1) C dX2_readLayer_37 rfl rfl ?_
    refine e_get (v := .ref 2) C fd_X2_12 (by decide) rfl rfl dX2_readLayer_38 ?_
    refine e_get (v := .int (M 2 3)) C fd_X2_50 (by decide) rfl rfl dX2_readLayer_41 ?_
    refine e_callV0 (as := [.int (M 2 3)]) (rest := []) C lk_X2_29 (q3 c2) (by decide) rfl (by decide) rfl (by decide) rfl rfl (Nat.le_of_ble_eq_true rfl) dX2_readLayer_44 ?_
    refine e_aload_n (n := 1) C dX2_readLayer_47 rfl rfl ?_
    refine e_iconst (v := 1) C dX2_readLayer_48 (by decide) ?_
    refine e_bipush (v := 9) C dX2_readLayer_49 (by decide) ?_
    refine e_bipush (v := 10) C dX2_readLayer_51 (by decide) ?_
    refine e_aload_n (n := 1) C dX2_readLayer_53 rfl rfl ?_
    refine e_get (v := .ref 4) C fd_X2_21 (by decide) rfl rfl dX2_readLayer_54 ?_
    refine e_get (v := .int (M2 4 5)) C fd_X2_108 (by decide) rfl rfl dX2_readLayer_57 ?_
    refine e_isub C dX2_readLayer_60 ?_
    refine e_mmin C (wsm_13 (List.mem_of_getElem? (i := 0) rfl)) (wsm_13 (List.mem_of_getElem? (i := 1) rfl)) (wsm_13 (List.mem_of_getElem? (i := 2) rfl)) (wsm_13 (List.mem_of_getElem? (i := 3) rfl)) (by decide) (Nat.le_of_ble_eq_true rfl) dX2_readLayer_61 ?_
    refine e_callV1 (as := [.int (1 : Int32), .int (if ((10 : Int32) - (M2 4 5)) < (9 : Int32) then ((10 : Int32) - (M2 4 5)) else (9 : Int32))]) (rest := []) C lk_X2_85 (q4 c2) (by decide) rfl (by decide) rfl (by decide) rfl rfl (Nat.le_of_ble_eq_true rfl) dX2_readLayer_64 ?_
    refine e_istore_n C dX2_readLayer_67 rfl (by decide) rfl ?_
    refine e_iload_n (n := 0) C dX2_readLayer_68 rfl rfl ?_
    refine e_iconst (v := -1) C dX2_readLayer_69 (by decide) ?_
    refine e_icmp_ne (tgt := 75) C dX2_readLayer_70 (by decide) (fun c5 => ?_) (fun c5 => ?_)
    · refine e_aload_n (n := 2) C dX2_readLayer_75 rfl rfl ?_
      refine e_get (v := .ref 4) C fd_X2_21 (by decide) rfl rfl dX2_readLayer_76 ?_
      refine e_iload_n (n := 1) C dX2_readLayer_79 rfl rfl ?_
      refine e_iload_n (n := 0) C dX2_readLayer_80 rfl rfl ?_
      refine e_callV0 (as := [.int r1, .int r3]) (rest := []) C lk_X2_116 (q6 c2 c5) (by decide) rfl (by decide) rfl (by decide) rfl rfl (Nat.le_of_ble_eq_true rfl) dX2_readLayer_81 ?_
      refine e_iconst (v := 1) C dX2_readLayer_84 (by decide) ?_
      exact e_iret C X rfl rfl dX2_readLayer_85 (h7 c2 c5)
    · refine e_iconst (v := 0) C dX2_readLayer_73 (by decide) ?_
      exact e_iret C X rfl rfl dX2_readLayer_74 (h8 c2 c5)
  · refine e_iconst (v := 0) C dX2_readLayer_31 (by decide) ?_
    exact e_iret C X rfl rfl dX2_readLayer_32 (h9 c2)
set_option maxRecDepth 100000 in
set_option maxHeartbeats 4000000 in
theorem kb_X2_readAir_0 {k : ea_K} {o : Option Value} {M' : ea_M} (C : ea_C k RX2 cX2_readAir 3 3) (X : ea_X k (some .boolean) o M') {M : ea_M} {M1 M2 : ea_M} {r1 r2 : Int32}   (q1 : ea_Sp 2 yX2_takeNumber cX2_takeNumber 4 (some .int) [.ref 1, .int (0 : Int32), .int (999 : Int32)] M (some (.int r1)) M1) (q3 : ¬ r1 = (-1 : Int32) → ea_Sp 2 yX2_takeNumber cX2_takeNumber 4 (some .int) [.ref 1, .int (0 : Int32), .int (999 : Int32)] M1 (some (.int r2)) M2) (h5 : ¬ r1 = (-1 : Int32) → ¬ r2 = (-1 : Int32) → o = some (.int (1 : Int32)) ∧ M' = (ea_up (ea_up M2 11 1 r1) 11 2 r2)) (h6 : ¬ r1 = (-1 : Int32) → r2 = (-1 : Int32) → o = some (.int (0 : Int32)) ∧ M' = M2) (h7 : r1 = (-1 : Int32) → o = some (.int (0 : Int32)) ∧ M' = M1) : ea_E k 0 [(0, .ref 1)] [] M := by
  refine e_aload_n (n := 0) C dX2_readAir_0 rfl rfl ?_
  refine e_iconst (v := 0) C dX2_readAir_1 (by decide) ?_
  refine e_sipush (v := 999) C dX2_readAir_2 (by decide) ?_
  refine e_callV1 (as := [.int (0 : Int32), .int (999 : Int32)]) (rest := []) C lk_X2_85 q1 (by decide) rfl (by decide) rfl (by decide) rfl rfl (Nat.le_of_ble_eq_true rfl) dX2_readAir_5 ?_
  refine e_istore_n C dX2_readAir_8 rfl (by decide) rfl ?_
  refine e_iload_n (n := 0) C dX2_readAir_9 rfl rfl ?_
  refine e_iconst (v := -1) C dX2_readAir_10 (by decide) ?_
  refine e_icmp_ne (tgt := 16) C dX2_readAir_11 (by decide) (fun c2 => ?_) (fun c2 => ?_)
  · refine e_aload_n (n := 1) C dX2_readAir_16 rfl rfl ?_
    refine e_iconst (v := 0) C dX2_readAir_17 (by decide) ?_
    refine e_sipush (v := 999) C dX2_readAir_18 (by decide) ?_
    refine e_callV1 (as := [.int (0 : Int32), .int (999 : Int32)]) (rest := []) C lk_X2_85 (q3 c2) (by decide) rfl (by decide) rfl (by decide) rfl rfl (Nat.le_of_ble_eq_true rfl) dX2_readAir_21 ?_
    refine e_istore_n C dX2_readAir_24 rfl (by decide) rfl ?_
    refine e_iload_n (n := 0) C dX2_readAir_25 rfl rfl ?_
    refine e_iconst (v := -1) C dX2_readAir_26 (by decide) ?_
    refine e_icmp_ne (tgt := 32) C dX2_readAir_27 (by decide) (fun c4 => ?_) (fun c4 => ?_)
    · refine e_aload_n (n := 2) C dX2_readAir_32 rfl rfl ?_
      refine e_get (v := .ref 4) C fd_X2_21 (by decide) rfl rfl dX2_readAir_33 ?_
      refine e_get (v := .ref 11) C fd_X2_119 (by decide) rfl rfl dX2_readAir_36 ?_
      refine e_iload_n (n := 1) C dX2_readAir_39 rfl rfl ?_
      refine e_put (ty := .int) C fd_X2_123 (by decide) rfl rfl (by decide +kernel) (vp_nar_int _) rfl (ea_set5_1 _ _ _) dX2_readAir_40 ?_
      refine e_aload_n (n := 2) C dX2_readAir_43 rfl rfl ?_
      refine e_get (v := .ref 4) C fd_X2_21 (by decide) rfl rfl dX2_readAir_44 ?_
      refine e_get (v := .ref 11) C fd_X2_119 (by decide) rfl rfl dX2_readAir_47 ?_
      refine e_iload_n (n := 0) C dX2_readAir_50 rfl rfl ?_
      refine e_put (ty := .int) C fd_X2_128 (by decide) rfl rfl (by decide +kernel) (vp_nar_int _) rfl (ea_set5_2 _ _ _) dX2_readAir_51 ?_
      refine e_iconst (v := 1) C dX2_readAir_54 (by decide) ?_
      exact e_iret C X rfl rfl dX2_readAir_55 (h5 c2 c4)
    · refine e_iconst (v := 0) C dX2_readAir_30 (by decide) ?_
      exact e_iret C X rfl rfl dX2_readAir_31 (h6 c2 c4)
  · refine e_iconst (v := 0) C dX2_readAir_14 (by decide) ?_
    exact e_iret C X rfl rfl dX2_readAir_15 (h7 c2)
set_option maxRecDepth 100000 in
set_option maxHeartbeats 4000000 in
theorem kb_X2_readHeat_0 {k : ea_K} {o : Option Value} {M' : ea_M} (C : ea_C k RX2 cX2_readHeat 3 3) (X : ea_X k (some .boolean) o M') {M : ea_M} {M1 M2 : ea_M} {r1 r2 : Int32}   (q1 : ea_Sp 2 yX2_takeNumber cX2_takeNumber 4 (some .int) [.ref 1, .int (0 : Int32), .int ((M 4 5) - (1 : Int32))] M (some (.int r1)) M1) (q3 : ¬ r1 = (-1 : Int32) → ea_Sp 2 yX2_takeNumber cX2_takeNumber 4 (some .int) [.ref 1, .int (0 : Int32), .int (9999 : Int32)] M1 (some (.int r2)) M2) (h5 : ¬ r1 = (-1 : Int32) → ¬ r2 = (-1 : Int32) → o = some (.int (1 : Int32)) ∧ M' = (pa_set M2 12 10 r1 r2)) (h6 : ¬ r1 = (-1 : Int32) → r2 = (-1 : Int32) → o = some (.int (0 : Int32)) ∧ M' = M2) (h7 : r1 = (-1 : Int32) → o = some (.int (0 : Int32)) ∧ M' = M1) : ea_E k 0 [(0, .ref 1)] [] M := by
  refine e_aload_n (n := 0) C dX2_readHeat_0 rfl rfl ?_
  refine e_iconst (v := 0) C dX2_readHeat_1 (by decide) ?_
  refine e_aload_n (n := 0) C dX2_readHeat_2 rfl rfl ?_
  refine e_get (v := .ref 4) C fd_X2_21 (by decide) rfl rfl dX2_readHeat_3 ?_
  refine e_get (v := .int (M 4 5)) C fd_X2_108 (by decide) rfl rfl dX2_readHeat_6 ?_
  refine e_iconst (v := 1) C dX2_readHeat_9 (by decide) ?_
  refine e_isub C dX2_readHeat_10 ?_
  refine e_callV1 (as := [.int (0 : Int32), .int ((M 4 5) - (1 : Int32))]) (rest := []) C lk_X2_85 q1 (by decide) rfl (by decide) rfl (by decide) rfl rfl (Nat.le_of_ble_eq_true rfl) dX2_readHeat_11 ?_
  refine e_istore_n C dX2_readHeat_14 rfl (by decide) rfl ?_
  refine e_iload_n (n := 0) C dX2_readHeat_15 rfl rfl ?_
  refine e_iconst (v := -1) C dX2_readHeat_16 (by decide) ?_
  refine e_icmp_ne (tgt := 22) C dX2_readHeat_17 (by decide) (fun c2 => ?_) (fun c2 => ?_)
  · refine e_aload_n (n := 1) C dX2_readHeat_22 rfl rfl ?_
    refine e_iconst (v := 0) C dX2_readHeat_23 (by decide) ?_
    refine e_sipush (v := 9999) C dX2_readHeat_24 (by decide) ?_
    refine e_callV1 (as := [.int (0 : Int32), .int (9999 : Int32)]) (rest := []) C lk_X2_85 (q3 c2) (by decide) rfl (by decide) rfl (by decide) rfl rfl (Nat.le_of_ble_eq_true rfl) dX2_readHeat_27 ?_
    refine e_istore_n C dX2_readHeat_30 rfl (by decide) rfl ?_
    refine e_iload_n (n := 0) C dX2_readHeat_31 rfl rfl ?_
    refine e_iconst (v := -1) C dX2_readHeat_32 (by decide) ?_
    refine e_icmp_ne (tgt := 38) C dX2_readHeat_33 (by decide) (fun c4 => ?_) (fun c4 => ?_)
    · refine e_aload_n (n := 2) C dX2_readHeat_38 rfl rfl ?_
      refine e_get (v := .ref 4) C fd_X2_21 (by decide) rfl rfl dX2_readHeat_39 ?_
      refine e_get (v := .ref 11) C fd_X2_119 (by decide) rfl rfl dX2_readHeat_42 ?_
      refine e_get (v := .ref 12) C fd_X2_131 (by decide) rfl rfl dX2_readHeat_45 ?_
      refine e_iload_n (n := 1) C dX2_readHeat_48 rfl rfl ?_
      refine e_iload_n (n := 0) C dX2_readHeat_49 rfl rfl ?_
      refine e_callN0 (as := [.ref 12, .int r1, .int r2]) (rest := []) C lk_X2_135 (sp_X6_set M2 12 10 r1 r2 rfl (by decide) ) (by decide) rfl rfl (Nat.le_of_ble_eq_true rfl) dX2_readHeat_50 ?_
      refine e_iconst (v := 1) C dX2_readHeat_53 (by decide) ?_
      exact e_iret C X rfl rfl dX2_readHeat_54 (h5 c2 c4)
    · refine e_iconst (v := 0) C dX2_readHeat_36 (by decide) ?_
      exact e_iret C X rfl rfl dX2_readHeat_37 (h6 c2 c4)
  · refine e_iconst (v := 0) C dX2_readHeat_20 (by decide) ?_
    exact e_iret C X rfl rfl dX2_readHeat_21 (h7 c2)
/-! ===== the reader ===== -/
/-- a stretch of a row is told anew -/
def pa_seg (M : ea_M) (y a : Nat) (f : Nat → Int32) (m : Nat) : ea_M := fun b => if b = y then (fun j => if a ≤ j ∧ j < a + m then f (j - a) else M y j) else M b
theorem pa_segR {M : ea_M} {y a m b : Nat} {f : Nat → Int32} (h : b ≠ y) : pa_seg M y a f m b = M b := if_neg h
theorem pa_seg0 (M : ea_M) (y a : Nat) (f : Nat → Int32) : pa_seg M y a f 0 = M := by
  funext b
  unfold pa_seg
  by_cases h : b = y
  · rw [if_pos h]
    funext j
    have : ¬ (a ≤ j ∧ j < a + 0) := by omega
    rw [if_neg this, h]
  · rw [if_neg h]
theorem pa_segS {M : ea_M} {y a m : Nat} {f : Nat → Int32} {v : Int32} (hv : v = f m) : ea_up (pa_seg M y a f m) y (a + m) v = pa_seg M y a f (m + 1) := by
  subst hv
  funext b
  by_cases h : b = y
  · subst h
    funext j
    rw [pa_up, if_pos rfl]
    simp only [pa_seg, if_true]
    by_cases hj : j = a + m
    · subst hj
      rw [if_pos rfl, if_pos (by omega)]
      congr 1
      omega
    · rw [if_neg hj]
      by_cases hc : a ≤ j ∧ j < a + m
      · rw [if_pos hc, if_pos (by omega)]
      · rw [if_neg hc, if_neg (by omega)]
  · rw [ea_upR h, pa_segR h, pa_segR h]
theorem sp_X4_nameNext (M : ea_M) (x ns t f : Nat) (hx : ea_kd x = 4) (hk : M x 0 = nI ns) (hn : ns < 6) (ht : f_X3_tokenLength M = nI t) (ht7 : t ≤ 7) (hf : M 2 2 = nI f) (hft : f + t ≤ 200) : ea_Sp 1 yX4_nameNext cX4_nameNext 3 none [.ref x, .ref 2] M none (pa_seg (ea_up M (x + 2) ns (nI t)) (x + 1) (7 * ns) (fun j => M 3 (f + j)) t) := by
  refine ea_intro (own := RX4) (by decide +kernel) rfl (fun g => Nat.le_of_ble_eq_true rfl) (fun k C X => ?_)
  have m1 := kd_ne (kd4_2 hx) (show ea_kd 2 = 3 from rfl) (by decide)
  have m2 := kd_ne (kd4_1 hx) (show ea_kd 2 = 3 from rfl) (by decide)
  have m4 := kd_ne (kd4_2 hx) (show ea_kd 3 = 1200 from rfl) (by decide)
  have m5 := kd_ne (kd4_1 hx) (show ea_kd 3 = 1200 from rfl) (by decide)
  obtain ⟨N, hN⟩ : ∃ N, N = ea_up M (x + 2) ns (nI t) := ⟨_, rfl⟩
  have n2 : ∀ m, pa_seg N (x + 1) (7 * ns) (fun j => M 3 (f + j)) m 2 = M 2 := fun m => by rw [pa_segR m2.symm, hN, ea_upR m1.symm]
  have n3 : ∀ m, pa_seg N (x + 1) (7 * ns) (fun j => M 3 (f + j)) m 3 = M 3 := fun m => by rw [pa_segR m5.symm, hN, ea_upR m4.symm]
  have n0 : ∀ m, pa_seg N (x + 1) (7 * ns) (fun j => M 3 (f + j)) m x = M x := fun m => by rw [pa_segR (by omega), hN, ea_upR (by omega)]
  have loop : ∀ (m i : Nat), i + m = t → ea_E k 17 [(0, .ref x), (1, .ref 2), (2, .int (nI i))] [] (pa_seg N (x + 1) (7 * ns) (fun j => M 3 (f + j)) i) := by
    intro m
    induction m with
    | zero =>
      intro i hi
      have e : f_X3_tokenLength (pa_seg N (x + 1) (7 * ns) (fun j => M 3 (f + j)) i) = nI t := by
        rw [← ht]
        unfold f_X3_tokenLength
        rw [n2]
      refine kb_X4_nameNext_17 C X hx (fun _ => ⟨rfl, by rw [hN, show i = t by omega]⟩) (fun c => absurd ?_ c)
      rw [e]
      exact nI_le (by omega) (by omega)
    | succ m ih =>
      intro i hi
      have e : f_X3_tokenLength (pa_seg N (x + 1) (7 * ns) (fun j => M 3 (f + j)) i) = nI t := by
        rw [← ht]
        unfold f_X3_tokenLength
        rw [n2]
      refine kb_X4_nameNext_17 C X hx (fun c => absurd c ?_) (fun _ => ?_)
      · rw [e]
        exact nI_ge (by omega) (by omega)
      · rw [n0, hk, n3, n2, hf, show (7 : Int32) = nI 7 from rfl, pk_mul, nI_add, nI_add, pa_setN (show ns * 7 + i < 42 by omega) (by decide), pa_atN (show f + i < 200 by omega) (by decide), Nat.mul_comm ns 7, pa_segS rfl, nI_1]
        exact ih (i + 1) (by omega)
  refine kb_X4_nameNext_0 C X hx ?_
  rw [hk, ht, pa_setN (show ns < 6 from hn) (by decide), ← hN]
  have h0 := loop t 0 (by omega)
  rw [pa_seg0] at h0
  exact h0
theorem sp_X4_addCells (M : ea_M) (x nc m s : Nat) (hx : ea_kd x = 4) (hk : M x 5 = nI nc) (hn : nc + m ≤ 10) (hs : s < 1000) : ea_Sp 1 yX4_addCells cX4_addCells 4 none [.ref x, .int (nI s), .int (nI m)] M none (ea_up (pa_seg (pa_seg M (x + 5) nc (fun _ => nI s) m) (x + 8) nc (fun _ => 0) m) x 5 (nI (nc + m))) := by
  refine ea_intro (own := RX4) (by decide +kernel) rfl (fun g => Nat.le_of_ble_eq_true rfl) (fun k C X => ?_)
  obtain ⟨S, hS⟩ : ∃ S : Nat → ea_M, S = fun i => ea_up (pa_seg (pa_seg M (x + 5) nc (fun _ => nI s) i) (x + 8) nc (fun _ => 0) i) x 5 (nI (nc + i)) := ⟨_, rfl⟩
  have e5 : ∀ i, S i x 5 = nI (nc + i) := fun i => by rw [hS]; exact ea_upS
  have step : ∀ i, i < m → ea_up (pa_set (pa_set (S i) (x + 5) 10 (nI (nc + i)) (nI s)) (x + 8) 10 (nI (nc + i)) 0) x 5 (nI (nc + i) + 1) = S (i + 1) := by
    intro i hi
    rw [pa_setN (show nc + i < 10 by omega) (by decide), pa_setN (show nc + i < 10 by omega) (by decide), nI_1]
    have hSi : ∀ i, S i = ea_up (pa_seg (pa_seg M (x + 5) nc (fun _ => nI s) i) (x + 8) nc (fun _ => 0) i) x 5 (nI (nc + i)) := fun i => by rw [hS]
    rw [hSi i, hSi (i + 1)]
    funext b
    by_cases h0 : b = x
    · subst h0
      funext j
      simp only [pa_up, if_true]
      by_cases hj : j = 5
      · subst hj
        simp only [if_true]
        rfl
      · simp only [if_neg hj]
        have q1 : ¬ b = b + 5 := by omega
        have q2 : ¬ b = b + 8 := by omega
        simp only [pa_up, if_neg hj, if_neg q1, if_neg q2, if_true, pa_seg]
    · rw [ea_upR h0, ea_upR h0]
      have q1 : ¬ x + 5 = x + 8 := by omega
      have q2 : ¬ x + 8 = x + 5 := by omega
      have q3 : ¬ x + 5 = x := by omega
      have q4 : ¬ x + 8 = x := by omega
      by_cases h5 : b = x + 5
      · subst h5
        funext j
        have := congrFun (congrFun (pa_segS (M := M) (y := x + 5) (a := nc) (m := i) (f := fun _ => nI s) (v := nI s) rfl) (x + 5)) j
        simp only [pa_up, if_true, if_neg q1, if_neg q2, if_neg q3] at this ⊢
        rw [pa_segR q1, pa_segR q1]
        exact this
      · by_cases h8 : b = x + 8
        · subst h8
          funext j
          have := congrFun (congrFun (pa_segS (M := M) (y := x + 8) (a := nc) (m := i) (f := fun _ => (0 : Int32)) (v := 0) rfl) (x + 8)) j
          simp only [pa_up, if_true, if_neg q1, if_neg q2, if_neg q4, pa_seg] at this ⊢
          exact this
        · rw [ea_upR h8, ea_upR h5, ea_upR h0, pa_segR h8, pa_segR h5, pa_segR h8, pa_segR h5]
  have loop : ∀ (q i : Nat), i + q = m → ea_E k 2 [(0, .ref x), (1, .int (nI s)), (2, .int (nI m)), (3, .int (nI i))] [] (S i) := by
    intro q
    induction q with
    | zero =>
      intro i hi
      refine kb_X4_addCells_2 C X hx (fun _ => ⟨rfl, by rw [hS, show i = m by omega]⟩) (fun c => absurd (nI_le (by omega) (by omega)) c)
    | succ q ih =>
      intro i hi
      refine kb_X4_addCells_2 C X hx (fun c => absurd c (nI_ge (show i < m by omega) (by omega))) (fun _ => ?_)
      rw [e5, step i (by omega), nI_1]
      exact ih (i + 1) (by omega)
  have h0 := loop m 0 (by omega)
  have e0 : S 0 = M := by
    rw [hS]
    show ea_up (pa_seg (pa_seg M (x + 5) nc (fun _ => nI s) 0) (x + 8) nc (fun _ => 0) 0) x 5 (nI (nc + 0)) = M
    rw [pa_seg0, pa_seg0, Nat.add_zero, ← hk]
    funext b
    by_cases hb : b = x
    · subst hb
      funext j
      rw [pa_up, if_pos rfl]
      by_cases hj : j = 5
      · rw [if_pos hj, hj]
      · rw [if_neg hj]
    · rw [ea_upR hb]
  rw [e0] at h0
  exact kb_X4_addCells_0 C X hx h0
/-- the text reader stands at the token that begins at place p or behind it -/
def ts_ok (M : ea_M) (L : Nat → Int32) (n p : Nat) : Prop := M 3 = L ∧ n ≤ 200 ∧ p ≤ n ∧ M 2 1 = nI n ∧ M 2 2 = nI (tk_f L n p) ∧ M 2 3 = nI (tk_b L n p) ∧ M 2 4 = tk_k L n p
theorem tk_fb (L : Nat → Int32) {n p : Nat} (hp : p ≤ n) : p ≤ tk_f L n p ∧ tk_f L n p ≤ tk_b L n p ∧ tk_b L n p ≤ n := by
  have h1 := pa_run_le (p := fun j => decide (L j = 32)) (n - p) p
  have h2 : p ≤ tk_f L n p ∧ tk_f L n p ≤ n := by
    unfold tk_f
    omega
  refine ⟨h2.1, ?_⟩
  unfold tk_b
  by_cases h : tk_f L n p < n
  · rw [if_pos h]
    by_cases h3 : tk_k L n p = 3
    · rw [if_pos h3]
      omega
    · rw [if_neg h3]
      have h4 := pa_run_le (p := fun j => decide (f_X3_kindOf (L j) = tk_k L n p)) (n - (tk_f L n p + 1)) (tk_f L n p + 1)
      omega
  · rw [if_neg h]
    omega
theorem ts_look {M : ea_M} {L : Nat → Int32} {n q : Nat} (h3 : M 3 = L) (hn : n ≤ 200) (h1 : M 2 1 = nI n) (hq : q ≤ n) : ∃ M', ea_Sp 1 yX3_lookFrom cX3_lookFrom 2 none [.ref 2, .int (nI q)] M none M' ∧ ts_ok M' L n q ∧ ∀ a, a ≠ 2 → M' a = M a := by
  refine ⟨tk_at M n q, sp_X3_lookFrom M n q hn h1 hq, ?_, fun a ha => tk_R ha⟩
  unfold tk_at
  rw [h3]
  exact ⟨(tk_R (by decide)).trans h3, hn, hq, (tk_1 _ _ _ _).trans h1, tk_2 _ _ _ _, tk_3 _ _ _ _, tk_4 _ _ _ _⟩
theorem ts_next {M : ea_M} {L : Nat → Int32} {n p : Nat} (h : ts_ok M L n p) : ∃ M', ea_Sp 1 yX3_lookFrom cX3_lookFrom 2 none [.ref 2, .int (M 2 3)] M none M' ∧ ts_ok M' L n (tk_b L n p) ∧ ∀ a, a ≠ 2 → M' a = M a := by
  obtain ⟨h1, h2, h3, h4, h5, h6, h7⟩ := h
  rw [h6]
  exact ts_look h1 h2 h4 (tk_fb L h3).2.2
/-- a number of at most four digits; none -/
def tn_v (L : Nat → Int32) (n p : Nat) : Int32 := if tk_k L n p = 2 ∧ tk_b L n p - tk_f L n p ≤ 4 then tk_v L (tk_f L n p) (tk_b L n p - tk_f L n p) 0 else -1
def rn_o (L : Nat → Int32) (n p : Nat) (lo hi : Int32) : Option Int32 := if tn_v L n p = -1 ∨ tn_v L n p < lo ∨ hi < tn_v L n p then none else some (tn_v L n p)
theorem sp_tn0 {M : ea_M} {L : Nat → Int32} {n p : Nat} {lo hi : Int32} (h : ts_ok M L n p) (hr : rn_o L n p lo hi = none) : ea_Sp 2 yX2_takeNumber cX2_takeNumber 4 (some .int) [.ref 1, .int lo, .int hi] M (some (.int (-1))) M := by
  refine ea_intro (own := RX2) (by decide +kernel) rfl (fun g => Nat.le_of_ble_eq_true rfl) (fun k C X => ?_)
  obtain ⟨h1, h2, h3, h4, h5, h6, h7⟩ := id h
  obtain ⟨f1, f2, f3⟩ := tk_fb L h3
  have e : tk_n M (tk_f L n p) (tk_b L n p) = tn_v L n p := by
    unfold tk_n tn_v
    rw [h7, h1]
  have hc : tn_v L n p = -1 ∨ tn_v L n p < lo ∨ hi < tn_v L n p := by
    unfold rn_o at hr
    by_cases c : tn_v L n p = -1 ∨ tn_v L n p < lo ∨ hi < tn_v L n p
    · exact c
    · rw [if_neg c] at hr
      cases hr
  have hs := sp_X3_number M n _ _ h2 h5 h6 f2 f3
  rw [e] at hs
  refine kb_X2_takeNumber_0 C X (r1 := tn_v L n p) (M2 := M) hs (fun _ => ⟨rfl, rfl⟩) (fun _ _ => ⟨rfl, rfl⟩) (fun a b c => ?_) (fun a b c => ?_) (fun _ _ _ => ⟨rfl, rfl⟩)
  · rcases hc with z | z | z
    · exact absurd z a
    · exact absurd z b
    · exact absurd z (Int32.not_lt.mpr c)
  · rcases hc with z | z | z
    · exact absurd z a
    · exact absurd z b
    · exact absurd z (Int32.not_lt.mpr c)
theorem rn_some {L : Nat → Int32} {n p : Nat} {lo hi v : Int32} (hr : rn_o L n p lo hi = some v) : v = tn_v L n p ∧ ¬ v = -1 ∧ lo ≤ v ∧ v ≤ hi := by
  unfold rn_o at hr
  by_cases c : tn_v L n p = -1 ∨ tn_v L n p < lo ∨ hi < tn_v L n p
  · rw [if_pos c] at hr
    cases hr
  · rw [if_neg c] at hr
    have e : tn_v L n p = v := Option.some.inj hr
    rw [← e]
    exact ⟨rfl, fun z => c (Or.inl z), Int32.not_lt.mp (fun z => c (Or.inr (Or.inl z))), Int32.not_lt.mp (fun z => c (Or.inr (Or.inr z)))⟩
theorem sp_tn1 {M : ea_M} {L : Nat → Int32} {n p : Nat} {lo hi v : Int32} (h : ts_ok M L n p) (hr : rn_o L n p lo hi = some v) : ∃ M', ea_Sp 2 yX2_takeNumber cX2_takeNumber 4 (some .int) [.ref 1, .int lo, .int hi] M (some (.int v)) M' ∧ ts_ok M' L n (tk_b L n p) ∧ ∀ a, a ≠ 2 → M' a = M a := by
  obtain ⟨M2, hM2, hts, hfr⟩ := ts_next h
  refine ⟨M2, ?_, hts, hfr⟩
  refine ea_intro (own := RX2) (by decide +kernel) rfl (fun g => Nat.le_of_ble_eq_true rfl) (fun k C X => ?_)
  obtain ⟨h1, h2, h3, h4, h5, h6, h7⟩ := id h
  obtain ⟨f1, f2, f3⟩ := tk_fb L h3
  have e : tk_n M (tk_f L n p) (tk_b L n p) = tn_v L n p := by
    unfold tk_n tn_v
    rw [h7, h1]
  obtain ⟨e1, c1, c2, c3⟩ := rn_some hr
  have hs := sp_X3_number M n _ _ h2 h5 h6 f2 f3
  rw [e, ← e1] at hs
  exact kb_X2_takeNumber_0 C X (r1 := v) (M2 := M2) hs (fun z => absurd z c1) (fun _ z => absurd c2 (Int32.not_le.mpr z)) (fun _ _ _ => hM2) (fun _ _ _ => ⟨rfl, rfl⟩) (fun _ _ z => absurd c3 z)
/-- the token is the word w -/
def iw_go (L : Nat → Int32) (f w : Nat) : Nat → Nat → Bool
  | _, 0 => true
  | i, m + 1 => if L (f + i) = ea_ch w i then iw_go L f w (i + 1) m else false
def iw_b (L : Nat → Int32) (n p w : Nat) : Bool := decide (tk_b L n p - tk_f L n p = ea_lenS.getD w 0) && iw_go L (tk_f L n p) w 0 (ea_lenS.getD w 0)
theorem sp_X3_isToken {M : ea_M} {L : Nat → Int32} {n p w : Nat} (hw : w < 5) (h : ts_ok M L n p) : ea_Sp 5 yX3_isToken cX3_isToken 3 (some .boolean) [.ref 2, .ref (200 + w)] M (some (.int (if iw_b L n p w = true then (1 : Int32) else 0))) M := by
  refine ea_intro (own := RX3) (by decide +kernel) rfl (fun g => Nat.le_of_ble_eq_true rfl) (fun k C X => ?_)
  obtain ⟨h1, h2, h3, h4, h5, h6, h7⟩ := id h
  obtain ⟨f1, f2, f3⟩ := tk_fb L h3
  have h9 := ea_len9 w hw
  have el : f_X3_tokenLength M = nI (tk_b L n p - tk_f L n p) := by
    unfold f_X3_tokenLength
    rw [h5, h6, pk_sub f2]
  obtain ⟨r, hr⟩ : ∃ r, r = iw_b L n p w := ⟨_, rfl⟩
  rw [← hr] at X
  refine kb_X3_isToken_0 C X hw (fun c => ?_) (fun c => ⟨?_, rfl⟩)
  · rw [el] at c
    have c2 : tk_b L n p - tk_f L n p = ea_lenS.getD w 0 := (nI_eq (by omega) (by omega)).mp c
    have hr2 : r = iw_go L (tk_f L n p) w 0 (ea_lenS.getD w 0) := by
      rw [hr]
      unfold iw_b
      rw [decide_eq_true c2, Bool.true_and]
    have loop : ∀ (m i : Nat), i + m = ea_lenS.getD w 0 → r = iw_go L (tk_f L n p) w i m → ea_E k 15 [(0, .ref 2), (1, .ref (200 + w)), (2, .int (nI i))] [] M := by
      intro m
      induction m with
      | zero =>
        intro i hi hri
        have hc : nI (ea_lenS.getD w 0) ≤ nI i := nI_le (by omega) (by omega)
        refine kb_X3_isToken_15 C X hw (fun _ => ⟨?_, rfl⟩) (fun z => absurd hc z) (fun z => absurd hc z) (fun z => absurd hc z)
        rw [hri, iw_go, if_pos rfl]
      | succ m ih =>
        intro i hi hri
        have hc : ¬ nI (ea_lenS.getD w 0) ≤ nI i := nI_ge (by omega) (by omega)
        have hch : ea_ch w (nI i).toNatClampNeg = ea_ch w i := by rw [nI_clamp (by omega)]
        have hat : pa_at (M 3) 200 (M 2 2 + nI i) = L (tk_f L n p + i) := by
          rw [h5, nI_add, h1, pa_atN (by omega) (by decide)]
        rw [iw_go] at hri
        refine kb_X3_isToken_15 C X hw (fun z => absurd z hc) (fun _ => ?_) (fun _ z => ?_) (fun _ z => ⟨?_, rfl⟩)
        · rw [hch]
          exact sp_J0_charAt M w i hw (by omega)
        · rw [hat, hch] at z
          rw [if_pos z] at hri
          rw [nI_1]
          exact ih (i + 1) (by omega) hri
        · rw [hat, hch] at z
          rw [if_neg z] at hri
          rw [hri, if_neg (by decide)]
    exact loop _ 0 (by omega) hr2
  · rw [el] at c
    have c2 : ¬ tk_b L n p - tk_f L n p = ea_lenS.getD w 0 := fun z => c (by rw [z])
    rw [hr]
    unfold iw_b
    rw [decide_eq_false c2, Bool.false_and, if_neg (by decide)]
theorem sp_tw0 {M : ea_M} {L : Nat → Int32} {n p w : Nat} (hw : w < 5) (h : ts_ok M L n p) (hb : iw_b L n p w = false) : ea_Sp 6 yX2_takeWord cX2_takeWord 2 (some .boolean) [.ref 1, .ref (200 + w)] M (some (.int 0)) M := by
  refine ea_intro (own := RX2) (by decide +kernel) rfl (fun g => Nat.le_of_ble_eq_true rfl) (fun k C X => ?_)
  have hs := sp_X3_isToken hw h
  rw [hb, if_neg (by decide)] at hs
  exact kb_X2_takeWord_0 C X (r1 := 0) (M2 := M) hw hs (fun z => absurd rfl z) (fun z => absurd rfl z) (fun _ => ⟨rfl, rfl⟩)
theorem sp_tw1 {M : ea_M} {L : Nat → Int32} {n p w : Nat} (hw : w < 5) (h : ts_ok M L n p) (hb : iw_b L n p w = true) : ∃ M', ea_Sp 6 yX2_takeWord cX2_takeWord 2 (some .boolean) [.ref 1, .ref (200 + w)] M (some (.int 1)) M' ∧ ts_ok M' L n (tk_b L n p) ∧ ∀ a, a ≠ 2 → M' a = M a := by
  obtain ⟨M2, hM2, hts, hfr⟩ := ts_next h
  refine ⟨M2, ?_, hts, hfr⟩
  refine ea_intro (own := RX2) (by decide +kernel) rfl (fun g => Nat.le_of_ble_eq_true rfl) (fun k C X => ?_)
  have hs := sp_X3_isToken hw h
  rw [hb, if_pos rfl] at hs
  exact kb_X2_takeWord_0 C X (r1 := 1) (M2 := M2) hw hs (fun _ => hM2) (fun _ => ⟨rfl, rfl⟩) (fun z => absurd z (by decide))

