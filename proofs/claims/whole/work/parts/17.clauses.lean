set_option maxRecDepth 100000 in
set_option maxHeartbeats 4000000 in
theorem kb_X2_readClause_0 {k : ea_K} {o : Option Value} {M' : ea_M} (C : ea_C k RX2 cX2_readClause 1 7) (X : ea_X k (some .boolean) o M') {M : ea_M} {M1 M2 M3 M4 M5 M6 M7 M8 M9 M10 M11 M12 M13 M14 M15 M16 : ea_M} {r1 r2 r3 r4 r5 r6 r7 r8 r9 r10 r11 r12 r13 r14 r15 r16 : Int32}   (q1 : ea_Sp 6 yX2_takeWord cX2_takeWord 2 (some .boolean) [.ref 1, .ref 200] M (some (.int r1)) M1) (q4 : r1 = 0 → (6 : Int32) ≤ (M1 4 0) → ea_Sp 6 yX2_takeWord cX2_takeWord 2 (some .boolean) [.ref 1, .ref 202] M1 (some (.int r2)) M2) (q6 : r1 = 0 → (6 : Int32) ≤ (M1 4 0) → r2 = 0 → ea_Sp 6 yX2_takeWord cX2_takeWord 2 (some .boolean) [.ref 1, .ref 203] M2 (some (.int r3)) M3) (q8 : r1 = 0 → (6 : Int32) ≤ (M1 4 0) → r2 = 0 → r3 = 0 → ea_Sp 6 yX2_takeWord cX2_takeWord 2 (some .boolean) [.ref 1, .ref 204] M3 (some (.int r4)) M4) (h10 : r1 = 0 → (6 : Int32) ≤ (M1 4 0) → r2 = 0 → r3 = 0 → r4 = 0 → o = some (.int (0 : Int32)) ∧ M' = M4) (q11 : r1 = 0 → (6 : Int32) ≤ (M1 4 0) → r2 = 0 → r3 = 0 → ¬ r4 = 0 → ea_Sp 3 yX2_readHeat cX2_readHeat 3 (some .boolean) [.ref 1] M4 (some (.int r5)) M5) (h13 : r1 = 0 → (6 : Int32) ≤ (M1 4 0) → r2 = 0 → r3 = 0 → ¬ r4 = 0 → r5 = 0 → o = some (.int (0 : Int32)) ∧ M' = M5) (h14 : r1 = 0 → (6 : Int32) ≤ (M1 4 0) → r2 = 0 → r3 = 0 → ¬ r4 = 0 → ¬ r5 = 0 → o = some (.int (1 : Int32)) ∧ M' = M5) (q15 : r1 = 0 → (6 : Int32) ≤ (M1 4 0) → r2 = 0 → ¬ r3 = 0 → ea_Sp 3 yX2_readAir cX2_readAir 3 (some .boolean) [.ref 1] M3 (some (.int r6)) M6) (h16 : r1 = 0 → (6 : Int32) ≤ (M1 4 0) → r2 = 0 → ¬ r3 = 0 → o = some (.int r6) ∧ M' = M6) (b17 : r1 = 0 → (6 : Int32) ≤ (M1 4 0) → r2 = 0 → ¬ r3 = 0 → r6 = 0 ∨ r6 = 1) (q18 : r1 = 0 → (6 : Int32) ≤ (M1 4 0) → ¬ r2 = 0 → ea_Sp 3 yX2_readLayer cX2_readLayer 3 (some .boolean) [.ref 1] M2 (some (.int r7)) M7) (h19 : r1 = 0 → (6 : Int32) ≤ (M1 4 0) → ¬ r2 = 0 → o = some (.int r7) ∧ M' = M7) (b20 : r1 = 0 → (6 : Int32) ≤ (M1 4 0) → ¬ r2 = 0 → r7 = 0 ∨ r7 = 1) (q21 : r1 = 0 → ¬ (6 : Int32) ≤ (M1 4 0) → ea_Sp 6 yX2_takeWord cX2_takeWord 2 (some .boolean) [.ref 1, .ref 201] M1 (some (.int r8)) M8) (q23 : r1 = 0 → ¬ (6 : Int32) ≤ (M1 4 0) → r8 = 0 → ea_Sp 6 yX2_takeWord cX2_takeWord 2 (some .boolean) [.ref 1, .ref 202] M8 (some (.int r9)) M9) (q25 : r1 = 0 → ¬ (6 : Int32) ≤ (M1 4 0) → r8 = 0 → r9 = 0 → ea_Sp 6 yX2_takeWord cX2_takeWord 2 (some .boolean) [.ref 1, .ref 203] M9 (some (.int r10)) M10) (q27 : r1 = 0 → ¬ (6 : Int32) ≤ (M1 4 0) → r8 = 0 → r9 = 0 → r10 = 0 → ea_Sp 6 yX2_takeWord cX2_takeWord 2 (some .boolean) [.ref 1, .ref 204] M10 (some (.int r11)) M11) (h29 : r1 = 0 → ¬ (6 : Int32) ≤ (M1 4 0) → r8 = 0 → r9 = 0 → r10 = 0 → r11 = 0 → o = some (.int (0 : Int32)) ∧ M' = M11) (q30 : r1 = 0 → ¬ (6 : Int32) ≤ (M1 4 0) → r8 = 0 → r9 = 0 → r10 = 0 → ¬ r11 = 0 → ea_Sp 3 yX2_readHeat cX2_readHeat 3 (some .boolean) [.ref 1] M11 (some (.int r12)) M12) (h32 : r1 = 0 → ¬ (6 : Int32) ≤ (M1 4 0) → r8 = 0 → r9 = 0 → r10 = 0 → ¬ r11 = 0 → r12 = 0 → o = some (.int (0 : Int32)) ∧ M' = M12) (h33 : r1 = 0 → ¬ (6 : Int32) ≤ (M1 4 0) → r8 = 0 → r9 = 0 → r10 = 0 → ¬ r11 = 0 → ¬ r12 = 0 → o = some (.int (1 : Int32)) ∧ M' = M12) (q34 : r1 = 0 → ¬ (6 : Int32) ≤ (M1 4 0) → r8 = 0 → r9 = 0 → ¬ r10 = 0 → ea_Sp 3 yX2_readAir cX2_readAir 3 (some .boolean) [.ref 1] M10 (some (.int r13)) M13) (h35 : r1 = 0 → ¬ (6 : Int32) ≤ (M1 4 0) → r8 = 0 → r9 = 0 → ¬ r10 = 0 → o = some (.int r13) ∧ M' = M13) (b36 : r1 = 0 → ¬ (6 : Int32) ≤ (M1 4 0) → r8 = 0 → r9 = 0 → ¬ r10 = 0 → r13 = 0 ∨ r13 = 1) (q37 : r1 = 0 → ¬ (6 : Int32) ≤ (M1 4 0) → r8 = 0 → ¬ r9 = 0 → ea_Sp 3 yX2_readLayer cX2_readLayer 3 (some .boolean) [.ref 1] M9 (some (.int r14)) M14) (h38 : r1 = 0 → ¬ (6 : Int32) ≤ (M1 4 0) → r8 = 0 → ¬ r9 = 0 → o = some (.int r14) ∧ M' = M14) (b39 : r1 = 0 → ¬ (6 : Int32) ≤ (M1 4 0) → r8 = 0 → ¬ r9 = 0 → r14 = 0 ∨ r14 = 1) (q40 : r1 = 0 → ¬ (6 : Int32) ≤ (M1 4 0) → ¬ r8 = 0 → ea_Sp 3 yX2_readStuff cX2_readStuff 3 (some .boolean) [.ref 1] M8 (some (.int r15)) M15) (h41 : r1 = 0 → ¬ (6 : Int32) ≤ (M1 4 0) → ¬ r8 = 0 → o = some (.int r15) ∧ M' = M15) (b42 : r1 = 0 → ¬ (6 : Int32) ≤ (M1 4 0) → ¬ r8 = 0 → r15 = 0 ∨ r15 = 1) (q43 : ¬ r1 = 0 → ea_Sp 3 yX2_readWall cX2_readWall 2 (some .boolean) [.ref 1] M1 (some (.int r16)) M16) (h44 : ¬ r1 = 0 → o = some (.int r16) ∧ M' = M16) (b45 : ¬ r1 = 0 → r16 = 0 ∨ r16 = 1) : ea_E k 0 [(0, .ref 1)] [] M := by
  refine e_aload_n (n := 0) C dX2_readClause_0 rfl rfl ?_
  refine e_ldcS (i := 0) C rfl rfl dX2_readClause_1 ?_
  refine e_callV1 (as := [.ref 200]) (rest := []) C lk_X2_55 q1 (by decide) rfl (by decide) rfl (by decide) rfl rfl (Nat.le_of_ble_eq_true rfl) dX2_readClause_3 ?_
  refine e_if_eq (tgt := 14) C dX2_readClause_6 (by decide) (fun c2 => ?_) (fun c2 => ?_)
  · refine e_aload_n (n := 0) C dX2_readClause_14 rfl rfl ?_
    refine e_get (v := .ref 4) C fd_X2_21 (by decide) rfl rfl dX2_readClause_15 ?_
    refine e_get (v := .int (M1 4 0)) C fd_X2_62 (by decide) rfl rfl dX2_readClause_18 ?_
    refine e_bipush (v := 6) C dX2_readClause_21 (by decide) ?_
    refine e_icmp_ge (tgt := 40) C dX2_readClause_23 (by decide) (fun c3 => ?_) (fun c3 => ?_)
    · refine e_aload_n (n := 0) C dX2_readClause_40 rfl rfl ?_
      refine e_ldcS (i := 2) C rfl rfl dX2_readClause_41 ?_
      refine e_callV1 (as := [.ref 202]) (rest := []) C lk_X2_55 (q4 c2 c3) (by decide) rfl (by decide) rfl (by decide) rfl rfl (Nat.le_of_ble_eq_true rfl) dX2_readClause_43 ?_
      refine e_if_eq (tgt := 54) C dX2_readClause_46 (by decide) (fun c5 => ?_) (fun c5 => ?_)
      · refine e_aload_n (n := 0) C dX2_readClause_54 rfl rfl ?_
        refine e_ldcS (i := 3) C rfl rfl dX2_readClause_55 ?_
        refine e_callV1 (as := [.ref 203]) (rest := []) C lk_X2_55 (q6 c2 c3 c5) (by decide) rfl (by decide) rfl (by decide) rfl rfl (Nat.le_of_ble_eq_true rfl) dX2_readClause_57 ?_
        refine e_if_eq (tgt := 68) C dX2_readClause_60 (by decide) (fun c7 => ?_) (fun c7 => ?_)
        · refine e_aload_n (n := 0) C dX2_readClause_68 rfl rfl ?_
          refine e_ldcS (i := 4) C rfl rfl dX2_readClause_69 ?_
          refine e_callV1 (as := [.ref 204]) (rest := []) C lk_X2_55 (q8 c2 c3 c5 c7) (by decide) rfl (by decide) rfl (by decide) rfl rfl (Nat.le_of_ble_eq_true rfl) dX2_readClause_71 ?_
          refine e_if_eq (tgt := 88) C dX2_readClause_74 (by decide) (fun c9 => ?_) (fun c9 => ?_)
          · refine e_iconst (v := 0) C dX2_readClause_88 (by decide) ?_
            exact e_iret C X rfl rfl dX2_readClause_89 (h10 c2 c3 c5 c7 c9)
          · refine e_aload_n (n := 0) C dX2_readClause_77 rfl rfl ?_
            refine e_callV1 (as := []) (rest := []) C lk_X2_82 (q11 c2 c3 c5 c7 c9) (by decide) rfl (by decide) rfl (by decide) rfl rfl (Nat.le_of_ble_eq_true rfl) dX2_readClause_78 ?_
            refine e_if_eq (tgt := 88) C dX2_readClause_81 (by decide) (fun c12 => ?_) (fun c12 => ?_)
            · refine e_iconst (v := 0) C dX2_readClause_88 (by decide) ?_
              exact e_iret C X rfl rfl dX2_readClause_89 (h13 c2 c3 c5 c7 c9 c12)
            · refine e_iconst (v := 1) C dX2_readClause_84 (by decide) ?_
              refine e_goto (tgt := 89) C dX2_readClause_85 (by decide) ?_
              exact e_iret C X rfl rfl dX2_readClause_89 (h14 c2 c3 c5 c7 c9 c12)
        · refine e_aload_n (n := 0) C dX2_readClause_63 rfl rfl ?_
          refine e_callV1 (as := []) (rest := []) C lk_X2_77 (q15 c2 c3 c5 c7) (by decide) rfl (by decide) rfl (by decide) rfl rfl (Nat.le_of_ble_eq_true rfl) dX2_readClause_64 ?_
          exact e_iret C X rfl (ea_nz (b17 c2 c3 c5 c7)) dX2_readClause_67 (h16 c2 c3 c5 c7)
      · refine e_aload_n (n := 0) C dX2_readClause_49 rfl rfl ?_
        refine e_callV1 (as := []) (rest := []) C lk_X2_72 (q18 c2 c3 c5) (by decide) rfl (by decide) rfl (by decide) rfl rfl (Nat.le_of_ble_eq_true rfl) dX2_readClause_50 ?_
        exact e_iret C X rfl (ea_nz (b20 c2 c3 c5)) dX2_readClause_53 (h19 c2 c3 c5)
    · refine e_aload_n (n := 0) C dX2_readClause_26 rfl rfl ?_
      refine e_ldcS (i := 1) C rfl rfl dX2_readClause_27 ?_
      refine e_callV1 (as := [.ref 201]) (rest := []) C lk_X2_55 (q21 c2 c3) (by decide) rfl (by decide) rfl (by decide) rfl rfl (Nat.le_of_ble_eq_true rfl) dX2_readClause_29 ?_
      refine e_if_eq (tgt := 40) C dX2_readClause_32 (by decide) (fun c22 => ?_) (fun c22 => ?_)
      · refine e_aload_n (n := 0) C dX2_readClause_40 rfl rfl ?_
        refine e_ldcS (i := 2) C rfl rfl dX2_readClause_41 ?_
        refine e_callV1 (as := [.ref 202]) (rest := []) C lk_X2_55 (q23 c2 c3 c22) (by decide) rfl (by decide) rfl (by decide) rfl rfl (Nat.le_of_ble_eq_true rfl) dX2_readClause_43 ?_
        refine e_if_eq (tgt := 54) C dX2_readClause_46 (by decide) (fun c24 => ?_) (fun c24 => ?_)
        · refine e_aload_n (n := 0) C dX2_readClause_54 rfl rfl ?_
          refine e_ldcS (i := 3) C rfl rfl dX2_readClause_55 ?_
          refine e_callV1 (as := [.ref 203]) (rest := []) C lk_X2_55 (q25 c2 c3 c22 c24) (by decide) rfl (by decide) rfl (by decide) rfl rfl (Nat.le_of_ble_eq_true rfl) dX2_readClause_57 ?_
          refine e_if_eq (tgt := 68) C dX2_readClause_60 (by decide) (fun c26 => ?_) (fun c26 => ?_)
          · refine e_aload_n (n := 0) C dX2_readClause_68 rfl rfl ?_
            refine e_ldcS (i := 4) C rfl rfl dX2_readClause_69 ?_
            refine e_callV1 (as := [.ref 204]) (rest := []) C lk_X2_55 (q27 c2 c3 c22 c24 c26) (by decide) rfl (by decide) rfl (by decide) rfl rfl (Nat.le_of_ble_eq_true rfl) dX2_readClause_71 ?_
            refine e_if_eq (tgt := 88) C dX2_readClause_74 (by decide) (fun c28 => ?_) (fun c28 => ?_)
            · refine e_iconst (v := 0) C dX2_readClause_88 (by decide) ?_
              exact e_iret C X rfl rfl dX2_readClause_89 (h29 c2 c3 c22 c24 c26 c28)
            · refine e_aload_n (n := 0) C dX2_readClause_77 rfl rfl ?_
              refine e_callV1 (as := []) (rest := []) C lk_X2_82 (q30 c2 c3 c22 c24 c26 c28) (by decide) rfl (by decide) rfl (by decide) rfl rfl (Nat.le_of_ble_eq_true rfl) dX2_readClause_78 ?_
              refine e_if_eq (tgt := 88) C dX2_readClause_81 (by decide) (fun c31 => ?_) (fun c31 => ?_)
              · refine e_iconst (v := 0) C dX2_readClause_88 (by decide) ?_
                exact e_iret C X rfl rfl dX2_readClause_89 (h32 c2 c3 c22 c24 c26 c28 c31)
              · refine e_iconst (v := 1) C dX2_readClause_84 (by decide) ?_
                refine e_goto (tgt := 89) C dX2_readClause_85 (by decide) ?_
                exact e_iret C X rfl rfl dX2_readClause_89 (h33 c2 c3 c22 c24 c26 c28 c31)
          · refine e_aload_n (n := 0) C dX2_readClause_63 rfl rfl ?_
            refine e_callV1 (as := []) (rest := []) C lk_X2_77 (q34 c2 c3 c22 c24 c26) (by decide) rfl (by decide) rfl (by decide) rfl rfl (Nat.le_of_ble_eq_true rfl) dX2_readClause_64 ?_
            exact e_iret C X rfl (ea_nz (b36 c2 c3 c22 c24 c26)) dX2_readClause_67 (h35 c2 c3 c22 c24 c26)
        · refine e_aload_n (n := 0) C dX2_readClause_49 rfl rfl ?_
          refine e_callV1 (as := []) (rest := []) C lk_X2_72 (q37 c2 c3 c22 c24) (by decide) rfl (by decide) rfl (by decide) rfl rfl (Nat.le_of_ble_eq_true rfl) dX2_readClause_50 ?_
          exact e_iret C X rfl (ea_nz (b39 c2 c3 c22 c24)) dX2_readClause_53 (h38 c2 c3 c22 c24)
      · refine e_aload_n (n := 0) C dX2_readClause_35 rfl rfl ?_
        refine e_callV1 (as := []) (rest := []) C lk_X2_67 (q40 c2 c3 c22) (by decide) rfl (by decide) rfl (by decide) rfl rfl (Nat.le_of_ble_eq_true rfl) dX2_readClause_36 ?_
        exact e_iret C X rfl (ea_nz (b42 c2 c3 c22)) dX2_readClause_39 (h41 c2 c3 c22)
  · refine e_aload_n (n := 0) C dX2_readClause_9 rfl rfl ?_
    refine e_callV1 (as := []) (rest := []) C lk_X2_59 (q43 c2) (by decide) rfl (by decide) rfl (by decide) rfl rfl (Nat.le_of_ble_eq_true rfl) dX2_readClause_10 ?_
    exact e_iret C X rfl (ea_nz (b45 c2)) dX2_readClause_13 (h44 c2)
set_option maxRecDepth 100000 in
set_option maxHeartbeats 4000000 in
theorem kb_X2_firstFault_0 {k : ea_K} {o : Option Value} {M' : ea_M} (C : ea_C k RX2 cX2_firstFault 2 8) (X : ea_X k (some .int) o M') {M : ea_M} {M1 : ea_M}   (q1 : ea_Sp 1 yX3_lookFrom cX3_lookFrom 2 none [.ref 2, .int (0 : Int32)] (g_X4_become_d M) none M1) (h2 : ea_E k 21 [(0, .ref 1)] [] (ea_up M1 1 2 (1 : Int32))) : ea_E k 0 [(0, .ref 1), (1, .ref 13)] [] M := by
  refine e_aload_n (n := 0) C dX2_firstFault_0 rfl rfl ?_
  refine e_get (v := .ref 4) C fd_X2_21 (by decide) rfl rfl dX2_firstFault_1 ?_
  refine e_aload_n (n := 1) C dX2_firstFault_4 rfl rfl ?_
  refine e_callV0 (as := [.ref 13]) (rest := []) C lk_X2_25 (sp_X4_become_d (M := M)  ) (by decide) rfl (by decide) rfl (by decide) rfl rfl (Nat.le_of_ble_eq_true rfl) dX2_firstFault_5 ?_
  refine e_aload_n (n := 0) C dX2_firstFault_8 rfl rfl ?_
  refine e_get (v := .ref 2) C fd_X2_12 (by decide) rfl rfl dX2_firstFault_9 ?_
  refine e_iconst (v := 0) C dX2_firstFault_12 (by decide) ?_
  refine e_callV0 (as := [.int (0 : Int32)]) (rest := []) C lk_X2_29 q1 (by decide) rfl (by decide) rfl (by decide) rfl rfl (Nat.le_of_ble_eq_true rfl) dX2_firstFault_13 ?_
  refine e_aload_n (n := 0) C dX2_firstFault_16 rfl rfl ?_
  refine e_iconst (v := 1) C dX2_firstFault_17 (by decide) ?_
  refine e_put (ty := .int) C fd_X2_33 (by decide) rfl rfl (by decide +kernel) (vp_nar_int _) rfl (ea_set2_2 _ _ _) dX2_firstFault_18 ?_
  refine e_perm C [0] rfl ?_
  exact h2
set_option maxRecDepth 100000 in
set_option maxHeartbeats 4000000 in
theorem kb_X2_firstFault_21 {k : ea_K} {o : Option Value} {M' : ea_M} (C : ea_C k RX2 cX2_firstFault 2 8) (X : ea_X k (some .int) o M') {M : ea_M} {M1 M2 : ea_M} {r1 : Int32}   (h2 : (24 : Int32) < (M 1 2) → o = some (.int (M 2 2)) ∧ M' = M) (q3 : ¬ (24 : Int32) < (M 1 2) → ea_Sp 7 yX2_readClause cX2_readClause 1 (some .boolean) [.ref 1] M (some (.int r1)) M1) (h7 : ¬ (24 : Int32) < (M 1 2) → ¬ r1 = 0 → ¬ (M1 2 4) = 0 → (M1 1 2) = (24 : Int32) → o = some (.int (M1 2 2)) ∧ M' = M1) (q9 : ¬ (24 : Int32) < (M 1 2) → ¬ r1 = 0 → ¬ (M1 2 4) = 0 → ¬ (M1 1 2) = (24 : Int32) → p_X3_isSemicolon M1 → ea_Sp 1 yX3_lookFrom cX3_lookFrom 2 none [.ref 2, .int (M1 2 3)] M1 none M2) (h10 : ¬ (24 : Int32) < (M 1 2) → ¬ r1 = 0 → ¬ (M1 2 4) = 0 → ¬ (M1 1 2) = (24 : Int32) → p_X3_isSemicolon M1 → ea_E k 21 [(0, .ref 1)] [] (ea_up M2 1 2 ((M2 1 2) + (1 : Int32)))) (h11 : ¬ (24 : Int32) < (M 1 2) → ¬ r1 = 0 → ¬ (M1 2 4) = 0 → ¬ (M1 1 2) = (24 : Int32) → ¬ p_X3_isSemicolon M1 → o = some (.int (M1 2 2)) ∧ M' = M1) (h12 : ¬ (24 : Int32) < (M 1 2) → ¬ r1 = 0 → (M1 2 4) = 0 → o = some (.int (-1 : Int32)) ∧ M' = M1) (h13 : ¬ (24 : Int32) < (M 1 2) → r1 = 0 → o = some (.int (M1 2 2)) ∧ M' = M1) : ea_E k 21 [(0, .ref 1)] [] M := by
  refine e_aload_n (n := 0) C dX2_firstFault_21 rfl rfl ?_
  refine e_get (v := .int (M 1 2)) C fd_X2_33 (by decide) rfl rfl dX2_firstFault_22 ?_
  refine e_bipush (v := 24) C dX2_firstFault_25 (by decide) ?_
  refine e_icmp_gt (tgt := 111) C dX2_firstFault_27 (by decide) (fun c1 => ?_) (fun c1 => ?_)
  · refine e_aload_n (n := 0) C dX2_firstFault_111 rfl rfl ?_
    refine e_get (v := .ref 2) C fd_X2_12 (by decide) rfl rfl dX2_firstFault_112 ?_
    refine e_get (v := .int (M 2 2)) C fd_X2_41 (by decide) rfl rfl dX2_firstFault_115 ?_
    exact e_iret C X rfl (vp_nar_int _) dX2_firstFault_118 (h2 c1)
  · refine e_aload_n (n := 0) C dX2_firstFault_30 rfl rfl ?_
    refine e_callV1 (as := []) (rest := []) C lk_X2_37 (q3 c1) (by decide) rfl (by decide) rfl (by decide) rfl rfl (Nat.le_of_ble_eq_true rfl) dX2_firstFault_31 ?_
    refine e_if_ne (tgt := 45) C dX2_firstFault_34 (by decide) (fun c4 => ?_) (fun c4 => ?_)
    · refine e_aload_n (n := 0) C dX2_firstFault_45 rfl rfl ?_
      refine e_get (v := .ref 2) C fd_X2_12 (by decide) rfl rfl dX2_firstFault_46 ?_
      refine e_get (v := .int (M1 2 4)) C fd_X2_44 (by decide) rfl rfl dX2_firstFault_49 ?_
      refine e_if_ne (tgt := 57) C dX2_firstFault_52 (by decide) (fun c5 => ?_) (fun c5 => ?_)
      · refine e_aload_n (n := 0) C dX2_firstFault_57 rfl rfl ?_
        refine e_get (v := .int (M1 1 2)) C fd_X2_33 (by decide) rfl rfl dX2_firstFault_58 ?_
        refine e_bipush (v := 24) C dX2_firstFault_61 (by decide) ?_
        refine e_icmp_eq (tgt := 76) C dX2_firstFault_63 (by decide) (fun c6 => ?_) (fun c6 => ?_)
        · refine e_aload_n (n := 0) C dX2_firstFault_76 rfl rfl ?_
          refine e_get (v := .ref 2) C fd_X2_12 (by decide) rfl rfl dX2_firstFault_77 ?_
          refine e_get (v := .int (M1 2 2)) C fd_X2_41 (by decide) rfl rfl dX2_firstFault_80 ?_
          exact e_iret C X rfl (vp_nar_int _) dX2_firstFault_83 (h7 c1 c4 c5 c6)
        · refine e_aload_n (n := 0) C dX2_firstFault_66 rfl rfl ?_
          refine e_get (v := .ref 2) C fd_X2_12 (by decide) rfl rfl dX2_firstFault_67 ?_
          refine e_callV1 (as := []) (rest := []) C lk_X2_47 (sp_X3_isSemicolon (M := M1)  ) (by decide) rfl (by decide) rfl (by decide) rfl rfl (Nat.le_of_ble_eq_true rfl) dX2_firstFault_70 ?_
          refine e_ifb_ne (tgt := 84) C dX2_firstFault_73 (by decide) (fun c8 => ?_) (fun c8 => ?_)
          · refine e_aload_n (n := 0) C dX2_firstFault_84 rfl rfl ?_
            refine e_get (v := .ref 2) C fd_X2_12 (by decide) rfl rfl dX2_firstFault_85 ?_
            refine e_aload_n (n := 0) C dX2_firstFault_88 rfl rfl ?_
            refine e_get (v := .ref 2) C fd_X2_12 (by decide) rfl rfl dX2_firstFault_89 ?_
            refine e_get (v := .int (M1 2 3)) C fd_X2_50 (by decide) rfl rfl dX2_firstFault_92 ?_
            refine e_callV0 (as := [.int (M1 2 3)]) (rest := []) C lk_X2_29 (q9 c1 c4 c5 c6 c8) (by decide) rfl (by decide) rfl (by decide) rfl rfl (Nat.le_of_ble_eq_true rfl) dX2_firstFault_95 ?_
            refine e_aload_n (n := 0) C dX2_firstFault_98 rfl rfl ?_
            refine e_dup C dX2_firstFault_99 rfl ?_
            refine e_get (v := .int (M2 1 2)) C fd_X2_33 (by decide) rfl rfl dX2_firstFault_100 ?_
            refine e_iconst (v := 1) C dX2_firstFault_103 (by decide) ?_
            refine e_iadd C dX2_firstFault_104 ?_
            refine e_put (ty := .int) C fd_X2_33 (by decide) rfl rfl (by decide +kernel) (vp_nar_int _) rfl (ea_set2_2 _ _ _) dX2_firstFault_105 ?_
            refine e_goto (tgt := 21) C dX2_firstFault_108 (by decide) ?_
            exact (h10 c1 c4 c5 c6 c8)
          · refine e_aload_n (n := 0) C dX2_firstFault_76 rfl rfl ?_
            refine e_get (v := .ref 2) C fd_X2_12 (by decide) rfl rfl dX2_firstFault_77 ?_
            refine e_get (v := .int (M1 2 2)) C fd_X2_41 (by decide) rfl rfl dX2_firstFault_80 ?_
            exact e_iret C X rfl (vp_nar_int _) dX2_firstFault_83 (h11 c1 c4 c5 c6 c8)
      · refine e_iconst (v := -1) C dX2_firstFault_55 (by decide) ?_
        exact e_iret C X rfl (vp_nar_int _) dX2_firstFault_56 (h12 c1 c4 c5)
    · refine e_aload_n (n := 0) C dX2_firstFault_37 rfl rfl ?_
      refine e_get (v := .ref 2) C fd_X2_12 (by decide) rfl rfl dX2_firstFault_38 ?_
      refine e_get (v := .int (M1 2 2)) C fd_X2_41 (by decide) rfl rfl dX2_firstFault_41 ?_
      exact e_iret C X rfl (vp_nar_int _) dX2_firstFault_44 (h13 c1 c4)
/-! ===== the clauses ===== -/
def vw_d (M : ea_M) : ea_M := fun a => M (4 + a)
theorem vw_up (M : ea_M) (x k : Nat) (v : Int32) : vw_d (ea_up M (4 + x) k v) = ea_up (vw_d M) x k v := by
  funext a
  unfold vw_d
  by_cases h : a = x
  · subst h
    funext j
    rw [pa_up, pa_up, if_pos rfl, if_pos rfl]
  · rw [ea_upR (show 4 + a ≠ 4 + x by omega), ea_upR h]
theorem vw_seg (M : ea_M) (y a : Nat) (f : Nat → Int32) (m : Nat) : vw_d (pa_seg M (4 + y) a f m) = pa_seg (vw_d M) y a f m := by
  funext b
  unfold vw_d
  by_cases h : b = y
  · subst h
    funext j
    simp only [pa_seg, if_true]
  · rw [pa_segR (show 4 + b ≠ 4 + y by omega), pa_segR h]
theorem vw_fr {M M' : ea_M} (h : ∀ a, a ≠ 2 → M' a = M a) : vw_d M' = vw_d M := by
  funext a
  exact h (4 + a) (by omega)
/-- what a clause comes to: good or not, the place behind it (or of the token that cannot stand), its word's number, two numbers, the place of a new word -/
abbrev cz_T : Type := Bool × Nat × Nat × Int32 × Int32 × Nat
def cz_f (p : Nat) : cz_T := (false, p, 0, 0, 0, 0)
def cz_s (L W Ln : Nat → Int32) (n q ns : Nat) : Option Nat := pa_ix (fun s => tk_nm L W s (Ln s).toNatClampNeg (tk_f L n q) (tk_b L n q - tk_f L n q) 0) 0 ns
def cz_0 (L : Nat → Int32) (n q : Nat) : cz_T := match rn_o L n q 1 999 with
  | none => cz_f q
  | some t => (true, tk_b L n q, 0, t, 0, 0)
def cz_1 (L W Ln : Nat → Int32) (n q ns : Nat) : cz_T := if tk_k L n q = 1 ∧ tk_b L n q - tk_f L n q ≤ 7 ∧ cz_s L W Ln n q ns = none then (match rn_o L n (tk_b L n q) 1 20 with
    | none => cz_f (tk_b L n q)
    | some k => match rn_o L n (tk_b L n (tk_b L n q)) 1 20 with
      | none => cz_f (tk_b L n (tk_b L n q))
      | some c => (true, tk_b L n (tk_b L n (tk_b L n q)), 1, k, c, q)) else cz_f q
def ly_m (nc : Nat) : Int32 := if ((10 : Int32) - nI nc) < (9 : Int32) then ((10 : Int32) - nI nc) else (9 : Int32)
def cz_2 (L W Ln : Nat → Int32) (n q ns nc : Nat) : cz_T := match cz_s L W Ln n q ns with
  | none => cz_f q
  | some s => match rn_o L n (tk_b L n q) 1 (ly_m nc) with
    | none => cz_f (tk_b L n q)
    | some m => (true, tk_b L n (tk_b L n q), 2, nI s, m, 0)
def cz_3 (L : Nat → Int32) (n q : Nat) : cz_T := match rn_o L n q 0 999 with
  | none => cz_f q
  | some l => match rn_o L n (tk_b L n q) 0 999 with
    | none => cz_f (tk_b L n q)
    | some r => (true, tk_b L n (tk_b L n q), 3, l, r, 0)
def cz_4 (L : Nat → Int32) (n q nc : Nat) : cz_T := match rn_o L n q 0 (nI nc - 1) with
  | none => cz_f q
  | some i => match rn_o L n (tk_b L n q) 0 9999 with
    | none => cz_f (tk_b L n q)
    | some h => (true, tk_b L n (tk_b L n q), 4, i, h, 0)
def cz_c (L W Ln : Nat → Int32) (n p ns nc : Nat) : cz_T :=
  if iw_b L n p 0 = true then cz_0 L n (tk_b L n p)
  else if ns < 6 ∧ iw_b L n p 1 = true then cz_1 L W Ln n (tk_b L n p) ns
  else if iw_b L n p 2 = true then cz_2 L W Ln n (tk_b L n p) ns nc
  else if iw_b L n p 3 = true then cz_3 L n (tk_b L n p)
  else if iw_b L n p 4 = true then cz_4 L n (tk_b L n p) nc
  else cz_f p
/-- a wall as a clause leaves it -/
def ef_s (V : ea_M) (L : Nat → Int32) (f t ns : Nat) (k c : Int32) : ea_M := ea_up (ea_up (ea_up (pa_seg (ea_up V 2 ns (nI t)) 1 (7 * ns) (fun j => L (f + j)) t) 3 ns k) 4 ns c) 0 0 (nI (ns + 1))
def ef_l (V : ea_M) (s : Int32) (m nc : Nat) : ea_M := ea_up (pa_seg (pa_seg V 5 nc (fun _ => s) m) 8 nc (fun _ => 0) m) 0 5 (nI (nc + m))
def ef_V (V : ea_M) (L : Nat → Int32) (n w : Nat) (a0 a1 : Int32) (q ns nc : Nat) : ea_M :=
  if w = 0 then g_X4_clear V 0 a0
  else if w = 1 then ef_s V L (tk_f L n q) (tk_b L n q - tk_f L n q) ns a0 a1
  else if w = 2 then ef_l V a0 a1.toNatClampNeg nc
  else if w = 3 then ea_up (ea_up V 7 1 a0) 7 2 a1
  else ea_up V 8 a0.toNatClampNeg a1
def ef_ns (w ns : Nat) : Nat := if w = 0 then 0 else if w = 1 then ns + 1 else ns
def ef_nc (w : Nat) (a1 : Int32) (nc : Nat) : Nat := if w = 0 then 0 else if w = 2 then nc + a1.toNatClampNeg else nc
def cl_R (M M' : ea_M) (L : Nat → Int32) (n ns nc : Nat) (r : cz_T) : Prop := ts_ok M' L n r.2.1 ∧ (∀ a, a ≠ 2 → (a < 4 ∨ 12 < a) → M' a = M a) ∧ (r.1 = true → vw_d M' = ef_V (vw_d M) L n r.2.2.1 r.2.2.2.1 r.2.2.2.2.1 r.2.2.2.2.2 ns nc)
def cl_1 (b : Bool) : Int32 := if b = true then 1 else 0
theorem ts_mv {M M' : ea_M} {L : Nat → Int32} {n p : Nat} (h2 : M' 2 = M 2) (h3 : M' 3 = M 3) (h : ts_ok M L n p) : ts_ok M' L n p := by
  unfold ts_ok at h ⊢
  rw [h2, h3]
  exact h
theorem cl_f {M : ea_M} {L : Nat → Int32} {n p ns nc : Nat} (h : ts_ok M L n p) : cl_R M M L n ns nc (cz_f p) := ⟨h, fun _ _ _ => rfl, fun z => absurd (show false = true from z) (by decide)⟩
theorem cl_f2 {M M' : ea_M} {L : Nat → Int32} {n p ns nc : Nat} (h : ts_ok M' L n p) (hf : ∀ a, a ≠ 2 → M' a = M a) : cl_R M M' L n ns nc (cz_f p) := ⟨h, fun a ha _ => hf a ha, fun z => absurd (show false = true from z) (by decide)⟩
/-- the drawn wall: so many stuffs with words, so many cells -/
def vd_ok (M : ea_M) (ns nc : Nat) : Prop := M 4 0 = nI ns ∧ ns ≤ 6 ∧ M 4 5 = nI nc ∧ nc ≤ 10 ∧ wn_ok M 4 ns
theorem vd_mv {M M' : ea_M} {ns nc : Nat} (h : ∀ a, a ≠ 2 → M' a = M a) (hv : vd_ok M ns nc) : vd_ok M' ns nc := by
  unfold vd_ok wn_ok at hv ⊢
  rw [h 4 (by decide), h (4 + 2) (by decide)]
  exact hv
theorem sp_X2_readWall {M : ea_M} {L : Nat → Int32} {n q ns nc : Nat} (h : ts_ok M L n q) : ∃ M', ea_Sp 3 yX2_readWall cX2_readWall 2 (some .boolean) [.ref 1] M (some (.int (cl_1 (cz_0 L n q).1))) M' ∧ cl_R M M' L n ns nc (cz_0 L n q) := by
  unfold cz_0
  cases hr : rn_o L n q 1 999 with
  | none =>
    refine ⟨M, ?_, cl_f h⟩
    refine ea_intro (own := RX2) (by decide +kernel) rfl (fun g => Nat.le_of_ble_eq_true rfl) (fun k C X => ?_)
    exact kb_X2_readWall_0 C X (r1 := -1) (M1 := M) (sp_tn0 h hr) (fun z => absurd rfl z) (fun _ => ⟨rfl, rfl⟩)
  | some t =>
    obtain ⟨M1, s1, t1, f1⟩ := sp_tn1 h hr
    obtain ⟨-, c1, -⟩ := rn_some hr
    refine ⟨g_X4_clear M1 4 t, ?_, ts_mv (fr_X4_clear (by decide) (by decide)) (fr_X4_clear (by decide) (by decide)) t1, fun a h2 h4 => ?_, fun _ => ?_⟩
    · refine ea_intro (own := RX2) (by decide +kernel) rfl (fun g => Nat.le_of_ble_eq_true rfl) (fun k C X => ?_)
      exact kb_X2_readWall_0 C X (r1 := t) (M1 := M1) s1 (fun _ => ⟨rfl, rfl⟩) (fun z => absurd z c1)
    · rw [fr_X4_clear (by omega) (by omega)]
      exact f1 a h2
    · rw [← vw_fr f1]
      show vw_d (ea_up (ea_up (ea_up (ea_up (ea_up M1 (4 + 0) 0 0) (4 + 0) 5 0) (4 + 7) 1 0) (4 + 7) 2 0) (4 + 7) 3 t) = _
      rw [vw_up, vw_up, vw_up, vw_up, vw_up]
      rfl
theorem sp_X2_readAir {M : ea_M} {L : Nat → Int32} {n q ns nc : Nat} (h : ts_ok M L n q) : ∃ M', ea_Sp 3 yX2_readAir cX2_readAir 3 (some .boolean) [.ref 1] M (some (.int (cl_1 (cz_3 L n q).1))) M' ∧ cl_R M M' L n ns nc (cz_3 L n q) := by
  unfold cz_3
  cases hr : rn_o L n q 0 999 with
  | none =>
    refine ⟨M, ?_, cl_f h⟩
    refine ea_intro (own := RX2) (by decide +kernel) rfl (fun g => Nat.le_of_ble_eq_true rfl) (fun k C X => ?_)
    exact kb_X2_readAir_0 C X (r1 := -1) (r2 := 0) (M1 := M) (M2 := M) (sp_tn0 h hr) (fun z => absurd rfl z) (fun z => absurd rfl z) (fun z => absurd rfl z) (fun _ => ⟨rfl, rfl⟩)
  | some l =>
    obtain ⟨M1, s1, t1, f1⟩ := sp_tn1 h hr
    obtain ⟨-, c1, -⟩ := rn_some hr
    cases hr2 : rn_o L n (tk_b L n q) 0 999 with
    | none =>
      refine ⟨M1, ?_, cl_f2 t1 f1⟩
      refine ea_intro (own := RX2) (by decide +kernel) rfl (fun g => Nat.le_of_ble_eq_true rfl) (fun k C X => ?_)
      exact kb_X2_readAir_0 C X (r1 := l) (r2 := -1) (M1 := M1) (M2 := M1) s1 (fun _ => sp_tn0 t1 hr2) (fun _ z => absurd rfl z) (fun _ _ => ⟨rfl, rfl⟩) (fun z => absurd z c1)
    | some r =>
      obtain ⟨M2, s2, t2, f2⟩ := sp_tn1 t1 hr2
      obtain ⟨-, c2, -⟩ := rn_some hr2
      refine ⟨ea_up (ea_up M2 11 1 l) 11 2 r, ?_, ts_mv (by rw [ea_upR (by decide), ea_upR (by decide)]) (by rw [ea_upR (by decide), ea_upR (by decide)]) t2, fun a h2 h4 => ?_, fun _ => ?_⟩
      · refine ea_intro (own := RX2) (by decide +kernel) rfl (fun g => Nat.le_of_ble_eq_true rfl) (fun k C X => ?_)
        exact kb_X2_readAir_0 C X (r1 := l) (r2 := r) (M1 := M1) (M2 := M2) s1 (fun _ => s2) (fun _ _ => ⟨rfl, rfl⟩) (fun _ z => absurd z c2) (fun z => absurd z c1)
      · rw [ea_upR (by omega), ea_upR (by omega), f2 a h2, f1 a h2]
      · rw [← vw_fr f1, ← vw_fr f2]
        show vw_d (ea_up (ea_up M2 (4 + 7) 1 l) (4 + 7) 2 r) = _
        rw [vw_up, vw_up]
        rfl
theorem rn_nat {L : Nat → Int32} {n p : Nat} {lo : Int32} {hi : Nat} {v : Int32} (hr : rn_o L n p lo (nI hi) = some v) (hlo : 0 ≤ lo) (hh : hi < 2 ^ 31) : ∃ j : Nat, j ≤ hi ∧ v = nI j := by
  obtain ⟨-, -, c2, c3⟩ := rn_some hr
  have h0 : ¬ v < 0 := Int32.not_lt.mpr (Int32.le_trans hlo c2)
  obtain ⟨j, hj, rfl⟩ := nI_of h0
  exact ⟨j, (nI_leI hj hh).mp c3, rfl⟩
theorem sp_X2_readHeat {M : ea_M} {L : Nat → Int32} {n q ns nc : Nat} (h : ts_ok M L n q) (hv : vd_ok M ns nc) : ∃ M', ea_Sp 3 yX2_readHeat cX2_readHeat 3 (some .boolean) [.ref 1] M (some (.int (cl_1 (cz_4 L n q nc).1))) M' ∧ cl_R M M' L n ns nc (cz_4 L n q nc) := by
  obtain ⟨-, -, v3, v4, -⟩ := id hv
  have hq : M 4 5 - (1 : Int32) = nI nc - 1 := by rw [v3]
  unfold cz_4
  cases hr : rn_o L n q 0 (nI nc - 1) with
  | none =>
    refine ⟨M, ?_, cl_f h⟩
    refine ea_intro (own := RX2) (by decide +kernel) rfl (fun g => Nat.le_of_ble_eq_true rfl) (fun k C X => ?_)
    exact kb_X2_readHeat_0 C X (r1 := -1) (r2 := 0) (M1 := M) (M2 := M) (by rw [hq]; exact sp_tn0 h hr) (fun z => absurd rfl z) (fun z => absurd rfl z) (fun z => absurd rfl z) (fun _ => ⟨rfl, rfl⟩)
  | some i =>
    obtain ⟨M1, s1, t1, f1⟩ := sp_tn1 h hr
    obtain ⟨-, c1, c0, c9⟩ := rn_some hr
    cases hr2 : rn_o L n (tk_b L n q) 0 9999 with
    | none =>
      refine ⟨M1, ?_, cl_f2 t1 f1⟩
      refine ea_intro (own := RX2) (by decide +kernel) rfl (fun g => Nat.le_of_ble_eq_true rfl) (fun k C X => ?_)
      exact kb_X2_readHeat_0 C X (r1 := i) (r2 := -1) (M1 := M1) (M2 := M1) (by rw [hq]; exact s1) (fun _ => sp_tn0 t1 hr2) (fun _ z => absurd rfl z) (fun _ _ => ⟨rfl, rfl⟩) (fun z => absurd z c1)
    | some v =>
      obtain ⟨M2, s2, t2, f2⟩ := sp_tn1 t1 hr2
      obtain ⟨-, c2, -⟩ := rn_some hr2
      have hnc : 1 ≤ nc := by
        rcases Nat.eq_zero_or_pos nc with z | z
        · subst z
          exact absurd (Int32.le_trans c0 c9) (by decide)
        · exact z
      rw [show nI nc - 1 = nI (nc - 1) from pk_sub (a := nc) (b := 1) hnc] at hr
      obtain ⟨j, hj, rfl⟩ := rn_nat hr (by decide) (by omega)
      refine ⟨ea_up M2 12 j v, ?_, ts_mv (ea_upR (by decide)) (ea_upR (by decide)) t2, fun a h2 h4 => ?_, fun _ => ?_⟩
      · refine ea_intro (own := RX2) (by decide +kernel) rfl (fun g => Nat.le_of_ble_eq_true rfl) (fun k C X => ?_)
        exact kb_X2_readHeat_0 C X (r1 := nI j) (r2 := v) (M1 := M1) (M2 := M2) (by rw [hq]; exact s1) (fun _ => s2) (fun _ _ => ⟨rfl, by rw [pa_setN (show j < 10 by omega) (by decide)]⟩) (fun _ z => absurd z c2) (fun z => absurd z c1)
      · rw [ea_upR (by omega), f2 a h2, f1 a h2]
      · rw [← vw_fr f1, ← vw_fr f2]
        show vw_d (ea_up M2 (4 + 8) j v) = ea_up (vw_d M2) 8 (nI j).toNatClampNeg v
        rw [vw_up, nI_clamp (by omega)]

theorem cz_sn {M : ea_M} {L : Nat → Int32} {n q ns : Nat} (h3 : M 3 = L) : tk_sn M 4 ns (tk_f L n q) (tk_b L n q) = cz_s L (M 5) (M 6) n q ns := by
  unfold tk_sn cz_s wn_l
  rw [h3]
theorem pa_ix_lt {p : Nat → Bool} : ∀ (m i j : Nat), pa_ix p i m = some j → i ≤ j ∧ j < i + m ∧ p j = true := by
  intro m
  induction m with
  | zero => intro i j h; cases h
  | succ m ih =>
    intro i j h
    rw [pa_ix] at h
    by_cases c : p i = true
    · rw [if_pos c] at h
      cases h
      exact ⟨by omega, by omega, c⟩
    · rw [if_neg c] at h
      have := ih (i + 1) j h
      exact ⟨by omega, by omega, this.2.2⟩
theorem pa_ri0 {o : Option Nat} (h : o = none) : pa_ri o = -1 := by rw [h]; rfl
theorem pa_ri1 {o : Option Nat} {j : Nat} (h : o = some j) (hj : j < 2 ^ 31) : pa_ri o = nI j ∧ ¬ pa_ri o = -1 := by
  rw [h]
  exact ⟨rfl, pa_rim j hj⟩
theorem ly_nat {nc : Nat} (h : nc ≤ 10) : ∃ hi : Nat, ly_m nc = nI hi ∧ hi ≤ 9 ∧ hi + nc ≤ 10 := by
  have q : ∀ c, c ≤ 10 → ly_m c = nI (min 9 (10 - c)) := by decide +kernel
  exact ⟨min 9 (10 - nc), q nc h, Nat.min_le_left _ _, by have := Nat.min_le_right 9 (10 - nc); omega⟩
theorem sp_X2_readLayer {M : ea_M} {L : Nat → Int32} {n q ns nc : Nat} (h : ts_ok M L n q) (hv : vd_ok M ns nc) : ∃ M', ea_Sp 3 yX2_readLayer cX2_readLayer 3 (some .boolean) [.ref 1] M (some (.int (cl_1 (cz_2 L (M 5) (M 6) n q ns nc).1))) M' ∧ cl_R M M' L n ns nc (cz_2 L (M 5) (M 6) n q ns nc) := by
  obtain ⟨v1, v2, v3, v4, v5⟩ := id hv
  obtain ⟨h1, h2, h3, h4, h5, h6, h7⟩ := id h
  obtain ⟨k1, k2, k3⟩ := tk_fb L h3
  have hsn := sp_X4_stuffNamed M 4 ns (tk_f L n q) (tk_b L n q) rfl v1 v2 v5 k2 (by omega)
  rw [cz_sn h1] at hsn
  unfold cz_2
  cases hs : cz_s L (M 5) (M 6) n q ns with
  | none =>
    rw [pa_ri0 hs] at hsn
    refine ⟨M, ?_, cl_f h⟩
    refine ea_intro (own := RX2) (by decide +kernel) rfl (fun g => Nat.le_of_ble_eq_true rfl) (fun k C X => ?_)
    exact kb_X2_readLayer_0 C X (r1 := -1) (r3 := 0) (M2 := M) (M3 := M) (M4 := M) (by rw [h5, h6]; exact hsn) (fun z => absurd rfl z) (fun z => absurd rfl z) (fun z => absurd rfl z) (fun z => absurd rfl z) (fun z => absurd rfl z) (fun _ => ⟨rfl, rfl⟩)
  | some s =>
    obtain ⟨-, hsl, -⟩ := pa_ix_lt _ _ _ hs
    obtain ⟨e1, e2⟩ := pa_ri1 hs (by omega)
    rw [e1] at hsn e2
    obtain ⟨M2, s2, t2, f2⟩ := ts_next h
    have w3 : M2 4 5 = nI nc := by rw [f2 4 (by decide), v3]
    have hly : (if ((10 : Int32) - M2 4 5) < (9 : Int32) then ((10 : Int32) - M2 4 5) else (9 : Int32)) = ly_m nc := by rw [w3]; rfl
    cases hr : rn_o L n (tk_b L n q) 1 (ly_m nc) with
    | none =>
      refine ⟨M2, ?_, cl_f2 t2 f2⟩
      refine ea_intro (own := RX2) (by decide +kernel) rfl (fun g => Nat.le_of_ble_eq_true rfl) (fun k C X => ?_)
      exact kb_X2_readLayer_0 C X (r1 := nI s) (r3 := -1) (M2 := M2) (M3 := M2) (M4 := M2) (by rw [h5, h6]; exact hsn) (fun _ => s2) (fun _ => by rw [hly]; exact sp_tn0 t2 hr) (fun _ z => absurd rfl z) (fun _ z => absurd rfl z) (fun _ _ => ⟨rfl, rfl⟩) (fun z => absurd z e2)
    | some m =>
      obtain ⟨M3, s3, t3, f3⟩ := sp_tn1 t2 hr
      obtain ⟨-, c1, -⟩ := rn_some hr
      obtain ⟨hi, hl1, hl2, hl3⟩ := ly_nat v4
      rw [hl1] at hr
      obtain ⟨j, hj, rfl⟩ := rn_nat hr (by decide) (by omega)
      have w4 : M3 4 5 = nI nc := by rw [f3 4 (by decide), w3]
      have sa := sp_X4_addCells M3 4 nc j s rfl w4 (by omega) (by omega)
      refine ⟨ea_up (pa_seg (pa_seg M3 (4 + 5) nc (fun _ => nI s) j) (4 + 8) nc (fun _ => 0) j) 4 5 (nI (nc + j)), ?_, ts_mv ?_ ?_ t3, fun a q2 q4 => ?_, fun _ => ?_⟩
      · refine ea_intro (own := RX2) (by decide +kernel) rfl (fun g => Nat.le_of_ble_eq_true rfl) (fun k C X => ?_)
        exact kb_X2_readLayer_0 C X (r1 := nI s) (r3 := nI j) (M2 := M2) (M3 := M3) (by rw [h5, h6]; exact hsn) (fun _ => s2) (fun _ => by rw [hly]; exact s3) (fun _ _ => sa) (fun _ _ => ⟨rfl, rfl⟩) (fun _ z => absurd z c1) (fun z => absurd z e2)
      · rw [ea_upR (by decide), pa_segR (by decide), pa_segR (by decide)]
      · rw [ea_upR (by decide), pa_segR (by decide), pa_segR (by decide)]
      · rw [ea_upR (by omega), pa_segR (by omega), pa_segR (by omega), f3 a q2, f2 a q2]
      · rw [← vw_fr f2, ← vw_fr f3]
        show vw_d (ea_up (pa_seg (pa_seg M3 (4 + 5) nc (fun _ => nI s) j) (4 + 8) nc (fun _ => 0) j) (4 + 0) 5 (nI (nc + j))) = ef_l (vw_d M3) (nI s) (nI j).toNatClampNeg nc
        rw [vw_up, vw_seg, vw_seg, nI_clamp (by omega)]
        rfl
theorem sp_X2_readStuff {M : ea_M} {L : Nat → Int32} {n q ns nc : Nat} (h : ts_ok M L n q) (hv : vd_ok M ns nc) (hn6 : ns < 6) : ∃ M', ea_Sp 3 yX2_readStuff cX2_readStuff 3 (some .boolean) [.ref 1] M (some (.int (cl_1 (cz_1 L (M 5) (M 6) n q ns).1))) M' ∧ cl_R M M' L n ns nc (cz_1 L (M 5) (M 6) n q ns) := by
  obtain ⟨v1, v2, v3, v4, v5⟩ := id hv
  obtain ⟨h1, h2, h3, h4, h5, h6, h7⟩ := id h
  obtain ⟨k1, k2, k3⟩ := tk_fb L h3
  have hsn := sp_X4_stuffNamed M 4 ns (tk_f L n q) (tk_b L n q) rfl v1 v2 v5 k2 (by omega)
  rw [cz_sn h1, ← h5, ← h6] at hsn
  have el : f_X3_tokenLength M = nI (tk_b L n q - tk_f L n q) := by
    unfold f_X3_tokenLength
    rw [h5, h6, pk_sub k2]
  have e7 : f_X3_tokenLength M ≤ (7 : Int32) ↔ tk_b L n q - tk_f L n q ≤ 7 := by
    rw [el]
    exact nI_leI (b := 7) (by omega) (by decide)
  unfold cz_1
  by_cases hc : tk_k L n q = 1 ∧ tk_b L n q - tk_f L n q ≤ 7 ∧ cz_s L (M 5) (M 6) n q ns = none
  · rw [if_pos hc]
    obtain ⟨d1, d2, d3⟩ := hc
    rw [pa_ri0 d3] at hsn
    have g1 : M 2 4 = (1 : Int32) := by rw [h7, d1]
    have g2 := e7.mpr d2
    have sn := sp_X4_nameNext M 4 ns (tk_b L n q - tk_f L n q) (tk_f L n q) rfl v1 hn6 el d2 h5 (by omega)
    obtain ⟨M2, hM2⟩ : ∃ z, z = pa_seg (ea_up M (4 + 2) ns (nI (tk_b L n q - tk_f L n q))) (4 + 1) (7 * ns) (fun j => M 3 (tk_f L n q + j)) (tk_b L n q - tk_f L n q) := ⟨_, rfl⟩
    rw [← hM2] at sn
    have fr2 : ∀ a, a ≠ 5 → a ≠ 6 → M2 a = M a := fun a q5 q6 => by rw [hM2, pa_segR (by omega), ea_upR (by omega)]
    have t2 : ts_ok M2 L n q := ts_mv (fr2 2 (by decide) (by decide)) (fr2 3 (by decide) (by decide)) h
    obtain ⟨M3, s3, t3, f3⟩ := ts_next t2
    cases hr : rn_o L n (tk_b L n q) 1 20 with
    | none =>
      refine ⟨M3, ?_, t3, fun a q2 q4 => by rw [f3 a q2, fr2 a (by omega) (by omega)], fun z => absurd (show false = true from z) (by decide)⟩
      refine ea_intro (own := RX2) (by decide +kernel) rfl (fun g => Nat.le_of_ble_eq_true rfl) (fun k C X => ?_)
      exact kb_X2_readStuff_0 C X (r1 := -1) (r4 := -1) (r5 := 0) (M2 := M2) (M3 := M3) (M4 := M3) (M5 := M3) (fun z => absurd g1 z) (fun _ _ => hsn) (fun _ _ _ => sn) (fun _ _ _ => s3) (fun _ _ _ => sp_tn0 t3 hr) (fun _ _ _ z => absurd rfl z) (fun _ _ _ z => absurd rfl z) (fun _ _ _ z => absurd rfl z) (fun _ _ _ _ => ⟨rfl, rfl⟩) (fun _ _ z => absurd rfl z) (fun _ z => absurd g2 z)
    | some kv =>
      obtain ⟨M4, s4, t4, f4⟩ := sp_tn1 t3 hr
      obtain ⟨-, c4, -⟩ := rn_some hr
      cases hr2 : rn_o L n (tk_b L n (tk_b L n q)) 1 20 with
      | none =>
        refine ⟨M4, ?_, t4, fun a q2 q4 => by rw [f4 a q2, f3 a q2, fr2 a (by omega) (by omega)], fun z => absurd (show false = true from z) (by decide)⟩
        refine ea_intro (own := RX2) (by decide +kernel) rfl (fun g => Nat.le_of_ble_eq_true rfl) (fun k C X => ?_)
        exact kb_X2_readStuff_0 C X (r1 := -1) (r4 := kv) (r5 := -1) (M2 := M2) (M3 := M3) (M4 := M4) (M5 := M4) (fun z => absurd g1 z) (fun _ _ => hsn) (fun _ _ _ => sn) (fun _ _ _ => s3) (fun _ _ _ => s4) (fun _ _ _ _ => sp_tn0 t4 hr2) (fun _ _ _ _ z => absurd rfl z) (fun _ _ _ _ _ => ⟨rfl, rfl⟩) (fun _ _ _ z => absurd z c4) (fun _ _ z => absurd rfl z) (fun _ z => absurd g2 z)
      | some c =>
        obtain ⟨M5, s5, t5, f5⟩ := sp_tn1 t4 hr2
        obtain ⟨-, c5, -⟩ := rn_some hr2
        have w0 : M5 4 0 = nI ns := by rw [f5 4 (by decide), f4 4 (by decide), f3 4 (by decide), fr2 4 (by decide) (by decide), v1]
        have ea : g_X4_addStuff M5 4 kv c = ea_up (ea_up (ea_up M5 (4 + 3) ns kv) (4 + 4) ns c) (4 + 0) 0 (nI (ns + 1)) := by
          unfold g_X4_addStuff
          rw [w0, pa_setN (show ns < 6 from hn6) (by decide), pa_setN (show ns < 6 from hn6) (by decide), show nI ns + (1 : Int32) = nI (ns + 1) from nI_1 ns]
        refine ⟨ea_up (ea_up (ea_up M5 (4 + 3) ns kv) (4 + 4) ns c) (4 + 0) 0 (nI (ns + 1)), ?_, ts_mv ?_ ?_ t5, fun a q2 q4 => ?_, fun _ => ?_⟩
        · refine ea_intro (own := RX2) (by decide +kernel) rfl (fun g => Nat.le_of_ble_eq_true rfl) (fun k C X => ?_)
          exact kb_X2_readStuff_0 C X (r1 := -1) (r4 := kv) (r5 := c) (M2 := M2) (M3 := M3) (M4 := M4) (M5 := M5) (fun z => absurd g1 z) (fun _ _ => hsn) (fun _ _ _ => sn) (fun _ _ _ => s3) (fun _ _ _ => s4) (fun _ _ _ _ => s5) (fun _ _ _ _ _ => ⟨rfl, ea.symm⟩) (fun _ _ _ _ z => absurd z c5) (fun _ _ _ z => absurd z c4) (fun _ _ z => absurd rfl z) (fun _ z => absurd g2 z)
        · rw [ea_upR (by decide), ea_upR (by decide), ea_upR (by decide)]
        · rw [ea_upR (by decide), ea_upR (by decide), ea_upR (by decide)]
        · rw [ea_upR (by omega), ea_upR (by omega), ea_upR (by omega), f5 a q2, f4 a q2, f3 a q2, fr2 a (by omega) (by omega)]
        · rw [vw_up, vw_up, vw_up, vw_fr f5, vw_fr f4, vw_fr f3, hM2, vw_seg, vw_up, h1]
          rfl
  · rw [if_neg hc]
    refine ⟨M, ?_, cl_f h⟩
    refine ea_intro (own := RX2) (by decide +kernel) rfl (fun g => Nat.le_of_ble_eq_true rfl) (fun k C X => ?_)
    have no : ∀ {P : Prop}, M 2 4 = (1 : Int32) → f_X3_tokenLength M ≤ (7 : Int32) → pa_ri (cz_s L (M 5) (M 6) n q ns) = -1 → P := by
      intro P a1 a2 a3
      refine absurd ⟨by rw [← h7, a1], e7.mp a2, ?_⟩ hc
      cases hs : cz_s L (M 5) (M 6) n q ns with
      | none => rfl
      | some s =>
        obtain ⟨-, hsl, -⟩ := pa_ix_lt _ _ _ hs
        exact absurd a3 (pa_ri1 hs (by omega)).2
    exact kb_X2_readStuff_0 C X (r1 := pa_ri (cz_s L (M 5) (M 6) n q ns)) (r4 := 0) (r5 := 0) (M2 := M) (M3 := M) (M4 := M) (M5 := M) (fun _ => ⟨rfl, rfl⟩) (fun _ _ => hsn) (fun a b c => no a b c) (fun a b c => no a b c) (fun a b c => no a b c) (fun a b c => no a b c) (fun a b c => no a b c) (fun a b c => no a b c) (fun a b c => no a b c) (fun _ _ _ => ⟨rfl, rfl⟩) (fun _ _ => ⟨rfl, rfl⟩)

