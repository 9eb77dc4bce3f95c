set_option maxRecDepth 100000 in
set_option maxHeartbeats 4000000 in
theorem km_stuffHere {k : ea_K} {o : Option Value} {M' : ea_M} (C : ea_C k RX7 cX7_stuffHere 4 0) (X : ea_X k (some .int) o M') {M : ea_M}   (h1 : ea_E k 2 [(0, .ref 61), (1, .int (0 : Int32))] [] M) : ea_E k 0 [(0, .ref 61)] [] M := by
  refine e_iconst (v := 0) C dX7_stuffHere_0 (by decide) ?_
  refine e_istore_n C dX7_stuffHere_1 rfl (by decide) rfl ?_
  refine e_perm C [1, 0] rfl ?_
  exact h1
set_option maxRecDepth 100000 in
set_option maxHeartbeats 4000000 in
theorem km_stuffHere_2 {k : ea_K} {o : Option Value} {M' : ea_M} (C : ea_C k RX7 cX7_stuffHere 4 0) (X : ea_X k (some .int) o M') {M : ea_M} {s : Int32}   (h2 : (M 61 18) ≤ s → o = some (.int (-1 : Int32)) ∧ M' = M) (s3 : ¬ (M 61 18) ≤ s → vp_in s 6) (h5 : ¬ (M 61 18) ≤ s → ¬ (M 75 s.toNatClampNeg) = ((M 61 17) - (M 61 16)) → ea_E k 36 [(0, .ref 61), (1, .int s), (2, .int (0 : Int32)), (3, .int (0 : Int32))] [] M) (h6 : ¬ (M 61 18) ≤ s → (M 75 s.toNatClampNeg) = ((M 61 17) - (M 61 16)) → ea_E k 36 [(0, .ref 61), (1, .int s), (2, .int (1 : Int32)), (3, .int (0 : Int32))] [] M) : ea_E k 2 [(0, .ref 61), (1, .int s)] [] M := by
  refine e_iload_n (n := 1) C dX7_stuffHere_2 rfl rfl ?_
  refine e_aload_n (n := 0) C dX7_stuffHere_3 rfl rfl ?_
  refine e_get (v := .int (M 61 18)) C fd_X7_98 (by decide) rfl rfl dX7_stuffHere_4 ?_
  refine e_icmp_ge (tgt := 99) C dX7_stuffHere_7 (by decide) (fun c1 => ?_) (fun c1 => ?_)
  · refine e_iconst (v := -1) C dX7_stuffHere_99 (by decide) ?_
    exact e_iret C X rfl (vp_nar_int _) dX7_stuffHere_100 (h2 c1)
  · refine e_aload_n (n := 0) C dX7_stuffHere_10 rfl rfl ?_
    refine e_get (v := .ref 75) C fd_X7_50 (by decide) rfl rfl dX7_stuffHere_11 ?_
    refine e_iload_n (n := 1) C dX7_stuffHere_14 rfl rfl ?_
    refine e_iald (n := 6) C (by decide) rfl (by decide) (s3 c1) dX7_stuffHere_15 ?_
    refine e_aload_n (n := 0) C dX7_stuffHere_16 rfl rfl ?_
    refine e_get (v := .int (M 61 17)) C fd_X7_82 (by decide) rfl rfl dX7_stuffHere_17 ?_
    refine e_aload_n (n := 0) C dX7_stuffHere_20 rfl rfl ?_
    refine e_get (v := .int (M 61 16)) C fd_X7_85 (by decide) rfl rfl dX7_stuffHere_21 ?_
    refine e_isub C dX7_stuffHere_24 ?_
    refine e_icmp_ne (tgt := 32) C dX7_stuffHere_25 (by decide) (fun c4 => ?_) (fun c4 => ?_)
    · refine e_iconst (v := 0) C dX7_stuffHere_32 (by decide) ?_
      refine e_istore_n C dX7_stuffHere_33 rfl (by decide) rfl ?_
      refine e_iconst (v := 0) C dX7_stuffHere_34 (by decide) ?_
      refine e_istore_n C dX7_stuffHere_35 rfl (by decide) rfl ?_
      refine e_perm C [2, 3, 1, 0] rfl ?_
      exact (h5 c1 c4)
    · refine e_iconst (v := 1) C dX7_stuffHere_28 (by decide) ?_
      refine e_goto (tgt := 33) C dX7_stuffHere_29 (by decide) ?_
      refine e_istore_n C dX7_stuffHere_33 rfl (by decide) rfl ?_
      refine e_iconst (v := 0) C dX7_stuffHere_34 (by decide) ?_
      refine e_istore_n C dX7_stuffHere_35 rfl (by decide) rfl ?_
      refine e_perm C [2, 3, 1, 0] rfl ?_
      exact (h6 c1 c4)
set_option maxRecDepth 100000 in
set_option maxHeartbeats 4000000 in
theorem km_stuffHere_36 {k : ea_K} {o : Option Value} {M' : ea_M} (C : ea_C k RX7 cX7_stuffHere 4 0) (X : ea_X k (some .int) o M') {M : ea_M} {s is j : Int32}   (s1 : vp_in s 6) (h4 : (M 75 s.toNatClampNeg) ≤ j → is = 0 → ea_E k 2 [(0, .ref 61), (1, .int (s + 1))] [] M) (h5 : (M 75 s.toNatClampNeg) ≤ j → ¬ is = 0 → o = some (.int s) ∧ M' = M) (h8 : ¬ (M 75 s.toNatClampNeg) ≤ j → is = 0 → is = 0 → ea_E k 2 [(0, .ref 61), (1, .int (s + 1))] [] M) (h9 : ¬ (M 75 s.toNatClampNeg) ≤ j → is = 0 → ¬ is = 0 → o = some (.int s) ∧ M' = M) (s10 : ¬ (M 75 s.toNatClampNeg) ≤ j → ¬ is = 0 → vp_in (((7 : Int32) * s) + j) 42) (s11 : ¬ (M 75 s.toNatClampNeg) ≤ j → ¬ is = 0 → vp_in ((M 61 16) + j) 200) (h13 : ¬ (M 75 s.toNatClampNeg) ≤ j → ¬ is = 0 → ¬ (M 74 (((7 : Int32) * s) + j).toNatClampNeg) = (M 69 ((M 61 16) + j).toNatClampNeg) → ea_E k 36 [(0, .ref 61), (1, .int s), (2, .int (0 : Int32)), (3, .int (j + 1))] [] M) (h14 : ¬ (M 75 s.toNatClampNeg) ≤ j → ¬ is = 0 → (M 74 (((7 : Int32) * s) + j).toNatClampNeg) = (M 69 ((M 61 16) + j).toNatClampNeg) → ea_E k 36 [(0, .ref 61), (1, .int s), (2, .int (1 : Int32)), (3, .int (j + 1))] [] M) : ea_E k 36 [(0, .ref 61), (1, .int s), (2, .int is), (3, .int j)] [] M := by
  refine e_iload_n (n := 3) C dX7_stuffHere_36 rfl rfl ?_
  refine e_aload_n (n := 0) C dX7_stuffHere_37 rfl rfl ?_
  refine e_get (v := .ref 75) C fd_X7_50 (by decide) rfl rfl dX7_stuffHere_38 ?_
  refine e_iload_n (n := 1) C dX7_stuffHere_41 rfl rfl ?_
  refine e_iald (n := 6) C (by decide) rfl (by decide) s1 dX7_stuffHere_42 ?_
  refine e_icmp_ge (tgt := 87) C dX7_stuffHere_43 (by decide) (fun c2 => ?_) (fun c2 => ?_)
  · refine e_iload_n (n := 2) C dX7_stuffHere_87 rfl rfl ?_
    refine e_if_eq (tgt := 93) C dX7_stuffHere_88 (by decide) (fun c3 => ?_) (fun c3 => ?_)
    · refine e_iinc (n := 1) (v := (s + 1)) C dX7_stuffHere_93 rfl rfl (by decide) rfl ?_
      refine e_goto (tgt := 2) C dX7_stuffHere_96 (by decide) ?_
      refine e_perm C [1, 0] rfl ?_
      exact (h4 c2 c3)
    · refine e_iload_n (n := 1) C dX7_stuffHere_91 rfl rfl ?_
      exact e_iret C X rfl (vp_nar_int _) dX7_stuffHere_92 (h5 c2 c3)
  · refine e_iload_n (n := 2) C dX7_stuffHere_46 rfl rfl ?_
    refine e_if_eq (tgt := 87) C dX7_stuffHere_47 (by decide) (fun c6 => ?_) (fun c6 => ?_)
    · refine e_iload_n (n := 2) C dX7_stuffHere_87 rfl rfl ?_
      refine e_if_eq (tgt := 93) C dX7_stuffHere_88 (by decide) (fun c7 => ?_) (fun c7 => ?_)
      · refine e_iinc (n := 1) (v := (s + 1)) C dX7_stuffHere_93 rfl rfl (by decide) rfl ?_
        refine e_goto (tgt := 2) C dX7_stuffHere_96 (by decide) ?_
        refine e_perm C [1, 0] rfl ?_
        exact (h8 c2 c6 c7)
      · refine e_iload_n (n := 1) C dX7_stuffHere_91 rfl rfl ?_
        exact e_iret C X rfl (vp_nar_int _) dX7_stuffHere_92 (h9 c2 c6 c7)
    · refine e_aload_n (n := 0) C dX7_stuffHere_50 rfl rfl ?_
      refine e_get (v := .ref 74) C fd_X7_47 (by decide) rfl rfl dX7_stuffHere_51 ?_
      refine e_bipush (v := 7) C dX7_stuffHere_54 (by decide) ?_
      refine e_iload_n (n := 1) C dX7_stuffHere_56 rfl rfl ?_
      refine e_imul C dX7_stuffHere_57 ?_
      refine e_iload_n (n := 3) C dX7_stuffHere_58 rfl rfl ?_
      refine e_iadd C dX7_stuffHere_59 ?_
      refine e_iald (n := 42) C (by decide) rfl (by decide) (s10 c2 c6) dX7_stuffHere_60 ?_
      refine e_aload_n (n := 0) C dX7_stuffHere_61 rfl rfl ?_
      refine e_get (v := .ref 69) C fd_X7_32 (by decide) rfl rfl dX7_stuffHere_62 ?_
      refine e_aload_n (n := 0) C dX7_stuffHere_65 rfl rfl ?_
      refine e_get (v := .int (M 61 16)) C fd_X7_85 (by decide) rfl rfl dX7_stuffHere_66 ?_
      refine e_iload_n (n := 3) C dX7_stuffHere_69 rfl rfl ?_
      refine e_iadd C dX7_stuffHere_70 ?_
      refine e_iald (n := 200) C (by decide) rfl (by decide) (s11 c2 c6) dX7_stuffHere_71 ?_
      refine e_icmp_ne (tgt := 79) C dX7_stuffHere_72 (by decide) (fun c12 => ?_) (fun c12 => ?_)
      · refine e_iconst (v := 0) C dX7_stuffHere_79 (by decide) ?_
        refine e_istore_n C dX7_stuffHere_80 rfl (by decide) rfl ?_
        refine e_iinc (n := 3) (v := (j + 1)) C dX7_stuffHere_81 rfl rfl (by decide) rfl ?_
        refine e_goto (tgt := 36) C dX7_stuffHere_84 (by decide) ?_
        refine e_perm C [2, 3, 1, 0] rfl ?_
        exact (h13 c2 c6 c12)
      · refine e_iconst (v := 1) C dX7_stuffHere_75 (by decide) ?_
        refine e_goto (tgt := 80) C dX7_stuffHere_76 (by decide) ?_
        refine e_istore_n C dX7_stuffHere_80 rfl (by decide) rfl ?_
        refine e_iinc (n := 3) (v := (j + 1)) C dX7_stuffHere_81 rfl rfl (by decide) rfl ?_
        refine e_goto (tgt := 36) C dX7_stuffHere_84 (by decide) ?_
        refine e_perm C [2, 3, 1, 0] rfl ?_
        exact (h14 c2 c6 c12)
set_option maxRecDepth 100000 in
set_option maxHeartbeats 4000000 in
theorem km_wordHere {k : ea_K} {o : Option Value} {M' : ea_M} (C : ea_C k RX7 cX7_wordHere 4 0) (X : ea_X k (some .int) o M') {M : ea_M}   (h1 : ea_E k 2 [(0, .ref 61), (1, .int (0 : Int32))] [] M) : ea_E k 0 [(0, .ref 61)] [] M := by
  refine e_iconst (v := 0) C dX7_wordHere_0 (by decide) ?_
  refine e_istore_n C dX7_wordHere_1 rfl (by decide) rfl ?_
  refine e_perm C [1, 0] rfl ?_
  exact h1
set_option maxRecDepth 100000 in
set_option maxHeartbeats 4000000 in
theorem km_wordHere_2 {k : ea_K} {o : Option Value} {M' : ea_M} (C : ea_C k RX7 cX7_wordHere 4 0) (X : ea_X k (some .int) o M') {M : ea_M} {w : Int32}   (h2 : (4 : Int32) < w → o = some (.int (-1 : Int32)) ∧ M' = M) (h4 : ¬ (4 : Int32) < w → (M 61 17) ≤ (M 61 16) → ea_E k 40 [(0, .ref 61), (1, .int w), (2, .int (0 : Int32)), (3, .int (0 : Int32))] [] M) (h6 : ¬ (4 : Int32) < w → ¬ (M 61 17) ≤ (M 61 16) → (6 : Int32) ≤ ((M 61 17) - (M 61 16)) → ea_E k 40 [(0, .ref 61), (1, .int w), (2, .int (0 : Int32)), (3, .int (0 : Int32))] [] M) (h7 : ¬ (4 : Int32) < w → ¬ (M 61 17) ≤ (M 61 16) → ¬ (6 : Int32) ≤ ((M 61 17) - (M 61 16)) → ea_E k 40 [(0, .ref 61), (1, .int w), (2, .int (1 : Int32)), (3, .int (0 : Int32))] [] M) : ea_E k 2 [(0, .ref 61), (1, .int w)] [] M := by
  refine e_iload_n (n := 1) C dX7_wordHere_2 rfl rfl ?_
  refine e_iconst (v := 4) C dX7_wordHere_3 (by decide) ?_
  refine e_icmp_gt (tgt := 114) C dX7_wordHere_4 (by decide) (fun c1 => ?_) (fun c1 => ?_)
  · refine e_iconst (v := -1) C dX7_wordHere_114 (by decide) ?_
    exact e_iret C X rfl (vp_nar_int _) dX7_wordHere_115 (h2 c1)
  · refine e_aload_n (n := 0) C dX7_wordHere_7 rfl rfl ?_
    refine e_get (v := .int (M 61 17)) C fd_X7_82 (by decide) rfl rfl dX7_wordHere_8 ?_
    refine e_aload_n (n := 0) C dX7_wordHere_11 rfl rfl ?_
    refine e_get (v := .int (M 61 16)) C fd_X7_85 (by decide) rfl rfl dX7_wordHere_12 ?_
    refine e_icmp_le (tgt := 36) C dX7_wordHere_15 (by decide) (fun c3 => ?_) (fun c3 => ?_)
    · refine e_iconst (v := 0) C dX7_wordHere_36 (by decide) ?_
      refine e_istore_n C dX7_wordHere_37 rfl (by decide) rfl ?_
      refine e_iconst (v := 0) C dX7_wordHere_38 (by decide) ?_
      refine e_istore_n C dX7_wordHere_39 rfl (by decide) rfl ?_
      refine e_perm C [2, 3, 1, 0] rfl ?_
      exact (h4 c1 c3)
    · refine e_aload_n (n := 0) C dX7_wordHere_18 rfl rfl ?_
      refine e_get (v := .int (M 61 17)) C fd_X7_82 (by decide) rfl rfl dX7_wordHere_19 ?_
      refine e_aload_n (n := 0) C dX7_wordHere_22 rfl rfl ?_
      refine e_get (v := .int (M 61 16)) C fd_X7_85 (by decide) rfl rfl dX7_wordHere_23 ?_
      refine e_isub C dX7_wordHere_26 ?_
      refine e_bipush (v := 6) C dX7_wordHere_27 (by decide) ?_
      refine e_icmp_ge (tgt := 36) C dX7_wordHere_29 (by decide) (fun c5 => ?_) (fun c5 => ?_)
      · refine e_iconst (v := 0) C dX7_wordHere_36 (by decide) ?_
        refine e_istore_n C dX7_wordHere_37 rfl (by decide) rfl ?_
        refine e_iconst (v := 0) C dX7_wordHere_38 (by decide) ?_
        refine e_istore_n C dX7_wordHere_39 rfl (by decide) rfl ?_
        refine e_perm C [2, 3, 1, 0] rfl ?_
        exact (h6 c1 c3 c5)
      · refine e_iconst (v := 1) C dX7_wordHere_32 (by decide) ?_
        refine e_goto (tgt := 37) C dX7_wordHere_33 (by decide) ?_
        refine e_istore_n C dX7_wordHere_37 rfl (by decide) rfl ?_
        refine e_iconst (v := 0) C dX7_wordHere_38 (by decide) ?_
        refine e_istore_n C dX7_wordHere_39 rfl (by decide) rfl ?_
        refine e_perm C [2, 3, 1, 0] rfl ?_
        exact (h7 c1 c3 c5)
set_option maxRecDepth 100000 in
set_option maxHeartbeats 4000000 in
theorem km_wordHere_40 {k : ea_K} {o : Option Value} {M' : ea_M} (C : ea_C k RX7 cX7_wordHere 4 0) (X : ea_X k (some .int) o M') {M : ea_M} {w is j : Int32}   (h3 : (5 : Int32) ≤ j → is = 0 → ea_E k 2 [(0, .ref 61), (1, .int (w + 1))] [] M) (h4 : (5 : Int32) ≤ j → ¬ is = 0 → o = some (.int w) ∧ M' = M) (h7 : ¬ (5 : Int32) ≤ j → is = 0 → is = 0 → ea_E k 2 [(0, .ref 61), (1, .int (w + 1))] [] M) (h8 : ¬ (5 : Int32) ≤ j → is = 0 → ¬ is = 0 → o = some (.int w) ∧ M' = M) (s9 : ¬ (5 : Int32) ≤ j → ¬ is = 0 → vp_in (((5 : Int32) * w) + j) 25) (h12 : ¬ (5 : Int32) ≤ j → ¬ is = 0 → (M 61 17) ≤ ((M 61 16) + j) → ¬ (M 77 (((5 : Int32) * w) + j).toNatClampNeg) = (0 : Int32) → ea_E k 40 [(0, .ref 61), (1, .int w), (2, .int (0 : Int32)), (3, .int (j + 1))] [] M) (h13 : ¬ (5 : Int32) ≤ j → ¬ is = 0 → (M 61 17) ≤ ((M 61 16) + j) → (M 77 (((5 : Int32) * w) + j).toNatClampNeg) = (0 : Int32) → ea_E k 40 [(0, .ref 61), (1, .int w), (2, .int (1 : Int32)), (3, .int (j + 1))] [] M) (s14 : ¬ (5 : Int32) ≤ j → ¬ is = 0 → ¬ (M 61 17) ≤ ((M 61 16) + j) → vp_in ((M 61 16) + j) 200) (h16 : ¬ (5 : Int32) ≤ j → ¬ is = 0 → ¬ (M 61 17) ≤ ((M 61 16) + j) → ¬ (M 77 (((5 : Int32) * w) + j).toNatClampNeg) = (M 69 ((M 61 16) + j).toNatClampNeg) → ea_E k 40 [(0, .ref 61), (1, .int w), (2, .int (0 : Int32)), (3, .int (j + 1))] [] M) (h17 : ¬ (5 : Int32) ≤ j → ¬ is = 0 → ¬ (M 61 17) ≤ ((M 61 16) + j) → (M 77 (((5 : Int32) * w) + j).toNatClampNeg) = (M 69 ((M 61 16) + j).toNatClampNeg) → ea_E k 40 [(0, .ref 61), (1, .int w), (2, .int (1 : Int32)), (3, .int (j + 1))] [] M) : ea_E k 40 [(0, .ref 61), (1, .int w), (2, .int is), (3, .int j)] [] M := by
  refine e_iload_n (n := 3) C dX7_wordHere_40 rfl rfl ?_
  refine e_iconst (v := 5) C dX7_wordHere_41 (by decide) ?_
  refine e_icmp_ge (tgt := 102) C dX7_wordHere_42 (by decide) (fun c1 => ?_) (fun c1 => ?_)
  · refine e_iload_n (n := 2) C dX7_wordHere_102 rfl rfl ?_
    refine e_if_eq (tgt := 108) C dX7_wordHere_103 (by decide) (fun c2 => ?_) (fun c2 => ?_)
    · refine e_iinc (n := 1) (v := (w + 1)) C dX7_wordHere_108 rfl rfl (by decide) rfl ?_
      refine e_goto (tgt := 2) C dX7_wordHere_111 (by decide) ?_
      refine e_perm C [1, 0] rfl ?_
      exact (h3 c1 c2)
    · refine e_iload_n (n := 1) C dX7_wordHere_106 rfl rfl ?_
      exact e_iret C X rfl (vp_nar_int _) dX7_wordHere_107 (h4 c1 c2)
  · refine e_iload_n (n := 2) C dX7_wordHere_45 rfl rfl ?_
    refine e_if_eq (tgt := 102) C dX7_wordHere_46 (by decide) (fun c5 => ?_) (fun c5 => ?_)
    · refine e_iload_n (n := 2) C dX7_wordHere_102 rfl rfl ?_
      refine e_if_eq (tgt := 108) C dX7_wordHere_103 (by decide) (fun c6 => ?_) (fun c6 => ?_)
      · refine e_iinc (n := 1) (v := (w + 1)) C dX7_wordHere_108 rfl rfl (by decide) rfl ?_
        refine e_goto (tgt := 2) C dX7_wordHere_111 (by decide) ?_
        refine e_perm C [1, 0] rfl ?_
        exact (h7 c1 c5 c6)
      · refine e_iload_n (n := 1) C dX7_wordHere_106 rfl rfl ?_
        exact e_iret C X rfl (vp_nar_int _) dX7_wordHere_107 (h8 c1 c5 c6)
    · refine e_aload_n (n := 0) C dX7_wordHere_49 rfl rfl ?_
      refine e_get (v := .ref 77) C fd_X7_56 (by decide) rfl rfl dX7_wordHere_50 ?_
      refine e_iconst (v := 5) C dX7_wordHere_53 (by decide) ?_
      refine e_iload_n (n := 1) C dX7_wordHere_54 rfl rfl ?_
      refine e_imul C dX7_wordHere_55 ?_
      refine e_iload_n (n := 3) C dX7_wordHere_56 rfl rfl ?_
      refine e_iadd C dX7_wordHere_57 ?_
      refine e_iald (n := 25) C (by decide) rfl (by decide) (s9 c1 c5) dX7_wordHere_58 ?_
      refine e_aload_n (n := 0) C dX7_wordHere_59 rfl rfl ?_
      refine e_get (v := .int (M 61 16)) C fd_X7_85 (by decide) rfl rfl dX7_wordHere_60 ?_
      refine e_iload_n (n := 3) C dX7_wordHere_63 rfl rfl ?_
      refine e_iadd C dX7_wordHere_64 ?_
      refine e_aload_n (n := 0) C dX7_wordHere_65 rfl rfl ?_
      refine e_get (v := .int (M 61 17)) C fd_X7_82 (by decide) rfl rfl dX7_wordHere_66 ?_
      refine e_icmp_ge (tgt := 86) C dX7_wordHere_69 (by decide) (fun c10 => ?_) (fun c10 => ?_)
      · refine e_iconst (v := 0) C dX7_wordHere_86 (by decide) ?_
        refine e_icmp_ne (tgt := 94) C dX7_wordHere_87 (by decide) (fun c11 => ?_) (fun c11 => ?_)
        · refine e_iconst (v := 0) C dX7_wordHere_94 (by decide) ?_
          refine e_istore_n C dX7_wordHere_95 rfl (by decide) rfl ?_
          refine e_iinc (n := 3) (v := (j + 1)) C dX7_wordHere_96 rfl rfl (by decide) rfl ?_
          refine e_goto (tgt := 40) C dX7_wordHere_99 (by decide) ?_
          refine e_perm C [2, 3, 1, 0] rfl ?_
          exact (h12 c1 c5 c10 c11)
        · refine e_iconst (v := 1) C dX7_wordHere_90 (by decide) ?_
          refine e_goto (tgt := 95) C dX7_wordHere_91 (by decide) ?_
          refine e_istore_n C dX7_wordHere_95 rfl (by decide) rfl ?_
          refine e_iinc (n := 3) (v := (j + 1)) C dX7_wordHere_96 rfl rfl (by decide) rfl ?_
          refine e_goto (tgt := 40) C dX7_wordHere_99 (by decide) ?_
          refine e_perm C [2, 3, 1, 0] rfl ?_
          exact (h13 c1 c5 c10 c11)
      · refine e_aload_n (n := 0) C dX7_wordHere_72 rfl rfl ?_
        refine e_get (v := .ref 69) C fd_X7_32 (by decide) rfl rfl dX7_wordHere_73 ?_
        refine e_aload_n (n := 0) C dX7_wordHere_76 rfl rfl ?_
        refine e_get (v := .int (M 61 16)) C fd_X7_85 (by decide) rfl rfl dX7_wordHere_77 ?_
        refine e_iload_n (n := 3) C dX7_wordHere_80 rfl rfl ?_
        refine e_iadd C dX7_wordHere_81 ?_
        refine e_iald (n := 200) C (by decide) rfl (by decide) (s14 c1 c5 c10) dX7_wordHere_82 ?_
        refine e_goto (tgt := 87) C dX7_wordHere_83 (by decide) ?_
        refine e_icmp_ne (tgt := 94) C dX7_wordHere_87 (by decide) (fun c15 => ?_) (fun c15 => ?_)
        · refine e_iconst (v := 0) C dX7_wordHere_94 (by decide) ?_
          refine e_istore_n C dX7_wordHere_95 rfl (by decide) rfl ?_
          refine e_iinc (n := 3) (v := (j + 1)) C dX7_wordHere_96 rfl rfl (by decide) rfl ?_
          refine e_goto (tgt := 40) C dX7_wordHere_99 (by decide) ?_
          refine e_perm C [2, 3, 1, 0] rfl ?_
          exact (h16 c1 c5 c10 c15)
        · refine e_iconst (v := 1) C dX7_wordHere_90 (by decide) ?_
          refine e_goto (tgt := 95) C dX7_wordHere_91 (by decide) ?_
          refine e_istore_n C dX7_wordHere_95 rfl (by decide) rfl ?_
          refine e_iinc (n := 3) (v := (j + 1)) C dX7_wordHere_96 rfl rfl (by decide) rfl ?_
          refine e_goto (tgt := 40) C dX7_wordHere_99 (by decide) ?_
          refine e_perm C [2, 3, 1, 0] rfl ?_
          exact (h17 c1 c5 c10 c15)
set_option maxRecDepth 100000 in
set_option maxHeartbeats 4000000 in
theorem km_readsNewWord {k : ea_K} {o : Option Value} {M' : ea_M} (C : ea_C k RX7 cX7_readsNewWord 2 3) (X : ea_X k (some .boolean) o M') {M : ea_M} {r1 : Int32}   (h2 : (M 61 16) = (M 61 11) → o = some (.int (0 : Int32)) ∧ M' = M) (s3 : ¬ (M 61 16) = (M 61 11) → vp_in (M 61 16) 200) (h5 : ¬ (M 61 16) = (M 61 11) → ¬ p_X7_isSmall (M 69 (M 61 16).toNatClampNeg) → o = some (.int (0 : Int32)) ∧ M' = M) (h7 : ¬ (M 61 16) = (M 61 11) → p_X7_isSmall (M 69 (M 61 16).toNatClampNeg) → (7 : Int32) < ((M 61 17) - (M 61 16)) → o = some (.int (0 : Int32)) ∧ M' = M) (q8 : ¬ (M 61 16) = (M 61 11) → p_X7_isSmall (M 69 (M 61 16).toNatClampNeg) → ¬ (7 : Int32) < ((M 61 17) - (M 61 16)) → ea_Sp 0 yX7_stuffHere cX7_stuffHere 4 (some .int) [.ref 61] M (some (.int r1)) M) (s10 : ¬ (M 61 16) = (M 61 11) → p_X7_isSmall (M 69 (M 61 16).toNatClampNeg) → ¬ (7 : Int32) < ((M 61 17) - (M 61 16)) → r1 = (-1 : Int32) → vp_in (M 61 18) 6) (h11 : ¬ (M 61 16) = (M 61 11) → p_X7_isSmall (M 69 (M 61 16).toNatClampNeg) → ¬ (7 : Int32) < ((M 61 17) - (M 61 16)) → r1 = (-1 : Int32) → ea_E k 73 [(0, .ref 61), (1, .int (M 61 16))] [] (ea_up M 75 (M 61 18).toNatClampNeg ((M 61 17) - (M 61 16)))) (h12 : ¬ (M 61 16) = (M 61 11) → p_X7_isSmall (M 69 (M 61 16).toNatClampNeg) → ¬ (7 : Int32) < ((M 61 17) - (M 61 16)) → ¬ r1 = (-1 : Int32) → o = some (.int (0 : Int32)) ∧ M' = M) : ea_E k 0 [(0, .ref 61)] [] M := by
  refine e_aload_n (n := 0) C dX7_readsNewWord_0 rfl rfl ?_
  refine e_get (v := .int (M 61 16)) C fd_X7_85 (by decide) rfl rfl dX7_readsNewWord_1 ?_
  refine e_aload_n (n := 0) C dX7_readsNewWord_4 rfl rfl ?_
  refine e_get (v := .int (M 61 11)) C fd_X7_69 (by decide) rfl rfl dX7_readsNewWord_5 ?_
  refine e_icmp_eq (tgt := 48) C dX7_readsNewWord_8 (by decide) (fun c1 => ?_) (fun c1 => ?_)
  · refine e_iconst (v := 0) C dX7_readsNewWord_48 (by decide) ?_
    exact e_iret C X rfl rfl dX7_readsNewWord_49 (h2 c1)
  · refine e_aload_n (n := 0) C dX7_readsNewWord_11 rfl rfl ?_
    refine e_get (v := .ref 69) C fd_X7_32 (by decide) rfl rfl dX7_readsNewWord_12 ?_
    refine e_aload_n (n := 0) C dX7_readsNewWord_15 rfl rfl ?_
    refine e_get (v := .int (M 61 16)) C fd_X7_85 (by decide) rfl rfl dX7_readsNewWord_16 ?_
    refine e_iald (n := 200) C (by decide) rfl (by decide) (s3 c1) dX7_readsNewWord_19 ?_
    refine e_callS1 (as := [.int (M 69 (M 61 16).toNatClampNeg)]) (rest := []) C lk_X7_88 (sp_X7_isSmall (M := M) (i := (M 69 (M 61 16).toNatClampNeg)) ) (by decide) rfl rfl (Nat.le_of_ble_eq_true rfl) dX7_readsNewWord_20 ?_
    refine e_ifb_eq (tgt := 48) C dX7_readsNewWord_23 (by decide) (fun c4 => ?_) (fun c4 => ?_)
    · refine e_iconst (v := 0) C dX7_readsNewWord_48 (by decide) ?_
      exact e_iret C X rfl rfl dX7_readsNewWord_49 (h5 c1 c4)
    · refine e_aload_n (n := 0) C dX7_readsNewWord_26 rfl rfl ?_
      refine e_get (v := .int (M 61 17)) C fd_X7_82 (by decide) rfl rfl dX7_readsNewWord_27 ?_
      refine e_aload_n (n := 0) C dX7_readsNewWord_30 rfl rfl ?_
      refine e_get (v := .int (M 61 16)) C fd_X7_85 (by decide) rfl rfl dX7_readsNewWord_31 ?_
      refine e_isub C dX7_readsNewWord_34 ?_
      refine e_bipush (v := 7) C dX7_readsNewWord_35 (by decide) ?_
      refine e_icmp_gt (tgt := 48) C dX7_readsNewWord_37 (by decide) (fun c6 => ?_) (fun c6 => ?_)
      · refine e_iconst (v := 0) C dX7_readsNewWord_48 (by decide) ?_
        exact e_iret C X rfl rfl dX7_readsNewWord_49 (h7 c1 c4 c6)
      · refine e_aload_n (n := 0) C dX7_readsNewWord_40 rfl rfl ?_
        refine e_callV1 (as := []) (rest := []) C lk_X7_101 (q8 c1 c4 c6) (by decide) rfl (by decide) rfl (by decide) rfl rfl (Nat.le_of_ble_eq_true rfl) dX7_readsNewWord_41 ?_
        refine e_iconst (v := -1) C dX7_readsNewWord_44 (by decide) ?_
        refine e_icmp_eq (tgt := 50) C dX7_readsNewWord_45 (by decide) (fun c9 => ?_) (fun c9 => ?_)
        · refine e_aload_n (n := 0) C dX7_readsNewWord_50 rfl rfl ?_
          refine e_get (v := .ref 75) C fd_X7_50 (by decide) rfl rfl dX7_readsNewWord_51 ?_
          refine e_aload_n (n := 0) C dX7_readsNewWord_54 rfl rfl ?_
          refine e_get (v := .int (M 61 18)) C fd_X7_98 (by decide) rfl rfl dX7_readsNewWord_55 ?_
          refine e_aload_n (n := 0) C dX7_readsNewWord_58 rfl rfl ?_
          refine e_get (v := .int (M 61 17)) C fd_X7_82 (by decide) rfl rfl dX7_readsNewWord_59 ?_
          refine e_aload_n (n := 0) C dX7_readsNewWord_62 rfl rfl ?_
          refine e_get (v := .int (M 61 16)) C fd_X7_85 (by decide) rfl rfl dX7_readsNewWord_63 ?_
          refine e_isub C dX7_readsNewWord_66 ?_
          refine e_iast (n := 6) C (by decide) rfl (by decide) (s10 c1 c4 c6 c9) dX7_readsNewWord_67 ?_
          refine e_aload_n (n := 0) C dX7_readsNewWord_68 rfl rfl ?_
          refine e_get (v := .int (M 61 16)) C fd_X7_85 (by decide) rfl (congrArg (fun z => some (Value.int z)) (by simp [ea_upR, ea_upS, ea_upK, pa_setR, pa_cpR, fr_X3_add, fr_X5_forget, fr_X5_become, fr_X4_clear, fr_X4_addStuff, fr_X4_become_d, fr_X4_become_s, fr_X0_enter, fr_X0_remove] : (ea_up M 75 (M 61 18).toNatClampNeg ((M 61 17) - (M 61 16))) 61 16 = (M 61 16))) dX7_readsNewWord_69 ?_
          refine e_istore_n C dX7_readsNewWord_72 rfl (by decide) rfl ?_
          refine e_perm C [1, 0] rfl ?_
          exact (h11 c1 c4 c6 c9)
        · refine e_iconst (v := 0) C dX7_readsNewWord_48 (by decide) ?_
          exact e_iret C X rfl rfl dX7_readsNewWord_49 (h12 c1 c4 c6 c9)
set_option maxRecDepth 100000 in
set_option maxHeartbeats 4000000 in
theorem km_readsNewWord_73 {k : ea_K} {o : Option Value} {M' : ea_M} (C : ea_C k RX7 cX7_readsNewWord 2 3) (X : ea_X k (some .boolean) o M') {M : ea_M} {j : Int32} {M1 : ea_M}   (q2 : (M 61 17) ≤ j → ea_Sp 2 yX7_nextToken cX7_nextToken 1 none [.ref 61] M none M1) (h3 : (M 61 17) ≤ j → o = some (.int (1 : Int32)) ∧ M' = M1) (s4 : ¬ (M 61 17) ≤ j → vp_in j 200) (s5 : ¬ (M 61 17) ≤ j → vp_in ((((7 : Int32) * (M 61 18)) + j) - (M 61 16)) 42) (h6 : ¬ (M 61 17) ≤ j → ea_E k 73 [(0, .ref 61), (1, .int (j + 1))] [] (ea_up M 74 ((((7 : Int32) * (M 61 18)) + j) - (M 61 16)).toNatClampNeg (M 69 j.toNatClampNeg))) : ea_E k 73 [(0, .ref 61), (1, .int j)] [] M := by
  refine e_iload_n (n := 1) C dX7_readsNewWord_73 rfl rfl ?_
  refine e_aload_n (n := 0) C dX7_readsNewWord_74 rfl rfl ?_
  refine e_get (v := .int (M 61 17)) C fd_X7_82 (by decide) rfl rfl dX7_readsNewWord_75 ?_
  refine e_icmp_ge (tgt := 112) C dX7_readsNewWord_78 (by decide) (fun c1 => ?_) (fun c1 => ?_)
  · refine e_aload_n (n := 0) C dX7_readsNewWord_112 rfl rfl ?_
    refine e_callV0 (as := []) (rest := []) C lk_X7_95 (q2 c1) (by decide) rfl (by decide) rfl (by decide) rfl rfl (Nat.le_of_ble_eq_true rfl) dX7_readsNewWord_113 ?_
    refine e_iconst (v := 1) C dX7_readsNewWord_116 (by decide) ?_
    exact e_iret C X rfl rfl dX7_readsNewWord_117 (h3 c1)
  · refine e_aload_n (n := 0) C dX7_readsNewWord_81 rfl rfl ?_
    refine e_get (v := .ref 74) C fd_X7_47 (by decide) rfl rfl dX7_readsNewWord_82 ?_
    refine e_bipush (v := 7) C dX7_readsNewWord_85 (by decide) ?_
    refine e_aload_n (n := 0) C dX7_readsNewWord_87 rfl rfl ?_
    refine e_get (v := .int (M 61 18)) C fd_X7_98 (by decide) rfl rfl dX7_readsNewWord_88 ?_
    refine e_imul C dX7_readsNewWord_91 ?_
    refine e_iload_n (n := 1) C dX7_readsNewWord_92 rfl rfl ?_
    refine e_iadd C dX7_readsNewWord_93 ?_
    refine e_aload_n (n := 0) C dX7_readsNewWord_94 rfl rfl ?_
    refine e_get (v := .int (M 61 16)) C fd_X7_85 (by decide) rfl rfl dX7_readsNewWord_95 ?_
    refine e_isub C dX7_readsNewWord_98 ?_
    refine e_aload_n (n := 0) C dX7_readsNewWord_99 rfl rfl ?_
    refine e_get (v := .ref 69) C fd_X7_32 (by decide) rfl rfl dX7_readsNewWord_100 ?_
    refine e_iload_n (n := 1) C dX7_readsNewWord_103 rfl rfl ?_
    refine e_iald (n := 200) C (by decide) rfl (by decide) (s4 c1) dX7_readsNewWord_104 ?_
    refine e_iast (n := 42) C (by decide) rfl (by decide) (s5 c1) dX7_readsNewWord_105 ?_
    refine e_iinc (n := 1) (v := (j + 1)) C dX7_readsNewWord_106 rfl rfl (by decide) rfl ?_
    refine e_goto (tgt := 73) C dX7_readsNewWord_109 (by decide) ?_
    refine e_perm C [1, 0] rfl ?_
    exact (h6 c1)
set_option maxRecDepth 100000 in
set_option maxHeartbeats 4000000 in
theorem km_layTold {k : ea_K} {o : Option Value} {M' : ea_M} (C : ea_C k RX7 cX7_layTold 2 0) (X : ea_X k none o M') {M : ea_M}   (h1 : ea_E k 18 [(0, .ref 61), (1, .int (0 : Int32))] [] (ea_up (ea_up M 61 18 (M 61 1)) 61 19 (M 61 6))) : ea_E k 0 [(0, .ref 61)] [] M := by
  refine e_aload_n (n := 0) C dX7_layTold_0 rfl rfl ?_
  refine e_aload_n (n := 0) C dX7_layTold_1 rfl rfl ?_
  refine e_get (v := .int (M 61 1)) C fd_X7_123 (by decide) rfl rfl dX7_layTold_2 ?_
  refine e_put (ty := .int) C fd_X7_98 (by decide) rfl rfl (by decide +kernel) (vp_nar_int _) rfl (ea_set7_18 _ _ _) dX7_layTold_5 ?_
  refine e_aload_n (n := 0) C dX7_layTold_8 rfl rfl ?_
  refine e_aload_n (n := 0) C dX7_layTold_9 rfl rfl ?_
  refine e_get (v := .int (M 61 6)) C fd_X7_126 (by decide) rfl (congrArg (fun z => some (Value.int z)) (by simp [ea_upR, ea_upS, ea_upK, pa_setR, pa_cpR, fr_X3_add, fr_X5_forget, fr_X5_become, fr_X4_clear, fr_X4_addStuff, fr_X4_become_d, fr_X4_become_s, fr_X0_enter, fr_X0_remove] : (ea_up M 61 18 (M 61 1)) 61 6 = (M 61 6))) dX7_layTold_10 ?_
  refine e_put (ty := .int) C fd_X7_116 (by decide) rfl rfl (by decide +kernel) (vp_nar_int _) rfl (ea_set7_19 _ _ _) dX7_layTold_13 ?_
  refine e_iconst (v := 0) C dX7_layTold_16 (by decide) ?_
  refine e_istore_n C dX7_layTold_17 rfl (by decide) rfl ?_
  refine e_perm C [1, 0] rfl ?_
  exact h1
set_option maxRecDepth 100000 in
set_option maxHeartbeats 4000000 in
theorem km_layTold_18 {k : ea_K} {o : Option Value} {M' : ea_M} (C : ea_C k RX7 cX7_layTold 2 0) (X : ea_X k none o M') {M : ea_M} {j : Int32}   (h2 : (6 : Int32) ≤ j → ea_E k 44 [(0, .ref 61), (1, .int (0 : Int32))] [] M) (s3 : ¬ (6 : Int32) ≤ j → vp_in j 6) (s4 : ¬ (6 : Int32) ≤ j → vp_in j 6) (h5 : ¬ (6 : Int32) ≤ j → ea_E k 18 [(0, .ref 61), (1, .int (j + 1))] [] (ea_up M 75 j.toNatClampNeg (M 66 j.toNatClampNeg))) : ea_E k 18 [(0, .ref 61), (1, .int j)] [] M := by
  refine e_iload_n (n := 1) C dX7_layTold_18 rfl rfl ?_
  refine e_bipush (v := 6) C dX7_layTold_19 (by decide) ?_
  refine e_icmp_ge (tgt := 42) C dX7_layTold_21 (by decide) (fun c1 => ?_) (fun c1 => ?_)
  · refine e_iconst (v := 0) C dX7_layTold_42 (by decide) ?_
    refine e_istore_n C dX7_layTold_43 rfl (by decide) rfl ?_
    refine e_perm C [1, 0] rfl ?_
    exact (h2 c1)
  · refine e_aload_n (n := 0) C dX7_layTold_24 rfl rfl ?_
    refine e_get (v := .ref 75) C fd_X7_50 (by decide) rfl rfl dX7_layTold_25 ?_
    refine e_iload_n (n := 1) C dX7_layTold_28 rfl rfl ?_
    refine e_aload_n (n := 0) C dX7_layTold_29 rfl rfl ?_
    refine e_get (v := .ref 66) C fd_X7_22 (by decide) rfl rfl dX7_layTold_30 ?_
    refine e_iload_n (n := 1) C dX7_layTold_33 rfl rfl ?_
    refine e_iald (n := 6) C (by decide) rfl (by decide) (s3 c1) dX7_layTold_34 ?_
    refine e_iast (n := 6) C (by decide) rfl (by decide) (s4 c1) dX7_layTold_35 ?_
    refine e_iinc (n := 1) (v := (j + 1)) C dX7_layTold_36 rfl rfl (by decide) rfl ?_
    refine e_goto (tgt := 18) C dX7_layTold_39 (by decide) ?_
    refine e_perm C [1, 0] rfl ?_
    exact (h5 c1)
set_option maxRecDepth 100000 in
set_option maxHeartbeats 4000000 in
theorem km_layTold_44 {k : ea_K} {o : Option Value} {M' : ea_M} (C : ea_C k RX7 cX7_layTold 2 0) (X : ea_X k none o M') {M : ea_M} {j : Int32}   (h2 : (42 : Int32) ≤ j → o = none ∧ M' = M) (s3 : ¬ (42 : Int32) ≤ j → vp_in j 42) (s4 : ¬ (42 : Int32) ≤ j → vp_in j 42) (h5 : ¬ (42 : Int32) ≤ j → ea_E k 44 [(0, .ref 61), (1, .int (j + 1))] [] (ea_up M 74 j.toNatClampNeg (M 65 j.toNatClampNeg))) : ea_E k 44 [(0, .ref 61), (1, .int j)] [] M := by
  refine e_iload_n (n := 1) C dX7_layTold_44 rfl rfl ?_
  refine e_bipush (v := 42) C dX7_layTold_45 (by decide) ?_
  refine e_icmp_ge (tgt := 68) C dX7_layTold_47 (by decide) (fun c1 => ?_) (fun c1 => ?_)
  · exact e_vret C X dX7_layTold_68 (h2 c1)
  · refine e_aload_n (n := 0) C dX7_layTold_50 rfl rfl ?_
    refine e_get (v := .ref 74) C fd_X7_47 (by decide) rfl rfl dX7_layTold_51 ?_
    refine e_iload_n (n := 1) C dX7_layTold_54 rfl rfl ?_
    refine e_aload_n (n := 0) C dX7_layTold_55 rfl rfl ?_
    refine e_get (v := .ref 65) C fd_X7_19 (by decide) rfl rfl dX7_layTold_56 ?_
    refine e_iload_n (n := 1) C dX7_layTold_59 rfl rfl ?_
    refine e_iald (n := 42) C (by decide) rfl (by decide) (s3 c1) dX7_layTold_60 ?_
    refine e_iast (n := 42) C (by decide) rfl (by decide) (s4 c1) dX7_layTold_61 ?_
    refine e_iinc (n := 1) (v := (j + 1)) C dX7_layTold_62 rfl rfl (by decide) rfl ?_
    refine e_goto (tgt := 44) C dX7_layTold_65 (by decide) ?_
    refine e_perm C [1, 0] rfl ?_
    exact (h5 c1)
set_option maxRecDepth 100000 in
set_option maxHeartbeats 4000000 in
theorem km_does {k : ea_K} {o : Option Value} {M' : ea_M} (C : ea_C k RX7 cX7_does 3 0) (X : ea_X k none o M') {M : ea_M} {w : Int32}   (h6 : w = 0 → o = none ∧ M' = (ea_up (ea_up (ea_up (ea_up (ea_up M 61 1 (0 : Int32)) 61 6 (0 : Int32)) 62 10 (0 : Int32)) 62 11 (0 : Int32)) 62 12 (M 76 0))) (s9 : ¬ w = 0 → w = 1 → vp_in (M 61 1) 6) (s11 : ¬ w = 0 → w = 1 → vp_in (M 61 1) 6) (s12 : ¬ w = 0 → w = 1 → vp_in (M 61 1) 6) (s13 : ¬ w = 0 → w = 1 → vp_in (M 61 1) 6) (h14 : ¬ w = 0 → w = 1 → ea_E k 130 [(0, .ref 61), (2, .int ((7 : Int32) * (M 61 1)))] [] (ea_up (ea_up (ea_up M 63 (M 61 1).toNatClampNeg (M 76 0)) 64 (M 61 1).toNatClampNeg (M 76 1)) 66 (M 61 1).toNatClampNeg (M 75 (M 61 1).toNatClampNeg))) (h16 : ¬ w = 0 → ¬ w = 1 → w = 2 → ea_E k 177 [(0, .ref 61), (2, .int (0 : Int32))] [] M) (h22 : ¬ w = 0 → ¬ w = 1 → ¬ w = 2 → w = 3 → o = none ∧ M' = (ea_up (ea_up M 62 10 (M 76 0)) 62 11 (M 76 1))) (s25 : ¬ w = 0 → ¬ w = 1 → ¬ w = 2 → ¬ w = 3 → vp_in ((0 : Int32) + (M 76 0)) 192) (h26 : ¬ w = 0 → ¬ w = 1 → ¬ w = 2 → ¬ w = 3 → o = none ∧ M' = (ea_up M 62 ((0 : Int32) + (M 76 0)).toNatClampNeg (M 76 1))) : ea_E k 0 [(0, .ref 61), (1, .int w)] [] M := by
  refine e_iload_n (n := 1) C dX7_does_0 rfl rfl ?_
  by_cases c1 : w = 0
  · refine e_tabIn (tgt := 32) (off := 31) C dX7_does_1 (by rw [c1]; decide) (by rw [c1]; decide) (by rw [c1]; decide) (by decide) ?_
    refine e_aload_n (n := 0) C dX7_does_32 rfl rfl ?_
    refine e_iconst (v := 0) C dX7_does_33 (by decide) ?_
    refine e_put (ty := .int) C fd_X7_123 (by decide) rfl rfl (by decide +kernel) (vp_nar_int _) rfl (ea_set7_1 _ _ _) dX7_does_34 ?_
    refine e_aload_n (n := 0) C dX7_does_37 rfl rfl ?_
    refine e_iconst (v := 0) C dX7_does_38 (by decide) ?_
    refine e_put (ty := .int) C fd_X7_126 (by decide) rfl rfl (by decide +kernel) (vp_nar_int _) rfl (ea_set7_6 _ _ _) dX7_does_39 ?_
    refine e_aload_n (n := 0) C dX7_does_42 rfl rfl ?_
    refine e_get (v := .ref 62) C fd_X7_7 (by decide) rfl rfl dX7_does_43 ?_
    refine e_bipush (v := 10) C dX7_does_46 (by decide) ?_
    refine e_iconst (v := 0) C dX7_does_48 (by decide) ?_
    refine e_iast (n := 192) C (by decide) rfl (by decide) (vp_in_nI (n := 10) (N := 192) (by decide) (by decide)) dX7_does_49 ?_
    refine e_aload_n (n := 0) C dX7_does_50 rfl rfl ?_
    refine e_get (v := .ref 62) C fd_X7_7 (by decide) rfl rfl dX7_does_51 ?_
    refine e_bipush (v := 11) C dX7_does_54 (by decide) ?_
    refine e_iconst (v := 0) C dX7_does_56 (by decide) ?_
    refine e_iast (n := 192) C (by decide) rfl (by decide) (vp_in_nI (n := 11) (N := 192) (by decide) (by decide)) dX7_does_57 ?_
    refine e_aload_n (n := 0) C dX7_does_58 rfl rfl ?_
    refine e_get (v := .ref 62) C fd_X7_7 (by decide) rfl rfl dX7_does_59 ?_
    refine e_bipush (v := 12) C dX7_does_62 (by decide) ?_
    refine e_aload_n (n := 0) C dX7_does_64 rfl rfl ?_
    refine e_get (v := .ref 76) C fd_X7_53 (by decide) rfl rfl dX7_does_65 ?_
    refine e_iconst (v := 0) C dX7_does_68 (by decide) ?_
    refine e_ialdV (n := 3) (r := M 76) (by simp [ea_upR, ea_upS, ea_upK, pa_setR, pa_cpR, fr_X3_add, fr_X5_forget, fr_X5_become, fr_X4_clear, fr_X4_addStuff, fr_X4_become_d, fr_X4_become_s, fr_X0_enter, fr_X0_remove]) C (by decide) rfl (by decide) (vp_in_nI (n := 0) (N := 3) (by decide) (by decide)) dX7_does_69 ?_
    refine e_iast (n := 192) C (by decide) rfl (by decide) (vp_in_nI (n := 12) (N := 192) (by decide) (by decide)) dX7_does_70 ?_
    refine e_goto (tgt := 281) C dX7_does_71 (by decide) ?_
    exact e_vret C X dX7_does_281 (h6 c1)
  by_cases c7 : w = 1
  · refine e_tabIn (tgt := 74) (off := 73) C dX7_does_1 (by rw [c7]; decide) (by rw [c7]; decide) (by rw [c7]; decide) (by decide) ?_
    refine e_aload_n (n := 0) C dX7_does_74 rfl rfl ?_
    refine e_get (v := .ref 63) C fd_X7_13 (by decide) rfl rfl dX7_does_75 ?_
    refine e_aload_n (n := 0) C dX7_does_78 rfl rfl ?_
    refine e_get (v := .int (M 61 1)) C fd_X7_123 (by decide) rfl rfl dX7_does_79 ?_
    refine e_aload_n (n := 0) C dX7_does_82 rfl rfl ?_
    refine e_get (v := .ref 76) C fd_X7_53 (by decide) rfl rfl dX7_does_83 ?_
    refine e_iconst (v := 0) C dX7_does_86 (by decide) ?_
    refine e_iald (n := 3) C (by decide) rfl (by decide) (vp_in_nI (n := 0) (N := 3) (by decide) (by decide)) dX7_does_87 ?_
    refine e_iast (n := 6) C (by decide) rfl (by decide) (s9 c1 c7) dX7_does_88 ?_
    refine e_aload_n (n := 0) C dX7_does_89 rfl rfl ?_
    refine e_get (v := .ref 64) C fd_X7_16 (by decide) rfl rfl dX7_does_90 ?_
    refine e_aload_n (n := 0) C dX7_does_93 rfl rfl ?_
    refine e_get (v := .int (M 61 1)) C fd_X7_123 (by decide) rfl (congrArg (fun z => some (Value.int z)) (by simp [ea_upR, ea_upS, ea_upK, pa_setR, pa_cpR, fr_X3_add, fr_X5_forget, fr_X5_become, fr_X4_clear, fr_X4_addStuff, fr_X4_become_d, fr_X4_become_s, fr_X0_enter, fr_X0_remove] : (ea_up M 63 (M 61 1).toNatClampNeg (M 76 0)) 61 1 = (M 61 1))) dX7_does_94 ?_
    refine e_aload_n (n := 0) C dX7_does_97 rfl rfl ?_
    refine e_get (v := .ref 76) C fd_X7_53 (by decide) rfl rfl dX7_does_98 ?_
    refine e_iconst (v := 1) C dX7_does_101 (by decide) ?_
    refine e_ialdV (n := 3) (r := M 76) (by simp [ea_upR, ea_upS, ea_upK, pa_setR, pa_cpR, fr_X3_add, fr_X5_forget, fr_X5_become, fr_X4_clear, fr_X4_addStuff, fr_X4_become_d, fr_X4_become_s, fr_X0_enter, fr_X0_remove]) C (by decide) rfl (by decide) (vp_in_nI (n := 1) (N := 3) (by decide) (by decide)) dX7_does_102 ?_
    refine e_iast (n := 6) C (by decide) rfl (by decide) (s11 c1 c7) dX7_does_103 ?_
    refine e_aload_n (n := 0) C dX7_does_104 rfl rfl ?_
    refine e_get (v := .ref 66) C fd_X7_22 (by decide) rfl rfl dX7_does_105 ?_
    refine e_aload_n (n := 0) C dX7_does_108 rfl rfl ?_
    refine e_get (v := .int (M 61 1)) C fd_X7_123 (by decide) rfl (congrArg (fun z => some (Value.int z)) (by simp [ea_upR, ea_upS, ea_upK, pa_setR, pa_cpR, fr_X3_add, fr_X5_forget, fr_X5_become, fr_X4_clear, fr_X4_addStuff, fr_X4_become_d, fr_X4_become_s, fr_X0_enter, fr_X0_remove] : (ea_up (ea_up M 63 (M 61 1).toNatClampNeg (M 76 0)) 64 (M 61 1).toNatClampNeg (M 76 1)) 61 1 = (M 61 1))) dX7_does_109 ?_
    refine e_aload_n (n := 0) C dX7_does_112 rfl rfl ?_
    refine e_get (v := .ref 75) C fd_X7_50 (by decide) rfl rfl dX7_does_113 ?_
    refine e_aload_n (n := 0) C dX7_does_116 rfl rfl ?_
    refine e_get (v := .int (M 61 1)) C fd_X7_123 (by decide) rfl (congrArg (fun z => some (Value.int z)) (by simp [ea_upR, ea_upS, ea_upK, pa_setR, pa_cpR, fr_X3_add, fr_X5_forget, fr_X5_become, fr_X4_clear, fr_X4_addStuff, fr_X4_become_d, fr_X4_become_s, fr_X0_enter, fr_X0_remove] : (ea_up (ea_up M 63 (M 61 1).toNatClampNeg (M 76 0)) 64 (M 61 1).toNatClampNeg (M 76 1)) 61 1 = (M 61 1))) dX7_does_117 ?_
    refine e_ialdV (n := 6) (r := M 75) (by simp [ea_upR, ea_upS, ea_upK, pa_setR, pa_cpR, fr_X3_add, fr_X5_forget, fr_X5_become, fr_X4_clear, fr_X4_addStuff, fr_X4_become_d, fr_X4_become_s, fr_X0_enter, fr_X0_remove]) C (by decide) rfl (by decide) (s12 c1 c7) dX7_does_120 ?_
    refine e_iast (n := 6) C (by decide) rfl (by decide) (s13 c1 c7) dX7_does_121 ?_
    refine e_bipush (v := 7) C dX7_does_122 (by decide) ?_
    refine e_aload_n (n := 0) C dX7_does_124 rfl rfl ?_
    refine e_get (v := .int (M 61 1)) C fd_X7_123 (by decide) rfl (congrArg (fun z => some (Value.int z)) (by simp [ea_upR, ea_upS, ea_upK, pa_setR, pa_cpR, fr_X3_add, fr_X5_forget, fr_X5_become, fr_X4_clear, fr_X4_addStuff, fr_X4_become_d, fr_X4_become_s, fr_X0_enter, fr_X0_remove] : (ea_up (ea_up (ea_up M 63 (M 61 1).toNatClampNeg (M 76 0)) 64 (M 61 1).toNatClampNeg (M 76 1)) 66 (M 61 1).toNatClampNeg (M 75 (M 61 1).toNatClampNeg)) 61 1 = (M 61 1))) dX7_does_125 ?_
    refine e_imul C dX7_does_128 ?_
    refine e_istore_n C dX7_does_129 rfl (by decide) rfl ?_
    refine e_perm C [1, 0] rfl ?_
    exact (h14 c1 c7)
  by_cases c15 : w = 2
  · refine e_tabIn (tgt := 175) (off := 174) C dX7_does_1 (by rw [c15]; decide) (by rw [c15]; decide) (by rw [c15]; decide) (by decide) ?_
    refine e_iconst (v := 0) C dX7_does_175 (by decide) ?_
    refine e_istore_n C dX7_does_176 rfl (by decide) rfl ?_
    refine e_perm C [1, 0] rfl ?_
    exact (h16 c1 c7 c15)
  by_cases c17 : w = 3
  · refine e_tabIn (tgt := 233) (off := 232) C dX7_does_1 (by rw [c17]; decide) (by rw [c17]; decide) (by rw [c17]; decide) (by decide) ?_
    refine e_aload_n (n := 0) C dX7_does_233 rfl rfl ?_
    refine e_get (v := .ref 62) C fd_X7_7 (by decide) rfl rfl dX7_does_234 ?_
    refine e_bipush (v := 10) C dX7_does_237 (by decide) ?_
    refine e_aload_n (n := 0) C dX7_does_239 rfl rfl ?_
    refine e_get (v := .ref 76) C fd_X7_53 (by decide) rfl rfl dX7_does_240 ?_
    refine e_iconst (v := 0) C dX7_does_243 (by decide) ?_
    refine e_iald (n := 3) C (by decide) rfl (by decide) (vp_in_nI (n := 0) (N := 3) (by decide) (by decide)) dX7_does_244 ?_
    refine e_iast (n := 192) C (by decide) rfl (by decide) (vp_in_nI (n := 10) (N := 192) (by decide) (by decide)) dX7_does_245 ?_
    refine e_aload_n (n := 0) C dX7_does_246 rfl rfl ?_
    refine e_get (v := .ref 62) C fd_X7_7 (by decide) rfl rfl dX7_does_247 ?_
    refine e_bipush (v := 11) C dX7_does_250 (by decide) ?_
    refine e_aload_n (n := 0) C dX7_does_252 rfl rfl ?_
    refine e_get (v := .ref 76) C fd_X7_53 (by decide) rfl rfl dX7_does_253 ?_
    refine e_iconst (v := 1) C dX7_does_256 (by decide) ?_
    refine e_ialdV (n := 3) (r := M 76) (by simp [ea_upR, ea_upS, ea_upK, pa_setR, pa_cpR, fr_X3_add, fr_X5_forget, fr_X5_become, fr_X4_clear, fr_X4_addStuff, fr_X4_become_d, fr_X4_become_s, fr_X0_enter, fr_X0_remove]) C (by decide) rfl (by decide) (vp_in_nI (n := 1) (N := 3) (by decide) (by decide)) dX7_does_257 ?_
    refine e_iast (n := 192) C (by decide) rfl (by decide) (vp_in_nI (n := 11) (N := 192) (by decide) (by decide)) dX7_does_258 ?_
    refine e_goto (tgt := 281) C dX7_does_259 (by decide) ?_
    exact e_vret C X dX7_does_281 (h22 c1 c7 c15 c17)
  refine e_tabOut (tgt := 262) C dX7_does_1 (ea_tab3 c1 c7 c15 c17) (by decide) ?_
  refine e_aload_n (n := 0) C dX7_does_262 rfl rfl ?_
  refine e_get (v := .ref 62) C fd_X7_7 (by decide) rfl rfl dX7_does_263 ?_
  refine e_iconst (v := 0) C dX7_does_266 (by decide) ?_
  refine e_aload_n (n := 0) C dX7_does_267 rfl rfl ?_
  refine e_get (v := .ref 76) C fd_X7_53 (by decide) rfl rfl dX7_does_268 ?_
  refine e_iconst (v := 0) C dX7_does_271 (by decide) ?_
  refine e_iald (n := 3) C (by decide) rfl (by decide) (vp_in_nI (n := 0) (N := 3) (by decide) (by decide)) dX7_does_272 ?_
  refine e_iadd C dX7_does_273 ?_
  refine e_aload_n (n := 0) C dX7_does_274 rfl rfl ?_
  refine e_get (v := .ref 76) C fd_X7_53 (by decide) rfl rfl dX7_does_275 ?_
  refine e_iconst (v := 1) C dX7_does_278 (by decide) ?_
  refine e_iald (n := 3) C (by decide) rfl (by decide) (vp_in_nI (n := 1) (N := 3) (by decide) (by decide)) dX7_does_279 ?_
  refine e_iast (n := 192) C (by decide) rfl (by decide) (s25 c1 c7 c15 c17) dX7_does_280 ?_
  exact e_vret C X dX7_does_281 (h26 c1 c7 c15 c17)
set_option maxRecDepth 100000 in
set_option maxHeartbeats 4000000 in
theorem km_does_130 {k : ea_K} {o : Option Value} {M' : ea_M} (C : ea_C k RX7 cX7_does 3 0) (X : ea_X k none o M') {M : ea_M} {j : Int32}   (h2 : (((7 : Int32) * (M 61 1)) + (7 : Int32)) ≤ j → o = none ∧ M' = (ea_up M 61 1 ((M 61 1) + (1 : Int32)))) (s3 : ¬ (((7 : Int32) * (M 61 1)) + (7 : Int32)) ≤ j → vp_in j 42) (s4 : ¬ (((7 : Int32) * (M 61 1)) + (7 : Int32)) ≤ j → vp_in j 42) (h5 : ¬ (((7 : Int32) * (M 61 1)) + (7 : Int32)) ≤ j → ea_E k 130 [(0, .ref 61), (2, .int (j + 1))] [] (ea_up M 65 j.toNatClampNeg (M 74 j.toNatClampNeg))) : ea_E k 130 [(0, .ref 61), (2, .int j)] [] M := by
  refine e_iload_n (n := 1) C dX7_does_130 rfl rfl ?_
  refine e_bipush (v := 7) C dX7_does_131 (by decide) ?_
  refine e_aload_n (n := 0) C dX7_does_133 rfl rfl ?_
  refine e_get (v := .int (M 61 1)) C fd_X7_123 (by decide) rfl rfl dX7_does_134 ?_
  refine e_imul C dX7_does_137 ?_
  refine e_bipush (v := 7) C dX7_does_138 (by decide) ?_
  refine e_iadd C dX7_does_140 ?_
  refine e_icmp_ge (tgt := 162) C dX7_does_141 (by decide) (fun c1 => ?_) (fun c1 => ?_)
  · refine e_aload_n (n := 0) C dX7_does_162 rfl rfl ?_
    refine e_dup C dX7_does_163 rfl ?_
    refine e_get (v := .int (M 61 1)) C fd_X7_123 (by decide) rfl rfl dX7_does_164 ?_
    refine e_iconst (v := 1) C dX7_does_167 (by decide) ?_
    refine e_iadd C dX7_does_168 ?_
    refine e_put (ty := .int) C fd_X7_123 (by decide) rfl rfl (by decide +kernel) (vp_nar_int _) rfl (ea_set7_1 _ _ _) dX7_does_169 ?_
    refine e_goto (tgt := 281) C dX7_does_172 (by decide) ?_
    exact e_vret C X dX7_does_281 (h2 c1)
  · refine e_aload_n (n := 0) C dX7_does_144 rfl rfl ?_
    refine e_get (v := .ref 65) C fd_X7_19 (by decide) rfl rfl dX7_does_145 ?_
    refine e_iload_n (n := 1) C dX7_does_148 rfl rfl ?_
    refine e_aload_n (n := 0) C dX7_does_149 rfl rfl ?_
    refine e_get (v := .ref 74) C fd_X7_47 (by decide) rfl rfl dX7_does_150 ?_
    refine e_iload_n (n := 1) C dX7_does_153 rfl rfl ?_
    refine e_iald (n := 42) C (by decide) rfl (by decide) (s3 c1) dX7_does_154 ?_
    refine e_iast (n := 42) C (by decide) rfl (by decide) (s4 c1) dX7_does_155 ?_
    refine e_iinc (n := 1) (v := (j + 1)) C dX7_does_156 rfl rfl (by decide) rfl ?_
    refine e_goto (tgt := 130) C dX7_does_159 (by decide) ?_
    refine e_perm C [1, 0] rfl ?_
    exact (h5 c1)
set_option maxRecDepth 100000 in
set_option maxHeartbeats 4000000 in
theorem km_does_177 {k : ea_K} {o : Option Value} {M' : ea_M} (C : ea_C k RX7 cX7_does 3 0) (X : ea_X k none o M') {M : ea_M} {j : Int32}   (h3 : (M 76 1) ≤ j → o = none ∧ M' = M) (s5 : ¬ (M 76 1) ≤ j → vp_in (M 61 6) 10) (s6 : ¬ (M 76 1) ≤ j → vp_in ((0 : Int32) + (M 61 6)) 192) (h7 : ¬ (M 76 1) ≤ j → ea_E k 177 [(0, .ref 61), (2, .int (j + 1))] [] (ea_up (ea_up (ea_up M 67 (M 61 6).toNatClampNeg (M 76 0)) 62 ((0 : Int32) + (M 61 6)).toNatClampNeg (0 : Int32)) 61 6 ((M 61 6) + (1 : Int32)))) : ea_E k 177 [(0, .ref 61), (2, .int j)] [] M := by
  refine e_iload_n (n := 1) C dX7_does_177 rfl rfl ?_
  refine e_aload_n (n := 0) C dX7_does_178 rfl rfl ?_
  refine e_get (v := .ref 76) C fd_X7_53 (by decide) rfl rfl dX7_does_179 ?_
  refine e_iconst (v := 1) C dX7_does_182 (by decide) ?_
  refine e_iald (n := 3) C (by decide) rfl (by decide) (vp_in_nI (n := 1) (N := 3) (by decide) (by decide)) dX7_does_183 ?_
  refine e_icmp_ge (tgt := 230) C dX7_does_184 (by decide) (fun c2 => ?_) (fun c2 => ?_)
  · refine e_goto (tgt := 281) C dX7_does_230 (by decide) ?_
    exact e_vret C X dX7_does_281 (h3 c2)
  · refine e_aload_n (n := 0) C dX7_does_187 rfl rfl ?_
    refine e_get (v := .ref 67) C fd_X7_25 (by decide) rfl rfl dX7_does_188 ?_
    refine e_aload_n (n := 0) C dX7_does_191 rfl rfl ?_
    refine e_get (v := .int (M 61 6)) C fd_X7_126 (by decide) rfl rfl dX7_does_192 ?_
    refine e_aload_n (n := 0) C dX7_does_195 rfl rfl ?_
    refine e_get (v := .ref 76) C fd_X7_53 (by decide) rfl rfl dX7_does_196 ?_
    refine e_iconst (v := 0) C dX7_does_199 (by decide) ?_
    refine e_iald (n := 3) C (by decide) rfl (by decide) (vp_in_nI (n := 0) (N := 3) (by decide) (by decide)) dX7_does_200 ?_
    refine e_iast (n := 10) C (by decide) rfl (by decide) (s5 c2) dX7_does_201 ?_
    refine e_aload_n (n := 0) C dX7_does_202 rfl rfl ?_
    refine e_get (v := .ref 62) C fd_X7_7 (by decide) rfl rfl dX7_does_203 ?_
    refine e_iconst (v := 0) C dX7_does_206 (by decide) ?_
    refine e_aload_n (n := 0) C dX7_does_207 rfl rfl ?_
    refine e_get (v := .int (M 61 6)) C fd_X7_126 (by decide) rfl (congrArg (fun z => some (Value.int z)) (by simp [ea_upR, ea_upS, ea_upK, pa_setR, pa_cpR, fr_X3_add, fr_X5_forget, fr_X5_become, fr_X4_clear, fr_X4_addStuff, fr_X4_become_d, fr_X4_become_s, fr_X0_enter, fr_X0_remove] : (ea_up M 67 (M 61 6).toNatClampNeg (M 76 0)) 61 6 = (M 61 6))) dX7_does_208 ?_
    refine e_iadd C dX7_does_211 ?_
    refine e_iconst (v := 0) C dX7_does_212 (by decide) ?_
    refine e_iast (n := 192) C (by decide) rfl (by decide) (s6 c2) dX7_does_213 ?_
    refine e_aload_n (n := 0) C dX7_does_214 rfl rfl ?_
    refine e_dup C dX7_does_215 rfl ?_
    refine e_get (v := .int (M 61 6)) C fd_X7_126 (by decide) rfl (congrArg (fun z => some (Value.int z)) (by simp [ea_upR, ea_upS, ea_upK, pa_setR, pa_cpR, fr_X3_add, fr_X5_forget, fr_X5_become, fr_X4_clear, fr_X4_addStuff, fr_X4_become_d, fr_X4_become_s, fr_X0_enter, fr_X0_remove] : (ea_up (ea_up M 67 (M 61 6).toNatClampNeg (M 76 0)) 62 ((0 : Int32) + (M 61 6)).toNatClampNeg (0 : Int32)) 61 6 = (M 61 6))) dX7_does_216 ?_
    refine e_iconst (v := 1) C dX7_does_219 (by decide) ?_
    refine e_iadd C dX7_does_220 ?_
    refine e_put (ty := .int) C fd_X7_126 (by decide) rfl rfl (by decide +kernel) (vp_nar_int _) rfl (ea_set7_6 _ _ _) dX7_does_221 ?_
    refine e_iinc (n := 1) (v := (j + 1)) C dX7_does_224 rfl rfl (by decide) rfl ?_
    refine e_goto (tgt := 177) C dX7_does_227 (by decide) ?_
    refine e_perm C [1, 0] rfl ?_
    exact (h7 c2)
set_option maxRecDepth 100000 in
set_option maxHeartbeats 4000000 in
theorem km_reads {k : ea_K} {o : Option Value} {M' : ea_M} (C : ea_C k RX7 cX7_reads 3 6) (X : ea_X k (some .boolean) o M') {M : ea_M} {dd : Int32} {M1 M2 M3 : ea_M} {r3 : Int32}   (b1 : dd = 0 ∨ dd = 1) (q2 : ea_Sp 0 yX7_layTold cX7_layTold 2 none [.ref 61] (ea_up (ea_up (ea_up M 61 23 dd) 61 17 (0 : Int32)) 61 22 (1 : Int32)) none M1) (q3 : ea_Sp 2 yX7_nextToken cX7_nextToken 1 none [.ref 61] M1 none M2) (q4 : ea_Sp 5 yX7_readsClause cX7_readsClause 2 (some .boolean) [.ref 61] M2 (some (.int r3)) M3) (h5 : ea_E k 28 [(0, .ref 61), (2, .int r3)] [] M3) : ea_E k 0 [(0, .ref 61), (1, .int dd)] [] M := by
  refine e_aload_n (n := 0) C dX7_reads_0 rfl rfl ?_
  refine e_iload_n (n := 1) C dX7_reads_1 rfl rfl ?_
  refine e_put (ty := .boolean) C fd_X7_135 (by decide) rfl rfl (by decide +kernel) (ea_nz b1) (ea_fz b1) (ea_set7_23 _ _ _) dX7_reads_2 ?_
  refine e_aload_n (n := 0) C dX7_reads_5 rfl rfl ?_
  refine e_iconst (v := 0) C dX7_reads_6 (by decide) ?_
  refine e_put (ty := .int) C fd_X7_82 (by decide) rfl rfl (by decide +kernel) (vp_nar_int _) rfl (ea_set7_17 _ _ _) dX7_reads_7 ?_
  refine e_aload_n (n := 0) C dX7_reads_10 rfl rfl ?_
  refine e_iconst (v := 1) C dX7_reads_11 (by decide) ?_
  refine e_put (ty := .int) C fd_X7_143 (by decide) rfl rfl (by decide +kernel) (vp_nar_int _) rfl (ea_set7_22 _ _ _) dX7_reads_12 ?_
  refine e_aload_n (n := 0) C dX7_reads_15 rfl rfl ?_
  refine e_callV0 (as := []) (rest := []) C lk_X7_146 q2 (by decide) rfl (by decide) rfl (by decide) rfl rfl (Nat.le_of_ble_eq_true rfl) dX7_reads_16 ?_
  refine e_aload_n (n := 0) C dX7_reads_19 rfl rfl ?_
  refine e_callV0 (as := []) (rest := []) C lk_X7_95 q3 (by decide) rfl (by decide) rfl (by decide) rfl rfl (Nat.le_of_ble_eq_true rfl) dX7_reads_20 ?_
  refine e_aload_n (n := 0) C dX7_reads_23 rfl rfl ?_
  refine e_callV1 (as := []) (rest := []) C lk_X7_149 q4 (by decide) rfl (by decide) rfl (by decide) rfl rfl (Nat.le_of_ble_eq_true rfl) dX7_reads_24 ?_
  refine e_istore_n C dX7_reads_27 rfl (by decide) rfl ?_
  refine e_perm C [1, 0] rfl ?_
  exact h5
set_option maxRecDepth 100000 in
set_option maxHeartbeats 4000000 in
theorem km_reads_28 {k : ea_K} {o : Option Value} {M' : ea_M} (C : ea_C k RX7 cX7_reads 3 6) (X : ea_X k (some .boolean) o M') {M : ea_M} {is : Int32} {M1 M2 M3 M4 M5 M6 : ea_M} {r2 r4 r6 : Int32}   (h2 : is = 0 → o = some (.int is) ∧ M' = M) (b3 : is = 0 → is = 0 ∨ is = 1) (h5 : ¬ is = 0 → (M 61 11) ≤ (M 61 16) → o = some (.int is) ∧ M' = M) (b6 : ¬ is = 0 → (M 61 11) ≤ (M 61 16) → is = 0 ∨ is = 1) (h9 : ¬ is = 0 → ¬ (M 61 11) ≤ (M 61 16) → (24 : Int32) ≤ (M 61 22) → (0 : Int32) = 0 → ea_E k 28 [(0, .ref 61), (2, .int (0 : Int32))] [] M) (q10 : ¬ is = 0 → ¬ (M 61 11) ≤ (M 61 16) → (24 : Int32) ≤ (M 61 22) → ¬ (0 : Int32) = 0 → ea_Sp 2 yX7_nextToken cX7_nextToken 1 none [.ref 61] M none M1) (q11 : ¬ is = 0 → ¬ (M 61 11) ≤ (M 61 16) → (24 : Int32) ≤ (M 61 22) → ¬ (0 : Int32) = 0 → ea_Sp 5 yX7_readsClause cX7_readsClause 2 (some .boolean) [.ref 61] M1 (some (.int r2)) M2) (h12 : ¬ is = 0 → ¬ (M 61 11) ≤ (M 61 16) → (24 : Int32) ≤ (M 61 22) → ¬ (0 : Int32) = 0 → ea_E k 28 [(0, .ref 61), (2, .int r2)] [] (ea_up M2 61 22 ((M2 61 22) + (1 : Int32)))) (s13 : ¬ is = 0 → ¬ (M 61 11) ≤ (M 61 16) → ¬ (24 : Int32) ≤ (M 61 22) → vp_in (M 61 16) 200) (h16 : ¬ is = 0 → ¬ (M 61 11) ≤ (M 61 16) → ¬ (24 : Int32) ≤ (M 61 22) → ¬ (M 69 (M 61 16).toNatClampNeg) = (59 : Int32) → (0 : Int32) = 0 → ea_E k 28 [(0, .ref 61), (2, .int (0 : Int32))] [] M) (q17 : ¬ is = 0 → ¬ (M 61 11) ≤ (M 61 16) → ¬ (24 : Int32) ≤ (M 61 22) → ¬ (M 69 (M 61 16).toNatClampNeg) = (59 : Int32) → ¬ (0 : Int32) = 0 → ea_Sp 2 yX7_nextToken cX7_nextToken 1 none [.ref 61] M none M3) (q18 : ¬ is = 0 → ¬ (M 61 11) ≤ (M 61 16) → ¬ (24 : Int32) ≤ (M 61 22) → ¬ (M 69 (M 61 16).toNatClampNeg) = (59 : Int32) → ¬ (0 : Int32) = 0 → ea_Sp 5 yX7_readsClause cX7_readsClause 2 (some .boolean) [.ref 61] M3 (some (.int r4)) M4) (h19 : ¬ is = 0 → ¬ (M 61 11) ≤ (M 61 16) → ¬ (24 : Int32) ≤ (M 61 22) → ¬ (M 69 (M 61 16).toNatClampNeg) = (59 : Int32) → ¬ (0 : Int32) = 0 → ea_E k 28 [(0, .ref 61), (2, .int r4)] [] (ea_up M4 61 22 ((M4 61 22) + (1 : Int32)))) (h21 : ¬ is = 0 → ¬ (M 61 11) ≤ (M 61 16) → ¬ (24 : Int32) ≤ (M 61 22) → (M 69 (M 61 16).toNatClampNeg) = (59 : Int32) → (1 : Int32) = 0 → ea_E k 28 [(0, .ref 61), (2, .int (1 : Int32))] [] M) (q22 : ¬ is = 0 → ¬ (M 61 11) ≤ (M 61 16) → ¬ (24 : Int32) ≤ (M 61 22) → (M 69 (M 61 16).toNatClampNeg) = (59 : Int32) → ¬ (1 : Int32) = 0 → ea_Sp 2 yX7_nextToken cX7_nextToken 1 none [.ref 61] M none M5) (q23 : ¬ is = 0 → ¬ (M 61 11) ≤ (M 61 16) → ¬ (24 : Int32) ≤ (M 61 22) → (M 69 (M 61 16).toNatClampNeg) = (59 : Int32) → ¬ (1 : Int32) = 0 → ea_Sp 5 yX7_readsClause cX7_readsClause 2 (some .boolean) [.ref 61] M5 (some (.int r6)) M6) (h24 : ¬ is = 0 → ¬ (M 61 11) ≤ (M 61 16) → ¬ (24 : Int32) ≤ (M 61 22) → (M 69 (M 61 16).toNatClampNeg) = (59 : Int32) → ¬ (1 : Int32) = 0 → ea_E k 28 [(0, .ref 61), (2, .int r6)] [] (ea_up M6 61 22 ((M6 61 22) + (1 : Int32)))) : ea_E k 28 [(0, .ref 61), (2, .int is)] [] M := by
  refine e_iload_n (n := 1) C dX7_reads_28 rfl rfl ?_
  refine e_if_eq (tgt := 98) C dX7_reads_29 (by decide) (fun c1 => ?_) (fun c1 => ?_)
  · refine e_iload_n (n := 1) C dX7_reads_98 rfl rfl ?_
    exact e_iret C X rfl (ea_nz (b3 c1)) dX7_reads_99 (h2 c1)
  · refine e_aload_n (n := 0) C dX7_reads_32 rfl rfl ?_
    refine e_get (v := .int (M 61 16)) C fd_X7_85 (by decide) rfl rfl dX7_reads_33 ?_
    refine e_aload_n (n := 0) C dX7_reads_36 rfl rfl ?_
    refine e_get (v := .int (M 61 11)) C fd_X7_69 (by decide) rfl rfl dX7_reads_37 ?_
    refine e_icmp_ge (tgt := 98) C dX7_reads_40 (by decide) (fun c4 => ?_) (fun c4 => ?_)
    · refine e_iload_n (n := 1) C dX7_reads_98 rfl rfl ?_
      exact e_iret C X rfl (ea_nz (b6 c1 c4)) dX7_reads_99 (h5 c1 c4)
    · refine e_aload_n (n := 0) C dX7_reads_43 rfl rfl ?_
      refine e_get (v := .int (M 61 22)) C fd_X7_143 (by decide) rfl rfl dX7_reads_44 ?_
      refine e_bipush (v := 24) C dX7_reads_47 (by decide) ?_
      refine e_icmp_ge (tgt := 70) C dX7_reads_49 (by decide) (fun c7 => ?_) (fun c7 => ?_)
      · refine e_iconst (v := 0) C dX7_reads_70 (by decide) ?_
        refine e_istore_n C dX7_reads_71 rfl (by decide) rfl ?_
        refine e_iload_n (n := 0) C dX7_reads_72 rfl rfl ?_
        refine e_if_eq (tgt := 28) C dX7_reads_73 (by decide) (fun c8 => ?_) (fun c8 => ?_)
        · refine e_perm C [1, 0] rfl ?_
          exact (h9 c1 c4 c7 c8)
        · refine e_aload_n (n := 1) C dX7_reads_76 rfl rfl ?_
          refine e_callV0 (as := []) (rest := []) C lk_X7_95 (q10 c1 c4 c7 c8) (by decide) rfl (by decide) rfl (by decide) rfl rfl (Nat.le_of_ble_eq_true rfl) dX7_reads_77 ?_
          refine e_aload_n (n := 1) C dX7_reads_80 rfl rfl ?_
          refine e_callV1 (as := []) (rest := []) C lk_X7_149 (q11 c1 c4 c7 c8) (by decide) rfl (by decide) rfl (by decide) rfl rfl (Nat.le_of_ble_eq_true rfl) dX7_reads_81 ?_
          refine e_istore_n C dX7_reads_84 rfl (by decide) rfl ?_
          refine e_aload_n (n := 1) C dX7_reads_85 rfl rfl ?_
          refine e_dup C dX7_reads_86 rfl ?_
          refine e_get (v := .int (M2 61 22)) C fd_X7_143 (by decide) rfl rfl dX7_reads_87 ?_
          refine e_iconst (v := 1) C dX7_reads_90 (by decide) ?_
          refine e_iadd C dX7_reads_91 ?_
          refine e_put (ty := .int) C fd_X7_143 (by decide) rfl rfl (by decide +kernel) (vp_nar_int _) rfl (ea_set7_22 _ _ _) dX7_reads_92 ?_
          refine e_goto (tgt := 28) C dX7_reads_95 (by decide) ?_
          refine e_perm C [1, 0] rfl ?_
          exact (h12 c1 c4 c7 c8)
      · refine e_aload_n (n := 0) C dX7_reads_52 rfl rfl ?_
        refine e_get (v := .ref 69) C fd_X7_32 (by decide) rfl rfl dX7_reads_53 ?_
        refine e_aload_n (n := 0) C dX7_reads_56 rfl rfl ?_
        refine e_get (v := .int (M 61 16)) C fd_X7_85 (by decide) rfl rfl dX7_reads_57 ?_
        refine e_iald (n := 200) C (by decide) rfl (by decide) (s13 c1 c4 c7) dX7_reads_60 ?_
        refine e_bipush (v := 59) C dX7_reads_61 (by decide) ?_
        refine e_icmp_ne (tgt := 70) C dX7_reads_63 (by decide) (fun c14 => ?_) (fun c14 => ?_)
        · refine e_iconst (v := 0) C dX7_reads_70 (by decide) ?_
          refine e_istore_n C dX7_reads_71 rfl (by decide) rfl ?_
          refine e_iload_n (n := 0) C dX7_reads_72 rfl rfl ?_
          refine e_if_eq (tgt := 28) C dX7_reads_73 (by decide) (fun c15 => ?_) (fun c15 => ?_)
          · refine e_perm C [1, 0] rfl ?_
            exact (h16 c1 c4 c7 c14 c15)
          · refine e_aload_n (n := 1) C dX7_reads_76 rfl rfl ?_
            refine e_callV0 (as := []) (rest := []) C lk_X7_95 (q17 c1 c4 c7 c14 c15) (by decide) rfl (by decide) rfl (by decide) rfl rfl (Nat.le_of_ble_eq_true rfl) dX7_reads_77 ?_
            refine e_aload_n (n := 1) C dX7_reads_80 rfl rfl ?_
            refine e_callV1 (as := []) (rest := []) C lk_X7_149 (q18 c1 c4 c7 c14 c15) (by decide) rfl (by decide) rfl (by decide) rfl rfl (Nat.le_of_ble_eq_true rfl) dX7_reads_81 ?_
            refine e_istore_n C dX7_reads_84 rfl (by decide) rfl ?_
            refine e_aload_n (n := 1) C dX7_reads_85 rfl rfl ?_
            refine e_dup C dX7_reads_86 rfl ?_
            refine e_get (v := .int (M4 61 22)) C fd_X7_143 (by decide) rfl rfl dX7_reads_87 ?_
            refine e_iconst (v := 1) C dX7_reads_90 (by decide) ?_
            refine e_iadd C dX7_reads_91 ?_
            refine e_put (ty := .int) C fd_X7_143 (by decide) rfl rfl (by decide +kernel) (vp_nar_int _) rfl (ea_set7_22 _ _ _) dX7_reads_92 ?_
            refine e_goto (tgt := 28) C dX7_reads_95 (by decide) ?_
            refine e_perm C [1, 0] rfl ?_
            exact (h19 c1 c4 c7 c14 c15)
        · refine e_iconst (v := 1) C dX7_reads_66 (by decide) ?_
          refine e_goto (tgt := 71) C dX7_reads_67 (by decide) ?_
          refine e_istore_n C dX7_reads_71 rfl (by decide) rfl ?_
          refine e_iload_n (n := 0) C dX7_reads_72 rfl rfl ?_
          refine e_if_eq (tgt := 28) C dX7_reads_73 (by decide) (fun c20 => ?_) (fun c20 => ?_)
          · refine e_perm C [1, 0] rfl ?_
            exact (h21 c1 c4 c7 c14 c20)
          · refine e_aload_n (n := 1) C dX7_reads_76 rfl rfl ?_
            refine e_callV0 (as := []) (rest := []) C lk_X7_95 (q22 c1 c4 c7 c14 c20) (by decide) rfl (by decide) rfl (by decide) rfl rfl (Nat.le_of_ble_eq_true rfl) dX7_reads_77 ?_
            refine e_aload_n (n := 1) C dX7_reads_80 rfl rfl ?_
            refine e_callV1 (as := []) (rest := []) C lk_X7_149 (q23 c1 c4 c7 c14 c20) (by decide) rfl (by decide) rfl (by decide) rfl rfl (Nat.le_of_ble_eq_true rfl) dX7_reads_81 ?_
            refine e_istore_n C dX7_reads_84 rfl (by decide) rfl ?_
            refine e_aload_n (n := 1) C dX7_reads_85 rfl rfl ?_
            refine e_dup C dX7_reads_86 rfl ?_
            refine e_get (v := .int (M6 61 22)) C fd_X7_143 (by decide) rfl rfl dX7_reads_87 ?_
            refine e_iconst (v := 1) C dX7_reads_90 (by decide) ?_
            refine e_iadd C dX7_reads_91 ?_
            refine e_put (ty := .int) C fd_X7_143 (by decide) rfl rfl (by decide +kernel) (vp_nar_int _) rfl (ea_set7_22 _ _ _) dX7_reads_92 ?_
            refine e_goto (tgt := 28) C dX7_reads_95 (by decide) ?_
            refine e_perm C [1, 0] rfl ?_
            exact (h24 c1 c4 c7 c14 c20)
set_option maxRecDepth 100000 in
set_option maxHeartbeats 4000000 in
theorem km_wall {k : ea_K} {o : Option Value} {M' : ea_M} (C : ea_C k RX7 cX7_wall 2 7) (X : ea_X k (some .int) o M') {M : ea_M} {M1 M2 : ea_M} {r1 r2 : Int32}   (q1 : ea_Sp 6 yX7_reads cX7_reads 3 (some .boolean) [.ref 61, .int (0 : Int32)] M (some (.int r1)) M1) (q3 : ¬ r1 = 0 → ea_Sp 6 yX7_reads cX7_reads 3 (some .boolean) [.ref 61, .int (1 : Int32)] M1 (some (.int r2)) M2) (h9 : ¬ r1 = 0 → ea_E k 67 [(0, .ref 61), (1, .int (0 : Int32))] [] (ea_up (ea_up (ea_up (ea_up (ea_up (ea_up (ea_up M2 62 13 (0 : Int32)) 62 14 (0 : Int32)) 62 15 (0 : Int32)) 61 11 (0 : Int32)) 61 8 (0 : Int32)) 68 0 (0 : Int32)) 68 1 (0 : Int32))) (h10 : r1 = 0 → o = some (.int (-2000000003 : Int32)) ∧ M' = M1) : ea_E k 0 [(0, .ref 61)] [] M := by
  refine e_aload_n (n := 0) C dX7_wall_0 rfl rfl ?_
  refine e_iconst (v := 0) C dX7_wall_1 (by decide) ?_
  refine e_callV1 (as := [.int (0 : Int32)]) (rest := []) C lk_X7_152 q1 (by decide) rfl (by decide) rfl (by decide) rfl rfl (Nat.le_of_ble_eq_true rfl) dX7_wall_2 ?_
  refine e_if_ne (tgt := 11) C dX7_wall_5 (by decide) (fun c2 => ?_) (fun c2 => ?_)
  · refine e_aload_n (n := 0) C dX7_wall_11 rfl rfl ?_
    refine e_iconst (v := 1) C dX7_wall_12 (by decide) ?_
    refine e_callV1 (as := [.int (1 : Int32)]) (rest := []) C lk_X7_152 (q3 c2) (by decide) rfl (by decide) rfl (by decide) rfl rfl (Nat.le_of_ble_eq_true rfl) dX7_wall_13 ?_
    refine e_pop C dX7_wall_16 rfl ?_
    refine e_aload_n (n := 0) C dX7_wall_17 rfl rfl ?_
    refine e_get (v := .ref 62) C fd_X7_7 (by decide) rfl rfl dX7_wall_18 ?_
    refine e_bipush (v := 13) C dX7_wall_21 (by decide) ?_
    refine e_iconst (v := 0) C dX7_wall_23 (by decide) ?_
    refine e_iast (n := 192) C (by decide) rfl (by decide) (vp_in_nI (n := 13) (N := 192) (by decide) (by decide)) dX7_wall_24 ?_
    refine e_aload_n (n := 0) C dX7_wall_25 rfl rfl ?_
    refine e_get (v := .ref 62) C fd_X7_7 (by decide) rfl rfl dX7_wall_26 ?_
    refine e_bipush (v := 14) C dX7_wall_29 (by decide) ?_
    refine e_iconst (v := 0) C dX7_wall_31 (by decide) ?_
    refine e_iast (n := 192) C (by decide) rfl (by decide) (vp_in_nI (n := 14) (N := 192) (by decide) (by decide)) dX7_wall_32 ?_
    refine e_aload_n (n := 0) C dX7_wall_33 rfl rfl ?_
    refine e_get (v := .ref 62) C fd_X7_7 (by decide) rfl rfl dX7_wall_34 ?_
    refine e_bipush (v := 15) C dX7_wall_37 (by decide) ?_
    refine e_iconst (v := 0) C dX7_wall_39 (by decide) ?_
    refine e_iast (n := 192) C (by decide) rfl (by decide) (vp_in_nI (n := 15) (N := 192) (by decide) (by decide)) dX7_wall_40 ?_
    refine e_aload_n (n := 0) C dX7_wall_41 rfl rfl ?_
    refine e_iconst (v := 0) C dX7_wall_42 (by decide) ?_
    refine e_put (ty := .int) C fd_X7_69 (by decide) rfl rfl (by decide +kernel) (vp_nar_int _) rfl (ea_set7_11 _ _ _) dX7_wall_43 ?_
    refine e_aload_n (n := 0) C dX7_wall_46 rfl rfl ?_
    refine e_iconst (v := 0) C dX7_wall_47 (by decide) ?_
    refine e_put (ty := .int) C fd_X7_157 (by decide) rfl rfl (by decide +kernel) (vp_nar_int _) rfl (ea_set7_8 _ _ _) dX7_wall_48 ?_
    refine e_aload_n (n := 0) C dX7_wall_51 rfl rfl ?_
    refine e_get (v := .ref 68) C fd_X7_28 (by decide) rfl rfl dX7_wall_52 ?_
    refine e_iconst (v := 0) C dX7_wall_55 (by decide) ?_
    refine e_iconst (v := 0) C dX7_wall_56 (by decide) ?_
    refine e_zast (n := 2) C (by decide) rfl (by decide) (vp_in_nI (n := 0) (N := 2) (by decide) (by decide)) rfl dX7_wall_57 ?_
    refine e_aload_n (n := 0) C dX7_wall_58 rfl rfl ?_
    refine e_get (v := .ref 68) C fd_X7_28 (by decide) rfl rfl dX7_wall_59 ?_
    refine e_iconst (v := 1) C dX7_wall_62 (by decide) ?_
    refine e_iconst (v := 0) C dX7_wall_63 (by decide) ?_
    refine e_zast (n := 2) C (by decide) rfl (by decide) (vp_in_nI (n := 1) (N := 2) (by decide) (by decide)) rfl dX7_wall_64 ?_
    refine e_iconst (v := 0) C dX7_wall_65 (by decide) ?_
    refine e_istore_n C dX7_wall_66 rfl (by decide) rfl ?_
    refine e_perm C [1, 0] rfl ?_
    exact (h9 c2)
  · refine e_ldc C kc_X7_156 dX7_wall_8 ?_
    exact e_iret C X rfl (vp_nar_int _) dX7_wall_10 (h10 c2)
set_option maxRecDepth 100000 in
set_option maxHeartbeats 4000000 in
theorem km_wall_67 {k : ea_K} {o : Option Value} {M' : ea_M} (C : ea_C k RX7 cX7_wall 2 7) (X : ea_X k (some .int) o M') {M : ea_M} {j : Int32}   (h2 : (3 : Int32) ≤ j → o = some (.int (M 61 22)) ∧ M' = M) (s3 : ¬ (3 : Int32) ≤ j → vp_in j 3) (h4 : ¬ (3 : Int32) ≤ j → ea_E k 67 [(0, .ref 61), (1, .int (j + 1))] [] (ea_up M 70 j.toNatClampNeg (-1 : Int32))) : ea_E k 67 [(0, .ref 61), (1, .int j)] [] M := by
  refine e_iload_n (n := 1) C dX7_wall_67 rfl rfl ?_
  refine e_iconst (v := 3) C dX7_wall_68 (by decide) ?_
  refine e_icmp_ge (tgt := 85) C dX7_wall_69 (by decide) (fun c1 => ?_) (fun c1 => ?_)
  · refine e_aload_n (n := 0) C dX7_wall_85 rfl rfl ?_
    refine e_get (v := .int (M 61 22)) C fd_X7_143 (by decide) rfl rfl dX7_wall_86 ?_
    exact e_iret C X rfl (vp_nar_int _) dX7_wall_89 (h2 c1)
  · refine e_aload_n (n := 0) C dX7_wall_72 rfl rfl ?_
    refine e_get (v := .ref 70) C fd_X7_35 (by decide) rfl rfl dX7_wall_73 ?_
    refine e_iload_n (n := 1) C dX7_wall_76 rfl rfl ?_
    refine e_iconst (v := -1) C dX7_wall_77 (by decide) ?_
    refine e_iast (n := 3) C (by decide) rfl (by decide) (s3 c1) dX7_wall_78 ?_
    refine e_iinc (n := 1) (v := (j + 1)) C dX7_wall_79 rfl rfl (by decide) rfl ?_
    refine e_goto (tgt := 67) C dX7_wall_82 (by decide) ?_
    refine e_perm C [1, 0] rfl ?_
    exact (h4 c1)
set_option maxRecDepth 100000 in
set_option maxHeartbeats 4000000 in
theorem km_find {k : ea_K} {o : Option Value} {M' : ea_M} (C : ea_C k RX7 cX7_find 5 0) (X : ea_X k (some .int) o M') {M : ea_M}   (h1 : ea_E k 2 [(0, .ref 61), (1, .int (0 : Int32))] [] M) : ea_E k 0 [(0, .ref 61)] [] M := by
  refine e_iconst (v := 0) C dX7_find_0 (by decide) ?_
  refine e_istore_n C dX7_find_1 rfl (by decide) rfl ?_
  refine e_perm C [1, 0] rfl ?_
  exact h1
set_option maxRecDepth 100000 in
set_option maxHeartbeats 4000000 in
theorem km_find_2 {k : ea_K} {o : Option Value} {M' : ea_M} (C : ea_C k RX7 cX7_find 5 0) (X : ea_X k (some .int) o M') {M : ea_M} {s : Int32}   (h2 : (M 61 1) ≤ s → o = some (.int (-1 : Int32)) ∧ M' = M) (h3 : ¬ (M 61 1) ≤ s → ea_E k 17 [(0, .ref 61), (1, .int s), (2, .int (0 : Int32)), (3, .int (1 : Int32)), (4, .int (0 : Int32))] [] M) : ea_E k 2 [(0, .ref 61), (1, .int s)] [] M := by
  refine e_iload_n (n := 1) C dX7_find_2 rfl rfl ?_
  refine e_aload_n (n := 0) C dX7_find_3 rfl rfl ?_
  refine e_get (v := .int (M 61 1)) C fd_X7_123 (by decide) rfl rfl dX7_find_4 ?_
  refine e_icmp_ge (tgt := 110) C dX7_find_7 (by decide) (fun c1 => ?_) (fun c1 => ?_)
  · refine e_iconst (v := -1) C dX7_find_110 (by decide) ?_
    exact e_iret C X rfl (vp_nar_int _) dX7_find_111 (h2 c1)
  · refine e_iconst (v := 0) C dX7_find_10 (by decide) ?_
    refine e_istore_n C dX7_find_11 rfl (by decide) rfl ?_
    refine e_iconst (v := 1) C dX7_find_12 (by decide) ?_
    refine e_istore_n C dX7_find_13 rfl (by decide) rfl ?_
    refine e_iconst (v := 0) C dX7_find_14 (by decide) ?_
    refine e_istore C dX7_find_15 (by decide) rfl ?_
    refine e_perm C [3, 4, 2, 1, 0] rfl ?_
    exact (h3 c1)
set_option maxRecDepth 100000 in
set_option maxHeartbeats 4000000 in
theorem km_find_17 {k : ea_K} {o : Option Value} {M' : ea_M} (C : ea_C k RX7 cX7_find 5 0) (X : ea_X k (some .int) o M') {M : ea_M} {s am is j : Int32}   (h3 : (M 61 11) ≤ j → is = 0 → ea_E k 2 [(0, .ref 61), (1, .int (s + 1))] [] M) (s4 : (M 61 11) ≤ j → ¬ is = 0 → vp_in s 6) (h6 : (M 61 11) ≤ j → ¬ is = 0 → ¬ am = (M 66 s.toNatClampNeg) → ea_E k 2 [(0, .ref 61), (1, .int (s + 1))] [] M) (h7 : (M 61 11) ≤ j → ¬ is = 0 → am = (M 66 s.toNatClampNeg) → o = some (.int s) ∧ M' = M) (h10 : ¬ (M 61 11) ≤ j → is = 0 → is = 0 → ea_E k 2 [(0, .ref 61), (1, .int (s + 1))] [] M) (s11 : ¬ (M 61 11) ≤ j → is = 0 → ¬ is = 0 → vp_in s 6) (h13 : ¬ (M 61 11) ≤ j → is = 0 → ¬ is = 0 → ¬ am = (M 66 s.toNatClampNeg) → ea_E k 2 [(0, .ref 61), (1, .int (s + 1))] [] M) (h14 : ¬ (M 61 11) ≤ j → is = 0 → ¬ is = 0 → am = (M 66 s.toNatClampNeg) → o = some (.int s) ∧ M' = M) (s15 : ¬ (M 61 11) ≤ j → ¬ is = 0 → vp_in j 200) (h17 : ¬ (M 61 11) ≤ j → ¬ is = 0 → (M 69 j.toNatClampNeg) = (32 : Int32) → ea_E k 17 [(0, .ref 61), (1, .int s), (2, .int am), (3, .int is), (4, .int (j + 1))] [] M) (s18 : ¬ (M 61 11) ≤ j → ¬ is = 0 → ¬ (M 69 j.toNatClampNeg) = (32 : Int32) → vp_in s 6) (h20 : ¬ (M 61 11) ≤ j → ¬ is = 0 → ¬ (M 69 j.toNatClampNeg) = (32 : Int32) → (M 66 s.toNatClampNeg) ≤ am → ea_E k 17 [(0, .ref 61), (1, .int s), (2, .int (am + 1)), (3, .int (0 : Int32)), (4, .int (j + 1))] [] M) (s21 : ¬ (M 61 11) ≤ j → ¬ is = 0 → ¬ (M 69 j.toNatClampNeg) = (32 : Int32) → ¬ (M 66 s.toNatClampNeg) ≤ am → vp_in (((7 : Int32) * s) + am) 42) (s22 : ¬ (M 61 11) ≤ j → ¬ is = 0 → ¬ (M 69 j.toNatClampNeg) = (32 : Int32) → ¬ (M 66 s.toNatClampNeg) ≤ am → vp_in j 200) (h24 : ¬ (M 61 11) ≤ j → ¬ is = 0 → ¬ (M 69 j.toNatClampNeg) = (32 : Int32) → ¬ (M 66 s.toNatClampNeg) ≤ am → ¬ (M 65 (((7 : Int32) * s) + am).toNatClampNeg) = (M 69 j.toNatClampNeg) → ea_E k 17 [(0, .ref 61), (1, .int s), (2, .int (am + 1)), (3, .int (0 : Int32)), (4, .int (j + 1))] [] M) (h25 : ¬ (M 61 11) ≤ j → ¬ is = 0 → ¬ (M 69 j.toNatClampNeg) = (32 : Int32) → ¬ (M 66 s.toNatClampNeg) ≤ am → (M 65 (((7 : Int32) * s) + am).toNatClampNeg) = (M 69 j.toNatClampNeg) → ea_E k 17 [(0, .ref 61), (1, .int s), (2, .int (am + 1)), (3, .int (1 : Int32)), (4, .int (j + 1))] [] M) : ea_E k 17 [(0, .ref 61), (1, .int s), (2, .int am), (3, .int is), (4, .int j)] [] M := by
  refine e_iload (n := 4) C dX7_find_17 rfl ?_
  refine e_aload_n (n := 0) C dX7_find_19 rfl rfl ?_
  refine e_get (v := .int (M 61 11)) C fd_X7_69 (by decide) rfl rfl dX7_find_20 ?_
  refine e_icmp_ge (tgt := 88) C dX7_find_23 (by decide) (fun c1 => ?_) (fun c1 => ?_)
  · refine e_iload_n (n := 3) C dX7_find_88 rfl rfl ?_
    refine e_if_eq (tgt := 104) C dX7_find_89 (by decide) (fun c2 => ?_) (fun c2 => ?_)
    · refine e_iinc (n := 1) (v := (s + 1)) C dX7_find_104 rfl rfl (by decide) rfl ?_
      refine e_goto (tgt := 2) C dX7_find_107 (by decide) ?_
      refine e_perm C [1, 0] rfl ?_
      exact (h3 c1 c2)
    · refine e_iload_n (n := 2) C dX7_find_92 rfl rfl ?_
      refine e_aload_n (n := 0) C dX7_find_93 rfl rfl ?_
      refine e_get (v := .ref 66) C fd_X7_22 (by decide) rfl rfl dX7_find_94 ?_
      refine e_iload_n (n := 1) C dX7_find_97 rfl rfl ?_
      refine e_iald (n := 6) C (by decide) rfl (by decide) (s4 c1 c2) dX7_find_98 ?_
      refine e_icmp_ne (tgt := 104) C dX7_find_99 (by decide) (fun c5 => ?_) (fun c5 => ?_)
      · refine e_iinc (n := 1) (v := (s + 1)) C dX7_find_104 rfl rfl (by decide) rfl ?_
        refine e_goto (tgt := 2) C dX7_find_107 (by decide) ?_
        refine e_perm C [1, 0] rfl ?_
        exact (h6 c1 c2 c5)
      · refine e_iload_n (n := 1) C dX7_find_102 rfl rfl ?_
        exact e_iret C X rfl (vp_nar_int _) dX7_find_103 (h7 c1 c2 c5)
  · refine e_iload_n (n := 3) C dX7_find_26 rfl rfl ?_
    refine e_if_eq (tgt := 88) C dX7_find_27 (by decide) (fun c8 => ?_) (fun c8 => ?_)
    · refine e_iload_n (n := 3) C dX7_find_88 rfl rfl ?_
      refine e_if_eq (tgt := 104) C dX7_find_89 (by decide) (fun c9 => ?_) (fun c9 => ?_)
      · refine e_iinc (n := 1) (v := (s + 1)) C dX7_find_104 rfl rfl (by decide) rfl ?_
        refine e_goto (tgt := 2) C dX7_find_107 (by decide) ?_
        refine e_perm C [1, 0] rfl ?_
        exact (h10 c1 c8 c9)
      · refine e_iload_n (n := 2) C dX7_find_92 rfl rfl ?_
        refine e_aload_n (n := 0) C dX7_find_93 rfl rfl ?_
        refine e_get (v := .ref 66) C fd_X7_22 (by decide) rfl rfl dX7_find_94 ?_
        refine e_iload_n (n := 1) C dX7_find_97 rfl rfl ?_
        refine e_iald (n := 6) C (by decide) rfl (by decide) (s11 c1 c8 c9) dX7_find_98 ?_
        refine e_icmp_ne (tgt := 104) C dX7_find_99 (by decide) (fun c12 => ?_) (fun c12 => ?_)
        · refine e_iinc (n := 1) (v := (s + 1)) C dX7_find_104 rfl rfl (by decide) rfl ?_
          refine e_goto (tgt := 2) C dX7_find_107 (by decide) ?_
          refine e_perm C [1, 0] rfl ?_
          exact (h13 c1 c8 c9 c12)
        · refine e_iload_n (n := 1) C dX7_find_102 rfl rfl ?_
          exact e_iret C X rfl (vp_nar_int _) dX7_find_103 (h14 c1 c8 c9 c12)
    · refine e_aload_n (n := 0) C dX7_find_30 rfl rfl ?_
      refine e_get (v := .ref 69) C fd_X7_32 (by decide) rfl rfl dX7_find_31 ?_
      refine e_iload (n := 4) C dX7_find_34 rfl ?_
      refine e_iald (n := 200) C (by decide) rfl (by decide) (s15 c1 c8) dX7_find_36 ?_
      refine e_bipush (v := 32) C dX7_find_37 (by decide) ?_
      refine e_icmp_eq (tgt := 82) C dX7_find_39 (by decide) (fun c16 => ?_) (fun c16 => ?_)
      · refine e_iinc (n := 4) (v := (j + 1)) C dX7_find_82 rfl rfl (by decide) rfl ?_
        refine e_goto (tgt := 17) C dX7_find_85 (by decide) ?_
        refine e_perm C [1, 2, 3, 4, 0] rfl ?_
        exact (h17 c1 c8 c16)
      · refine e_iload_n (n := 2) C dX7_find_42 rfl rfl ?_
        refine e_aload_n (n := 0) C dX7_find_43 rfl rfl ?_
        refine e_get (v := .ref 66) C fd_X7_22 (by decide) rfl rfl dX7_find_44 ?_
        refine e_iload_n (n := 1) C dX7_find_47 rfl rfl ?_
        refine e_iald (n := 6) C (by decide) rfl (by decide) (s18 c1 c8 c16) dX7_find_48 ?_
        refine e_icmp_ge (tgt := 77) C dX7_find_49 (by decide) (fun c19 => ?_) (fun c19 => ?_)
        · refine e_iconst (v := 0) C dX7_find_77 (by decide) ?_
          refine e_istore_n C dX7_find_78 rfl (by decide) rfl ?_
          refine e_iinc (n := 3) (v := (am + 1)) C dX7_find_79 rfl rfl (by decide) rfl ?_
          refine e_iinc (n := 4) (v := (j + 1)) C dX7_find_82 rfl rfl (by decide) rfl ?_
          refine e_goto (tgt := 17) C dX7_find_85 (by decide) ?_
          refine e_perm C [3, 4, 1, 2, 0] rfl ?_
          exact (h20 c1 c8 c16 c19)
        · refine e_aload_n (n := 0) C dX7_find_52 rfl rfl ?_
          refine e_get (v := .ref 65) C fd_X7_19 (by decide) rfl rfl dX7_find_53 ?_
          refine e_bipush (v := 7) C dX7_find_56 (by decide) ?_
          refine e_iload_n (n := 1) C dX7_find_58 rfl rfl ?_
          refine e_imul C dX7_find_59 ?_
          refine e_iload_n (n := 2) C dX7_find_60 rfl rfl ?_
          refine e_iadd C dX7_find_61 ?_
          refine e_iald (n := 42) C (by decide) rfl (by decide) (s21 c1 c8 c16 c19) dX7_find_62 ?_
          refine e_aload_n (n := 0) C dX7_find_63 rfl rfl ?_
          refine e_get (v := .ref 69) C fd_X7_32 (by decide) rfl rfl dX7_find_64 ?_
          refine e_iload (n := 4) C dX7_find_67 rfl ?_
          refine e_iald (n := 200) C (by decide) rfl (by decide) (s22 c1 c8 c16 c19) dX7_find_69 ?_
          refine e_icmp_ne (tgt := 77) C dX7_find_70 (by decide) (fun c23 => ?_) (fun c23 => ?_)
          · refine e_iconst (v := 0) C dX7_find_77 (by decide) ?_
            refine e_istore_n C dX7_find_78 rfl (by decide) rfl ?_
            refine e_iinc (n := 3) (v := (am + 1)) C dX7_find_79 rfl rfl (by decide) rfl ?_
            refine e_iinc (n := 4) (v := (j + 1)) C dX7_find_82 rfl rfl (by decide) rfl ?_
            refine e_goto (tgt := 17) C dX7_find_85 (by decide) ?_
            refine e_perm C [3, 4, 1, 2, 0] rfl ?_
            exact (h24 c1 c8 c16 c19 c23)
          · refine e_iconst (v := 1) C dX7_find_73 (by decide) ?_
            refine e_goto (tgt := 78) C dX7_find_74 (by decide) ?_
            refine e_istore_n C dX7_find_78 rfl (by decide) rfl ?_
            refine e_iinc (n := 3) (v := (am + 1)) C dX7_find_79 rfl rfl (by decide) rfl ?_
            refine e_iinc (n := 4) (v := (j + 1)) C dX7_find_82 rfl rfl (by decide) rfl ?_
            refine e_goto (tgt := 17) C dX7_find_85 (by decide) ?_
            refine e_perm C [3, 4, 1, 2, 0] rfl ?_
            exact (h25 c1 c8 c16 c19 c23)
set_option maxRecDepth 100000 in
set_option maxHeartbeats 4000000 in
theorem km_cellsOf {k : ea_K} {o : Option Value} {M' : ea_M} (C : ea_C k RX7 cX7_cellsOf 4 0) (X : ea_X k (some .int) o M') {M : ea_M} {s : Int32}   (h1 : ea_E k 4 [(0, .ref 61), (1, .int s), (2, .int (0 : Int32)), (3, .int (0 : Int32))] [] M) : ea_E k 0 [(0, .ref 61), (1, .int s)] [] M := by
  refine e_iconst (v := 0) C dX7_cellsOf_0 (by decide) ?_
  refine e_istore_n C dX7_cellsOf_1 rfl (by decide) rfl ?_
  refine e_iconst (v := 0) C dX7_cellsOf_2 (by decide) ?_
  refine e_istore_n C dX7_cellsOf_3 rfl (by decide) rfl ?_
  refine e_perm C [2, 3, 1, 0] rfl ?_
  exact h1
set_option maxRecDepth 100000 in
set_option maxHeartbeats 4000000 in
theorem km_cellsOf_4 {k : ea_K} {o : Option Value} {M' : ea_M} (C : ea_C k RX7 cX7_cellsOf 4 0) (X : ea_X k (some .int) o M') {M : ea_M} {s a i : Int32}   (h2 : (M 61 6) ≤ i → o = some (.int a) ∧ M' = M) (s3 : ¬ (M 61 6) ≤ i → vp_in i 10) (h5 : ¬ (M 61 6) ≤ i → ¬ (M 67 i.toNatClampNeg) = s → ea_E k 4 [(0, .ref 61), (1, .int s), (2, .int (a ||| (0 : Int32))), (3, .int (i + 1))] [] M) (h6 : ¬ (M 61 6) ≤ i → (M 67 i.toNatClampNeg) = s → ea_E k 4 [(0, .ref 61), (1, .int s), (2, .int (a ||| ((1 : Int32) <<< (i &&& 31)))), (3, .int (i + 1))] [] M) : ea_E k 4 [(0, .ref 61), (1, .int s), (2, .int a), (3, .int i)] [] M := by
  refine e_iload_n (n := 3) C dX7_cellsOf_4 rfl rfl ?_
  refine e_aload_n (n := 0) C dX7_cellsOf_5 rfl rfl ?_
  refine e_get (v := .int (M 61 6)) C fd_X7_126 (by decide) rfl rfl dX7_cellsOf_6 ?_
  refine e_icmp_ge (tgt := 38) C dX7_cellsOf_9 (by decide) (fun c1 => ?_) (fun c1 => ?_)
  · refine e_iload_n (n := 2) C dX7_cellsOf_38 rfl rfl ?_
    exact e_iret C X rfl (vp_nar_int _) dX7_cellsOf_39 (h2 c1)
  · refine e_iload_n (n := 2) C dX7_cellsOf_12 rfl rfl ?_
    refine e_aload_n (n := 0) C dX7_cellsOf_13 rfl rfl ?_
    refine e_get (v := .ref 67) C fd_X7_25 (by decide) rfl rfl dX7_cellsOf_14 ?_
    refine e_iload_n (n := 3) C dX7_cellsOf_17 rfl rfl ?_
    refine e_iald (n := 10) C (by decide) rfl (by decide) (s3 c1) dX7_cellsOf_18 ?_
    refine e_iload_n (n := 1) C dX7_cellsOf_19 rfl rfl ?_
    refine e_icmp_ne (tgt := 29) C dX7_cellsOf_20 (by decide) (fun c4 => ?_) (fun c4 => ?_)
    · refine e_iconst (v := 0) C dX7_cellsOf_29 (by decide) ?_
      refine e_ior C dX7_cellsOf_30 ?_
      refine e_istore_n C dX7_cellsOf_31 rfl (by decide) rfl ?_
      refine e_iinc (n := 3) (v := (i + 1)) C dX7_cellsOf_32 rfl rfl (by decide) rfl ?_
      refine e_goto (tgt := 4) C dX7_cellsOf_35 (by decide) ?_
      refine e_perm C [2, 3, 1, 0] rfl ?_
      exact (h5 c1 c4)
    · refine e_iconst (v := 1) C dX7_cellsOf_23 (by decide) ?_
      refine e_iload_n (n := 3) C dX7_cellsOf_24 rfl rfl ?_
      refine e_ishl C dX7_cellsOf_25 ?_
      refine e_goto (tgt := 30) C dX7_cellsOf_26 (by decide) ?_
      refine e_ior C dX7_cellsOf_30 ?_
      refine e_istore_n C dX7_cellsOf_31 rfl (by decide) rfl ?_
      refine e_iinc (n := 3) (v := (i + 1)) C dX7_cellsOf_32 rfl rfl (by decide) rfl ?_
      refine e_goto (tgt := 4) C dX7_cellsOf_35 (by decide) ?_
      refine e_perm C [2, 3, 1, 0] rfl ?_
      exact (h6 c1 c4)
set_option maxRecDepth 100000 in
set_option maxHeartbeats 4000000 in
theorem km_rest {k : ea_K} {o : Option Value} {M' : ea_M} (C : ea_C k RX7 cX7_rest 10 2) (X : ea_X k (some .long) o M') {M : ea_M} {c part : Int32}   (h3 : p_X7_isCell M c → p_X7_in ((part).toInt64) (0 : Int64) (1 : Int64) → ea_E k 34 [(0, .ref 61), (1, .int c), (2, .int part), (3, .long (0 : Int64)), (5, .long (0 : Int64)), (7, .int (0 : Int32))] [] M) (h4 : p_X7_isCell M c → ¬ p_X7_in ((part).toInt64) (0 : Int64) (1 : Int64) → o = some (.long (-2000000002 : Int64)) ∧ M' = M) (h5 : ¬ p_X7_isCell M c → o = some (.long (-2000000001 : Int64)) ∧ M' = M) : ea_E k 0 [(0, .ref 61), (1, .int c), (2, .int part)] [] M := by
  refine e_aload_n (n := 0) C dX7_rest_0 rfl rfl ?_
  refine e_iload_n (n := 1) C dX7_rest_1 rfl rfl ?_
  refine e_callV1 (as := [.int c]) (rest := []) C lk_X7_172 (sp_X7_isCell (M := M) (i := c) ) (by decide) rfl (by decide) rfl (by decide) rfl rfl (Nat.le_of_ble_eq_true rfl) dX7_rest_2 ?_
  refine e_ifb_ne (tgt := 12) C dX7_rest_5 (by decide) (fun c1 => ?_) (fun c1 => ?_)
  · refine e_iload_n (n := 2) C dX7_rest_12 rfl rfl ?_
    refine e_i2l C dX7_rest_13 ?_
    refine e_lconst (v := 0) C dX7_rest_14 (by decide) ?_
    refine e_lconst (v := 1) C dX7_rest_15 (by decide) ?_
    refine e_callS1 (as := [.long ((part).toInt64), .long (0 : Int64), .long (1 : Int64)]) (rest := []) C lk_X7_64 (sp_X7_in (M := M) (v := ((part).toInt64)) (a := (0 : Int64)) (b := (1 : Int64)) ) (by decide) rfl rfl (Nat.le_of_ble_eq_true rfl) dX7_rest_16 ?_
    refine e_ifb_ne (tgt := 26) C dX7_rest_19 (by decide) (fun c2 => ?_) (fun c2 => ?_)
    · refine e_lconst (v := 0) C dX7_rest_26 (by decide) ?_
      refine e_lstore_n C dX7_rest_27 rfl (by decide) rfl ?_
      refine e_lconst (v := 0) C dX7_rest_28 (by decide) ?_
      refine e_lstore C dX7_rest_29 (by decide) rfl ?_
      refine e_iconst (v := 0) C dX7_rest_31 (by decide) ?_
      refine e_istore C dX7_rest_32 (by decide) rfl ?_
      refine e_perm C [3, 4, 5, 2, 1, 0] rfl ?_
      exact (h3 c1 c2)
    · refine e_ldc2 C kc_X7_184 dX7_rest_22 ?_
      exact e_lret C X dX7_rest_25 (h4 c1 c2)
  · refine e_ldc2 C kc_X7_182 dX7_rest_8 ?_
    exact e_lret C X dX7_rest_11 (h5 c1)
set_option maxRecDepth 100000 in
set_option maxHeartbeats 4000000 in
theorem km_rest_34 {k : ea_K} {o : Option Value} {M' : ea_M} (C : ea_C k RX7 cX7_rest 10 2) (X : ea_X k (some .long) o M') {M : ea_M} {c part j : Int32} {al rt : Int64} {r2 : Int32} {r1 : Int64}   (q5 : (M 61 6) ≤ j → ea_Sp 1 yX7_told cX7_told 7 (some .long) [.long (((((M 62 11)).toInt64) * al) + (((((M 62 10) - (M 62 11))).toInt64) * rt)), .long al, .int part] M (some (.long r1)) M) (h6 : (M 61 6) ≤ j → o = some (.long r1) ∧ M' = M) (q7 : ¬ (M 61 6) ≤ j → ea_Sp 0 yX7_passesOf cX7_passesOf 2 (some .int) [.ref 61, .int j] M (some (.int r2)) M) (z8 : ¬ (M 61 6) ≤ j → ¬ ((r2).toInt64) = 0) (h11 : ¬ (M 61 6) ≤ j → j ≤ c → ¬ j = c → ea_E k 34 [(0, .ref 61), (1, .int c), (2, .int part), (3, .long (al + ((465585120 : Int64) / ((r2).toInt64)))), (5, .long (rt + (0 : Int64))), (7, .int (j + 1))] [] M) (h13 : ¬ (M 61 6) ≤ j → j ≤ c → j = c → ea_E k 34 [(0, .ref 61), (1, .int c), (2, .int part), (3, .long (al + ((465585120 : Int64) / ((r2).toInt64)))), (5, .long (rt + (((465585120 : Int64) / ((r2).toInt64)) / (2 : Int64)))), (7, .int (j + 1))] [] M) (h14 : ¬ (M 61 6) ≤ j → ¬ j ≤ c → ea_E k 34 [(0, .ref 61), (1, .int c), (2, .int part), (3, .long (al + ((465585120 : Int64) / ((r2).toInt64)))), (5, .long (rt + ((465585120 : Int64) / ((r2).toInt64)))), (7, .int (j + 1))] [] M) : ea_E k 34 [(0, .ref 61), (1, .int c), (2, .int part), (3, .long al), (5, .long rt), (7, .int j)] [] M := by
  refine e_iload (n := 5) C dX7_rest_34 rfl ?_
  refine e_aload_n (n := 0) C dX7_rest_36 rfl rfl ?_
  refine e_get (v := .int (M 61 6)) C fd_X7_126 (by decide) rfl rfl dX7_rest_37 ?_
  refine e_icmp_ge (tgt := 99) C dX7_rest_40 (by decide) (fun c1 => ?_) (fun c1 => ?_)
  · refine e_aload_n (n := 0) C dX7_rest_99 rfl rfl ?_
    refine e_get (v := .ref 62) C fd_X7_7 (by decide) rfl rfl dX7_rest_100 ?_
    refine e_bipush (v := 11) C dX7_rest_103 (by decide) ?_
    refine e_iald (n := 192) C (by decide) rfl (by decide) (vp_in_nI (n := 11) (N := 192) (by decide) (by decide)) dX7_rest_105 ?_
    refine e_i2l C dX7_rest_106 ?_
    refine e_lload_n (n := 3) C dX7_rest_107 rfl rfl ?_
    refine e_lmul C dX7_rest_108 ?_
    refine e_aload_n (n := 0) C dX7_rest_109 rfl rfl ?_
    refine e_get (v := .ref 62) C fd_X7_7 (by decide) rfl rfl dX7_rest_110 ?_
    refine e_bipush (v := 10) C dX7_rest_113 (by decide) ?_
    refine e_iald (n := 192) C (by decide) rfl (by decide) (vp_in_nI (n := 10) (N := 192) (by decide) (by decide)) dX7_rest_115 ?_
    refine e_aload_n (n := 0) C dX7_rest_116 rfl rfl ?_
    refine e_get (v := .ref 62) C fd_X7_7 (by decide) rfl rfl dX7_rest_117 ?_
    refine e_bipush (v := 11) C dX7_rest_120 (by decide) ?_
    refine e_iald (n := 192) C (by decide) rfl (by decide) (vp_in_nI (n := 11) (N := 192) (by decide) (by decide)) dX7_rest_122 ?_
    refine e_isub C dX7_rest_123 ?_
    refine e_i2l C dX7_rest_124 ?_
    refine e_lload (n := 4) C dX7_rest_125 rfl ?_
    refine e_lmul C dX7_rest_127 ?_
    refine e_ladd C dX7_rest_128 ?_
    refine e_lload_n (n := 3) C dX7_rest_129 rfl rfl ?_
    refine e_iload_n (n := 2) C dX7_rest_130 rfl rfl ?_
    refine e_callS1 (as := [.long (((((M 62 11)).toInt64) * al) + (((((M 62 10) - (M 62 11))).toInt64) * rt)), .long al, .int part]) (rest := []) C lk_X7_178 (q5 c1) (by decide) rfl rfl (Nat.le_of_ble_eq_true rfl) dX7_rest_131 ?_
    exact e_lret C X dX7_rest_134 (h6 c1)
  · refine e_ldc2 C kc_X7_186 dX7_rest_43 ?_
    refine e_aload_n (n := 0) C dX7_rest_46 rfl rfl ?_
    refine e_iload (n := 5) C dX7_rest_47 rfl ?_
    refine e_callV1 (as := [.int j]) (rest := [.long (465585120 : Int64)]) C lk_X7_188 (q7 c1) (by decide) rfl (by decide) rfl (by decide) rfl rfl (Nat.le_of_ble_eq_true rfl) dX7_rest_49 ?_
    refine e_i2l C dX7_rest_52 ?_
    refine e_ldiv C dX7_rest_53 (z8 c1) ?_
    refine e_lstore C dX7_rest_54 (by decide) rfl ?_
    refine e_lload_n (n := 4) C dX7_rest_56 rfl rfl ?_
    refine e_lload (n := 0) C dX7_rest_57 rfl ?_
    refine e_ladd C dX7_rest_59 ?_
    refine e_lstore_n C dX7_rest_60 rfl (by decide) rfl ?_
    refine e_lload (n := 5) C dX7_rest_61 rfl ?_
    refine e_iload (n := 6) C dX7_rest_63 rfl ?_
    refine e_iload_n (n := 3) C dX7_rest_65 rfl rfl ?_
    refine e_icmp_le (tgt := 74) C dX7_rest_66 (by decide) (fun c9 => ?_) (fun c9 => ?_)
    · refine e_iload (n := 6) C dX7_rest_74 rfl ?_
      refine e_iload_n (n := 3) C dX7_rest_76 rfl rfl ?_
      refine e_icmp_ne (tgt := 89) C dX7_rest_77 (by decide) (fun c10 => ?_) (fun c10 => ?_)
      · refine e_lconst (v := 0) C dX7_rest_89 (by decide) ?_
        refine e_ladd C dX7_rest_90 ?_
        refine e_lstore C dX7_rest_91 (by decide) rfl ?_
        refine e_iinc (n := 6) (v := (j + 1)) C dX7_rest_93 rfl rfl (by decide) rfl ?_
        refine e_goto (tgt := 34) C dX7_rest_96 (by decide) ?_
        refine e_perm C [4, 5, 6, 2, 1, 0] rfl ?_
        exact (h11 c1 c9 c10)
      · refine e_lload (n := 1) C dX7_rest_80 rfl ?_
        refine e_ldc2 C kc_X7_191 dX7_rest_82 ?_
        refine e_ldiv C dX7_rest_85 (by decide) ?_
        refine e_goto (tgt := 90) C dX7_rest_86 (by decide) ?_
        refine e_ladd C dX7_rest_90 ?_
        refine e_lstore C dX7_rest_91 (by decide) rfl ?_
        refine e_iinc (n := 6) (v := (j + 1)) C dX7_rest_93 rfl rfl (by decide) rfl ?_
        refine e_goto (tgt := 34) C dX7_rest_96 (by decide) ?_
        refine e_perm C [4, 5, 6, 2, 1, 0] rfl ?_
        exact (h13 c1 c9 c10)
    · refine e_lload (n := 1) C dX7_rest_69 rfl ?_
      refine e_goto (tgt := 90) C dX7_rest_71 (by decide) ?_
      refine e_ladd C dX7_rest_90 ?_
      refine e_lstore C dX7_rest_91 (by decide) rfl ?_
      refine e_iinc (n := 6) (v := (j + 1)) C dX7_rest_93 rfl rfl (by decide) rfl ?_
      refine e_goto (tgt := 34) C dX7_rest_96 (by decide) ?_
      refine e_perm C [4, 5, 6, 2, 1, 0] rfl ?_
      exact (h14 c1 c9)
set_option maxRecDepth 100000 in
set_option maxHeartbeats 4000000 in
theorem km_steps {k : ea_K} {o : Option Value} {M' : ea_M} (C : ea_C k RX7 cX7_steps 4 2) (X : ea_X k (some .boolean) o M') {M : ea_M} {base : Int32}   (h1 : ea_E k 4 [(0, .ref 61), (1, .int base), (2, .int (1 : Int32)), (3, .int (0 : Int32))] [] M) : ea_E k 0 [(0, .ref 61), (1, .int base)] [] M := by
  refine e_iconst (v := 1) C dX7_steps_0 (by decide) ?_
  refine e_istore_n C dX7_steps_1 rfl (by decide) rfl ?_
  refine e_iconst (v := 0) C dX7_steps_2 (by decide) ?_
  refine e_istore_n C dX7_steps_3 rfl (by decide) rfl ?_
  refine e_perm C [2, 3, 1, 0] rfl ?_
  exact h1
set_option maxRecDepth 100000 in
set_option maxHeartbeats 4000000 in
theorem km_steps_4 {k : ea_K} {o : Option Value} {M' : ea_M} (C : ea_C k RX7 cX7_steps 4 2) (X : ea_X k (some .boolean) o M') {M : ea_M} {base can i : Int32} {r1 : Int32}   (h2 : (M 61 6) < i → ea_E k 32 [(0, .ref 61), (1, .int base), (2, .int can), (3, .int (0 : Int32))] [] M) (q3 : ¬ (M 61 6) < i → ea_Sp 1 yX7_flowAt cX7_flowAt 8 (some .int) [.ref 61, .int base, .int i] M (some (.int r1)) M) (s4 : ¬ (M 61 6) < i → vp_in i 11) (h5 : ¬ (M 61 6) < i → ea_E k 4 [(0, .ref 61), (1, .int base), (2, .int can), (3, .int (i + 1))] [] (ea_up M 78 i.toNatClampNeg r1)) : ea_E k 4 [(0, .ref 61), (1, .int base), (2, .int can), (3, .int i)] [] M := by
  refine e_iload_n (n := 3) C dX7_steps_4 rfl rfl ?_
  refine e_aload_n (n := 0) C dX7_steps_5 rfl rfl ?_
  refine e_get (v := .int (M 61 6)) C fd_X7_126 (by decide) rfl rfl dX7_steps_6 ?_
  refine e_icmp_gt (tgt := 30) C dX7_steps_9 (by decide) (fun c1 => ?_) (fun c1 => ?_)
  · refine e_iconst (v := 0) C dX7_steps_30 (by decide) ?_
    refine e_istore_n C dX7_steps_31 rfl (by decide) rfl ?_
    refine e_perm C [1, 2, 3, 0] rfl ?_
    exact (h2 c1)
  · refine e_aload_n (n := 0) C dX7_steps_12 rfl rfl ?_
    refine e_get (v := .ref 78) C fd_X7_59 (by decide) rfl rfl dX7_steps_13 ?_
    refine e_iload_n (n := 3) C dX7_steps_16 rfl rfl ?_
    refine e_aload_n (n := 0) C dX7_steps_17 rfl rfl ?_
    refine e_iload_n (n := 1) C dX7_steps_18 rfl rfl ?_
    refine e_iload_n (n := 3) C dX7_steps_19 rfl rfl ?_
    refine e_callV1 (as := [.int base, .int i]) (rest := [.int i, .ref 78]) C lk_X7_193 (q3 c1) (by decide) rfl (by decide) rfl (by decide) rfl rfl (Nat.le_of_ble_eq_true rfl) dX7_steps_20 ?_
    refine e_iast (n := 11) C (by decide) rfl (by decide) (s4 c1) dX7_steps_23 ?_
    refine e_iinc (n := 3) (v := (i + 1)) C dX7_steps_24 rfl rfl (by decide) rfl ?_
    refine e_goto (tgt := 4) C dX7_steps_27 (by decide) ?_
    refine e_perm C [1, 2, 3, 0] rfl ?_
    exact (h5 c1)
set_option maxRecDepth 100000 in
set_option maxHeartbeats 4000000 in
theorem km_steps_32 {k : ea_K} {o : Option Value} {M' : ea_M} (C : ea_C k RX7 cX7_steps 4 2) (X : ea_X k (some .boolean) o M') {M : ea_M} {base can i : Int32}   (h2 : (M 61 6) ≤ i → ea_E k 95 [(0, .ref 61), (1, .int base), (2, .int can), (3, .int (0 : Int32))] [] M) (h4 : ¬ (M 61 6) ≤ i → can = 0 → ea_E k 32 [(0, .ref 61), (1, .int base), (2, .int (0 : Int32)), (3, .int (i + 1))] [] M) (s5 : ¬ (M 61 6) ≤ i → ¬ can = 0 → vp_in ((base + (0 : Int32)) + i) 192) (s6 : ¬ (M 61 6) ≤ i → ¬ can = 0 → vp_in i 11) (s7 : ¬ (M 61 6) ≤ i → ¬ can = 0 → vp_in (i + (1 : Int32)) 11) (h9 : ¬ (M 61 6) ≤ i → ¬ can = 0 → ¬ p_X7_in (((((M 62 ((base + (0 : Int32)) + i).toNatClampNeg) + (M 78 i.toNatClampNeg)) - (M 78 (i + (1 : Int32)).toNatClampNeg))).toInt64) (0 : Int64) (20000 : Int64) → ea_E k 32 [(0, .ref 61), (1, .int base), (2, .int (0 : Int32)), (3, .int (i + 1))] [] M) (h10 : ¬ (M 61 6) ≤ i → ¬ can = 0 → p_X7_in (((((M 62 ((base + (0 : Int32)) + i).toNatClampNeg) + (M 78 i.toNatClampNeg)) - (M 78 (i + (1 : Int32)).toNatClampNeg))).toInt64) (0 : Int64) (20000 : Int64) → ea_E k 32 [(0, .ref 61), (1, .int base), (2, .int (1 : Int32)), (3, .int (i + 1))] [] M) : ea_E k 32 [(0, .ref 61), (1, .int base), (2, .int can), (3, .int i)] [] M := by
  refine e_iload_n (n := 3) C dX7_steps_32 rfl rfl ?_
  refine e_aload_n (n := 0) C dX7_steps_33 rfl rfl ?_
  refine e_get (v := .int (M 61 6)) C fd_X7_126 (by decide) rfl rfl dX7_steps_34 ?_
  refine e_icmp_ge (tgt := 93) C dX7_steps_37 (by decide) (fun c1 => ?_) (fun c1 => ?_)
  · refine e_iconst (v := 0) C dX7_steps_93 (by decide) ?_
    refine e_istore_n C dX7_steps_94 rfl (by decide) rfl ?_
    refine e_perm C [1, 2, 3, 0] rfl ?_
    exact (h2 c1)
  · refine e_iload_n (n := 2) C dX7_steps_40 rfl rfl ?_
    refine e_if_eq (tgt := 85) C dX7_steps_41 (by decide) (fun c3 => ?_) (fun c3 => ?_)
    · refine e_iconst (v := 0) C dX7_steps_85 (by decide) ?_
      refine e_istore_n C dX7_steps_86 rfl (by decide) rfl ?_
      refine e_iinc (n := 3) (v := (i + 1)) C dX7_steps_87 rfl rfl (by decide) rfl ?_
      refine e_goto (tgt := 32) C dX7_steps_90 (by decide) ?_
      refine e_perm C [2, 3, 1, 0] rfl ?_
      exact (h4 c1 c3)
    · refine e_aload_n (n := 0) C dX7_steps_44 rfl rfl ?_
      refine e_get (v := .ref 62) C fd_X7_7 (by decide) rfl rfl dX7_steps_45 ?_
      refine e_iload_n (n := 1) C dX7_steps_48 rfl rfl ?_
      refine e_iconst (v := 0) C dX7_steps_49 (by decide) ?_
      refine e_iadd C dX7_steps_50 ?_
      refine e_iload_n (n := 3) C dX7_steps_51 rfl rfl ?_
      refine e_iadd C dX7_steps_52 ?_
      refine e_iald (n := 192) C (by decide) rfl (by decide) (s5 c1 c3) dX7_steps_53 ?_
      refine e_aload_n (n := 0) C dX7_steps_54 rfl rfl ?_
      refine e_get (v := .ref 78) C fd_X7_59 (by decide) rfl rfl dX7_steps_55 ?_
      refine e_iload_n (n := 3) C dX7_steps_58 rfl rfl ?_
      refine e_iald (n := 11) C (by decide) rfl (by decide) (s6 c1 c3) dX7_steps_59 ?_
      refine e_iadd C dX7_steps_60 ?_
      refine e_aload_n (n := 0) C dX7_steps_61 rfl rfl ?_
      refine e_get (v := .ref 78) C fd_X7_59 (by decide) rfl rfl dX7_steps_62 ?_
      refine e_iload_n (n := 3) C dX7_steps_65 rfl rfl ?_
      refine e_iconst (v := 1) C dX7_steps_66 (by decide) ?_
      refine e_iadd C dX7_steps_67 ?_
      refine e_iald (n := 11) C (by decide) rfl (by decide) (s7 c1 c3) dX7_steps_68 ?_
      refine e_isub C dX7_steps_69 ?_
      refine e_i2l C dX7_steps_70 ?_
      refine e_lconst (v := 0) C dX7_steps_71 (by decide) ?_
      refine e_ldc2 C kc_X7_196 dX7_steps_72 ?_
      refine e_callS1 (as := [.long (((((M 62 ((base + (0 : Int32)) + i).toNatClampNeg) + (M 78 i.toNatClampNeg)) - (M 78 (i + (1 : Int32)).toNatClampNeg))).toInt64), .long (0 : Int64), .long (20000 : Int64)]) (rest := []) C lk_X7_64 (sp_X7_in (M := M) (v := (((((M 62 ((base + (0 : Int32)) + i).toNatClampNeg) + (M 78 i.toNatClampNeg)) - (M 78 (i + (1 : Int32)).toNatClampNeg))).toInt64)) (a := (0 : Int64)) (b := (20000 : Int64)) ) (by decide) rfl rfl (Nat.le_of_ble_eq_true rfl) dX7_steps_75 ?_
      refine e_ifb_eq (tgt := 85) C dX7_steps_78 (by decide) (fun c8 => ?_) (fun c8 => ?_)
      · refine e_iconst (v := 0) C dX7_steps_85 (by decide) ?_
        refine e_istore_n C dX7_steps_86 rfl (by decide) rfl ?_
        refine e_iinc (n := 3) (v := (i + 1)) C dX7_steps_87 rfl rfl (by decide) rfl ?_
        refine e_goto (tgt := 32) C dX7_steps_90 (by decide) ?_
        refine e_perm C [2, 3, 1, 0] rfl ?_
        exact (h9 c1 c3 c8)
      · refine e_iconst (v := 1) C dX7_steps_81 (by decide) ?_
        refine e_goto (tgt := 86) C dX7_steps_82 (by decide) ?_
        refine e_istore_n C dX7_steps_86 rfl (by decide) rfl ?_
        refine e_iinc (n := 3) (v := (i + 1)) C dX7_steps_87 rfl rfl (by decide) rfl ?_
        refine e_goto (tgt := 32) C dX7_steps_90 (by decide) ?_
        refine e_perm C [2, 3, 1, 0] rfl ?_
        exact (h10 c1 c3 c8)
set_option maxRecDepth 100000 in
set_option maxHeartbeats 4000000 in
theorem km_steps_95 {k : ea_K} {o : Option Value} {M' : ea_M} (C : ea_C k RX7 cX7_steps 4 2) (X : ea_X k (some .boolean) o M') {M : ea_M} {base can i : Int32}   (h3 : (M 61 6) ≤ i → can = 0 → o = some (.int can) ∧ M' = M) (b4 : (M 61 6) ≤ i → can = 0 → can = 0 ∨ can = 1) (s5 : (M 61 6) ≤ i → ¬ can = 0 → vp_in (base + (13 : Int32)) 192) (s7 : (M 61 6) ≤ i → ¬ can = 0 → vp_in (base + (13 : Int32)) 192) (s8 : (M 61 6) ≤ i → ¬ can = 0 → vp_in (base + (14 : Int32)) 192) (s9 : (M 61 6) ≤ i → ¬ can = 0 → vp_in (M 61 6) 11) (s10 : (M 61 6) ≤ i → ¬ can = 0 → vp_in (base + (14 : Int32)) 192) (s11 : (M 61 6) ≤ i → ¬ can = 0 → vp_in (base + (15 : Int32)) 192) (s12 : (M 61 6) ≤ i → ¬ can = 0 → vp_in (base + (15 : Int32)) 192) (h13 : (M 61 6) ≤ i → ¬ can = 0 → o = some (.int can) ∧ M' = (ea_up (ea_up (ea_up M 62 (base + (13 : Int32)).toNatClampNeg ((M 62 (base + (13 : Int32)).toNatClampNeg) + (M 78 0))) 62 (base + (14 : Int32)).toNatClampNeg (((ea_up M 62 (base + (13 : Int32)).toNatClampNeg ((M 62 (base + (13 : Int32)).toNatClampNeg) + (M 78 0))) 62 (base + (14 : Int32)).toNatClampNeg) + (M 78 (M 61 6).toNatClampNeg))) 62 (base + (15 : Int32)).toNatClampNeg (((ea_up (ea_up M 62 (base + (13 : Int32)).toNatClampNeg ((M 62 (base + (13 : Int32)).toNatClampNeg) + (M 78 0))) 62 (base + (14 : Int32)).toNatClampNeg (((ea_up M 62 (base + (13 : Int32)).toNatClampNeg ((M 62 (base + (13 : Int32)).toNatClampNeg) + (M 78 0))) 62 (base + (14 : Int32)).toNatClampNeg) + (M 78 (M 61 6).toNatClampNeg))) 62 (base + (15 : Int32)).toNatClampNeg) + (1 : Int32)))) (b14 : (M 61 6) ≤ i → ¬ can = 0 → can = 0 ∨ can = 1) (h17 : ¬ (M 61 6) ≤ i → can = 0 → can = 0 → o = some (.int can) ∧ M' = M) (b18 : ¬ (M 61 6) ≤ i → can = 0 → can = 0 → can = 0 ∨ can = 1) (s19 : ¬ (M 61 6) ≤ i → can = 0 → ¬ can = 0 → vp_in (base + (13 : Int32)) 192) (s21 : ¬ (M 61 6) ≤ i → can = 0 → ¬ can = 0 → vp_in (base + (13 : Int32)) 192) (s22 : ¬ (M 61 6) ≤ i → can = 0 → ¬ can = 0 → vp_in (base + (14 : Int32)) 192) (s23 : ¬ (M 61 6) ≤ i → can = 0 → ¬ can = 0 → vp_in (M 61 6) 11) (s24 : ¬ (M 61 6) ≤ i → can = 0 → ¬ can = 0 → vp_in (base + (14 : Int32)) 192) (s25 : ¬ (M 61 6) ≤ i → can = 0 → ¬ can = 0 → vp_in (base + (15 : Int32)) 192) (s26 : ¬ (M 61 6) ≤ i → can = 0 → ¬ can = 0 → vp_in (base + (15 : Int32)) 192) (h27 : ¬ (M 61 6) ≤ i → can = 0 → ¬ can = 0 → o = some (.int can) ∧ M' = (ea_up (ea_up (ea_up M 62 (base + (13 : Int32)).toNatClampNeg ((M 62 (base + (13 : Int32)).toNatClampNeg) + (M 78 0))) 62 (base + (14 : Int32)).toNatClampNeg (((ea_up M 62 (base + (13 : Int32)).toNatClampNeg ((M 62 (base + (13 : Int32)).toNatClampNeg) + (M 78 0))) 62 (base + (14 : Int32)).toNatClampNeg) + (M 78 (M 61 6).toNatClampNeg))) 62 (base + (15 : Int32)).toNatClampNeg (((ea_up (ea_up M 62 (base + (13 : Int32)).toNatClampNeg ((M 62 (base + (13 : Int32)).toNatClampNeg) + (M 78 0))) 62 (base + (14 : Int32)).toNatClampNeg (((ea_up M 62 (base + (13 : Int32)).toNatClampNeg ((M 62 (base + (13 : Int32)).toNatClampNeg) + (M 78 0))) 62 (base + (14 : Int32)).toNatClampNeg) + (M 78 (M 61 6).toNatClampNeg))) 62 (base + (15 : Int32)).toNatClampNeg) + (1 : Int32)))) (b28 : ¬ (M 61 6) ≤ i → can = 0 → ¬ can = 0 → can = 0 ∨ can = 1) (s29 : ¬ (M 61 6) ≤ i → ¬ can = 0 → vp_in ((base + (0 : Int32)) + i) 192) (s30 : ¬ (M 61 6) ≤ i → ¬ can = 0 → vp_in i 11) (s31 : ¬ (M 61 6) ≤ i → ¬ can = 0 → vp_in (i + (1 : Int32)) 11) (s32 : ¬ (M 61 6) ≤ i → ¬ can = 0 → vp_in ((base + (0 : Int32)) + i) 192) (h33 : ¬ (M 61 6) ≤ i → ¬ can = 0 → ea_E k 95 [(0, .ref 61), (1, .int base), (2, .int can), (3, .int (i + 1))] [] (ea_up M 62 ((base + (0 : Int32)) + i).toNatClampNeg ((M 62 ((base + (0 : Int32)) + i).toNatClampNeg) + ((M 78 i.toNatClampNeg) - (M 78 (i + (1 : Int32)).toNatClampNeg))))) : ea_E k 95 [(0, .ref 61), (1, .int base), (2, .int can), (3, .int i)] [] M := by
  refine e_iload_n (n := 3) C dX7_steps_95 rfl rfl ?_
  refine e_aload_n (n := 0) C dX7_steps_96 rfl rfl ?_
  refine e_get (v := .int (M 61 6)) C fd_X7_126 (by decide) rfl rfl dX7_steps_97 ?_
  refine e_icmp_ge (tgt := 141) C dX7_steps_100 (by decide) (fun c1 => ?_) (fun c1 => ?_)
  · refine e_iload_n (n := 2) C dX7_steps_141 rfl rfl ?_
    refine e_if_eq (tgt := 197) C dX7_steps_142 (by decide) (fun c2 => ?_) (fun c2 => ?_)
    · refine e_iload_n (n := 2) C dX7_steps_197 rfl rfl ?_
      exact e_iret C X rfl (ea_nz (b4 c1 c2)) dX7_steps_198 (h3 c1 c2)
    · refine e_aload_n (n := 0) C dX7_steps_145 rfl rfl ?_
      refine e_get (v := .ref 62) C fd_X7_7 (by decide) rfl rfl dX7_steps_146 ?_
      refine e_iload_n (n := 1) C dX7_steps_149 rfl rfl ?_
      refine e_bipush (v := 13) C dX7_steps_150 (by decide) ?_
      refine e_iadd C dX7_steps_152 ?_
      refine e_dup2 C dX7_steps_153 rfl rfl ?_
      refine e_iald (n := 192) C (by decide) rfl (by decide) (s5 c1 c2) dX7_steps_154 ?_
      refine e_aload_n (n := 0) C dX7_steps_155 rfl rfl ?_
      refine e_get (v := .ref 78) C fd_X7_59 (by decide) rfl rfl dX7_steps_156 ?_
      refine e_iconst (v := 0) C dX7_steps_159 (by decide) ?_
      refine e_iald (n := 11) C (by decide) rfl (by decide) (vp_in_nI (n := 0) (N := 11) (by decide) (by decide)) dX7_steps_160 ?_
      refine e_iadd C dX7_steps_161 ?_
      refine e_iast (n := 192) C (by decide) rfl (by decide) (s7 c1 c2) dX7_steps_162 ?_
      refine e_aload_n (n := 0) C dX7_steps_163 rfl rfl ?_
      refine e_get (v := .ref 62) C fd_X7_7 (by decide) rfl rfl dX7_steps_164 ?_
      refine e_iload_n (n := 1) C dX7_steps_167 rfl rfl ?_
      refine e_bipush (v := 14) C dX7_steps_168 (by decide) ?_
      refine e_iadd C dX7_steps_170 ?_
      refine e_dup2 C dX7_steps_171 rfl rfl ?_
      refine e_iald (n := 192) C (by decide) rfl (by decide) (s8 c1 c2) dX7_steps_172 ?_
      refine e_aload_n (n := 0) C dX7_steps_173 rfl rfl ?_
      refine e_get (v := .ref 78) C fd_X7_59 (by decide) rfl rfl dX7_steps_174 ?_
      refine e_aload_n (n := 0) C dX7_steps_177 rfl rfl ?_
      refine e_get (v := .int (M 61 6)) C fd_X7_126 (by decide) rfl (congrArg (fun z => some (Value.int z)) (by simp [ea_upR, ea_upS, ea_upK, pa_setR, pa_cpR, fr_X3_add, fr_X5_forget, fr_X5_become, fr_X4_clear, fr_X4_addStuff, fr_X4_become_d, fr_X4_become_s, fr_X0_enter, fr_X0_remove] : (ea_up M 62 (base + (13 : Int32)).toNatClampNeg ((M 62 (base + (13 : Int32)).toNatClampNeg) + (M 78 0))) 61 6 = (M 61 6))) dX7_steps_178 ?_
      refine e_ialdV (n := 11) (r := M 78) (by simp [ea_upR, ea_upS, ea_upK, pa_setR, pa_cpR, fr_X3_add, fr_X5_forget, fr_X5_become, fr_X4_clear, fr_X4_addStuff, fr_X4_become_d, fr_X4_become_s, fr_X0_enter, fr_X0_remove]) C (by decide) rfl (by decide) (s9 c1 c2) dX7_steps_181 ?_
      refine e_iadd C dX7_steps_182 ?_
      refine e_iast (n := 192) C (by decide) rfl (by decide) (s10 c1 c2) dX7_steps_183 ?_
      refine e_aload_n (n := 0) C dX7_steps_184 rfl rfl ?_
      refine e_get (v := .ref 62) C fd_X7_7 (by decide) rfl rfl dX7_steps_185 ?_
      refine e_iload_n (n := 1) C dX7_steps_188 rfl rfl ?_
      refine e_bipush (v := 15) C dX7_steps_189 (by decide) ?_
      refine e_iadd C dX7_steps_191 ?_
      refine e_dup2 C dX7_steps_192 rfl rfl ?_
      refine e_iald (n := 192) C (by decide) rfl (by decide) (s11 c1 c2) dX7_steps_193 ?_
      refine e_iconst (v := 1) C dX7_steps_194 (by decide) ?_
      refine e_iadd C dX7_steps_195 ?_
      refine e_iast (n := 192) C (by decide) rfl (by decide) (s12 c1 c2) dX7_steps_196 ?_
      refine e_iload_n (n := 2) C dX7_steps_197 rfl rfl ?_
      exact e_iret C X rfl (ea_nz (b14 c1 c2)) dX7_steps_198 (h13 c1 c2)
  · refine e_iload_n (n := 2) C dX7_steps_103 rfl rfl ?_
    refine e_if_eq (tgt := 141) C dX7_steps_104 (by decide) (fun c15 => ?_) (fun c15 => ?_)
    · refine e_iload_n (n := 2) C dX7_steps_141 rfl rfl ?_
      refine e_if_eq (tgt := 197) C dX7_steps_142 (by decide) (fun c16 => ?_) (fun c16 => ?_)
      · refine e_iload_n (n := 2) C dX7_steps_197 rfl rfl ?_
        exact e_iret C X rfl (ea_nz (b18 c1 c15 c16)) dX7_steps_198 (h17 c1 c15 c16)
      · refine e_aload_n (n := 0) C dX7_steps_145 rfl rfl ?_
        refine e_get (v := .ref 62) C fd_X7_7 (by decide) rfl rfl dX7_steps_146 ?_
        refine e_iload_n (n := 1) C dX7_steps_149 rfl rfl ?_
        refine e_bipush (v := 13) C dX7_steps_150 (by decide) ?_
        refine e_iadd C dX7_steps_152 ?_
        refine e_dup2 C dX7_steps_153 rfl rfl ?_
        refine e_iald (n := 192) C (by decide) rfl (by decide) (s19 c1 c15 c16) dX7_steps_154 ?_
        refine e_aload_n (n := 0) C dX7_steps_155 rfl rfl ?_
        refine e_get (v := .ref 78) C fd_X7_59 (by decide) rfl rfl dX7_steps_156 ?_
        refine e_iconst (v := 0) C dX7_steps_159 (by decide) ?_
        refine e_iald (n := 11) C (by decide) rfl (by decide) (vp_in_nI (n := 0) (N := 11) (by decide) (by decide)) dX7_steps_160 ?_
        refine e_iadd C dX7_steps_161 ?_
        refine e_iast (n := 192) C (by decide) rfl (by decide) (s21 c1 c15 c16) dX7_steps_162 ?_
        refine e_aload_n (n := 0) C dX7_steps_163 rfl rfl ?_
        refine e_get (v := .ref 62) C fd_X7_7 (by decide) rfl rfl dX7_steps_164 ?_
        refine e_iload_n (n := 1) C dX7_steps_167 rfl rfl ?_
        refine e_bipush (v := 14) C dX7_steps_168 (by decide) ?_
        refine e_iadd C dX7_steps_170 ?_
        refine e_dup2 C dX7_steps_171 rfl rfl ?_
        refine e_iald (n := 192) C (by decide) rfl (by decide) (s22 c1 c15 c16) dX7_steps_172 ?_
        refine e_aload_n (n := 0) C dX7_steps_173 rfl rfl ?_
        refine e_get (v := .ref 78) C fd_X7_59 (by decide) rfl rfl dX7_steps_174 ?_
        refine e_aload_n (n := 0) C dX7_steps_177 rfl rfl ?_
        refine e_get (v := .int (M 61 6)) C fd_X7_126 (by decide) rfl (congrArg (fun z => some (Value.int z)) (by simp [ea_upR, ea_upS, ea_upK, pa_setR, pa_cpR, fr_X3_add, fr_X5_forget, fr_X5_become, fr_X4_clear, fr_X4_addStuff, fr_X4_become_d, fr_X4_become_s, fr_X0_enter, fr_X0_remove] : (ea_up M 62 (base + (13 : Int32)).toNatClampNeg ((M 62 (base + (13 : Int32)).toNatClampNeg) + (M 78 0))) 61 6 = (M 61 6))) dX7_steps_178 ?_
        refine e_ialdV (n := 11) (r := M 78) (by simp [ea_upR, ea_upS, ea_upK, pa_setR, pa_cpR, fr_X3_add, fr_X5_forget, fr_X5_become, fr_X4_clear, fr_X4_addStuff, fr_X4_become_d, fr_X4_become_s, fr_X0_enter, fr_X0_remove]) C (by decide) rfl (by decide) (s23 c1 c15 c16) dX7_steps_181 ?_
        refine e_iadd C dX7_steps_182 ?_
        refine e_iast (n := 192) C (by decide) rfl (by decide) (s24 c1 c15 c16) dX7_steps_183 ?_
        refine e_aload_n (n := 0) C dX7_steps_184 rfl rfl ?_
        refine e_get (v := .ref 62) C fd_X7_7 (by decide) rfl rfl dX7_steps_185 ?_
        refine e_iload_n (n := 1) C dX7_steps_188 rfl rfl ?_
        refine e_bipush (v := 15) C dX7_steps_189 (by decide) ?_
        refine e_iadd C dX7_steps_191 ?_
        refine e_dup2 C dX7_steps_192 rfl rfl ?_
        refine e_iald (n := 192) C (by decide) rfl (by decide) (s25 c1 c15 c16) dX7_steps_193 ?_
        refine e_iconst (v := 1) C dX7_steps_194 (by decide) ?_
        refine e_iadd C dX7_steps_195 ?_
        refine e_iast (n := 192) C (by decide) rfl (by decide) (s26 c1 c15 c16) dX7_steps_196 ?_
        refine e_iload_n (n := 2) C dX7_steps_197 rfl rfl ?_
        exact e_iret C X rfl (ea_nz (b28 c1 c15 c16)) dX7_steps_198 (h27 c1 c15 c16)
    · refine e_aload_n (n := 0) C dX7_steps_107 rfl rfl ?_
      refine e_get (v := .ref 62) C fd_X7_7 (by decide) rfl rfl dX7_steps_108 ?_
      refine e_iload_n (n := 1) C dX7_steps_111 rfl rfl ?_
      refine e_iconst (v := 0) C dX7_steps_112 (by decide) ?_
      refine e_iadd C dX7_steps_113 ?_
      refine e_iload_n (n := 3) C dX7_steps_114 rfl rfl ?_
      refine e_iadd C dX7_steps_115 ?_
      refine e_dup2 C dX7_steps_116 rfl rfl ?_
      refine e_iald (n := 192) C (by decide) rfl (by decide) (s29 c1 c15) dX7_steps_117 ?_
      refine e_aload_n (n := 0) C dX7_steps_118 rfl rfl ?_
      refine e_get (v := .ref 78) C fd_X7_59 (by decide) rfl rfl dX7_steps_119 ?_
      refine e_iload_n (n := 3) C dX7_steps_122 rfl rfl ?_
      refine e_iald (n := 11) C (by decide) rfl (by decide) (s30 c1 c15) dX7_steps_123 ?_
      refine e_aload_n (n := 0) C dX7_steps_124 rfl rfl ?_
      refine e_get (v := .ref 78) C fd_X7_59 (by decide) rfl rfl dX7_steps_125 ?_
      refine e_iload_n (n := 3) C dX7_steps_128 rfl rfl ?_
      refine e_iconst (v := 1) C dX7_steps_129 (by decide) ?_
      refine e_iadd C dX7_steps_130 ?_
      refine e_iald (n := 11) C (by decide) rfl (by decide) (s31 c1 c15) dX7_steps_131 ?_
      refine e_isub C dX7_steps_132 ?_
      refine e_iadd C dX7_steps_133 ?_
      refine e_iast (n := 192) C (by decide) rfl (by decide) (s32 c1 c15) dX7_steps_134 ?_
      refine e_iinc (n := 3) (v := (i + 1)) C dX7_steps_135 rfl rfl (by decide) rfl ?_
      refine e_goto (tgt := 95) C dX7_steps_138 (by decide) ?_
      refine e_perm C [1, 2, 3, 0] rfl ?_
      exact (h33 c1 c15)
set_option maxRecDepth 100000 in
set_option maxHeartbeats 4000000 in
theorem km_safe_4 {k : ea_K} {o : Option Value} {M' : ea_M} (C : ea_C k RX7 cX7_safe 3 2) (X : ea_X k (some .int) o M') {M : ea_M} {a i : Int32} {r1 r2 : Int32}   (h2 : (M 61 6) ≤ i → o = some (.int a) ∧ M' = M) (q3 : ¬ (M 61 6) ≤ i → ea_Sp 1 yX7_safeFor cX7_safeFor 7 (some .int) [.ref 61, .int i] M (some (.int r1)) M) (h5 : ¬ (M 61 6) ≤ i → r1 ≤ a → ea_E k 4 [(0, .ref 61), (1, .int a), (2, .int (i + 1))] [] M) (q6 : ¬ (M 61 6) ≤ i → ¬ r1 ≤ a → ea_Sp 1 yX7_safeFor cX7_safeFor 7 (some .int) [.ref 61, .int i] M (some (.int r2)) M) (h7 : ¬ (M 61 6) ≤ i → ¬ r1 ≤ a → ea_E k 4 [(0, .ref 61), (1, .int r2), (2, .int (i + 1))] [] M) : ea_E k 4 [(0, .ref 61), (1, .int a), (2, .int i)] [] M := by
  refine e_iload_n (n := 2) C dX7_safe_4 rfl rfl ?_
  refine e_aload_n (n := 0) C dX7_safe_5 rfl rfl ?_
  refine e_get (v := .int (M 61 6)) C fd_X7_126 (by decide) rfl rfl dX7_safe_6 ?_
  refine e_icmp_ge (tgt := 37) C dX7_safe_9 (by decide) (fun c1 => ?_) (fun c1 => ?_)
  · refine e_iload_n (n := 1) C dX7_safe_37 rfl rfl ?_
    exact e_iret C X rfl (vp_nar_int _) dX7_safe_38 (h2 c1)
  · refine e_aload_n (n := 0) C dX7_safe_12 rfl rfl ?_
    refine e_iload_n (n := 2) C dX7_safe_13 rfl rfl ?_
    refine e_callV1 (as := [.int i]) (rest := []) C lk_X7_198 (q3 c1) (by decide) rfl (by decide) rfl (by decide) rfl rfl (Nat.le_of_ble_eq_true rfl) dX7_safe_14 ?_
    refine e_iload_n (n := 1) C dX7_safe_17 rfl rfl ?_
    refine e_icmp_le (tgt := 29) C dX7_safe_18 (by decide) (fun c4 => ?_) (fun c4 => ?_)
    · refine e_iload_n (n := 1) C dX7_safe_29 rfl rfl ?_
      refine e_istore_n C dX7_safe_30 rfl (by decide) rfl ?_
      refine e_iinc (n := 2) (v := (i + 1)) C dX7_safe_31 rfl rfl (by decide) rfl ?_
      refine e_goto (tgt := 4) C dX7_safe_34 (by decide) ?_
      refine e_perm C [2, 1, 0] rfl ?_
      exact (h5 c1 c4)
    · refine e_aload_n (n := 0) C dX7_safe_21 rfl rfl ?_
      refine e_iload_n (n := 2) C dX7_safe_22 rfl rfl ?_
      refine e_callV1 (as := [.int i]) (rest := []) C lk_X7_198 (q6 c1 c4) (by decide) rfl (by decide) rfl (by decide) rfl rfl (Nat.le_of_ble_eq_true rfl) dX7_safe_23 ?_
      refine e_goto (tgt := 30) C dX7_safe_26 (by decide) ?_
      refine e_istore_n C dX7_safe_30 rfl (by decide) rfl ?_
      refine e_iinc (n := 2) (v := (i + 1)) C dX7_safe_31 rfl rfl (by decide) rfl ?_
      refine e_goto (tgt := 4) C dX7_safe_34 (by decide) ?_
      refine e_perm C [2, 1, 0] rfl ?_
      exact (h7 c1 c4)
set_option maxRecDepth 100000 in
set_option maxHeartbeats 4000000 in
theorem km_keepPast {k : ea_K} {o : Option Value} {M' : ea_M} (C : ea_C k RX7 cX7_keepPast 2 1) (X : ea_X k none o M') {M : ea_M}   (h1 : ea_E k 2 [(0, .ref 61), (1, .int (0 : Int32))] [] M) : ea_E k 0 [(0, .ref 61)] [] M := by
  refine e_iconst (v := 0) C dX7_keepPast_0 (by decide) ?_
  refine e_istore_n C dX7_keepPast_1 rfl (by decide) rfl ?_
  refine e_perm C [1, 0] rfl ?_
  exact h1
set_option maxRecDepth 100000 in
set_option maxHeartbeats 4000000 in
theorem km_keepPast_2 {k : ea_K} {o : Option Value} {M' : ea_M} (C : ea_C k RX7 cX7_keepPast 2 1) (X : ea_X k none o M') {M : ea_M} {j : Int32} {M1 M2 M3 M4 : ea_M}   (q3 : (112 : Int32) ≤ j → ¬ (M 61 8) = (8 : Int32) → ea_Sp 0 yX7_copyRow cX7_copyRow 4 none [.ref 61, .int (0 : Int32), .int ((16 : Int32) + ((16 : Int32) * ((M 61 8) - (0 : Int32))))] (ea_up M 61 8 ((M 61 8) - (0 : Int32))) none M1) (h4 : (112 : Int32) ≤ j → ¬ (M 61 8) = (8 : Int32) → o = none ∧ M' = (ea_up M1 61 8 ((M1 61 8) + (1 : Int32)))) (q5 : (112 : Int32) ≤ j → (M 61 8) = (8 : Int32) → ea_Sp 0 yX7_copyRow cX7_copyRow 4 none [.ref 61, .int (0 : Int32), .int ((16 : Int32) + ((16 : Int32) * ((M 61 8) - (1 : Int32))))] (ea_up M 61 8 ((M 61 8) - (1 : Int32))) none M2) (h6 : (112 : Int32) ≤ j → (M 61 8) = (8 : Int32) → o = none ∧ M' = (ea_up M2 61 8 ((M2 61 8) + (1 : Int32)))) (q9 : ¬ (112 : Int32) ≤ j → ¬ (M 61 8) = (8 : Int32) → ¬ (M 61 8) = (8 : Int32) → ea_Sp 0 yX7_copyRow cX7_copyRow 4 none [.ref 61, .int (0 : Int32), .int ((16 : Int32) + ((16 : Int32) * ((M 61 8) - (0 : Int32))))] (ea_up M 61 8 ((M 61 8) - (0 : Int32))) none M3) (h10 : ¬ (112 : Int32) ≤ j → ¬ (M 61 8) = (8 : Int32) → ¬ (M 61 8) = (8 : Int32) → o = none ∧ M' = (ea_up M3 61 8 ((M3 61 8) + (1 : Int32)))) (q11 : ¬ (112 : Int32) ≤ j → ¬ (M 61 8) = (8 : Int32) → (M 61 8) = (8 : Int32) → ea_Sp 0 yX7_copyRow cX7_copyRow 4 none [.ref 61, .int (0 : Int32), .int ((16 : Int32) + ((16 : Int32) * ((M 61 8) - (1 : Int32))))] (ea_up M 61 8 ((M 61 8) - (1 : Int32))) none M4) (h12 : ¬ (112 : Int32) ≤ j → ¬ (M 61 8) = (8 : Int32) → (M 61 8) = (8 : Int32) → o = none ∧ M' = (ea_up M4 61 8 ((M4 61 8) + (1 : Int32)))) (s13 : ¬ (112 : Int32) ≤ j → (M 61 8) = (8 : Int32) → vp_in ((32 : Int32) + j) 192) (s14 : ¬ (112 : Int32) ≤ j → (M 61 8) = (8 : Int32) → vp_in ((16 : Int32) + j) 192) (h15 : ¬ (112 : Int32) ≤ j → (M 61 8) = (8 : Int32) → ea_E k 2 [(0, .ref 61), (1, .int (j + 1))] [] (ea_up M 62 ((16 : Int32) + j).toNatClampNeg (M 62 ((32 : Int32) + j).toNatClampNeg))) : ea_E k 2 [(0, .ref 61), (1, .int j)] [] M := by
  refine e_iload_n (n := 1) C dX7_keepPast_2 rfl rfl ?_
  refine e_bipush (v := 112) C dX7_keepPast_3 (by decide) ?_
  refine e_icmp_ge (tgt := 41) C dX7_keepPast_5 (by decide) (fun c1 => ?_) (fun c1 => ?_)
  · refine e_aload_n (n := 0) C dX7_keepPast_41 rfl rfl ?_
    refine e_dup C dX7_keepPast_42 rfl ?_
    refine e_get (v := .int (M 61 8)) C fd_X7_157 (by decide) rfl rfl dX7_keepPast_43 ?_
    refine e_aload_n (n := 0) C dX7_keepPast_46 rfl rfl ?_
    refine e_get (v := .int (M 61 8)) C fd_X7_157 (by decide) rfl rfl dX7_keepPast_47 ?_
    refine e_bipush (v := 8) C dX7_keepPast_50 (by decide) ?_
    refine e_icmp_ne (tgt := 59) C dX7_keepPast_52 (by decide) (fun c2 => ?_) (fun c2 => ?_)
    · refine e_iconst (v := 0) C dX7_keepPast_59 (by decide) ?_
      refine e_isub C dX7_keepPast_60 ?_
      refine e_put (ty := .int) C fd_X7_157 (by decide) rfl rfl (by decide +kernel) (vp_nar_int _) rfl (ea_set7_8 _ _ _) dX7_keepPast_61 ?_
      refine e_aload_n (n := 0) C dX7_keepPast_64 rfl rfl ?_
      refine e_iconst (v := 0) C dX7_keepPast_65 (by decide) ?_
      refine e_bipush (v := 16) C dX7_keepPast_66 (by decide) ?_
      refine e_bipush (v := 16) C dX7_keepPast_68 (by decide) ?_
      refine e_aload_n (n := 0) C dX7_keepPast_70 rfl rfl ?_
      refine e_get (v := .int ((M 61 8) - (0 : Int32))) C fd_X7_157 (by decide) rfl (congrArg (fun z => some (Value.int z)) (by simp [ea_upR, ea_upS, ea_upK, pa_setR, pa_cpR, fr_X3_add, fr_X5_forget, fr_X5_become, fr_X4_clear, fr_X4_addStuff, fr_X4_become_d, fr_X4_become_s, fr_X0_enter, fr_X0_remove] : (ea_up M 61 8 ((M 61 8) - (0 : Int32))) 61 8 = ((M 61 8) - (0 : Int32)))) dX7_keepPast_71 ?_
      refine e_imul C dX7_keepPast_74 ?_
      refine e_iadd C dX7_keepPast_75 ?_
      refine e_callV0 (as := [.int (0 : Int32), .int ((16 : Int32) + ((16 : Int32) * ((M 61 8) - (0 : Int32))))]) (rest := []) C lk_X7_201 (q3 c1 c2) (by decide) rfl (by decide) rfl (by decide) rfl rfl (Nat.le_of_ble_eq_true rfl) dX7_keepPast_76 ?_
      refine e_aload_n (n := 0) C dX7_keepPast_79 rfl rfl ?_
      refine e_dup C dX7_keepPast_80 rfl ?_
      refine e_get (v := .int (M1 61 8)) C fd_X7_157 (by decide) rfl rfl dX7_keepPast_81 ?_
      refine e_iconst (v := 1) C dX7_keepPast_84 (by decide) ?_
      refine e_iadd C dX7_keepPast_85 ?_
      refine e_put (ty := .int) C fd_X7_157 (by decide) rfl rfl (by decide +kernel) (vp_nar_int _) rfl (ea_set7_8 _ _ _) dX7_keepPast_86 ?_
      exact e_vret C X dX7_keepPast_89 (h4 c1 c2)
    · refine e_iconst (v := 1) C dX7_keepPast_55 (by decide) ?_
      refine e_goto (tgt := 60) C dX7_keepPast_56 (by decide) ?_
      refine e_isub C dX7_keepPast_60 ?_
      refine e_put (ty := .int) C fd_X7_157 (by decide) rfl rfl (by decide +kernel) (vp_nar_int _) rfl (ea_set7_8 _ _ _) dX7_keepPast_61 ?_
      refine e_aload_n (n := 0) C dX7_keepPast_64 rfl rfl ?_
      refine e_iconst (v := 0) C dX7_keepPast_65 (by decide) ?_
      refine e_bipush (v := 16) C dX7_keepPast_66 (by decide) ?_
      refine e_bipush (v := 16) C dX7_keepPast_68 (by decide) ?_
      refine e_aload_n (n := 0) C dX7_keepPast_70 rfl rfl ?_
      refine e_get (v := .int ((M 61 8) - (1 : Int32))) C fd_X7_157 (by decide) rfl (congrArg (fun z => some (Value.int z)) (by simp [ea_upR, ea_upS, ea_upK, pa_setR, pa_cpR, fr_X3_add, fr_X5_forget, fr_X5_become, fr_X4_clear, fr_X4_addStuff, fr_X4_become_d, fr_X4_become_s, fr_X0_enter, fr_X0_remove] : (ea_up M 61 8 ((M 61 8) - (1 : Int32))) 61 8 = ((M 61 8) - (1 : Int32)))) dX7_keepPast_71 ?_
      refine e_imul C dX7_keepPast_74 ?_
      refine e_iadd C dX7_keepPast_75 ?_
      refine e_callV0 (as := [.int (0 : Int32), .int ((16 : Int32) + ((16 : Int32) * ((M 61 8) - (1 : Int32))))]) (rest := []) C lk_X7_201 (q5 c1 c2) (by decide) rfl (by decide) rfl (by decide) rfl rfl (Nat.le_of_ble_eq_true rfl) dX7_keepPast_76 ?_
      refine e_aload_n (n := 0) C dX7_keepPast_79 rfl rfl ?_
      refine e_dup C dX7_keepPast_80 rfl ?_
      refine e_get (v := .int (M2 61 8)) C fd_X7_157 (by decide) rfl rfl dX7_keepPast_81 ?_
      refine e_iconst (v := 1) C dX7_keepPast_84 (by decide) ?_
      refine e_iadd C dX7_keepPast_85 ?_
      refine e_put (ty := .int) C fd_X7_157 (by decide) rfl rfl (by decide +kernel) (vp_nar_int _) rfl (ea_set7_8 _ _ _) dX7_keepPast_86 ?_
      exact e_vret C X dX7_keepPast_89 (h6 c1 c2)
  · refine e_aload_n (n := 0) C dX7_keepPast_8 rfl rfl ?_
    refine e_get (v := .int (M 61 8)) C fd_X7_157 (by decide) rfl rfl dX7_keepPast_9 ?_
    refine e_bipush (v := 8) C dX7_keepPast_12 (by decide) ?_
    refine e_icmp_ne (tgt := 41) C dX7_keepPast_14 (by decide) (fun c7 => ?_) (fun c7 => ?_)
    · refine e_aload_n (n := 0) C dX7_keepPast_41 rfl rfl ?_
      refine e_dup C dX7_keepPast_42 rfl ?_
      refine e_get (v := .int (M 61 8)) C fd_X7_157 (by decide) rfl rfl dX7_keepPast_43 ?_
      refine e_aload_n (n := 0) C dX7_keepPast_46 rfl rfl ?_
      refine e_get (v := .int (M 61 8)) C fd_X7_157 (by decide) rfl rfl dX7_keepPast_47 ?_
      refine e_bipush (v := 8) C dX7_keepPast_50 (by decide) ?_
      refine e_icmp_ne (tgt := 59) C dX7_keepPast_52 (by decide) (fun c8 => ?_) (fun c8 => ?_)
      · refine e_iconst (v := 0) C dX7_keepPast_59 (by decide) ?_
        refine e_isub C dX7_keepPast_60 ?_
        refine e_put (ty := .int) C fd_X7_157 (by decide) rfl rfl (by decide +kernel) (vp_nar_int _) rfl (ea_set7_8 _ _ _) dX7_keepPast_61 ?_
        refine e_aload_n (n := 0) C dX7_keepPast_64 rfl rfl ?_
        refine e_iconst (v := 0) C dX7_keepPast_65 (by decide) ?_
        refine e_bipush (v := 16) C dX7_keepPast_66 (by decide) ?_
        refine e_bipush (v := 16) C dX7_keepPast_68 (by decide) ?_
        refine e_aload_n (n := 0) C dX7_keepPast_70 rfl rfl ?_
        refine e_get (v := .int ((M 61 8) - (0 : Int32))) C fd_X7_157 (by decide) rfl (congrArg (fun z => some (Value.int z)) (by simp [ea_upR, ea_upS, ea_upK, pa_setR, pa_cpR, fr_X3_add, fr_X5_forget, fr_X5_become, fr_X4_clear, fr_X4_addStuff, fr_X4_become_d, fr_X4_become_s, fr_X0_enter, fr_X0_remove] : (ea_up M 61 8 ((M 61 8) - (0 : Int32))) 61 8 = ((M 61 8) - (0 : Int32)))) dX7_keepPast_71 ?_
        refine e_imul C dX7_keepPast_74 ?_
        refine e_iadd C dX7_keepPast_75 ?_
        refine e_callV0 (as := [.int (0 : Int32), .int ((16 : Int32) + ((16 : Int32) * ((M 61 8) - (0 : Int32))))]) (rest := []) C lk_X7_201 (q9 c1 c7 c8) (by decide) rfl (by decide) rfl (by decide) rfl rfl (Nat.le_of_ble_eq_true rfl) dX7_keepPast_76 ?_
        refine e_aload_n (n := 0) C dX7_keepPast_79 rfl rfl ?_
        refine e_dup C dX7_keepPast_80 rfl ?_
        refine e_get (v := .int (M3 61 8)) C fd_X7_157 (by decide) rfl rfl dX7_keepPast_81 ?_
        refine e_iconst (v := 1) C dX7_keepPast_84 (by decide) ?_
        refine e_iadd C dX7_keepPast_85 ?_
        refine e_put (ty := .int) C fd_X7_157 (by decide) rfl rfl (by decide +kernel) (vp_nar_int _) rfl (ea_set7_8 _ _ _) dX7_keepPast_86 ?_
        exact e_vret C X dX7_keepPast_89 (h10 c1 c7 c8)
      · refine e_iconst (v := 1) C dX7_keepPast_55 (by decide) ?_
        refine e_goto (tgt := 60) C dX7_keepPast_56 (by decide) ?_
        refine e_isub C dX7_keepPast_60 ?_
        refine e_put (ty := .int) C fd_X7_157 (by decide) rfl rfl (by decide +kernel) (vp_nar_int _) rfl (ea_set7_8 _ _ _) dX7_keepPast_61 ?_
        refine e_aload_n (n := 0) C dX7_keepPast_64 rfl rfl ?_
        refine e_iconst (v := 0) C dX7_keepPast_65 (by decide) ?_
        refine e_bipush (v := 16) C dX7_keepPast_66 (by decide) ?_
        refine e_bipush (v := 16) C dX7_keepPast_68 (by decide) ?_
        refine e_aload_n (n := 0) C dX7_keepPast_70 rfl rfl ?_
        refine e_get (v := .int ((M 61 8) - (1 : Int32))) C fd_X7_157 (by decide) rfl (congrArg (fun z => some (Value.int z)) (by simp [ea_upR, ea_upS, ea_upK, pa_setR, pa_cpR, fr_X3_add, fr_X5_forget, fr_X5_become, fr_X4_clear, fr_X4_addStuff, fr_X4_become_d, fr_X4_become_s, fr_X0_enter, fr_X0_remove] : (ea_up M 61 8 ((M 61 8) - (1 : Int32))) 61 8 = ((M 61 8) - (1 : Int32)))) dX7_keepPast_71 ?_
        refine e_imul C dX7_keepPast_74 ?_
        refine e_iadd C dX7_keepPast_75 ?_
        refine e_callV0 (as := [.int (0 : Int32), .int ((16 : Int32) + ((16 : Int32) * ((M 61 8) - (1 : Int32))))]) (rest := []) C lk_X7_201 (q11 c1 c7 c8) (by decide) rfl (by decide) rfl (by decide) rfl rfl (Nat.le_of_ble_eq_true rfl) dX7_keepPast_76 ?_
        refine e_aload_n (n := 0) C dX7_keepPast_79 rfl rfl ?_
        refine e_dup C dX7_keepPast_80 rfl ?_
        refine e_get (v := .int (M4 61 8)) C fd_X7_157 (by decide) rfl rfl dX7_keepPast_81 ?_
        refine e_iconst (v := 1) C dX7_keepPast_84 (by decide) ?_
        refine e_iadd C dX7_keepPast_85 ?_
        refine e_put (ty := .int) C fd_X7_157 (by decide) rfl rfl (by decide +kernel) (vp_nar_int _) rfl (ea_set7_8 _ _ _) dX7_keepPast_86 ?_
        exact e_vret C X dX7_keepPast_89 (h12 c1 c7 c8)
    · refine e_aload_n (n := 0) C dX7_keepPast_17 rfl rfl ?_
      refine e_get (v := .ref 62) C fd_X7_7 (by decide) rfl rfl dX7_keepPast_18 ?_
      refine e_bipush (v := 16) C dX7_keepPast_21 (by decide) ?_
      refine e_iload_n (n := 1) C dX7_keepPast_23 rfl rfl ?_
      refine e_iadd C dX7_keepPast_24 ?_
      refine e_aload_n (n := 0) C dX7_keepPast_25 rfl rfl ?_
      refine e_get (v := .ref 62) C fd_X7_7 (by decide) rfl rfl dX7_keepPast_26 ?_
      refine e_bipush (v := 32) C dX7_keepPast_29 (by decide) ?_
      refine e_iload_n (n := 1) C dX7_keepPast_31 rfl rfl ?_
      refine e_iadd C dX7_keepPast_32 ?_
      refine e_iald (n := 192) C (by decide) rfl (by decide) (s13 c1 c7) dX7_keepPast_33 ?_
      refine e_iast (n := 192) C (by decide) rfl (by decide) (s14 c1 c7) dX7_keepPast_34 ?_
      refine e_iinc (n := 1) (v := (j + 1)) C dX7_keepPast_35 rfl rfl (by decide) rfl ?_
      refine e_goto (tgt := 2) C dX7_keepPast_38 (by decide) ?_
      refine e_perm C [1, 0] rfl ?_
      exact (h15 c1 c7)
set_option maxRecDepth 100000 in
set_option maxHeartbeats 4000000 in
theorem km_until {k : ea_K} {o : Option Value} {M' : ea_M} (C : ea_C k RX7 cX7_until 5 3) (X : ea_X k (some .int) o M') {M : ea_M} {c g : Int32} {M1 : ea_M}   (q3 : p_X7_isCell M c → p_X7_in ((g).toInt64) (0 : Int64) (999 : Int64) → ea_Sp 0 yX7_copyRow cX7_copyRow 4 none [.ref 61, .int (0 : Int32), .int (176 : Int32)] M none M1) (h4 : p_X7_isCell M c → p_X7_in ((g).toInt64) (0 : Int64) (999 : Int64) → ea_E k 39 [(0, .ref 61), (1, .int c), (2, .int g), (3, .int (0 : Int32)), (4, .int (1 : Int32))] [] M1) (h5 : p_X7_isCell M c → ¬ p_X7_in ((g).toInt64) (0 : Int64) (999 : Int64) → o = some (.int (-2000000002 : Int32)) ∧ M' = M) (h6 : ¬ p_X7_isCell M c → o = some (.int (-2000000001 : Int32)) ∧ M' = M) : ea_E k 0 [(0, .ref 61), (1, .int c), (2, .int g)] [] M := by
  refine e_aload_n (n := 0) C dX7_until_0 rfl rfl ?_
  refine e_iload_n (n := 1) C dX7_until_1 rfl rfl ?_
  refine e_callV1 (as := [.int c]) (rest := []) C lk_X7_172 (sp_X7_isCell (M := M) (i := c) ) (by decide) rfl (by decide) rfl (by decide) rfl rfl (Nat.le_of_ble_eq_true rfl) dX7_until_2 ?_
  refine e_ifb_ne (tgt := 11) C dX7_until_5 (by decide) (fun c1 => ?_) (fun c1 => ?_)
  · refine e_iload_n (n := 2) C dX7_until_11 rfl rfl ?_
    refine e_i2l C dX7_until_12 ?_
    refine e_lconst (v := 0) C dX7_until_13 (by decide) ?_
    refine e_ldc2 C kc_X7_217 dX7_until_14 ?_
    refine e_callS1 (as := [.long ((g).toInt64), .long (0 : Int64), .long (999 : Int64)]) (rest := []) C lk_X7_64 (sp_X7_in (M := M) (v := ((g).toInt64)) (a := (0 : Int64)) (b := (999 : Int64)) ) (by decide) rfl rfl (Nat.le_of_ble_eq_true rfl) dX7_until_17 ?_
    refine e_ifb_ne (tgt := 26) C dX7_until_20 (by decide) (fun c2 => ?_) (fun c2 => ?_)
    · refine e_aload_n (n := 0) C dX7_until_26 rfl rfl ?_
      refine e_iconst (v := 0) C dX7_until_27 (by decide) ?_
      refine e_sipush (v := 176) C dX7_until_28 (by decide) ?_
      refine e_callV0 (as := [.int (0 : Int32), .int (176 : Int32)]) (rest := []) C lk_X7_201 (q3 c1 c2) (by decide) rfl (by decide) rfl (by decide) rfl rfl (Nat.le_of_ble_eq_true rfl) dX7_until_31 ?_
      refine e_iconst (v := 0) C dX7_until_34 (by decide) ?_
      refine e_istore_n C dX7_until_35 rfl (by decide) rfl ?_
      refine e_iconst (v := 1) C dX7_until_36 (by decide) ?_
      refine e_istore C dX7_until_37 (by decide) rfl ?_
      refine e_perm C [2, 3, 4, 1, 0] rfl ?_
      exact (h4 c1 c2)
    · refine e_ldc C kc_X7_68 dX7_until_23 ?_
      exact e_iret C X rfl (vp_nar_int _) dX7_until_25 (h5 c1 c2)
  · refine e_ldc C kc_X7_167 dX7_until_8 ?_
    exact e_iret C X rfl (vp_nar_int _) dX7_until_10 (h6 c1)
set_option maxRecDepth 100000 in
set_option maxHeartbeats 4000000 in
theorem km_until_39 {k : ea_K} {o : Option Value} {M' : ea_M} (C : ea_C k RX7 cX7_until 5 3) (X : ea_X k (some .int) o M') {M : ea_M} {c g n can : Int32} {M5 : ea_M} {r1 r2 r3 r4 r5 : Int32}   (h3 : can = 0 → can = 0 → o = some (.int (-1 : Int32)) ∧ M' = M) (s4 : can = 0 → ¬ can = 0 → vp_in ((176 : Int32) + c) 192) (q5 : can = 0 → ¬ can = 0 → ea_Sp 0 yX7_holdsOf cX7_holdsOf 2 (some .int) [.ref 61, .int c] M (some (.int r1)) M) (h7 : can = 0 → ¬ can = 0 → (M 62 ((176 : Int32) + c).toNatClampNeg) < (g * r1) → o = some (.int (-1 : Int32)) ∧ M' = M) (h8 : can = 0 → ¬ can = 0 → ¬ (M 62 ((176 : Int32) + c).toNatClampNeg) < (g * r1) → o = some (.int n) ∧ M' = M) (h11 : ¬ can = 0 → (200 : Int32) ≤ n → can = 0 → o = some (.int (-1 : Int32)) ∧ M' = M) (s12 : ¬ can = 0 → (200 : Int32) ≤ n → ¬ can = 0 → vp_in ((176 : Int32) + c) 192) (q13 : ¬ can = 0 → (200 : Int32) ≤ n → ¬ can = 0 → ea_Sp 0 yX7_holdsOf cX7_holdsOf 2 (some .int) [.ref 61, .int c] M (some (.int r2)) M) (h15 : ¬ can = 0 → (200 : Int32) ≤ n → ¬ can = 0 → (M 62 ((176 : Int32) + c).toNatClampNeg) < (g * r2) → o = some (.int (-1 : Int32)) ∧ M' = M) (h16 : ¬ can = 0 → (200 : Int32) ≤ n → ¬ can = 0 → ¬ (M 62 ((176 : Int32) + c).toNatClampNeg) < (g * r2) → o = some (.int n) ∧ M' = M) (s17 : ¬ can = 0 → ¬ (200 : Int32) ≤ n → vp_in ((176 : Int32) + c) 192) (q18 : ¬ can = 0 → ¬ (200 : Int32) ≤ n → ea_Sp 0 yX7_holdsOf cX7_holdsOf 2 (some .int) [.ref 61, .int c] M (some (.int r3)) M) (h21 : ¬ can = 0 → ¬ (200 : Int32) ≤ n → (g * r3) ≤ (M 62 ((176 : Int32) + c).toNatClampNeg) → can = 0 → o = some (.int (-1 : Int32)) ∧ M' = M) (s22 : ¬ can = 0 → ¬ (200 : Int32) ≤ n → (g * r3) ≤ (M 62 ((176 : Int32) + c).toNatClampNeg) → ¬ can = 0 → vp_in ((176 : Int32) + c) 192) (q23 : ¬ can = 0 → ¬ (200 : Int32) ≤ n → (g * r3) ≤ (M 62 ((176 : Int32) + c).toNatClampNeg) → ¬ can = 0 → ea_Sp 0 yX7_holdsOf cX7_holdsOf 2 (some .int) [.ref 61, .int c] M (some (.int r4)) M) (h25 : ¬ can = 0 → ¬ (200 : Int32) ≤ n → (g * r3) ≤ (M 62 ((176 : Int32) + c).toNatClampNeg) → ¬ can = 0 → (M 62 ((176 : Int32) + c).toNatClampNeg) < (g * r4) → o = some (.int (-1 : Int32)) ∧ M' = M) (h26 : ¬ can = 0 → ¬ (200 : Int32) ≤ n → (g * r3) ≤ (M 62 ((176 : Int32) + c).toNatClampNeg) → ¬ can = 0 → ¬ (M 62 ((176 : Int32) + c).toNatClampNeg) < (g * r4) → o = some (.int n) ∧ M' = M) (q27 : ¬ can = 0 → ¬ (200 : Int32) ≤ n → ¬ (g * r3) ≤ (M 62 ((176 : Int32) + c).toNatClampNeg) → ea_Sp 2 yX7_steps cX7_steps 4 (some .boolean) [.ref 61, .int (176 : Int32)] M (some (.int r5)) M5) (h28 : ¬ can = 0 → ¬ (200 : Int32) ≤ n → ¬ (g * r3) ≤ (M 62 ((176 : Int32) + c).toNatClampNeg) → ea_E k 39 [(0, .ref 61), (1, .int c), (2, .int g), (3, .int (n + 1)), (4, .int r5)] [] M5) : ea_E k 39 [(0, .ref 61), (1, .int c), (2, .int g), (3, .int n), (4, .int can)] [] M := by
  refine e_iload (n := 4) C dX7_until_39 rfl ?_
  refine e_if_eq (tgt := 86) C dX7_until_41 (by decide) (fun c1 => ?_) (fun c1 => ?_)
  · refine e_iload (n := 4) C dX7_until_86 rfl ?_
    refine e_if_eq (tgt := 115) C dX7_until_88 (by decide) (fun c2 => ?_) (fun c2 => ?_)
    · refine e_iconst (v := -1) C dX7_until_115 (by decide) ?_
      exact e_iret C X rfl (vp_nar_int _) dX7_until_116 (h3 c1 c2)
    · refine e_aload_n (n := 0) C dX7_until_91 rfl rfl ?_
      refine e_get (v := .ref 62) C fd_X7_7 (by decide) rfl rfl dX7_until_92 ?_
      refine e_sipush (v := 176) C dX7_until_95 (by decide) ?_
      refine e_iload_n (n := 1) C dX7_until_98 rfl rfl ?_
      refine e_iadd C dX7_until_99 ?_
      refine e_iald (n := 192) C (by decide) rfl (by decide) (s4 c1 c2) dX7_until_100 ?_
      refine e_iload_n (n := 2) C dX7_until_101 rfl rfl ?_
      refine e_aload_n (n := 0) C dX7_until_102 rfl rfl ?_
      refine e_iload_n (n := 1) C dX7_until_103 rfl rfl ?_
      refine e_callV1 (as := [.int c]) (rest := [.int g, .int (M 62 ((176 : Int32) + c).toNatClampNeg)]) C lk_X7_175 (q5 c1 c2) (by decide) rfl (by decide) rfl (by decide) rfl rfl (Nat.le_of_ble_eq_true rfl) dX7_until_104 ?_
      refine e_imul C dX7_until_107 ?_
      refine e_icmp_lt (tgt := 115) C dX7_until_108 (by decide) (fun c6 => ?_) (fun c6 => ?_)
      · refine e_iconst (v := -1) C dX7_until_115 (by decide) ?_
        exact e_iret C X rfl (vp_nar_int _) dX7_until_116 (h7 c1 c2 c6)
      · refine e_iload_n (n := 3) C dX7_until_111 rfl rfl ?_
        refine e_goto (tgt := 116) C dX7_until_112 (by decide) ?_
        exact e_iret C X rfl (vp_nar_int _) dX7_until_116 (h8 c1 c2 c6)
  · refine e_iload_n (n := 3) C dX7_until_44 rfl rfl ?_
    refine e_sipush (v := 200) C dX7_until_45 (by decide) ?_
    refine e_icmp_ge (tgt := 86) C dX7_until_48 (by decide) (fun c9 => ?_) (fun c9 => ?_)
    · refine e_iload (n := 4) C dX7_until_86 rfl ?_
      refine e_if_eq (tgt := 115) C dX7_until_88 (by decide) (fun c10 => ?_) (fun c10 => ?_)
      · refine e_iconst (v := -1) C dX7_until_115 (by decide) ?_
        exact e_iret C X rfl (vp_nar_int _) dX7_until_116 (h11 c1 c9 c10)
      · refine e_aload_n (n := 0) C dX7_until_91 rfl rfl ?_
        refine e_get (v := .ref 62) C fd_X7_7 (by decide) rfl rfl dX7_until_92 ?_
        refine e_sipush (v := 176) C dX7_until_95 (by decide) ?_
        refine e_iload_n (n := 1) C dX7_until_98 rfl rfl ?_
        refine e_iadd C dX7_until_99 ?_
        refine e_iald (n := 192) C (by decide) rfl (by decide) (s12 c1 c9 c10) dX7_until_100 ?_
        refine e_iload_n (n := 2) C dX7_until_101 rfl rfl ?_
        refine e_aload_n (n := 0) C dX7_until_102 rfl rfl ?_
        refine e_iload_n (n := 1) C dX7_until_103 rfl rfl ?_
        refine e_callV1 (as := [.int c]) (rest := [.int g, .int (M 62 ((176 : Int32) + c).toNatClampNeg)]) C lk_X7_175 (q13 c1 c9 c10) (by decide) rfl (by decide) rfl (by decide) rfl rfl (Nat.le_of_ble_eq_true rfl) dX7_until_104 ?_
        refine e_imul C dX7_until_107 ?_
        refine e_icmp_lt (tgt := 115) C dX7_until_108 (by decide) (fun c14 => ?_) (fun c14 => ?_)
        · refine e_iconst (v := -1) C dX7_until_115 (by decide) ?_
          exact e_iret C X rfl (vp_nar_int _) dX7_until_116 (h15 c1 c9 c10 c14)
        · refine e_iload_n (n := 3) C dX7_until_111 rfl rfl ?_
          refine e_goto (tgt := 116) C dX7_until_112 (by decide) ?_
          exact e_iret C X rfl (vp_nar_int _) dX7_until_116 (h16 c1 c9 c10 c14)
    · refine e_aload_n (n := 0) C dX7_until_51 rfl rfl ?_
      refine e_get (v := .ref 62) C fd_X7_7 (by decide) rfl rfl dX7_until_52 ?_
      refine e_sipush (v := 176) C dX7_until_55 (by decide) ?_
      refine e_iload_n (n := 1) C dX7_until_58 rfl rfl ?_
      refine e_iadd C dX7_until_59 ?_
      refine e_iald (n := 192) C (by decide) rfl (by decide) (s17 c1 c9) dX7_until_60 ?_
      refine e_iload_n (n := 2) C dX7_until_61 rfl rfl ?_
      refine e_aload_n (n := 0) C dX7_until_62 rfl rfl ?_
      refine e_iload_n (n := 1) C dX7_until_63 rfl rfl ?_
      refine e_callV1 (as := [.int c]) (rest := [.int g, .int (M 62 ((176 : Int32) + c).toNatClampNeg)]) C lk_X7_175 (q18 c1 c9) (by decide) rfl (by decide) rfl (by decide) rfl rfl (Nat.le_of_ble_eq_true rfl) dX7_until_64 ?_
      refine e_imul C dX7_until_67 ?_
      refine e_icmp_ge (tgt := 86) C dX7_until_68 (by decide) (fun c19 => ?_) (fun c19 => ?_)
      · refine e_iload (n := 4) C dX7_until_86 rfl ?_
        refine e_if_eq (tgt := 115) C dX7_until_88 (by decide) (fun c20 => ?_) (fun c20 => ?_)
        · refine e_iconst (v := -1) C dX7_until_115 (by decide) ?_
          exact e_iret C X rfl (vp_nar_int _) dX7_until_116 (h21 c1 c9 c19 c20)
        · refine e_aload_n (n := 0) C dX7_until_91 rfl rfl ?_
          refine e_get (v := .ref 62) C fd_X7_7 (by decide) rfl rfl dX7_until_92 ?_
          refine e_sipush (v := 176) C dX7_until_95 (by decide) ?_
          refine e_iload_n (n := 1) C dX7_until_98 rfl rfl ?_
          refine e_iadd C dX7_until_99 ?_
          refine e_iald (n := 192) C (by decide) rfl (by decide) (s22 c1 c9 c19 c20) dX7_until_100 ?_
          refine e_iload_n (n := 2) C dX7_until_101 rfl rfl ?_
          refine e_aload_n (n := 0) C dX7_until_102 rfl rfl ?_
          refine e_iload_n (n := 1) C dX7_until_103 rfl rfl ?_
          refine e_callV1 (as := [.int c]) (rest := [.int g, .int (M 62 ((176 : Int32) + c).toNatClampNeg)]) C lk_X7_175 (q23 c1 c9 c19 c20) (by decide) rfl (by decide) rfl (by decide) rfl rfl (Nat.le_of_ble_eq_true rfl) dX7_until_104 ?_
          refine e_imul C dX7_until_107 ?_
          refine e_icmp_lt (tgt := 115) C dX7_until_108 (by decide) (fun c24 => ?_) (fun c24 => ?_)
          · refine e_iconst (v := -1) C dX7_until_115 (by decide) ?_
            exact e_iret C X rfl (vp_nar_int _) dX7_until_116 (h25 c1 c9 c19 c20 c24)
          · refine e_iload_n (n := 3) C dX7_until_111 rfl rfl ?_
            refine e_goto (tgt := 116) C dX7_until_112 (by decide) ?_
            exact e_iret C X rfl (vp_nar_int _) dX7_until_116 (h26 c1 c9 c19 c20 c24)
      · refine e_aload_n (n := 0) C dX7_until_71 rfl rfl ?_
        refine e_sipush (v := 176) C dX7_until_72 (by decide) ?_
        refine e_callV1 (as := [.int (176 : Int32)]) (rest := []) C lk_X7_210 (q27 c1 c9 c19) (by decide) rfl (by decide) rfl (by decide) rfl rfl (Nat.le_of_ble_eq_true rfl) dX7_until_75 ?_
        refine e_istore C dX7_until_78 (by decide) rfl ?_
        refine e_iinc (n := 4) (v := (n + 1)) C dX7_until_80 rfl rfl (by decide) rfl ?_
        refine e_goto (tgt := 39) C dX7_until_83 (by decide) ?_
        refine e_perm C [2, 3, 4, 0, 1] rfl ?_
        exact (h28 c1 c9 c19)
set_option maxRecDepth 100000 in
set_option maxHeartbeats 4000000 in
theorem km_resistance {k : ea_K} {o : Option Value} {M' : ea_M} (C : ea_C k RX7 cX7_resistance 6 0) (X : ea_X k (some .long) o M') {M : ea_M} {but s : Int32}   (h1 : ea_E k 5 [(0, .ref 61), (1, .int but), (2, .int s), (3, .long (0 : Int64)), (5, .int (0 : Int32))] [] M) : ea_E k 0 [(0, .ref 61), (1, .int but), (2, .int s)] [] M := by
  refine e_lconst (v := 0) C dX7_resistance_0 (by decide) ?_
  refine e_lstore_n C dX7_resistance_1 rfl (by decide) rfl ?_
  refine e_iconst (v := 0) C dX7_resistance_2 (by decide) ?_
  refine e_istore C dX7_resistance_3 (by decide) rfl ?_
  refine e_perm C [2, 3, 4, 1, 0] rfl ?_
  exact h1
set_option maxRecDepth 100000 in
set_option maxHeartbeats 4000000 in
theorem km_resistance_5 {k : ea_K} {o : Option Value} {M' : ea_M} (C : ea_C k RX7 cX7_resistance 6 0) (X : ea_X k (some .long) o M') {M : ea_M} {but s i : Int32} {al : Int64}   (h2 : (M 61 6) ≤ i → o = some (.long al) ∧ M' = M) (s4 : ¬ (M 61 6) ≤ i → ¬ i = but → vp_in i 10) (s5 : ¬ (M 61 6) ≤ i → ¬ i = but → vp_in (M 67 i.toNatClampNeg) 6) (z6 : ¬ (M 61 6) ≤ i → ¬ i = but → ¬ (((M 63 (M 67 i.toNatClampNeg).toNatClampNeg)).toInt64) = 0) (h7 : ¬ (M 61 6) ≤ i → ¬ i = but → ea_E k 5 [(0, .ref 61), (1, .int but), (2, .int s), (3, .long (al + ((232792560 : Int64) / (((M 63 (M 67 i.toNatClampNeg).toNatClampNeg)).toInt64)))), (5, .int (i + 1))] [] M) (s8 : ¬ (M 61 6) ≤ i → i = but → vp_in s 6) (z9 : ¬ (M 61 6) ≤ i → i = but → ¬ (((M 63 s.toNatClampNeg)).toInt64) = 0) (h10 : ¬ (M 61 6) ≤ i → i = but → ea_E k 5 [(0, .ref 61), (1, .int but), (2, .int s), (3, .long (al + ((232792560 : Int64) / (((M 63 s.toNatClampNeg)).toInt64)))), (5, .int (i + 1))] [] M) : ea_E k 5 [(0, .ref 61), (1, .int but), (2, .int s), (3, .long al), (5, .int i)] [] M := by
  refine e_iload (n := 4) C dX7_resistance_5 rfl ?_
  refine e_aload_n (n := 0) C dX7_resistance_7 rfl rfl ?_
  refine e_get (v := .int (M 61 6)) C fd_X7_126 (by decide) rfl rfl dX7_resistance_8 ?_
  refine e_icmp_ge (tgt := 50) C dX7_resistance_11 (by decide) (fun c1 => ?_) (fun c1 => ?_)
  · refine e_lload_n (n := 3) C dX7_resistance_50 rfl rfl ?_
    exact e_lret C X dX7_resistance_51 (h2 c1)
  · refine e_lload_n (n := 3) C dX7_resistance_14 rfl rfl ?_
    refine e_ldc2 C kc_X7_225 dX7_resistance_15 ?_
    refine e_aload_n (n := 0) C dX7_resistance_18 rfl rfl ?_
    refine e_get (v := .ref 63) C fd_X7_13 (by decide) rfl rfl dX7_resistance_19 ?_
    refine e_iload (n := 4) C dX7_resistance_22 rfl ?_
    refine e_iload_n (n := 1) C dX7_resistance_24 rfl rfl ?_
    refine e_icmp_ne (tgt := 32) C dX7_resistance_25 (by decide) (fun c3 => ?_) (fun c3 => ?_)
    · refine e_aload_n (n := 0) C dX7_resistance_32 rfl rfl ?_
      refine e_get (v := .ref 67) C fd_X7_25 (by decide) rfl rfl dX7_resistance_33 ?_
      refine e_iload (n := 4) C dX7_resistance_36 rfl ?_
      refine e_iald (n := 10) C (by decide) rfl (by decide) (s4 c1 c3) dX7_resistance_38 ?_
      refine e_iald (n := 6) C (by decide) rfl (by decide) (s5 c1 c3) dX7_resistance_39 ?_
      refine e_i2l C dX7_resistance_40 ?_
      refine e_ldiv C dX7_resistance_41 (z6 c1 c3) ?_
      refine e_ladd C dX7_resistance_42 ?_
      refine e_lstore_n C dX7_resistance_43 rfl (by decide) rfl ?_
      refine e_iinc (n := 4) (v := (i + 1)) C dX7_resistance_44 rfl rfl (by decide) rfl ?_
      refine e_goto (tgt := 5) C dX7_resistance_47 (by decide) ?_
      refine e_perm C [2, 3, 4, 1, 0] rfl ?_
      exact (h7 c1 c3)
    · refine e_iload_n (n := 2) C dX7_resistance_28 rfl rfl ?_
      refine e_goto (tgt := 39) C dX7_resistance_29 (by decide) ?_
      refine e_iald (n := 6) C (by decide) rfl (by decide) (s8 c1 c3) dX7_resistance_39 ?_
      refine e_i2l C dX7_resistance_40 ?_
      refine e_ldiv C dX7_resistance_41 (z9 c1 c3) ?_
      refine e_ladd C dX7_resistance_42 ?_
      refine e_lstore_n C dX7_resistance_43 rfl (by decide) rfl ?_
      refine e_iinc (n := 4) (v := (i + 1)) C dX7_resistance_44 rfl rfl (by decide) rfl ?_
      refine e_goto (tgt := 5) C dX7_resistance_47 (by decide) ?_
      refine e_perm C [2, 3, 4, 1, 0] rfl ?_
      exact (h10 c1 c3)
set_option maxRecDepth 100000 in
set_option maxHeartbeats 4000000 in
theorem km_placeOf {k : ea_K} {o : Option Value} {M' : ea_M} (C : ea_C k RX7 cX7_placeOf 5 0) (X : ea_X k (some .int) o M') {M : ea_M} {t a b : Int32}   (h1 : ea_E k 6 [(0, .ref 61), (1, .int t), (2, .int a), (3, .int b), (4, .int ((8 : Int32) * t))] [] M) : ea_E k 0 [(0, .ref 61), (1, .int t), (2, .int a), (3, .int b)] [] M := by
  refine e_bipush (v := 8) C dX7_placeOf_0 (by decide) ?_
  refine e_iload_n (n := 1) C dX7_placeOf_2 rfl rfl ?_
  refine e_imul C dX7_placeOf_3 ?_
  refine e_istore C dX7_placeOf_4 (by decide) rfl ?_
  refine e_perm C [1, 2, 3, 4, 0] rfl ?_
  exact h1
set_option maxRecDepth 100000 in
set_option maxHeartbeats 4000000 in
theorem km_placeOf_6 {k : ea_K} {o : Option Value} {M' : ea_M} (C : ea_C k RX7 cX7_placeOf 5 0) (X : ea_X k (some .int) o M') {M : ea_M} {t a b j : Int32}   (s1 : vp_in t 3) (h3 : (((8 : Int32) * t) + (M 70 t.toNatClampNeg)) ≤ j → o = some (.int (-1 : Int32)) ∧ M' = M) (s4 : ¬ (((8 : Int32) * t) + (M 70 t.toNatClampNeg)) ≤ j → vp_in j 24) (h6 : ¬ (((8 : Int32) * t) + (M 70 t.toNatClampNeg)) ≤ j → ¬ (M 71 j.toNatClampNeg) = a → ea_E k 6 [(0, .ref 61), (1, .int t), (2, .int a), (3, .int b), (4, .int (j + 1))] [] M) (s7 : ¬ (((8 : Int32) * t) + (M 70 t.toNatClampNeg)) ≤ j → (M 71 j.toNatClampNeg) = a → vp_in j 24) (h9 : ¬ (((8 : Int32) * t) + (M 70 t.toNatClampNeg)) ≤ j → (M 71 j.toNatClampNeg) = a → ¬ (M 72 j.toNatClampNeg) = b → ea_E k 6 [(0, .ref 61), (1, .int t), (2, .int a), (3, .int b), (4, .int (j + 1))] [] M) (h10 : ¬ (((8 : Int32) * t) + (M 70 t.toNatClampNeg)) ≤ j → (M 71 j.toNatClampNeg) = a → (M 72 j.toNatClampNeg) = b → o = some (.int j) ∧ M' = M) : ea_E k 6 [(0, .ref 61), (1, .int t), (2, .int a), (3, .int b), (4, .int j)] [] M := by
  refine e_iload (n := 4) C dX7_placeOf_6 rfl ?_
  refine e_bipush (v := 8) C dX7_placeOf_8 (by decide) ?_
  refine e_iload_n (n := 1) C dX7_placeOf_10 rfl rfl ?_
  refine e_imul C dX7_placeOf_11 ?_
  refine e_aload_n (n := 0) C dX7_placeOf_12 rfl rfl ?_
  refine e_get (v := .ref 70) C fd_X7_35 (by decide) rfl rfl dX7_placeOf_13 ?_
  refine e_iload_n (n := 1) C dX7_placeOf_16 rfl rfl ?_
  refine e_iald (n := 3) C (by decide) rfl (by decide) s1 dX7_placeOf_17 ?_
  refine e_iadd C dX7_placeOf_18 ?_
  refine e_icmp_ge (tgt := 53) C dX7_placeOf_19 (by decide) (fun c2 => ?_) (fun c2 => ?_)
  · refine e_iconst (v := -1) C dX7_placeOf_53 (by decide) ?_
    exact e_iret C X rfl (vp_nar_int _) dX7_placeOf_54 (h3 c2)
  · refine e_aload_n (n := 0) C dX7_placeOf_22 rfl rfl ?_
    refine e_get (v := .ref 71) C fd_X7_38 (by decide) rfl rfl dX7_placeOf_23 ?_
    refine e_iload (n := 4) C dX7_placeOf_26 rfl ?_
    refine e_iald (n := 24) C (by decide) rfl (by decide) (s4 c2) dX7_placeOf_28 ?_
    refine e_iload_n (n := 2) C dX7_placeOf_29 rfl rfl ?_
    refine e_icmp_ne (tgt := 47) C dX7_placeOf_30 (by decide) (fun c5 => ?_) (fun c5 => ?_)
    · refine e_iinc (n := 4) (v := (j + 1)) C dX7_placeOf_47 rfl rfl (by decide) rfl ?_
      refine e_goto (tgt := 6) C dX7_placeOf_50 (by decide) ?_
      refine e_perm C [1, 2, 3, 4, 0] rfl ?_
      exact (h6 c2 c5)
    · refine e_aload_n (n := 0) C dX7_placeOf_33 rfl rfl ?_
      refine e_get (v := .ref 72) C fd_X7_41 (by decide) rfl rfl dX7_placeOf_34 ?_
      refine e_iload (n := 4) C dX7_placeOf_37 rfl ?_
      refine e_iald (n := 24) C (by decide) rfl (by decide) (s7 c2 c5) dX7_placeOf_39 ?_
      refine e_iload_n (n := 3) C dX7_placeOf_40 rfl rfl ?_
      refine e_icmp_ne (tgt := 47) C dX7_placeOf_41 (by decide) (fun c8 => ?_) (fun c8 => ?_)
      · refine e_iinc (n := 4) (v := (j + 1)) C dX7_placeOf_47 rfl rfl (by decide) rfl ?_
        refine e_goto (tgt := 6) C dX7_placeOf_50 (by decide) ?_
        refine e_perm C [1, 2, 3, 4, 0] rfl ?_
        exact (h9 c2 c5 c8)
      · refine e_iload (n := 4) C dX7_placeOf_44 rfl ?_
        exact e_iret C X rfl (vp_nar_int _) dX7_placeOf_46 (h10 c2 c5 c8)
set_option maxRecDepth 100000 in
set_option maxHeartbeats 4000000 in
theorem km_put {k : ea_K} {o : Option Value} {M' : ea_M} (C : ea_C k RX7 cX7_put 7 2) (X : ea_X k (some .int) o M') {M : ea_M} {t a b v : Int32} {r1 : Int32}   (h3 : p_X7_isPage t → ¬ p_X7_isKey a b → o = some (.int (-2000000002 : Int32)) ∧ M' = M) (s5 : p_X7_isPage t → p_X7_isKey a b → p_X7_in ((v).toInt64) (-999 : Int64) (999 : Int64) → vp_in t 3) (q7 : p_X7_isPage t → p_X7_isKey a b → p_X7_in ((v).toInt64) (-999 : Int64) (999 : Int64) → 0 ≤ (M 70 t.toNatClampNeg) → ea_Sp 0 yX7_placeOf cX7_placeOf 5 (some .int) [.ref 61, .int t, .int a, .int b] M (some (.int r1)) M) (s10 : p_X7_isPage t → p_X7_isKey a b → p_X7_in ((v).toInt64) (-999 : Int64) (999 : Int64) → 0 ≤ (M 70 t.toNatClampNeg) → ¬ r1 = (-1 : Int32) → ¬ r1 = (-1 : Int32) → vp_in r1 24) (s12 : p_X7_isPage t → p_X7_isKey a b → p_X7_in ((v).toInt64) (-999 : Int64) (999 : Int64) → 0 ≤ (M 70 t.toNatClampNeg) → ¬ r1 = (-1 : Int32) → ¬ r1 = (-1 : Int32) → ¬ r1 = (-1 : Int32) → vp_in r1 24) (h13 : p_X7_isPage t → p_X7_isKey a b → p_X7_in ((v).toInt64) (-999 : Int64) (999 : Int64) → 0 ≤ (M 70 t.toNatClampNeg) → ¬ r1 = (-1 : Int32) → ¬ r1 = (-1 : Int32) → ¬ r1 = (-1 : Int32) → o = some (.int (M 73 r1.toNatClampNeg)) ∧ M' = (ea_up M 73 r1.toNatClampNeg v)) (s14 : p_X7_isPage t → p_X7_isKey a b → p_X7_in ((v).toInt64) (-999 : Int64) (999 : Int64) → 0 ≤ (M 70 t.toNatClampNeg) → ¬ r1 = (-1 : Int32) → ¬ r1 = (-1 : Int32) → r1 = (-1 : Int32) → vp_in t 3) (s15 : p_X7_isPage t → p_X7_isKey a b → p_X7_in ((v).toInt64) (-999 : Int64) (999 : Int64) → 0 ≤ (M 70 t.toNatClampNeg) → ¬ r1 = (-1 : Int32) → ¬ r1 = (-1 : Int32) → r1 = (-1 : Int32) → vp_in (((8 : Int32) * t) + (M 70 t.toNatClampNeg)) 24) (s16 : p_X7_isPage t → p_X7_isKey a b → p_X7_in ((v).toInt64) (-999 : Int64) (999 : Int64) → 0 ≤ (M 70 t.toNatClampNeg) → ¬ r1 = (-1 : Int32) → ¬ r1 = (-1 : Int32) → r1 = (-1 : Int32) → vp_in (((8 : Int32) * t) + (M 70 t.toNatClampNeg)) 24) (s17 : p_X7_isPage t → p_X7_isKey a b → p_X7_in ((v).toInt64) (-999 : Int64) (999 : Int64) → 0 ≤ (M 70 t.toNatClampNeg) → ¬ r1 = (-1 : Int32) → ¬ r1 = (-1 : Int32) → r1 = (-1 : Int32) → vp_in t 3) (s18 : p_X7_isPage t → p_X7_isKey a b → p_X7_in ((v).toInt64) (-999 : Int64) (999 : Int64) → 0 ≤ (M 70 t.toNatClampNeg) → ¬ r1 = (-1 : Int32) → ¬ r1 = (-1 : Int32) → r1 = (-1 : Int32) → vp_in t 3) (s19 : p_X7_isPage t → p_X7_isKey a b → p_X7_in ((v).toInt64) (-999 : Int64) (999 : Int64) → 0 ≤ (M 70 t.toNatClampNeg) → ¬ r1 = (-1 : Int32) → ¬ r1 = (-1 : Int32) → r1 = (-1 : Int32) → vp_in (((8 : Int32) * t) + (M 70 t.toNatClampNeg)) 24) (h20 : p_X7_isPage t → p_X7_isKey a b → p_X7_in ((v).toInt64) (-999 : Int64) (999 : Int64) → 0 ≤ (M 70 t.toNatClampNeg) → ¬ r1 = (-1 : Int32) → ¬ r1 = (-1 : Int32) → r1 = (-1 : Int32) → o = some (.int (M 73 r1.toNatClampNeg)) ∧ M' = (ea_up (ea_up (ea_up (ea_up M 71 (((8 : Int32) * t) + (M 70 t.toNatClampNeg)).toNatClampNeg a) 72 (((8 : Int32) * t) + (M 70 t.toNatClampNeg)).toNatClampNeg b) 70 t.toNatClampNeg ((M 70 t.toNatClampNeg) + (1 : Int32))) 73 (((8 : Int32) * t) + (M 70 t.toNatClampNeg)).toNatClampNeg v)) (s22 : p_X7_isPage t → p_X7_isKey a b → p_X7_in ((v).toInt64) (-999 : Int64) (999 : Int64) → 0 ≤ (M 70 t.toNatClampNeg) → ¬ r1 = (-1 : Int32) → r1 = (-1 : Int32) → ¬ r1 = (-1 : Int32) → vp_in r1 24) (h23 : p_X7_isPage t → p_X7_isKey a b → p_X7_in ((v).toInt64) (-999 : Int64) (999 : Int64) → 0 ≤ (M 70 t.toNatClampNeg) → ¬ r1 = (-1 : Int32) → r1 = (-1 : Int32) → ¬ r1 = (-1 : Int32) → o = some (.int (0 : Int32)) ∧ M' = (ea_up M 73 r1.toNatClampNeg v)) (s24 : p_X7_isPage t → p_X7_isKey a b → p_X7_in ((v).toInt64) (-999 : Int64) (999 : Int64) → 0 ≤ (M 70 t.toNatClampNeg) → ¬ r1 = (-1 : Int32) → r1 = (-1 : Int32) → r1 = (-1 : Int32) → vp_in t 3) (s25 : p_X7_isPage t → p_X7_isKey a b → p_X7_in ((v).toInt64) (-999 : Int64) (999 : Int64) → 0 ≤ (M 70 t.toNatClampNeg) → ¬ r1 = (-1 : Int32) → r1 = (-1 : Int32) → r1 = (-1 : Int32) → vp_in (((8 : Int32) * t) + (M 70 t.toNatClampNeg)) 24) (s26 : p_X7_isPage t → p_X7_isKey a b → p_X7_in ((v).toInt64) (-999 : Int64) (999 : Int64) → 0 ≤ (M 70 t.toNatClampNeg) → ¬ r1 = (-1 : Int32) → r1 = (-1 : Int32) → r1 = (-1 : Int32) → vp_in (((8 : Int32) * t) + (M 70 t.toNatClampNeg)) 24) (s27 : p_X7_isPage t → p_X7_isKey a b → p_X7_in ((v).toInt64) (-999 : Int64) (999 : Int64) → 0 ≤ (M 70 t.toNatClampNeg) → ¬ r1 = (-1 : Int32) → r1 = (-1 : Int32) → r1 = (-1 : Int32) → vp_in t 3) (s28 : p_X7_isPage t → p_X7_isKey a b → p_X7_in ((v).toInt64) (-999 : Int64) (999 : Int64) → 0 ≤ (M 70 t.toNatClampNeg) → ¬ r1 = (-1 : Int32) → r1 = (-1 : Int32) → r1 = (-1 : Int32) → vp_in t 3) (s29 : p_X7_isPage t → p_X7_isKey a b → p_X7_in ((v).toInt64) (-999 : Int64) (999 : Int64) → 0 ≤ (M 70 t.toNatClampNeg) → ¬ r1 = (-1 : Int32) → r1 = (-1 : Int32) → r1 = (-1 : Int32) → vp_in (((8 : Int32) * t) + (M 70 t.toNatClampNeg)) 24) (h30 : p_X7_isPage t → p_X7_isKey a b → p_X7_in ((v).toInt64) (-999 : Int64) (999 : Int64) → 0 ≤ (M 70 t.toNatClampNeg) → ¬ r1 = (-1 : Int32) → r1 = (-1 : Int32) → r1 = (-1 : Int32) → o = some (.int (0 : Int32)) ∧ M' = (ea_up (ea_up (ea_up (ea_up M 71 (((8 : Int32) * t) + (M 70 t.toNatClampNeg)).toNatClampNeg a) 72 (((8 : Int32) * t) + (M 70 t.toNatClampNeg)).toNatClampNeg b) 70 t.toNatClampNeg ((M 70 t.toNatClampNeg) + (1 : Int32))) 73 (((8 : Int32) * t) + (M 70 t.toNatClampNeg)).toNatClampNeg v)) (s31 : p_X7_isPage t → p_X7_isKey a b → p_X7_in ((v).toInt64) (-999 : Int64) (999 : Int64) → 0 ≤ (M 70 t.toNatClampNeg) → r1 = (-1 : Int32) → vp_in t 3) (s34 : p_X7_isPage t → p_X7_isKey a b → p_X7_in ((v).toInt64) (-999 : Int64) (999 : Int64) → 0 ≤ (M 70 t.toNatClampNeg) → r1 = (-1 : Int32) → ¬ (M 70 t.toNatClampNeg) = (8 : Int32) → ¬ r1 = (-1 : Int32) → vp_in r1 24) (s36 : p_X7_isPage t → p_X7_isKey a b → p_X7_in ((v).toInt64) (-999 : Int64) (999 : Int64) → 0 ≤ (M 70 t.toNatClampNeg) → r1 = (-1 : Int32) → ¬ (M 70 t.toNatClampNeg) = (8 : Int32) → ¬ r1 = (-1 : Int32) → ¬ r1 = (-1 : Int32) → vp_in r1 24) (h37 : p_X7_isPage t → p_X7_isKey a b → p_X7_in ((v).toInt64) (-999 : Int64) (999 : Int64) → 0 ≤ (M 70 t.toNatClampNeg) → r1 = (-1 : Int32) → ¬ (M 70 t.toNatClampNeg) = (8 : Int32) → ¬ r1 = (-1 : Int32) → ¬ r1 = (-1 : Int32) → o = some (.int (M 73 r1.toNatClampNeg)) ∧ M' = (ea_up M 73 r1.toNatClampNeg v)) (s38 : p_X7_isPage t → p_X7_isKey a b → p_X7_in ((v).toInt64) (-999 : Int64) (999 : Int64) → 0 ≤ (M 70 t.toNatClampNeg) → r1 = (-1 : Int32) → ¬ (M 70 t.toNatClampNeg) = (8 : Int32) → ¬ r1 = (-1 : Int32) → r1 = (-1 : Int32) → vp_in t 3) (s39 : p_X7_isPage t → p_X7_isKey a b → p_X7_in ((v).toInt64) (-999 : Int64) (999 : Int64) → 0 ≤ (M 70 t.toNatClampNeg) → r1 = (-1 : Int32) → ¬ (M 70 t.toNatClampNeg) = (8 : Int32) → ¬ r1 = (-1 : Int32) → r1 = (-1 : Int32) → vp_in (((8 : Int32) * t) + (M 70 t.toNatClampNeg)) 24) (s40 : p_X7_isPage t → p_X7_isKey a b → p_X7_in ((v).toInt64) (-999 : Int64) (999 : Int64) → 0 ≤ (M 70 t.toNatClampNeg) → r1 = (-1 : Int32) → ¬ (M 70 t.toNatClampNeg) = (8 : Int32) → ¬ r1 = (-1 : Int32) → r1 = (-1 : Int32) → vp_in (((8 : Int32) * t) + (M 70 t.toNatClampNeg)) 24) (s41 : p_X7_isPage t → p_X7_isKey a b → p_X7_in ((v).toInt64) (-999 : Int64) (999 : Int64) → 0 ≤ (M 70 t.toNatClampNeg) → r1 = (-1 : Int32) → ¬ (M 70 t.toNatClampNeg) = (8 : Int32) → ¬ r1 = (-1 : Int32) → r1 = (-1 : Int32) → vp_in t 3) (s42 : p_X7_isPage t → p_X7_isKey a b → p_X7_in ((v).toInt64) (-999 : Int64) (999 : Int64) → 0 ≤ (M 70 t.toNatClampNeg) → r1 = (-1 : Int32) → ¬ (M 70 t.toNatClampNeg) = (8 : Int32) → ¬ r1 = (-1 : Int32) → r1 = (-1 : Int32) → vp_in t 3) (s43 : p_X7_isPage t → p_X7_isKey a b → p_X7_in ((v).toInt64) (-999 : Int64) (999 : Int64) → 0 ≤ (M 70 t.toNatClampNeg) → r1 = (-1 : Int32) → ¬ (M 70 t.toNatClampNeg) = (8 : Int32) → ¬ r1 = (-1 : Int32) → r1 = (-1 : Int32) → vp_in (((8 : Int32) * t) + (M 70 t.toNatClampNeg)) 24) (h44 : p_X7_isPage t → p_X7_isKey a b → p_X7_in ((v).toInt64) (-999 : Int64) (999 : Int64) → 0 ≤ (M 70 t.toNatClampNeg) → r1 = (-1 : Int32) → ¬ (M 70 t.toNatClampNeg) = (8 : Int32) → ¬ r1 = (-1 : Int32) → r1 = (-1 : Int32) → o = some (.int (M 73 r1.toNatClampNeg)) ∧ M' = (ea_up (ea_up (ea_up (ea_up M 71 (((8 : Int32) * t) + (M 70 t.toNatClampNeg)).toNatClampNeg a) 72 (((8 : Int32) * t) + (M 70 t.toNatClampNeg)).toNatClampNeg b) 70 t.toNatClampNeg ((M 70 t.toNatClampNeg) + (1 : Int32))) 73 (((8 : Int32) * t) + (M 70 t.toNatClampNeg)).toNatClampNeg v)) (s46 : p_X7_isPage t → p_X7_isKey a b → p_X7_in ((v).toInt64) (-999 : Int64) (999 : Int64) → 0 ≤ (M 70 t.toNatClampNeg) → r1 = (-1 : Int32) → ¬ (M 70 t.toNatClampNeg) = (8 : Int32) → r1 = (-1 : Int32) → ¬ r1 = (-1 : Int32) → vp_in r1 24) (h47 : p_X7_isPage t → p_X7_isKey a b → p_X7_in ((v).toInt64) (-999 : Int64) (999 : Int64) → 0 ≤ (M 70 t.toNatClampNeg) → r1 = (-1 : Int32) → ¬ (M 70 t.toNatClampNeg) = (8 : Int32) → r1 = (-1 : Int32) → ¬ r1 = (-1 : Int32) → o = some (.int (0 : Int32)) ∧ M' = (ea_up M 73 r1.toNatClampNeg v)) (s48 : p_X7_isPage t → p_X7_isKey a b → p_X7_in ((v).toInt64) (-999 : Int64) (999 : Int64) → 0 ≤ (M 70 t.toNatClampNeg) → r1 = (-1 : Int32) → ¬ (M 70 t.toNatClampNeg) = (8 : Int32) → r1 = (-1 : Int32) → r1 = (-1 : Int32) → vp_in t 3) (s49 : p_X7_isPage t → p_X7_isKey a b → p_X7_in ((v).toInt64) (-999 : Int64) (999 : Int64) → 0 ≤ (M 70 t.toNatClampNeg) → r1 = (-1 : Int32) → ¬ (M 70 t.toNatClampNeg) = (8 : Int32) → r1 = (-1 : Int32) → r1 = (-1 : Int32) → vp_in (((8 : Int32) * t) + (M 70 t.toNatClampNeg)) 24) (s50 : p_X7_isPage t → p_X7_isKey a b → p_X7_in ((v).toInt64) (-999 : Int64) (999 : Int64) → 0 ≤ (M 70 t.toNatClampNeg) → r1 = (-1 : Int32) → ¬ (M 70 t.toNatClampNeg) = (8 : Int32) → r1 = (-1 : Int32) → r1 = (-1 : Int32) → vp_in (((8 : Int32) * t) + (M 70 t.toNatClampNeg)) 24) (s51 : p_X7_isPage t → p_X7_isKey a b → p_X7_in ((v).toInt64) (-999 : Int64) (999 : Int64) → 0 ≤ (M 70 t.toNatClampNeg) → r1 = (-1 : Int32) → ¬ (M 70 t.toNatClampNeg) = (8 : Int32) → r1 = (-1 : Int32) → r1 = (-1 : Int32) → vp_in t 3) (s52 : p_X7_isPage t → p_X7_isKey a b → p_X7_in ((v).toInt64) (-999 : Int64) (999 : Int64) → 0 ≤ (M 70 t.toNatClampNeg) → r1 = (-1 : Int32) → ¬ (M 70 t.toNatClampNeg) = (8 : Int32) → r1 = (-1 : Int32) → r1 = (-1 : Int32) → vp_in t 3) (s53 : p_X7_isPage t → p_X7_isKey a b → p_X7_in ((v).toInt64) (-999 : Int64) (999 : Int64) → 0 ≤ (M 70 t.toNatClampNeg) → r1 = (-1 : Int32) → ¬ (M 70 t.toNatClampNeg) = (8 : Int32) → r1 = (-1 : Int32) → r1 = (-1 : Int32) → vp_in (((8 : Int32) * t) + (M 70 t.toNatClampNeg)) 24) (h54 : p_X7_isPage t → p_X7_isKey a b → p_X7_in ((v).toInt64) (-999 : Int64) (999 : Int64) → 0 ≤ (M 70 t.toNatClampNeg) → r1 = (-1 : Int32) → ¬ (M 70 t.toNatClampNeg) = (8 : Int32) → r1 = (-1 : Int32) → r1 = (-1 : Int32) → o = some (.int (0 : Int32)) ∧ M' = (ea_up (ea_up (ea_up (ea_up M 71 (((8 : Int32) * t) + (M 70 t.toNatClampNeg)).toNatClampNeg a) 72 (((8 : Int32) * t) + (M 70 t.toNatClampNeg)).toNatClampNeg b) 70 t.toNatClampNeg ((M 70 t.toNatClampNeg) + (1 : Int32))) 73 (((8 : Int32) * t) + (M 70 t.toNatClampNeg)).toNatClampNeg v)) (h55 : p_X7_isPage t → p_X7_isKey a b → p_X7_in ((v).toInt64) (-999 : Int64) (999 : Int64) → 0 ≤ (M 70 t.toNatClampNeg) → r1 = (-1 : Int32) → (M 70 t.toNatClampNeg) = (8 : Int32) → o = some (.int (-2000000013 : Int32)) ∧ M' = M) (h56 : p_X7_isPage t → p_X7_isKey a b → p_X7_in ((v).toInt64) (-999 : Int64) (999 : Int64) → ¬ 0 ≤ (M 70 t.toNatClampNeg) → o = some (.int (-2000000011 : Int32)) ∧ M' = M) (h57 : p_X7_isPage t → p_X7_isKey a b → ¬ p_X7_in ((v).toInt64) (-999 : Int64) (999 : Int64) → o = some (.int (-2000000002 : Int32)) ∧ M' = M) (h58 : ¬ p_X7_isPage t → o = some (.int (-2000000001 : Int32)) ∧ M' = M) : ea_E k 0 [(0, .ref 61), (1, .int t), (2, .int a), (3, .int b), (4, .int v)] [] M := by
  refine e_iload_n (n := 1) C dX7_put_0 rfl rfl ?_
  refine e_callS1 (as := [.int t]) (rest := []) C lk_X7_237 (sp_X7_isPage (M := M) (i := t) ) (by decide) rfl rfl (Nat.le_of_ble_eq_true rfl) dX7_put_1 ?_
  refine e_ifb_ne (tgt := 10) C dX7_put_4 (by decide) (fun c1 => ?_) (fun c1 => ?_)
  · refine e_iload_n (n := 2) C dX7_put_10 rfl rfl ?_
    refine e_iload_n (n := 3) C dX7_put_11 rfl rfl ?_
    refine e_callS1 (as := [.int a, .int b]) (rest := []) C lk_X7_240 (sp_X7_isKey (M := M) (i := a) (j := b) ) (by decide) rfl rfl (Nat.le_of_ble_eq_true rfl) dX7_put_12 ?_
    refine e_ifb_eq (tgt := 33) C dX7_put_15 (by decide) (fun c2 => ?_) (fun c2 => ?_)
    · refine e_ldc C kc_X7_68 dX7_put_33 ?_
      exact e_iret C X rfl (vp_nar_int _) dX7_put_35 (h3 c1 c2)
    · refine e_iload (n := 4) C dX7_put_18 rfl ?_
      refine e_i2l C dX7_put_20 ?_
      refine e_ldc2 C kc_X7_244 dX7_put_21 ?_
      refine e_ldc2 C kc_X7_217 dX7_put_24 ?_
      refine e_callS1 (as := [.long ((v).toInt64), .long (-999 : Int64), .long (999 : Int64)]) (rest := []) C lk_X7_64 (sp_X7_in (M := M) (v := ((v).toInt64)) (a := (-999 : Int64)) (b := (999 : Int64)) ) (by decide) rfl rfl (Nat.le_of_ble_eq_true rfl) dX7_put_27 ?_
      refine e_ifb_ne (tgt := 36) C dX7_put_30 (by decide) (fun c4 => ?_) (fun c4 => ?_)
      · refine e_aload_n (n := 0) C dX7_put_36 rfl rfl ?_
        refine e_get (v := .ref 70) C fd_X7_35 (by decide) rfl rfl dX7_put_37 ?_
        refine e_iload_n (n := 1) C dX7_put_40 rfl rfl ?_
        refine e_iald (n := 3) C (by decide) rfl (by decide) (s5 c1 c2 c4) dX7_put_41 ?_
        refine e_if_ge (tgt := 48) C dX7_put_42 (by decide) (fun c6 => ?_) (fun c6 => ?_)
        · refine e_aload_n (n := 0) C dX7_put_48 rfl rfl ?_
          refine e_iload_n (n := 1) C dX7_put_49 rfl rfl ?_
          refine e_iload_n (n := 2) C dX7_put_50 rfl rfl ?_
          refine e_iload_n (n := 3) C dX7_put_51 rfl rfl ?_
          refine e_callV1 (as := [.int t, .int a, .int b]) (rest := []) C lk_X7_247 (q7 c1 c2 c4 c6) (by decide) rfl (by decide) rfl (by decide) rfl rfl (Nat.le_of_ble_eq_true rfl) dX7_put_52 ?_
          refine e_istore C dX7_put_55 (by decide) rfl ?_
          refine e_iload (n := 0) C dX7_put_57 rfl ?_
          refine e_iconst (v := -1) C dX7_put_59 (by decide) ?_
          refine e_icmp_ne (tgt := 77) C dX7_put_60 (by decide) (fun c8 => ?_) (fun c8 => ?_)
          · refine e_iload (n := 0) C dX7_put_77 rfl ?_
            refine e_iconst (v := -1) C dX7_put_79 (by decide) ?_
            refine e_icmp_ne (tgt := 87) C dX7_put_80 (by decide) (fun c9 => ?_) (fun c9 => ?_)
            · refine e_aload_n (n := 1) C dX7_put_87 rfl rfl ?_
              refine e_get (v := .ref 73) C fd_X7_44 (by decide) rfl rfl dX7_put_88 ?_
              refine e_iload (n := 0) C dX7_put_91 rfl ?_
              refine e_iald (n := 24) C (by decide) rfl (by decide) (s10 c1 c2 c4 c6 c8 c9) dX7_put_93 ?_
              refine e_istore C dX7_put_94 (by decide) rfl ?_
              refine e_iload (n := 1) C dX7_put_96 rfl ?_
              refine e_iconst (v := -1) C dX7_put_98 (by decide) ?_
              refine e_icmp_ne (tgt := 141) C dX7_put_99 (by decide) (fun c11 => ?_) (fun c11 => ?_)
              · refine e_aload_n (n := 2) C dX7_put_141 rfl rfl ?_
                refine e_get (v := .ref 73) C fd_X7_44 (by decide) rfl rfl dX7_put_142 ?_
                refine e_iload (n := 1) C dX7_put_145 rfl ?_
                refine e_iload (n := 6) C dX7_put_147 rfl ?_
                refine e_iast (n := 24) C (by decide) rfl (by decide) (s12 c1 c2 c4 c6 c8 c9 c11) dX7_put_149 ?_
                refine e_iload (n := 0) C dX7_put_150 rfl ?_
                exact e_iret C X rfl (vp_nar_int _) dX7_put_152 (h13 c1 c2 c4 c6 c8 c9 c11)
              · refine e_bipush (v := 8) C dX7_put_102 (by decide) ?_
                refine e_iload_n (n := 3) C dX7_put_104 rfl rfl ?_
                refine e_imul C dX7_put_105 ?_
                refine e_aload_n (n := 2) C dX7_put_106 rfl rfl ?_
                refine e_get (v := .ref 70) C fd_X7_35 (by decide) rfl rfl dX7_put_107 ?_
                refine e_iload_n (n := 3) C dX7_put_110 rfl rfl ?_
                refine e_iald (n := 3) C (by decide) rfl (by decide) (s14 c1 c2 c4 c6 c8 c9 c11) dX7_put_111 ?_
                refine e_iadd C dX7_put_112 ?_
                refine e_istore C dX7_put_113 (by decide) rfl ?_
                refine e_aload_n (n := 2) C dX7_put_115 rfl rfl ?_
                refine e_get (v := .ref 71) C fd_X7_38 (by decide) rfl rfl dX7_put_116 ?_
                refine e_iload (n := 0) C dX7_put_119 rfl ?_
                refine e_iload_n (n := 4) C dX7_put_121 rfl rfl ?_
                refine e_iast (n := 24) C (by decide) rfl (by decide) (s15 c1 c2 c4 c6 c8 c9 c11) dX7_put_122 ?_
                refine e_aload_n (n := 2) C dX7_put_123 rfl rfl ?_
                refine e_get (v := .ref 72) C fd_X7_41 (by decide) rfl rfl dX7_put_124 ?_
                refine e_iload (n := 0) C dX7_put_127 rfl ?_
                refine e_iload_n (n := 5) C dX7_put_129 rfl rfl ?_
                refine e_iast (n := 24) C (by decide) rfl (by decide) (s16 c1 c2 c4 c6 c8 c9 c11) dX7_put_130 ?_
                refine e_aload_n (n := 2) C dX7_put_131 rfl rfl ?_
                refine e_get (v := .ref 70) C fd_X7_35 (by decide) rfl rfl dX7_put_132 ?_
                refine e_iload_n (n := 3) C dX7_put_135 rfl rfl ?_
                refine e_dup2 C dX7_put_136 rfl rfl ?_
                refine e_ialdV (n := 3) (r := M 70) (by simp [ea_upR, ea_upS, ea_upK, pa_setR, pa_cpR, fr_X3_add, fr_X5_forget, fr_X5_become, fr_X4_clear, fr_X4_addStuff, fr_X4_become_d, fr_X4_become_s, fr_X0_enter, fr_X0_remove]) C (by decide) rfl (by decide) (s17 c1 c2 c4 c6 c8 c9 c11) dX7_put_137 ?_
                refine e_iconst (v := 1) C dX7_put_138 (by decide) ?_
                refine e_iadd C dX7_put_139 ?_
                refine e_iast (n := 3) C (by decide) rfl (by decide) (s18 c1 c2 c4 c6 c8 c9 c11) dX7_put_140 ?_
                refine e_aload_n (n := 2) C dX7_put_141 rfl rfl ?_
                refine e_get (v := .ref 73) C fd_X7_44 (by decide) rfl rfl dX7_put_142 ?_
                refine e_iload (n := 0) C dX7_put_145 rfl ?_
                refine e_iload (n := 6) C dX7_put_147 rfl ?_
                refine e_iast (n := 24) C (by decide) rfl (by decide) (s19 c1 c2 c4 c6 c8 c9 c11) dX7_put_149 ?_
                refine e_iload (n := 1) C dX7_put_150 rfl ?_
                exact e_iret C X rfl (vp_nar_int _) dX7_put_152 (h20 c1 c2 c4 c6 c8 c9 c11)
            · refine e_iconst (v := 0) C dX7_put_83 (by decide) ?_
              refine e_goto (tgt := 94) C dX7_put_84 (by decide) ?_
              refine e_istore C dX7_put_94 (by decide) rfl ?_
              refine e_iload (n := 1) C dX7_put_96 rfl ?_
              refine e_iconst (v := -1) C dX7_put_98 (by decide) ?_
              refine e_icmp_ne (tgt := 141) C dX7_put_99 (by decide) (fun c21 => ?_) (fun c21 => ?_)
              · refine e_aload_n (n := 2) C dX7_put_141 rfl rfl ?_
                refine e_get (v := .ref 73) C fd_X7_44 (by decide) rfl rfl dX7_put_142 ?_
                refine e_iload (n := 1) C dX7_put_145 rfl ?_
                refine e_iload (n := 6) C dX7_put_147 rfl ?_
                refine e_iast (n := 24) C (by decide) rfl (by decide) (s22 c1 c2 c4 c6 c8 c9 c21) dX7_put_149 ?_
                refine e_iload (n := 0) C dX7_put_150 rfl ?_
                exact e_iret C X rfl (vp_nar_int _) dX7_put_152 (h23 c1 c2 c4 c6 c8 c9 c21)
              · refine e_bipush (v := 8) C dX7_put_102 (by decide) ?_
                refine e_iload_n (n := 3) C dX7_put_104 rfl rfl ?_
                refine e_imul C dX7_put_105 ?_
                refine e_aload_n (n := 2) C dX7_put_106 rfl rfl ?_
                refine e_get (v := .ref 70) C fd_X7_35 (by decide) rfl rfl dX7_put_107 ?_
                refine e_iload_n (n := 3) C dX7_put_110 rfl rfl ?_
                refine e_iald (n := 3) C (by decide) rfl (by decide) (s24 c1 c2 c4 c6 c8 c9 c21) dX7_put_111 ?_
                refine e_iadd C dX7_put_112 ?_
                refine e_istore C dX7_put_113 (by decide) rfl ?_
                refine e_aload_n (n := 2) C dX7_put_115 rfl rfl ?_
                refine e_get (v := .ref 71) C fd_X7_38 (by decide) rfl rfl dX7_put_116 ?_
                refine e_iload (n := 0) C dX7_put_119 rfl ?_
                refine e_iload_n (n := 4) C dX7_put_121 rfl rfl ?_
                refine e_iast (n := 24) C (by decide) rfl (by decide) (s25 c1 c2 c4 c6 c8 c9 c21) dX7_put_122 ?_
                refine e_aload_n (n := 2) C dX7_put_123 rfl rfl ?_
                refine e_get (v := .ref 72) C fd_X7_41 (by decide) rfl rfl dX7_put_124 ?_
                refine e_iload (n := 0) C dX7_put_127 rfl ?_
                refine e_iload_n (n := 5) C dX7_put_129 rfl rfl ?_
                refine e_iast (n := 24) C (by decide) rfl (by decide) (s26 c1 c2 c4 c6 c8 c9 c21) dX7_put_130 ?_
                refine e_aload_n (n := 2) C dX7_put_131 rfl rfl ?_
                refine e_get (v := .ref 70) C fd_X7_35 (by decide) rfl rfl dX7_put_132 ?_
                refine e_iload_n (n := 3) C dX7_put_135 rfl rfl ?_
                refine e_dup2 C dX7_put_136 rfl rfl ?_
                refine e_ialdV (n := 3) (r := M 70) (by simp [ea_upR, ea_upS, ea_upK, pa_setR, pa_cpR, fr_X3_add, fr_X5_forget, fr_X5_become, fr_X4_clear, fr_X4_addStuff, fr_X4_become_d, fr_X4_become_s, fr_X0_enter, fr_X0_remove]) C (by decide) rfl (by decide) (s27 c1 c2 c4 c6 c8 c9 c21) dX7_put_137 ?_
                refine e_iconst (v := 1) C dX7_put_138 (by decide) ?_
                refine e_iadd C dX7_put_139 ?_
                refine e_iast (n := 3) C (by decide) rfl (by decide) (s28 c1 c2 c4 c6 c8 c9 c21) dX7_put_140 ?_
                refine e_aload_n (n := 2) C dX7_put_141 rfl rfl ?_
                refine e_get (v := .ref 73) C fd_X7_44 (by decide) rfl rfl dX7_put_142 ?_
                refine e_iload (n := 0) C dX7_put_145 rfl ?_
                refine e_iload (n := 6) C dX7_put_147 rfl ?_
                refine e_iast (n := 24) C (by decide) rfl (by decide) (s29 c1 c2 c4 c6 c8 c9 c21) dX7_put_149 ?_
                refine e_iload (n := 1) C dX7_put_150 rfl ?_
                exact e_iret C X rfl (vp_nar_int _) dX7_put_152 (h30 c1 c2 c4 c6 c8 c9 c21)
          · refine e_aload_n (n := 1) C dX7_put_63 rfl rfl ?_
            refine e_get (v := .ref 70) C fd_X7_35 (by decide) rfl rfl dX7_put_64 ?_
            refine e_iload_n (n := 2) C dX7_put_67 rfl rfl ?_
            refine e_iald (n := 3) C (by decide) rfl (by decide) (s31 c1 c2 c4 c6 c8) dX7_put_68 ?_
            refine e_bipush (v := 8) C dX7_put_69 (by decide) ?_
            refine e_icmp_ne (tgt := 77) C dX7_put_71 (by decide) (fun c32 => ?_) (fun c32 => ?_)
            · refine e_iload (n := 0) C dX7_put_77 rfl ?_
              refine e_iconst (v := -1) C dX7_put_79 (by decide) ?_
              refine e_icmp_ne (tgt := 87) C dX7_put_80 (by decide) (fun c33 => ?_) (fun c33 => ?_)
              · refine e_aload_n (n := 1) C dX7_put_87 rfl rfl ?_
                refine e_get (v := .ref 73) C fd_X7_44 (by decide) rfl rfl dX7_put_88 ?_
                refine e_iload (n := 0) C dX7_put_91 rfl ?_
                refine e_iald (n := 24) C (by decide) rfl (by decide) (s34 c1 c2 c4 c6 c8 c32 c33) dX7_put_93 ?_
                refine e_istore C dX7_put_94 (by decide) rfl ?_
                refine e_iload (n := 1) C dX7_put_96 rfl ?_
                refine e_iconst (v := -1) C dX7_put_98 (by decide) ?_
                refine e_icmp_ne (tgt := 141) C dX7_put_99 (by decide) (fun c35 => ?_) (fun c35 => ?_)
                · refine e_aload_n (n := 2) C dX7_put_141 rfl rfl ?_
                  refine e_get (v := .ref 73) C fd_X7_44 (by decide) rfl rfl dX7_put_142 ?_
                  refine e_iload (n := 1) C dX7_put_145 rfl ?_
                  refine e_iload (n := 6) C dX7_put_147 rfl ?_
                  refine e_iast (n := 24) C (by decide) rfl (by decide) (s36 c1 c2 c4 c6 c8 c32 c33 c35) dX7_put_149 ?_
                  refine e_iload (n := 0) C dX7_put_150 rfl ?_
                  exact e_iret C X rfl (vp_nar_int _) dX7_put_152 (h37 c1 c2 c4 c6 c8 c32 c33 c35)
                · refine e_bipush (v := 8) C dX7_put_102 (by decide) ?_
                  refine e_iload_n (n := 3) C dX7_put_104 rfl rfl ?_
                  refine e_imul C dX7_put_105 ?_
                  refine e_aload_n (n := 2) C dX7_put_106 rfl rfl ?_
                  refine e_get (v := .ref 70) C fd_X7_35 (by decide) rfl rfl dX7_put_107 ?_
                  refine e_iload_n (n := 3) C dX7_put_110 rfl rfl ?_
                  refine e_iald (n := 3) C (by decide) rfl (by decide) (s38 c1 c2 c4 c6 c8 c32 c33 c35) dX7_put_111 ?_
                  refine e_iadd C dX7_put_112 ?_
                  refine e_istore C dX7_put_113 (by decide) rfl ?_
                  refine e_aload_n (n := 2) C dX7_put_115 rfl rfl ?_
                  refine e_get (v := .ref 71) C fd_X7_38 (by decide) rfl rfl dX7_put_116 ?_
                  refine e_iload (n := 0) C dX7_put_119 rfl ?_
                  refine e_iload_n (n := 4) C dX7_put_121 rfl rfl ?_
                  refine e_iast (n := 24) C (by decide) rfl (by decide) (s39 c1 c2 c4 c6 c8 c32 c33 c35) dX7_put_122 ?_
                  refine e_aload_n (n := 2) C dX7_put_123 rfl rfl ?_
                  refine e_get (v := .ref 72) C fd_X7_41 (by decide) rfl rfl dX7_put_124 ?_
                  refine e_iload (n := 0) C dX7_put_127 rfl ?_
                  refine e_iload_n (n := 5) C dX7_put_129 rfl rfl ?_
                  refine e_iast (n := 24) C (by decide) rfl (by decide) (s40 c1 c2 c4 c6 c8 c32 c33 c35) dX7_put_130 ?_
                  refine e_aload_n (n := 2) C dX7_put_131 rfl rfl ?_
                  refine e_get (v := .ref 70) C fd_X7_35 (by decide) rfl rfl dX7_put_132 ?_
                  refine e_iload_n (n := 3) C dX7_put_135 rfl rfl ?_
                  refine e_dup2 C dX7_put_136 rfl rfl ?_
                  refine e_ialdV (n := 3) (r := M 70) (by simp [ea_upR, ea_upS, ea_upK, pa_setR, pa_cpR, fr_X3_add, fr_X5_forget, fr_X5_become, fr_X4_clear, fr_X4_addStuff, fr_X4_become_d, fr_X4_become_s, fr_X0_enter, fr_X0_remove]) C (by decide) rfl (by decide) (s41 c1 c2 c4 c6 c8 c32 c33 c35) dX7_put_137 ?_
                  refine e_iconst (v := 1) C dX7_put_138 (by decide) ?_
                  refine e_iadd C dX7_put_139 ?_
                  refine e_iast (n := 3) C (by decide) rfl (by decide) (s42 c1 c2 c4 c6 c8 c32 c33 c35) dX7_put_140 ?_
                  refine e_aload_n (n := 2) C dX7_put_141 rfl rfl ?_
                  refine e_get (v := .ref 73) C fd_X7_44 (by decide) rfl rfl dX7_put_142 ?_
                  refine e_iload (n := 0) C dX7_put_145 rfl ?_
                  refine e_iload (n := 6) C dX7_put_147 rfl ?_
                  refine e_iast (n := 24) C (by decide) rfl (by decide) (s43 c1 c2 c4 c6 c8 c32 c33 c35) dX7_put_149 ?_
                  refine e_iload (n := 1) C dX7_put_150 rfl ?_
                  exact e_iret C X rfl (vp_nar_int _) dX7_put_152 (h44 c1 c2 c4 c6 c8 c32 c33 c35)
              · refine e_iconst (v := 0) C dX7_put_83 (by decide) ?_
                refine e_goto (tgt := 94) C dX7_put_84 (by decide) ?_
                refine e_istore C dX7_put_94 (by decide) rfl ?_
                refine e_iload (n := 1) C dX7_put_96 rfl ?_
                refine e_iconst (v := -1) C dX7_put_98 (by decide) ?_
                refine e_icmp_ne (tgt := 141) C dX7_put_99 (by decide) (fun c45 => ?_) (fun c45 => ?_)
                · refine e_aload_n (n := 2) C dX7_put_141 rfl rfl ?_
                  refine e_get (v := .ref 73) C fd_X7_44 (by decide) rfl rfl dX7_put_142 ?_
                  refine e_iload (n := 1) C dX7_put_145 rfl ?_
                  refine e_iload (n := 6) C dX7_put_147 rfl ?_
                  refine e_iast (n := 24) C (by decide) rfl (by decide) (s46 c1 c2 c4 c6 c8 c32 c33 c45) dX7_put_149 ?_
                  refine e_iload (n := 0) C dX7_put_150 rfl ?_
                  exact e_iret C X rfl (vp_nar_int _) dX7_put_152 (h47 c1 c2 c4 c6 c8 c32 c33 c45)
                · refine e_bipush (v := 8) C dX7_put_102 (by decide) ?_
                  refine e_iload_n (n := 3) C dX7_put_104 rfl rfl ?_
                  refine e_imul C dX7_put_105 ?_
                  refine e_aload_n (n := 2) C dX7_put_106 rfl rfl ?_
                  refine e_get (v := .ref 70) C fd_X7_35 (by decide) rfl rfl dX7_put_107 ?_
                  refine e_iload_n (n := 3) C dX7_put_110 rfl rfl ?_
                  refine e_iald (n := 3) C (by decide) rfl (by decide) (s48 c1 c2 c4 c6 c8 c32 c33 c45) dX7_put_111 ?_
                  refine e_iadd C dX7_put_112 ?_
                  refine e_istore C dX7_put_113 (by decide) rfl ?_
                  refine e_aload_n (n := 2) C dX7_put_115 rfl rfl ?_
                  refine e_get (v := .ref 71) C fd_X7_38 (by decide) rfl rfl dX7_put_116 ?_
                  refine e_iload (n := 0) C dX7_put_119 rfl ?_
                  refine e_iload_n (n := 4) C dX7_put_121 rfl rfl ?_
                  refine e_iast (n := 24) C (by decide) rfl (by decide) (s49 c1 c2 c4 c6 c8 c32 c33 c45) dX7_put_122 ?_
                  refine e_aload_n (n := 2) C dX7_put_123 rfl rfl ?_
                  refine e_get (v := .ref 72) C fd_X7_41 (by decide) rfl rfl dX7_put_124 ?_
                  refine e_iload (n := 0) C dX7_put_127 rfl ?_
                  refine e_iload_n (n := 5) C dX7_put_129 rfl rfl ?_
                  refine e_iast (n := 24) C (by decide) rfl (by decide) (s50 c1 c2 c4 c6 c8 c32 c33 c45) dX7_put_130 ?_
                  refine e_aload_n (n := 2) C dX7_put_131 rfl rfl ?_
                  refine e_get (v := .ref 70) C fd_X7_35 (by decide) rfl rfl dX7_put_132 ?_
                  refine e_iload_n (n := 3) C dX7_put_135 rfl rfl ?_
                  refine e_dup2 C dX7_put_136 rfl rfl ?_
                  refine e_ialdV (n := 3) (r := M 70) (by simp [ea_upR, ea_upS, ea_upK, pa_setR, pa_cpR, fr_X3_add, fr_X5_forget, fr_X5_become, fr_X4_clear, fr_X4_addStuff, fr_X4_become_d, fr_X4_become_s, fr_X0_enter, fr_X0_remove]) C (by decide) rfl (by decide) (s51 c1 c2 c4 c6 c8 c32 c33 c45) dX7_put_137 ?_
                  refine e_iconst (v := 1) C dX7_put_138 (by decide) ?_
                  refine e_iadd C dX7_put_139 ?_
                  refine e_iast (n := 3) C (by decide) rfl (by decide) (s52 c1 c2 c4 c6 c8 c32 c33 c45) dX7_put_140 ?_
                  refine e_aload_n (n := 2) C dX7_put_141 rfl rfl ?_
                  refine e_get (v := .ref 73) C fd_X7_44 (by decide) rfl rfl dX7_put_142 ?_
                  refine e_iload (n := 0) C dX7_put_145 rfl ?_
                  refine e_iload (n := 6) C dX7_put_147 rfl ?_
                  refine e_iast (n := 24) C (by decide) rfl (by decide) (s53 c1 c2 c4 c6 c8 c32 c33 c45) dX7_put_149 ?_
                  refine e_iload (n := 1) C dX7_put_150 rfl ?_
                  exact e_iret C X rfl (vp_nar_int _) dX7_put_152 (h54 c1 c2 c4 c6 c8 c32 c33 c45)
            · refine e_ldc C kc_X7_251 dX7_put_74 ?_
              exact e_iret C X rfl (vp_nar_int _) dX7_put_76 (h55 c1 c2 c4 c6 c8 c32)
        · refine e_ldc C kc_X7_246 dX7_put_45 ?_
          exact e_iret C X rfl (vp_nar_int _) dX7_put_47 (h56 c1 c2 c4 c6)
      · refine e_ldc C kc_X7_68 dX7_put_33 ?_
        exact e_iret C X rfl (vp_nar_int _) dX7_put_35 (h57 c1 c2 c4)
  · refine e_ldc C kc_X7_167 dX7_put_7 ?_
    exact e_iret C X rfl (vp_nar_int _) dX7_put_9 (h58 c1)
set_option maxRecDepth 100000 in
set_option maxHeartbeats 4000000 in
theorem km_strike {k : ea_K} {o : Option Value} {M' : ea_M} (C : ea_C k RX7 cX7_strike 7 3) (X : ea_X k (some .int) o M') {M : ea_M} {t a b : Int32} {r1 r2 : Int32}   (q1 : ea_Sp 2 yX7_get cX7_get 5 (some .int) [.ref 61, .int t, .int a, .int b] M (some (.int r1)) M) (q3 : (-999 : Int32) ≤ r1 → ea_Sp 0 yX7_placeOf cX7_placeOf 5 (some .int) [.ref 61, .int t, .int a, .int b] M (some (.int r2)) M) (s4 : (-999 : Int32) ≤ r1 → vp_in t 3) (s5 : (-999 : Int32) ≤ r1 → vp_in t 3) (h6 : (-999 : Int32) ≤ r1 → ea_E k 43 [(0, .ref 61), (1, .int t), (4, .int r1), (6, .int r2)] [] (ea_up M 70 t.toNatClampNeg ((M 70 t.toNatClampNeg) - (1 : Int32)))) (h7 : ¬ (-999 : Int32) ≤ r1 → o = some (.int r1) ∧ M' = M) : ea_E k 0 [(0, .ref 61), (1, .int t), (2, .int a), (3, .int b)] [] M := by
  refine e_aload_n (n := 0) C dX7_strike_0 rfl rfl ?_
  refine e_iload_n (n := 1) C dX7_strike_1 rfl rfl ?_
  refine e_iload_n (n := 2) C dX7_strike_2 rfl rfl ?_
  refine e_iload_n (n := 3) C dX7_strike_3 rfl rfl ?_
  refine e_callV1 (as := [.int t, .int a, .int b]) (rest := []) C lk_X7_253 q1 (by decide) rfl (by decide) rfl (by decide) rfl rfl (Nat.le_of_ble_eq_true rfl) dX7_strike_4 ?_
  refine e_istore C dX7_strike_7 (by decide) rfl ?_
  refine e_iload (n := 0) C dX7_strike_9 rfl ?_
  refine e_sipush (v := -999) C dX7_strike_11 (by decide) ?_
  refine e_icmp_ge (tgt := 20) C dX7_strike_14 (by decide) (fun c2 => ?_) (fun c2 => ?_)
  · refine e_aload_n (n := 1) C dX7_strike_20 rfl rfl ?_
    refine e_iload_n (n := 2) C dX7_strike_21 rfl rfl ?_
    refine e_iload_n (n := 3) C dX7_strike_22 rfl rfl ?_
    refine e_iload_n (n := 4) C dX7_strike_23 rfl rfl ?_
    refine e_callV1 (as := [.int t, .int a, .int b]) (rest := []) C lk_X7_247 (q3 c2) (by decide) rfl (by decide) rfl (by decide) rfl rfl (Nat.le_of_ble_eq_true rfl) dX7_strike_24 ?_
    refine e_istore C dX7_strike_27 (by decide) rfl ?_
    refine e_aload_n (n := 2) C dX7_strike_29 rfl rfl ?_
    refine e_get (v := .ref 70) C fd_X7_35 (by decide) rfl rfl dX7_strike_30 ?_
    refine e_iload_n (n := 3) C dX7_strike_33 rfl rfl ?_
    refine e_dup2 C dX7_strike_34 rfl rfl ?_
    refine e_iald (n := 3) C (by decide) rfl (by decide) (s4 c2) dX7_strike_35 ?_
    refine e_iconst (v := 1) C dX7_strike_36 (by decide) ?_
    refine e_isub C dX7_strike_37 ?_
    refine e_iast (n := 3) C (by decide) rfl (by decide) (s5 c2) dX7_strike_38 ?_
    refine e_iload (n := 0) C dX7_strike_39 rfl ?_
    refine e_istore C dX7_strike_41 (by decide) rfl ?_
    refine e_perm C [3, 4, 2, 0] rfl ?_
    exact (h6 c2)
  · refine e_iload (n := 0) C dX7_strike_17 rfl ?_
    exact e_iret C X rfl (vp_nar_int _) dX7_strike_19 (h7 c2)
set_option maxRecDepth 100000 in
set_option maxHeartbeats 4000000 in
theorem km_strike_43 {k : ea_K} {o : Option Value} {M' : ea_M} (C : ea_C k RX7 cX7_strike 7 3) (X : ea_X k (some .int) o M') {M : ea_M} {t had j : Int32}   (s1 : vp_in t 3) (h3 : (((8 : Int32) * t) + (M 70 t.toNatClampNeg)) ≤ j → o = some (.int had) ∧ M' = M) (s4 : ¬ (((8 : Int32) * t) + (M 70 t.toNatClampNeg)) ≤ j → vp_in (j + (1 : Int32)) 24) (s5 : ¬ (((8 : Int32) * t) + (M 70 t.toNatClampNeg)) ≤ j → vp_in j 24) (s6 : ¬ (((8 : Int32) * t) + (M 70 t.toNatClampNeg)) ≤ j → vp_in (j + (1 : Int32)) 24) (s7 : ¬ (((8 : Int32) * t) + (M 70 t.toNatClampNeg)) ≤ j → vp_in j 24) (s8 : ¬ (((8 : Int32) * t) + (M 70 t.toNatClampNeg)) ≤ j → vp_in (j + (1 : Int32)) 24) (s9 : ¬ (((8 : Int32) * t) + (M 70 t.toNatClampNeg)) ≤ j → vp_in j 24) (h10 : ¬ (((8 : Int32) * t) + (M 70 t.toNatClampNeg)) ≤ j → ea_E k 43 [(0, .ref 61), (1, .int t), (4, .int had), (6, .int (j + 1))] [] (ea_up (ea_up (ea_up M 71 j.toNatClampNeg (M 71 (j + (1 : Int32)).toNatClampNeg)) 72 j.toNatClampNeg (M 72 (j + (1 : Int32)).toNatClampNeg)) 73 j.toNatClampNeg (M 73 (j + (1 : Int32)).toNatClampNeg))) : ea_E k 43 [(0, .ref 61), (1, .int t), (4, .int had), (6, .int j)] [] M := by
  refine e_iload (n := 3) C dX7_strike_43 rfl ?_
  refine e_bipush (v := 8) C dX7_strike_45 (by decide) ?_
  refine e_iload_n (n := 1) C dX7_strike_47 rfl rfl ?_
  refine e_imul C dX7_strike_48 ?_
  refine e_aload_n (n := 0) C dX7_strike_49 rfl rfl ?_
  refine e_get (v := .ref 70) C fd_X7_35 (by decide) rfl rfl dX7_strike_50 ?_
  refine e_iload_n (n := 1) C dX7_strike_53 rfl rfl ?_
  refine e_iald (n := 3) C (by decide) rfl (by decide) s1 dX7_strike_54 ?_
  refine e_iadd C dX7_strike_55 ?_
  refine e_icmp_ge (tgt := 113) C dX7_strike_56 (by decide) (fun c2 => ?_) (fun c2 => ?_)
  · refine e_iload (n := 2) C dX7_strike_113 rfl ?_
    exact e_iret C X rfl (vp_nar_int _) dX7_strike_115 (h3 c2)
  · refine e_aload_n (n := 0) C dX7_strike_59 rfl rfl ?_
    refine e_get (v := .ref 71) C fd_X7_38 (by decide) rfl rfl dX7_strike_60 ?_
    refine e_iload (n := 3) C dX7_strike_63 rfl ?_
    refine e_aload_n (n := 0) C dX7_strike_65 rfl rfl ?_
    refine e_get (v := .ref 71) C fd_X7_38 (by decide) rfl rfl dX7_strike_66 ?_
    refine e_iload (n := 3) C dX7_strike_69 rfl ?_
    refine e_iconst (v := 1) C dX7_strike_71 (by decide) ?_
    refine e_iadd C dX7_strike_72 ?_
    refine e_iald (n := 24) C (by decide) rfl (by decide) (s4 c2) dX7_strike_73 ?_
    refine e_iast (n := 24) C (by decide) rfl (by decide) (s5 c2) dX7_strike_74 ?_
    refine e_aload_n (n := 0) C dX7_strike_75 rfl rfl ?_
    refine e_get (v := .ref 72) C fd_X7_41 (by decide) rfl rfl dX7_strike_76 ?_
    refine e_iload (n := 3) C dX7_strike_79 rfl ?_
    refine e_aload_n (n := 0) C dX7_strike_81 rfl rfl ?_
    refine e_get (v := .ref 72) C fd_X7_41 (by decide) rfl rfl dX7_strike_82 ?_
    refine e_iload (n := 3) C dX7_strike_85 rfl ?_
    refine e_iconst (v := 1) C dX7_strike_87 (by decide) ?_
    refine e_iadd C dX7_strike_88 ?_
    refine e_ialdV (n := 24) (r := M 72) (by simp [ea_upR, ea_upS, ea_upK, pa_setR, pa_cpR, fr_X3_add, fr_X5_forget, fr_X5_become, fr_X4_clear, fr_X4_addStuff, fr_X4_become_d, fr_X4_become_s, fr_X0_enter, fr_X0_remove]) C (by decide) rfl (by decide) (s6 c2) dX7_strike_89 ?_
    refine e_iast (n := 24) C (by decide) rfl (by decide) (s7 c2) dX7_strike_90 ?_
    refine e_aload_n (n := 0) C dX7_strike_91 rfl rfl ?_
    refine e_get (v := .ref 73) C fd_X7_44 (by decide) rfl rfl dX7_strike_92 ?_
    refine e_iload (n := 3) C dX7_strike_95 rfl ?_
    refine e_aload_n (n := 0) C dX7_strike_97 rfl rfl ?_
    refine e_get (v := .ref 73) C fd_X7_44 (by decide) rfl rfl dX7_strike_98 ?_
    refine e_iload (n := 3) C dX7_strike_101 rfl ?_
    refine e_iconst (v := 1) C dX7_strike_103 (by decide) ?_
    refine e_iadd C dX7_strike_104 ?_
    refine e_ialdV (n := 24) (r := M 73) (by simp [ea_upR, ea_upS, ea_upK, pa_setR, pa_cpR, fr_X3_add, fr_X5_forget, fr_X5_become, fr_X4_clear, fr_X4_addStuff, fr_X4_become_d, fr_X4_become_s, fr_X0_enter, fr_X0_remove]) C (by decide) rfl (by decide) (s8 c2) dX7_strike_105 ?_
    refine e_iast (n := 24) C (by decide) rfl (by decide) (s9 c2) dX7_strike_106 ?_
    refine e_iinc (n := 3) (v := (j + 1)) C dX7_strike_107 rfl rfl (by decide) rfl ?_
    refine e_goto (tgt := 43) C dX7_strike_110 (by decide) ?_
    refine e_perm C [1, 2, 3, 0] rfl ?_
    exact (h10 c2)
set_option maxRecDepth 100000 in
set_option maxHeartbeats 4000000 in
theorem km_common {k : ea_K} {o : Option Value} {M' : ea_M} (C : ea_C k RX7 cX7_common 6 2) (X : ea_X k (some .int) o M') {M : ea_M} {t t2 : Int32}   (h2 : ¬ p_X7_isPage t → o = some (.int (-2000000001 : Int32)) ∧ M' = M) (s4 : p_X7_isPage t → p_X7_isPage t2 → vp_in t 3) (h6 : p_X7_isPage t → p_X7_isPage t2 → (M 70 t.toNatClampNeg) < 0 → o = some (.int (-2000000011 : Int32)) ∧ M' = M) (s7 : p_X7_isPage t → p_X7_isPage t2 → ¬ (M 70 t.toNatClampNeg) < 0 → vp_in t2 3) (h9 : p_X7_isPage t → p_X7_isPage t2 → ¬ (M 70 t.toNatClampNeg) < 0 → 0 ≤ (M 70 t2.toNatClampNeg) → ea_E k 46 [(0, .ref 61), (1, .int t), (2, .int t2), (3, .int (0 : Int32)), (4, .int ((8 : Int32) * t))] [] M) (h10 : p_X7_isPage t → p_X7_isPage t2 → ¬ (M 70 t.toNatClampNeg) < 0 → ¬ 0 ≤ (M 70 t2.toNatClampNeg) → o = some (.int (-2000000011 : Int32)) ∧ M' = M) (h11 : p_X7_isPage t → ¬ p_X7_isPage t2 → o = some (.int (-2000000001 : Int32)) ∧ M' = M) : ea_E k 0 [(0, .ref 61), (1, .int t), (2, .int t2)] [] M := by
  refine e_iload_n (n := 1) C dX7_common_0 rfl rfl ?_
  refine e_callS1 (as := [.int t]) (rest := []) C lk_X7_237 (sp_X7_isPage (M := M) (i := t) ) (by decide) rfl rfl (Nat.le_of_ble_eq_true rfl) dX7_common_1 ?_
  refine e_ifb_eq (tgt := 14) C dX7_common_4 (by decide) (fun c1 => ?_) (fun c1 => ?_)
  · refine e_ldc C kc_X7_167 dX7_common_14 ?_
    exact e_iret C X rfl (vp_nar_int _) dX7_common_16 (h2 c1)
  · refine e_iload_n (n := 2) C dX7_common_7 rfl rfl ?_
    refine e_callS1 (as := [.int t2]) (rest := []) C lk_X7_237 (sp_X7_isPage (M := M) (i := t2) ) (by decide) rfl rfl (Nat.le_of_ble_eq_true rfl) dX7_common_8 ?_
    refine e_ifb_ne (tgt := 17) C dX7_common_11 (by decide) (fun c3 => ?_) (fun c3 => ?_)
    · refine e_aload_n (n := 0) C dX7_common_17 rfl rfl ?_
      refine e_get (v := .ref 70) C fd_X7_35 (by decide) rfl rfl dX7_common_18 ?_
      refine e_iload_n (n := 1) C dX7_common_21 rfl rfl ?_
      refine e_iald (n := 3) C (by decide) rfl (by decide) (s4 c1 c3) dX7_common_22 ?_
      refine e_if_lt (tgt := 35) C dX7_common_23 (by decide) (fun c5 => ?_) (fun c5 => ?_)
      · refine e_ldc C kc_X7_246 dX7_common_35 ?_
        exact e_iret C X rfl (vp_nar_int _) dX7_common_37 (h6 c1 c3 c5)
      · refine e_aload_n (n := 0) C dX7_common_26 rfl rfl ?_
        refine e_get (v := .ref 70) C fd_X7_35 (by decide) rfl rfl dX7_common_27 ?_
        refine e_iload_n (n := 2) C dX7_common_30 rfl rfl ?_
        refine e_iald (n := 3) C (by decide) rfl (by decide) (s7 c1 c3 c5) dX7_common_31 ?_
        refine e_if_ge (tgt := 38) C dX7_common_32 (by decide) (fun c8 => ?_) (fun c8 => ?_)
        · refine e_iconst (v := 0) C dX7_common_38 (by decide) ?_
          refine e_istore_n C dX7_common_39 rfl (by decide) rfl ?_
          refine e_bipush (v := 8) C dX7_common_40 (by decide) ?_
          refine e_iload_n (n := 2) C dX7_common_42 rfl rfl ?_
          refine e_imul C dX7_common_43 ?_
          refine e_istore C dX7_common_44 (by decide) rfl ?_
          refine e_perm C [2, 3, 4, 1, 0] rfl ?_
          exact (h9 c1 c3 c5 c8)
        · refine e_ldc C kc_X7_246 dX7_common_35 ?_
          exact e_iret C X rfl (vp_nar_int _) dX7_common_37 (h10 c1 c3 c5 c8)
    · refine e_ldc C kc_X7_167 dX7_common_14 ?_
      exact e_iret C X rfl (vp_nar_int _) dX7_common_16 (h11 c1 c3)
set_option maxRecDepth 100000 in
set_option maxHeartbeats 4000000 in
theorem km_common_46 {k : ea_K} {o : Option Value} {M' : ea_M} (C : ea_C k RX7 cX7_common 6 2) (X : ea_X k (some .int) o M') {M : ea_M} {t t2 n j : Int32} {r1 : Int32}   (s1 : vp_in t 3) (h3 : (((8 : Int32) * t) + (M 70 t.toNatClampNeg)) ≤ j → o = some (.int n) ∧ M' = M) (s4 : ¬ (((8 : Int32) * t) + (M 70 t.toNatClampNeg)) ≤ j → vp_in j 24) (s5 : ¬ (((8 : Int32) * t) + (M 70 t.toNatClampNeg)) ≤ j → vp_in j 24) (q6 : ¬ (((8 : Int32) * t) + (M 70 t.toNatClampNeg)) ≤ j → ea_Sp 0 yX7_placeOf cX7_placeOf 5 (some .int) [.ref 61, .int t2, .int (M 71 j.toNatClampNeg), .int (M 72 j.toNatClampNeg)] M (some (.int r1)) M) (h8 : ¬ (((8 : Int32) * t) + (M 70 t.toNatClampNeg)) ≤ j → r1 = (-1 : Int32) → ea_E k 46 [(0, .ref 61), (1, .int t), (2, .int t2), (3, .int (n + (0 : Int32))), (4, .int (j + 1))] [] M) (s9 : ¬ (((8 : Int32) * t) + (M 70 t.toNatClampNeg)) ≤ j → ¬ r1 = (-1 : Int32) → vp_in r1 24) (s10 : ¬ (((8 : Int32) * t) + (M 70 t.toNatClampNeg)) ≤ j → ¬ r1 = (-1 : Int32) → vp_in j 24) (h12 : ¬ (((8 : Int32) * t) + (M 70 t.toNatClampNeg)) ≤ j → ¬ r1 = (-1 : Int32) → ¬ (M 73 r1.toNatClampNeg) = (M 73 j.toNatClampNeg) → ea_E k 46 [(0, .ref 61), (1, .int t), (2, .int t2), (3, .int (n + (0 : Int32))), (4, .int (j + 1))] [] M) (h13 : ¬ (((8 : Int32) * t) + (M 70 t.toNatClampNeg)) ≤ j → ¬ r1 = (-1 : Int32) → (M 73 r1.toNatClampNeg) = (M 73 j.toNatClampNeg) → ea_E k 46 [(0, .ref 61), (1, .int t), (2, .int t2), (3, .int (n + (1 : Int32))), (4, .int (j + 1))] [] M) : ea_E k 46 [(0, .ref 61), (1, .int t), (2, .int t2), (3, .int n), (4, .int j)] [] M := by
  refine e_iload (n := 4) C dX7_common_46 rfl ?_
  refine e_bipush (v := 8) C dX7_common_48 (by decide) ?_
  refine e_iload_n (n := 1) C dX7_common_50 rfl rfl ?_
  refine e_imul C dX7_common_51 ?_
  refine e_aload_n (n := 0) C dX7_common_52 rfl rfl ?_
  refine e_get (v := .ref 70) C fd_X7_35 (by decide) rfl rfl dX7_common_53 ?_
  refine e_iload_n (n := 1) C dX7_common_56 rfl rfl ?_
  refine e_iald (n := 3) C (by decide) rfl (by decide) s1 dX7_common_57 ?_
  refine e_iadd C dX7_common_58 ?_
  refine e_icmp_ge (tgt := 120) C dX7_common_59 (by decide) (fun c2 => ?_) (fun c2 => ?_)
  · refine e_iload_n (n := 3) C dX7_common_120 rfl rfl ?_
    exact e_iret C X rfl (vp_nar_int _) dX7_common_121 (h3 c2)
  · refine e_aload_n (n := 0) C dX7_common_62 rfl rfl ?_
    refine e_iload_n (n := 2) C dX7_common_63 rfl rfl ?_
    refine e_aload_n (n := 0) C dX7_common_64 rfl rfl ?_
    refine e_get (v := .ref 71) C fd_X7_38 (by decide) rfl rfl dX7_common_65 ?_
    refine e_iload (n := 4) C dX7_common_68 rfl ?_
    refine e_iald (n := 24) C (by decide) rfl (by decide) (s4 c2) dX7_common_70 ?_
    refine e_aload_n (n := 0) C dX7_common_71 rfl rfl ?_
    refine e_get (v := .ref 72) C fd_X7_41 (by decide) rfl rfl dX7_common_72 ?_
    refine e_iload (n := 4) C dX7_common_75 rfl ?_
    refine e_iald (n := 24) C (by decide) rfl (by decide) (s5 c2) dX7_common_77 ?_
    refine e_callV1 (as := [.int t2, .int (M 71 j.toNatClampNeg), .int (M 72 j.toNatClampNeg)]) (rest := []) C lk_X7_247 (q6 c2) (by decide) rfl (by decide) rfl (by decide) rfl rfl (Nat.le_of_ble_eq_true rfl) dX7_common_78 ?_
    refine e_istore C dX7_common_81 (by decide) rfl ?_
    refine e_iload_n (n := 4) C dX7_common_83 rfl rfl ?_
    refine e_iload (n := 0) C dX7_common_84 rfl ?_
    refine e_iconst (v := -1) C dX7_common_86 (by decide) ?_
    refine e_icmp_eq (tgt := 111) C dX7_common_87 (by decide) (fun c7 => ?_) (fun c7 => ?_)
    · refine e_iconst (v := 0) C dX7_common_111 (by decide) ?_
      refine e_iadd C dX7_common_112 ?_
      refine e_istore_n C dX7_common_113 rfl (by decide) rfl ?_
      refine e_iinc (n := 5) (v := (j + 1)) C dX7_common_114 rfl rfl (by decide) rfl ?_
      refine e_goto (tgt := 46) C dX7_common_117 (by decide) ?_
      refine e_perm C [3, 4, 5, 1, 0] rfl ?_
      exact (h8 c2 c7)
    · refine e_aload_n (n := 1) C dX7_common_90 rfl rfl ?_
      refine e_get (v := .ref 73) C fd_X7_44 (by decide) rfl rfl dX7_common_91 ?_
      refine e_iload (n := 0) C dX7_common_94 rfl ?_
      refine e_iald (n := 24) C (by decide) rfl (by decide) (s9 c2 c7) dX7_common_96 ?_
      refine e_aload_n (n := 1) C dX7_common_97 rfl rfl ?_
      refine e_get (v := .ref 73) C fd_X7_44 (by decide) rfl rfl dX7_common_98 ?_
      refine e_iload (n := 5) C dX7_common_101 rfl ?_
      refine e_iald (n := 24) C (by decide) rfl (by decide) (s10 c2 c7) dX7_common_103 ?_
      refine e_icmp_ne (tgt := 111) C dX7_common_104 (by decide) (fun c11 => ?_) (fun c11 => ?_)
      · refine e_iconst (v := 0) C dX7_common_111 (by decide) ?_
        refine e_iadd C dX7_common_112 ?_
        refine e_istore_n C dX7_common_113 rfl (by decide) rfl ?_
        refine e_iinc (n := 5) (v := (j + 1)) C dX7_common_114 rfl rfl (by decide) rfl ?_
        refine e_goto (tgt := 46) C dX7_common_117 (by decide) ?_
        refine e_perm C [3, 4, 5, 1, 0] rfl ?_
        exact (h12 c2 c7 c11)
      · refine e_iconst (v := 1) C dX7_common_107 (by decide) ?_
        refine e_goto (tgt := 112) C dX7_common_108 (by decide) ?_
        refine e_iadd C dX7_common_112 ?_
        refine e_istore_n C dX7_common_113 rfl (by decide) rfl ?_
        refine e_iinc (n := 5) (v := (j + 1)) C dX7_common_114 rfl rfl (by decide) rfl ?_
        refine e_goto (tgt := 46) C dX7_common_117 (by decide) ?_
        refine e_perm C [3, 4, 5, 1, 0] rfl ?_
        exact (h13 c2 c7 c11)
set_option maxRecDepth 100000 in
set_option maxHeartbeats 4000000 in
theorem km_sum {k : ea_K} {o : Option Value} {M' : ea_M} (C : ea_C k RX7 cX7_sum 5 2) (X : ea_X k (some .int) o M') {M : ea_M} {t w : Int32}   (s3 : p_X7_isPage t → p_X7_in ((w).toInt64) (0 : Int64) (2 : Int64) → vp_in t 3) (h5 : p_X7_isPage t → p_X7_in ((w).toInt64) (0 : Int64) (2 : Int64) → 0 ≤ (M 70 t.toNatClampNeg) → ea_E k 45 [(0, .ref 61), (1, .int t), (2, .int w), (3, .int (0 : Int32)), (4, .int ((8 : Int32) * t))] [] M) (h6 : p_X7_isPage t → p_X7_in ((w).toInt64) (0 : Int64) (2 : Int64) → ¬ 0 ≤ (M 70 t.toNatClampNeg) → o = some (.int (-2000000011 : Int32)) ∧ M' = M) (h7 : p_X7_isPage t → ¬ p_X7_in ((w).toInt64) (0 : Int64) (2 : Int64) → o = some (.int (-2000000002 : Int32)) ∧ M' = M) (h8 : ¬ p_X7_isPage t → o = some (.int (-2000000001 : Int32)) ∧ M' = M) : ea_E k 0 [(0, .ref 61), (1, .int t), (2, .int w)] [] M := by
  refine e_iload_n (n := 1) C dX7_sum_0 rfl rfl ?_
  refine e_callS1 (as := [.int t]) (rest := []) C lk_X7_237 (sp_X7_isPage (M := M) (i := t) ) (by decide) rfl rfl (Nat.le_of_ble_eq_true rfl) dX7_sum_1 ?_
  refine e_ifb_ne (tgt := 10) C dX7_sum_4 (by decide) (fun c1 => ?_) (fun c1 => ?_)
  · refine e_iload_n (n := 2) C dX7_sum_10 rfl rfl ?_
    refine e_i2l C dX7_sum_11 ?_
    refine e_lconst (v := 0) C dX7_sum_12 (by decide) ?_
    refine e_ldc2 C kc_X7_191 dX7_sum_13 ?_
    refine e_callS1 (as := [.long ((w).toInt64), .long (0 : Int64), .long (2 : Int64)]) (rest := []) C lk_X7_64 (sp_X7_in (M := M) (v := ((w).toInt64)) (a := (0 : Int64)) (b := (2 : Int64)) ) (by decide) rfl rfl (Nat.le_of_ble_eq_true rfl) dX7_sum_16 ?_
    refine e_ifb_ne (tgt := 25) C dX7_sum_19 (by decide) (fun c2 => ?_) (fun c2 => ?_)
    · refine e_aload_n (n := 0) C dX7_sum_25 rfl rfl ?_
      refine e_get (v := .ref 70) C fd_X7_35 (by decide) rfl rfl dX7_sum_26 ?_
      refine e_iload_n (n := 1) C dX7_sum_29 rfl rfl ?_
      refine e_iald (n := 3) C (by decide) rfl (by decide) (s3 c1 c2) dX7_sum_30 ?_
      refine e_if_ge (tgt := 37) C dX7_sum_31 (by decide) (fun c4 => ?_) (fun c4 => ?_)
      · refine e_iconst (v := 0) C dX7_sum_37 (by decide) ?_
        refine e_istore_n C dX7_sum_38 rfl (by decide) rfl ?_
        refine e_bipush (v := 8) C dX7_sum_39 (by decide) ?_
        refine e_iload_n (n := 2) C dX7_sum_41 rfl rfl ?_
        refine e_imul C dX7_sum_42 ?_
        refine e_istore C dX7_sum_43 (by decide) rfl ?_
        refine e_perm C [2, 3, 4, 1, 0] rfl ?_
        exact (h5 c1 c2 c4)
      · refine e_ldc C kc_X7_246 dX7_sum_34 ?_
        exact e_iret C X rfl (vp_nar_int _) dX7_sum_36 (h6 c1 c2 c4)
    · refine e_ldc C kc_X7_68 dX7_sum_22 ?_
      exact e_iret C X rfl (vp_nar_int _) dX7_sum_24 (h7 c1 c2)
  · refine e_ldc C kc_X7_167 dX7_sum_7 ?_
    exact e_iret C X rfl (vp_nar_int _) dX7_sum_9 (h8 c1)
set_option maxRecDepth 100000 in
set_option maxHeartbeats 4000000 in
theorem km_sum_45 {k : ea_K} {o : Option Value} {M' : ea_M} (C : ea_C k RX7 cX7_sum 5 2) (X : ea_X k (some .int) o M') {M : ea_M} {t w al j : Int32}   (s1 : vp_in t 3) (h3 : (((8 : Int32) * t) + (M 70 t.toNatClampNeg)) ≤ j → o = some (.int al) ∧ M' = M) (s6 : ¬ (((8 : Int32) * t) + (M 70 t.toNatClampNeg)) ≤ j → ¬ w = 0 → ¬ w = (1 : Int32) → vp_in j 24) (h7 : ¬ (((8 : Int32) * t) + (M 70 t.toNatClampNeg)) ≤ j → ¬ w = 0 → ¬ w = (1 : Int32) → ea_E k 45 [(0, .ref 61), (1, .int t), (2, .int w), (3, .int (al + (M 72 j.toNatClampNeg))), (4, .int (j + 1))] [] M) (h8 : ¬ (((8 : Int32) * t) + (M 70 t.toNatClampNeg)) ≤ j → ¬ w = 0 → w = (1 : Int32) → ea_E k 45 [(0, .ref 61), (1, .int t), (2, .int w), (3, .int (al + (1 : Int32))), (4, .int (j + 1))] [] M) (s9 : ¬ (((8 : Int32) * t) + (M 70 t.toNatClampNeg)) ≤ j → w = 0 → vp_in j 24) (h10 : ¬ (((8 : Int32) * t) + (M 70 t.toNatClampNeg)) ≤ j → w = 0 → ea_E k 45 [(0, .ref 61), (1, .int t), (2, .int w), (3, .int (al + (M 73 j.toNatClampNeg))), (4, .int (j + 1))] [] M) : ea_E k 45 [(0, .ref 61), (1, .int t), (2, .int w), (3, .int al), (4, .int j)] [] M := by
  refine e_iload (n := 4) C dX7_sum_45 rfl ?_
  refine e_bipush (v := 8) C dX7_sum_47 (by decide) ?_
  refine e_iload_n (n := 1) C dX7_sum_49 rfl rfl ?_
  refine e_imul C dX7_sum_50 ?_
  refine e_aload_n (n := 0) C dX7_sum_51 rfl rfl ?_
  refine e_get (v := .ref 70) C fd_X7_35 (by decide) rfl rfl dX7_sum_52 ?_
  refine e_iload_n (n := 1) C dX7_sum_55 rfl rfl ?_
  refine e_iald (n := 3) C (by decide) rfl (by decide) s1 dX7_sum_56 ?_
  refine e_iadd C dX7_sum_57 ?_
  refine e_icmp_ge (tgt := 100) C dX7_sum_58 (by decide) (fun c2 => ?_) (fun c2 => ?_)
  · refine e_iload_n (n := 3) C dX7_sum_100 rfl rfl ?_
    exact e_iret C X rfl (vp_nar_int _) dX7_sum_101 (h3 c2)
  · refine e_iload_n (n := 3) C dX7_sum_61 rfl rfl ?_
    refine e_iload_n (n := 2) C dX7_sum_62 rfl rfl ?_
    refine e_if_ne (tgt := 76) C dX7_sum_63 (by decide) (fun c4 => ?_) (fun c4 => ?_)
    · refine e_iload_n (n := 2) C dX7_sum_76 rfl rfl ?_
      refine e_iconst (v := 1) C dX7_sum_77 (by decide) ?_
      refine e_icmp_ne (tgt := 85) C dX7_sum_78 (by decide) (fun c5 => ?_) (fun c5 => ?_)
      · refine e_aload_n (n := 0) C dX7_sum_85 rfl rfl ?_
        refine e_get (v := .ref 72) C fd_X7_41 (by decide) rfl rfl dX7_sum_86 ?_
        refine e_iload (n := 4) C dX7_sum_89 rfl ?_
        refine e_iald (n := 24) C (by decide) rfl (by decide) (s6 c2 c4 c5) dX7_sum_91 ?_
        refine e_iadd C dX7_sum_92 ?_
        refine e_istore_n C dX7_sum_93 rfl (by decide) rfl ?_
        refine e_iinc (n := 4) (v := (j + 1)) C dX7_sum_94 rfl rfl (by decide) rfl ?_
        refine e_goto (tgt := 45) C dX7_sum_97 (by decide) ?_
        refine e_perm C [2, 3, 4, 1, 0] rfl ?_
        exact (h7 c2 c4 c5)
      · refine e_iconst (v := 1) C dX7_sum_81 (by decide) ?_
        refine e_goto (tgt := 92) C dX7_sum_82 (by decide) ?_
        refine e_iadd C dX7_sum_92 ?_
        refine e_istore_n C dX7_sum_93 rfl (by decide) rfl ?_
        refine e_iinc (n := 4) (v := (j + 1)) C dX7_sum_94 rfl rfl (by decide) rfl ?_
        refine e_goto (tgt := 45) C dX7_sum_97 (by decide) ?_
        refine e_perm C [2, 3, 4, 1, 0] rfl ?_
        exact (h8 c2 c4 c5)
    · refine e_aload_n (n := 0) C dX7_sum_66 rfl rfl ?_
      refine e_get (v := .ref 73) C fd_X7_44 (by decide) rfl rfl dX7_sum_67 ?_
      refine e_iload (n := 4) C dX7_sum_70 rfl ?_
      refine e_iald (n := 24) C (by decide) rfl (by decide) (s9 c2 c4) dX7_sum_72 ?_
      refine e_goto (tgt := 92) C dX7_sum_73 (by decide) ?_
      refine e_iadd C dX7_sum_92 ?_
      refine e_istore_n C dX7_sum_93 rfl (by decide) rfl ?_
      refine e_iinc (n := 4) (v := (j + 1)) C dX7_sum_94 rfl rfl (by decide) rfl ?_
      refine e_goto (tgt := 45) C dX7_sum_97 (by decide) ?_
      refine e_perm C [2, 3, 4, 1, 0] rfl ?_
      exact (h10 c2 c4)
set_option maxRecDepth 100000 in
set_option maxHeartbeats 4000000 in
theorem km_extreme {k : ea_K} {o : Option Value} {M' : ea_M} (C : ea_C k RX7 cX7_extreme 6 1) (X : ea_X k (some .int) o M') {M : ea_M} {wm : Int32}   (h1 : ea_E k 4 [(0, .ref 61), (1, .int wm), (2, .int (-1 : Int32)), (3, .int (0 : Int32))] [] M) : ea_E k 0 [(0, .ref 61), (1, .int wm)] [] M := by
  refine e_iconst (v := -1) C dX7_extreme_0 (by decide) ?_
  refine e_istore_n C dX7_extreme_1 rfl (by decide) rfl ?_
  refine e_iconst (v := 0) C dX7_extreme_2 (by decide) ?_
  refine e_istore_n C dX7_extreme_3 rfl (by decide) rfl ?_
  refine e_perm C [2, 3, 1, 0] rfl ?_
  exact h1
set_option maxRecDepth 100000 in
set_option maxHeartbeats 4000000 in
theorem km_extreme_4 {k : ea_K} {o : Option Value} {M' : ea_M} (C : ea_C k RX7 cX7_extreme 6 1) (X : ea_X k (some .int) o M') {M : ea_M} {wm bs i : Int32} {r1 r2 r3 : Int32}   (h2 : (M 61 6) ≤ i → o = some (.int bs) ∧ M' = M) (s4 : ¬ (M 61 6) ≤ i → ¬ bs = (-1 : Int32) → vp_in ((0 : Int32) + i) 192) (q5 : ¬ (M 61 6) ≤ i → ¬ bs = (-1 : Int32) → ea_Sp 0 yX7_holdsOf cX7_holdsOf 2 (some .int) [.ref 61, .int bs] M (some (.int r1)) M) (s7 : ¬ (M 61 6) ≤ i → ¬ bs = (-1 : Int32) → ¬ bs = (-1 : Int32) → vp_in ((0 : Int32) + bs) 192) (q8 : ¬ (M 61 6) ≤ i → ¬ bs = (-1 : Int32) → ¬ bs = (-1 : Int32) → ea_Sp 0 yX7_holdsOf cX7_holdsOf 2 (some .int) [.ref 61, .int i] M (some (.int r2)) M) (h10 : ¬ (M 61 6) ≤ i → ¬ bs = (-1 : Int32) → ¬ bs = (-1 : Int32) → bs = (-1 : Int32) → ea_E k 4 [(0, .ref 61), (1, .int wm), (2, .int i), (3, .int (i + 1))] [] M) (h13 : ¬ (M 61 6) ≤ i → ¬ bs = (-1 : Int32) → ¬ bs = (-1 : Int32) → ¬ bs = (-1 : Int32) → wm = 0 → ((M 62 ((0 : Int32) + bs).toNatClampNeg) * r2) ≤ ((M 62 ((0 : Int32) + i).toNatClampNeg) * r1) → ea_E k 4 [(0, .ref 61), (1, .int wm), (2, .int bs), (3, .int (i + 1))] [] M) (h14 : ¬ (M 61 6) ≤ i → ¬ bs = (-1 : Int32) → ¬ bs = (-1 : Int32) → ¬ bs = (-1 : Int32) → wm = 0 → ¬ ((M 62 ((0 : Int32) + bs).toNatClampNeg) * r2) ≤ ((M 62 ((0 : Int32) + i).toNatClampNeg) * r1) → ea_E k 4 [(0, .ref 61), (1, .int wm), (2, .int i), (3, .int (i + 1))] [] M) (h16 : ¬ (M 61 6) ≤ i → ¬ bs = (-1 : Int32) → ¬ bs = (-1 : Int32) → ¬ bs = (-1 : Int32) → ¬ wm = 0 → ((M 62 ((0 : Int32) + i).toNatClampNeg) * r1) ≤ ((M 62 ((0 : Int32) + bs).toNatClampNeg) * r2) → ea_E k 4 [(0, .ref 61), (1, .int wm), (2, .int bs), (3, .int (i + 1))] [] M) (h17 : ¬ (M 61 6) ≤ i → ¬ bs = (-1 : Int32) → ¬ bs = (-1 : Int32) → ¬ bs = (-1 : Int32) → ¬ wm = 0 → ¬ ((M 62 ((0 : Int32) + i).toNatClampNeg) * r1) ≤ ((M 62 ((0 : Int32) + bs).toNatClampNeg) * r2) → ea_E k 4 [(0, .ref 61), (1, .int wm), (2, .int i), (3, .int (i + 1))] [] M) (h19 : ¬ (M 61 6) ≤ i → ¬ bs = (-1 : Int32) → bs = (-1 : Int32) → bs = (-1 : Int32) → ea_E k 4 [(0, .ref 61), (1, .int wm), (2, .int i), (3, .int (i + 1))] [] M) (h22 : ¬ (M 61 6) ≤ i → ¬ bs = (-1 : Int32) → bs = (-1 : Int32) → ¬ bs = (-1 : Int32) → wm = 0 → (0 : Int32) ≤ ((M 62 ((0 : Int32) + i).toNatClampNeg) * r1) → ea_E k 4 [(0, .ref 61), (1, .int wm), (2, .int bs), (3, .int (i + 1))] [] M) (h23 : ¬ (M 61 6) ≤ i → ¬ bs = (-1 : Int32) → bs = (-1 : Int32) → ¬ bs = (-1 : Int32) → wm = 0 → ¬ (0 : Int32) ≤ ((M 62 ((0 : Int32) + i).toNatClampNeg) * r1) → ea_E k 4 [(0, .ref 61), (1, .int wm), (2, .int i), (3, .int (i + 1))] [] M) (h25 : ¬ (M 61 6) ≤ i → ¬ bs = (-1 : Int32) → bs = (-1 : Int32) → ¬ bs = (-1 : Int32) → ¬ wm = 0 → ((M 62 ((0 : Int32) + i).toNatClampNeg) * r1) ≤ (0 : Int32) → ea_E k 4 [(0, .ref 61), (1, .int wm), (2, .int bs), (3, .int (i + 1))] [] M) (h26 : ¬ (M 61 6) ≤ i → ¬ bs = (-1 : Int32) → bs = (-1 : Int32) → ¬ bs = (-1 : Int32) → ¬ wm = 0 → ¬ ((M 62 ((0 : Int32) + i).toNatClampNeg) * r1) ≤ (0 : Int32) → ea_E k 4 [(0, .ref 61), (1, .int wm), (2, .int i), (3, .int (i + 1))] [] M) (s28 : ¬ (M 61 6) ≤ i → bs = (-1 : Int32) → ¬ bs = (-1 : Int32) → vp_in ((0 : Int32) + bs) 192) (q29 : ¬ (M 61 6) ≤ i → bs = (-1 : Int32) → ¬ bs = (-1 : Int32) → ea_Sp 0 yX7_holdsOf cX7_holdsOf 2 (some .int) [.ref 61, .int i] M (some (.int r3)) M) (h31 : ¬ (M 61 6) ≤ i → bs = (-1 : Int32) → ¬ bs = (-1 : Int32) → bs = (-1 : Int32) → ea_E k 4 [(0, .ref 61), (1, .int wm), (2, .int i), (3, .int (i + 1))] [] M) (h34 : ¬ (M 61 6) ≤ i → bs = (-1 : Int32) → ¬ bs = (-1 : Int32) → ¬ bs = (-1 : Int32) → wm = 0 → ((M 62 ((0 : Int32) + bs).toNatClampNeg) * r3) ≤ (0 : Int32) → ea_E k 4 [(0, .ref 61), (1, .int wm), (2, .int bs), (3, .int (i + 1))] [] M) (h35 : ¬ (M 61 6) ≤ i → bs = (-1 : Int32) → ¬ bs = (-1 : Int32) → ¬ bs = (-1 : Int32) → wm = 0 → ¬ ((M 62 ((0 : Int32) + bs).toNatClampNeg) * r3) ≤ (0 : Int32) → ea_E k 4 [(0, .ref 61), (1, .int wm), (2, .int i), (3, .int (i + 1))] [] M) (h37 : ¬ (M 61 6) ≤ i → bs = (-1 : Int32) → ¬ bs = (-1 : Int32) → ¬ bs = (-1 : Int32) → ¬ wm = 0 → (0 : Int32) ≤ ((M 62 ((0 : Int32) + bs).toNatClampNeg) * r3) → ea_E k 4 [(0, .ref 61), (1, .int wm), (2, .int bs), (3, .int (i + 1))] [] M) (h38 : ¬ (M 61 6) ≤ i → bs = (-1 : Int32) → ¬ bs = (-1 : Int32) → ¬ bs = (-1 : Int32) → ¬ wm = 0 → ¬ (0 : Int32) ≤ ((M 62 ((0 : Int32) + bs).toNatClampNeg) * r3) → ea_E k 4 [(0, .ref 61), (1, .int wm), (2, .int i), (3, .int (i + 1))] [] M) (h40 : ¬ (M 61 6) ≤ i → bs = (-1 : Int32) → bs = (-1 : Int32) → bs = (-1 : Int32) → ea_E k 4 [(0, .ref 61), (1, .int wm), (2, .int i), (3, .int (i + 1))] [] M) (h43 : ¬ (M 61 6) ≤ i → bs = (-1 : Int32) → bs = (-1 : Int32) → ¬ bs = (-1 : Int32) → wm = 0 → (0 : Int32) ≤ (0 : Int32) → ea_E k 4 [(0, .ref 61), (1, .int wm), (2, .int bs), (3, .int (i + 1))] [] M) (h44 : ¬ (M 61 6) ≤ i → bs = (-1 : Int32) → bs = (-1 : Int32) → ¬ bs = (-1 : Int32) → wm = 0 → ¬ (0 : Int32) ≤ (0 : Int32) → ea_E k 4 [(0, .ref 61), (1, .int wm), (2, .int i), (3, .int (i + 1))] [] M) (h46 : ¬ (M 61 6) ≤ i → bs = (-1 : Int32) → bs = (-1 : Int32) → ¬ bs = (-1 : Int32) → ¬ wm = 0 → (0 : Int32) ≤ (0 : Int32) → ea_E k 4 [(0, .ref 61), (1, .int wm), (2, .int bs), (3, .int (i + 1))] [] M) (h47 : ¬ (M 61 6) ≤ i → bs = (-1 : Int32) → bs = (-1 : Int32) → ¬ bs = (-1 : Int32) → ¬ wm = 0 → ¬ (0 : Int32) ≤ (0 : Int32) → ea_E k 4 [(0, .ref 61), (1, .int wm), (2, .int i), (3, .int (i + 1))] [] M) : ea_E k 4 [(0, .ref 61), (1, .int wm), (2, .int bs), (3, .int i)] [] M := by
  refine e_iload_n (n := 3) C dX7_extreme_4 rfl rfl ?_
  refine e_aload_n (n := 0) C dX7_extreme_5 rfl rfl ?_
  refine e_get (v := .int (M 61 6)) C fd_X7_126 (by decide) rfl rfl dX7_extreme_6 ?_
  refine e_icmp_ge (tgt := 100) C dX7_extreme_9 (by decide) (fun c1 => ?_) (fun c1 => ?_)
  · refine e_iload_n (n := 2) C dX7_extreme_100 rfl rfl ?_
    exact e_iret C X rfl (vp_nar_int _) dX7_extreme_101 (h2 c1)
  · refine e_iload_n (n := 2) C dX7_extreme_12 rfl rfl ?_
    refine e_iconst (v := -1) C dX7_extreme_13 (by decide) ?_
    refine e_icmp_ne (tgt := 21) C dX7_extreme_14 (by decide) (fun c3 => ?_) (fun c3 => ?_)
    · refine e_aload_n (n := 0) C dX7_extreme_21 rfl rfl ?_
      refine e_get (v := .ref 62) C fd_X7_7 (by decide) rfl rfl dX7_extreme_22 ?_
      refine e_iconst (v := 0) C dX7_extreme_25 (by decide) ?_
      refine e_iload_n (n := 3) C dX7_extreme_26 rfl rfl ?_
      refine e_iadd C dX7_extreme_27 ?_
      refine e_iald (n := 192) C (by decide) rfl (by decide) (s4 c1 c3) dX7_extreme_28 ?_
      refine e_aload_n (n := 0) C dX7_extreme_29 rfl rfl ?_
      refine e_iload_n (n := 2) C dX7_extreme_30 rfl rfl ?_
      refine e_callV1 (as := [.int bs]) (rest := [.int (M 62 ((0 : Int32) + i).toNatClampNeg)]) C lk_X7_175 (q5 c1 c3) (by decide) rfl (by decide) rfl (by decide) rfl rfl (Nat.le_of_ble_eq_true rfl) dX7_extreme_31 ?_
      refine e_imul C dX7_extreme_34 ?_
      refine e_istore C dX7_extreme_35 (by decide) rfl ?_
      refine e_iload_n (n := 3) C dX7_extreme_37 rfl rfl ?_
      refine e_iconst (v := -1) C dX7_extreme_38 (by decide) ?_
      refine e_icmp_ne (tgt := 46) C dX7_extreme_39 (by decide) (fun c6 => ?_) (fun c6 => ?_)
      · refine e_aload_n (n := 1) C dX7_extreme_46 rfl rfl ?_
        refine e_get (v := .ref 62) C fd_X7_7 (by decide) rfl rfl dX7_extreme_47 ?_
        refine e_iconst (v := 0) C dX7_extreme_50 (by decide) ?_
        refine e_iload_n (n := 3) C dX7_extreme_51 rfl rfl ?_
        refine e_iadd C dX7_extreme_52 ?_
        refine e_iald (n := 192) C (by decide) rfl (by decide) (s7 c1 c3 c6) dX7_extreme_53 ?_
        refine e_aload_n (n := 1) C dX7_extreme_54 rfl rfl ?_
        refine e_iload_n (n := 4) C dX7_extreme_55 rfl rfl ?_
        refine e_callV1 (as := [.int i]) (rest := [.int (M 62 ((0 : Int32) + bs).toNatClampNeg)]) C lk_X7_175 (q8 c1 c3 c6) (by decide) rfl (by decide) rfl (by decide) rfl rfl (Nat.le_of_ble_eq_true rfl) dX7_extreme_56 ?_
        refine e_imul C dX7_extreme_59 ?_
        refine e_istore C dX7_extreme_60 (by decide) rfl ?_
        refine e_iload_n (n := 4) C dX7_extreme_62 rfl rfl ?_
        refine e_iconst (v := -1) C dX7_extreme_63 (by decide) ?_
        refine e_icmp_eq (tgt := 88) C dX7_extreme_64 (by decide) (fun c9 => ?_) (fun c9 => ?_)
        · refine e_iload_n (n := 5) C dX7_extreme_88 rfl rfl ?_
          refine e_goto (tgt := 93) C dX7_extreme_89 (by decide) ?_
          refine e_istore_n C dX7_extreme_93 rfl (by decide) rfl ?_
          refine e_iinc (n := 5) (v := (i + 1)) C dX7_extreme_94 rfl rfl (by decide) rfl ?_
          refine e_goto (tgt := 4) C dX7_extreme_97 (by decide) ?_
          refine e_perm C [4, 5, 1, 0] rfl ?_
          exact (h10 c1 c3 c6 c9)
        · refine e_iload_n (n := 3) C dX7_extreme_67 rfl rfl ?_
          refine e_if_eq (tgt := 81) C dX7_extreme_68 (by decide) (fun c11 => ?_) (fun c11 => ?_)
          · refine e_iload (n := 1) C dX7_extreme_81 rfl ?_
            refine e_iload (n := 0) C dX7_extreme_83 rfl ?_
            refine e_icmp_ge (tgt := 92) C dX7_extreme_85 (by decide) (fun c12 => ?_) (fun c12 => ?_)
            · refine e_iload_n (n := 4) C dX7_extreme_92 rfl rfl ?_
              refine e_istore_n C dX7_extreme_93 rfl (by decide) rfl ?_
              refine e_iinc (n := 5) (v := (i + 1)) C dX7_extreme_94 rfl rfl (by decide) rfl ?_
              refine e_goto (tgt := 4) C dX7_extreme_97 (by decide) ?_
              refine e_perm C [4, 5, 1, 0] rfl ?_
              exact (h13 c1 c3 c6 c9 c11 c12)
            · refine e_iload_n (n := 5) C dX7_extreme_88 rfl rfl ?_
              refine e_goto (tgt := 93) C dX7_extreme_89 (by decide) ?_
              refine e_istore_n C dX7_extreme_93 rfl (by decide) rfl ?_
              refine e_iinc (n := 5) (v := (i + 1)) C dX7_extreme_94 rfl rfl (by decide) rfl ?_
              refine e_goto (tgt := 4) C dX7_extreme_97 (by decide) ?_
              refine e_perm C [4, 5, 1, 0] rfl ?_
              exact (h14 c1 c3 c6 c9 c11 c12)
          · refine e_iload (n := 1) C dX7_extreme_71 rfl ?_
            refine e_iload (n := 0) C dX7_extreme_73 rfl ?_
            refine e_icmp_le (tgt := 92) C dX7_extreme_75 (by decide) (fun c15 => ?_) (fun c15 => ?_)
            · refine e_iload_n (n := 4) C dX7_extreme_92 rfl rfl ?_
              refine e_istore_n C dX7_extreme_93 rfl (by decide) rfl ?_
              refine e_iinc (n := 5) (v := (i + 1)) C dX7_extreme_94 rfl rfl (by decide) rfl ?_
              refine e_goto (tgt := 4) C dX7_extreme_97 (by decide) ?_
              refine e_perm C [4, 5, 1, 0] rfl ?_
              exact (h16 c1 c3 c6 c9 c11 c15)
            · refine e_goto (tgt := 88) C dX7_extreme_78 (by decide) ?_
              refine e_iload_n (n := 5) C dX7_extreme_88 rfl rfl ?_
              refine e_goto (tgt := 93) C dX7_extreme_89 (by decide) ?_
              refine e_istore_n C dX7_extreme_93 rfl (by decide) rfl ?_
              refine e_iinc (n := 5) (v := (i + 1)) C dX7_extreme_94 rfl rfl (by decide) rfl ?_
              refine e_goto (tgt := 4) C dX7_extreme_97 (by decide) ?_
              refine e_perm C [4, 5, 1, 0] rfl ?_
              exact (h17 c1 c3 c6 c9 c11 c15)
      · refine e_iconst (v := 0) C dX7_extreme_42 (by decide) ?_
        refine e_goto (tgt := 60) C dX7_extreme_43 (by decide) ?_
        refine e_istore C dX7_extreme_60 (by decide) rfl ?_
        refine e_iload_n (n := 4) C dX7_extreme_62 rfl rfl ?_
        refine e_iconst (v := -1) C dX7_extreme_63 (by decide) ?_
        refine e_icmp_eq (tgt := 88) C dX7_extreme_64 (by decide) (fun c18 => ?_) (fun c18 => ?_)
        · refine e_iload_n (n := 5) C dX7_extreme_88 rfl rfl ?_
          refine e_goto (tgt := 93) C dX7_extreme_89 (by decide) ?_
          refine e_istore_n C dX7_extreme_93 rfl (by decide) rfl ?_
          refine e_iinc (n := 5) (v := (i + 1)) C dX7_extreme_94 rfl rfl (by decide) rfl ?_
          refine e_goto (tgt := 4) C dX7_extreme_97 (by decide) ?_
          refine e_perm C [4, 5, 1, 0] rfl ?_
          exact (h19 c1 c3 c6 c18)
        · refine e_iload_n (n := 3) C dX7_extreme_67 rfl rfl ?_
          refine e_if_eq (tgt := 81) C dX7_extreme_68 (by decide) (fun c20 => ?_) (fun c20 => ?_)
          · refine e_iload (n := 1) C dX7_extreme_81 rfl ?_
            refine e_iload (n := 0) C dX7_extreme_83 rfl ?_
            refine e_icmp_ge (tgt := 92) C dX7_extreme_85 (by decide) (fun c21 => ?_) (fun c21 => ?_)
            · refine e_iload_n (n := 4) C dX7_extreme_92 rfl rfl ?_
              refine e_istore_n C dX7_extreme_93 rfl (by decide) rfl ?_
              refine e_iinc (n := 5) (v := (i + 1)) C dX7_extreme_94 rfl rfl (by decide) rfl ?_
              refine e_goto (tgt := 4) C dX7_extreme_97 (by decide) ?_
              refine e_perm C [4, 5, 1, 0] rfl ?_
              exact (h22 c1 c3 c6 c18 c20 c21)
            · refine e_iload_n (n := 5) C dX7_extreme_88 rfl rfl ?_
              refine e_goto (tgt := 93) C dX7_extreme_89 (by decide) ?_
              refine e_istore_n C dX7_extreme_93 rfl (by decide) rfl ?_
              refine e_iinc (n := 5) (v := (i + 1)) C dX7_extreme_94 rfl rfl (by decide) rfl ?_
              refine e_goto (tgt := 4) C dX7_extreme_97 (by decide) ?_
              refine e_perm C [4, 5, 1, 0] rfl ?_
              exact (h23 c1 c3 c6 c18 c20 c21)
          · refine e_iload (n := 1) C dX7_extreme_71 rfl ?_
            refine e_iload (n := 0) C dX7_extreme_73 rfl ?_
            refine e_icmp_le (tgt := 92) C dX7_extreme_75 (by decide) (fun c24 => ?_) (fun c24 => ?_)
            · refine e_iload_n (n := 4) C dX7_extreme_92 rfl rfl ?_
              refine e_istore_n C dX7_extreme_93 rfl (by decide) rfl ?_
              refine e_iinc (n := 5) (v := (i + 1)) C dX7_extreme_94 rfl rfl (by decide) rfl ?_
              refine e_goto (tgt := 4) C dX7_extreme_97 (by decide) ?_
              refine e_perm C [4, 5, 1, 0] rfl ?_
              exact (h25 c1 c3 c6 c18 c20 c24)
            · refine e_goto (tgt := 88) C dX7_extreme_78 (by decide) ?_
              refine e_iload_n (n := 5) C dX7_extreme_88 rfl rfl ?_
              refine e_goto (tgt := 93) C dX7_extreme_89 (by decide) ?_
              refine e_istore_n C dX7_extreme_93 rfl (by decide) rfl ?_
              refine e_iinc (n := 5) (v := (i + 1)) C dX7_extreme_94 rfl rfl (by decide) rfl ?_
              refine e_goto (tgt := 4) C dX7_extreme_97 (by decide) ?_
              refine e_perm C [4, 5, 1, 0] rfl ?_
              exact (h26 c1 c3 c6 c18 c20 c24)
    · refine e_iconst (v := 0) C dX7_extreme_17 (by decide) ?_
      refine e_goto (tgt := 35) C dX7_extreme_18 (by decide) ?_
      refine e_istore C dX7_extreme_35 (by decide) rfl ?_
      refine e_iload_n (n := 3) C dX7_extreme_37 rfl rfl ?_
      refine e_iconst (v := -1) C dX7_extreme_38 (by decide) ?_
      refine e_icmp_ne (tgt := 46) C dX7_extreme_39 (by decide) (fun c27 => ?_) (fun c27 => ?_)
      · refine e_aload_n (n := 1) C dX7_extreme_46 rfl rfl ?_
        refine e_get (v := .ref 62) C fd_X7_7 (by decide) rfl rfl dX7_extreme_47 ?_
        refine e_iconst (v := 0) C dX7_extreme_50 (by decide) ?_
        refine e_iload_n (n := 3) C dX7_extreme_51 rfl rfl ?_
        refine e_iadd C dX7_extreme_52 ?_
        refine e_iald (n := 192) C (by decide) rfl (by decide) (s28 c1 c3 c27) dX7_extreme_53 ?_
        refine e_aload_n (n := 1) C dX7_extreme_54 rfl rfl ?_
        refine e_iload_n (n := 4) C dX7_extreme_55 rfl rfl ?_
        refine e_callV1 (as := [.int i]) (rest := [.int (M 62 ((0 : Int32) + bs).toNatClampNeg)]) C lk_X7_175 (q29 c1 c3 c27) (by decide) rfl (by decide) rfl (by decide) rfl rfl (Nat.le_of_ble_eq_true rfl) dX7_extreme_56 ?_
        refine e_imul C dX7_extreme_59 ?_
        refine e_istore C dX7_extreme_60 (by decide) rfl ?_
        refine e_iload_n (n := 4) C dX7_extreme_62 rfl rfl ?_
        refine e_iconst (v := -1) C dX7_extreme_63 (by decide) ?_
        refine e_icmp_eq (tgt := 88) C dX7_extreme_64 (by decide) (fun c30 => ?_) (fun c30 => ?_)
        · refine e_iload_n (n := 5) C dX7_extreme_88 rfl rfl ?_
          refine e_goto (tgt := 93) C dX7_extreme_89 (by decide) ?_
          refine e_istore_n C dX7_extreme_93 rfl (by decide) rfl ?_
          refine e_iinc (n := 5) (v := (i + 1)) C dX7_extreme_94 rfl rfl (by decide) rfl ?_
          refine e_goto (tgt := 4) C dX7_extreme_97 (by decide) ?_
          refine e_perm C [4, 5, 1, 0] rfl ?_
          exact (h31 c1 c3 c27 c30)
        · refine e_iload_n (n := 3) C dX7_extreme_67 rfl rfl ?_
          refine e_if_eq (tgt := 81) C dX7_extreme_68 (by decide) (fun c32 => ?_) (fun c32 => ?_)
          · refine e_iload (n := 1) C dX7_extreme_81 rfl ?_
            refine e_iload (n := 0) C dX7_extreme_83 rfl ?_
            refine e_icmp_ge (tgt := 92) C dX7_extreme_85 (by decide) (fun c33 => ?_) (fun c33 => ?_)
            · refine e_iload_n (n := 4) C dX7_extreme_92 rfl rfl ?_
              refine e_istore_n C dX7_extreme_93 rfl (by decide) rfl ?_
              refine e_iinc (n := 5) (v := (i + 1)) C dX7_extreme_94 rfl rfl (by decide) rfl ?_
              refine e_goto (tgt := 4) C dX7_extreme_97 (by decide) ?_
              refine e_perm C [4, 5, 1, 0] rfl ?_
              exact (h34 c1 c3 c27 c30 c32 c33)
            · refine e_iload_n (n := 5) C dX7_extreme_88 rfl rfl ?_
              refine e_goto (tgt := 93) C dX7_extreme_89 (by decide) ?_
              refine e_istore_n C dX7_extreme_93 rfl (by decide) rfl ?_
              refine e_iinc (n := 5) (v := (i + 1)) C dX7_extreme_94 rfl rfl (by decide) rfl ?_
              refine e_goto (tgt := 4) C dX7_extreme_97 (by decide) ?_
              refine e_perm C [4, 5, 1, 0] rfl ?_
              exact (h35 c1 c3 c27 c30 c32 c33)
          · refine e_iload (n := 1) C dX7_extreme_71 rfl ?_
            refine e_iload (n := 0) C dX7_extreme_73 rfl ?_
            refine e_icmp_le (tgt := 92) C dX7_extreme_75 (by decide) (fun c36 => ?_) (fun c36 => ?_)
            · refine e_iload_n (n := 4) C dX7_extreme_92 rfl rfl ?_
              refine e_istore_n C dX7_extreme_93 rfl (by decide) rfl ?_
              refine e_iinc (n := 5) (v := (i + 1)) C dX7_extreme_94 rfl rfl (by decide) rfl ?_
              refine e_goto (tgt := 4) C dX7_extreme_97 (by decide) ?_
              refine e_perm C [4, 5, 1, 0] rfl ?_
              exact (h37 c1 c3 c27 c30 c32 c36)
            · refine e_goto (tgt := 88) C dX7_extreme_78 (by decide) ?_
              refine e_iload_n (n := 5) C dX7_extreme_88 rfl rfl ?_
              refine e_goto (tgt := 93) C dX7_extreme_89 (by decide) ?_
              refine e_istore_n C dX7_extreme_93 rfl (by decide) rfl ?_
              refine e_iinc (n := 5) (v := (i + 1)) C dX7_extreme_94 rfl rfl (by decide) rfl ?_
              refine e_goto (tgt := 4) C dX7_extreme_97 (by decide) ?_
              refine e_perm C [4, 5, 1, 0] rfl ?_
              exact (h38 c1 c3 c27 c30 c32 c36)
      · refine e_iconst (v := 0) C dX7_extreme_42 (by decide) ?_
        refine e_goto (tgt := 60) C dX7_extreme_43 (by decide) ?_
        refine e_istore C dX7_extreme_60 (by decide) rfl ?_
        refine e_iload_n (n := 4) C dX7_extreme_62 rfl rfl ?_
        refine e_iconst (v := -1) C dX7_extreme_63 (by decide) ?_
        refine e_icmp_eq (tgt := 88) C dX7_extreme_64 (by decide) (fun c39 => ?_) (fun c39 => ?_)
        · refine e_iload_n (n := 5) C dX7_extreme_88 rfl rfl ?_
          refine e_goto (tgt := 93) C dX7_extreme_89 (by decide) ?_
          refine e_istore_n C dX7_extreme_93 rfl (by decide) rfl ?_
          refine e_iinc (n := 5) (v := (i + 1)) C dX7_extreme_94 rfl rfl (by decide) rfl ?_
          refine e_goto (tgt := 4) C dX7_extreme_97 (by decide) ?_
          refine e_perm C [4, 5, 1, 0] rfl ?_
          exact (h40 c1 c3 c27 c39)
        · refine e_iload_n (n := 3) C dX7_extreme_67 rfl rfl ?_
          refine e_if_eq (tgt := 81) C dX7_extreme_68 (by decide) (fun c41 => ?_) (fun c41 => ?_)
          · refine e_iload (n := 1) C dX7_extreme_81 rfl ?_
            refine e_iload (n := 0) C dX7_extreme_83 rfl ?_
            refine e_icmp_ge (tgt := 92) C dX7_extreme_85 (by decide) (fun c42 => ?_) (fun c42 => ?_)
            · refine e_iload_n (n := 4) C dX7_extreme_92 rfl rfl ?_
              refine e_istore_n C dX7_extreme_93 rfl (by decide) rfl ?_
              refine e_iinc (n := 5) (v := (i + 1)) C dX7_extreme_94 rfl rfl (by decide) rfl ?_
              refine e_goto (tgt := 4) C dX7_extreme_97 (by decide) ?_
              refine e_perm C [4, 5, 1, 0] rfl ?_
              exact (h43 c1 c3 c27 c39 c41 c42)
            · refine e_iload_n (n := 5) C dX7_extreme_88 rfl rfl ?_
              refine e_goto (tgt := 93) C dX7_extreme_89 (by decide) ?_
              refine e_istore_n C dX7_extreme_93 rfl (by decide) rfl ?_
              refine e_iinc (n := 5) (v := (i + 1)) C dX7_extreme_94 rfl rfl (by decide) rfl ?_
              refine e_goto (tgt := 4) C dX7_extreme_97 (by decide) ?_
              refine e_perm C [4, 5, 1, 0] rfl ?_
              exact (h44 c1 c3 c27 c39 c41 c42)
          · refine e_iload (n := 1) C dX7_extreme_71 rfl ?_
            refine e_iload (n := 0) C dX7_extreme_73 rfl ?_
            refine e_icmp_le (tgt := 92) C dX7_extreme_75 (by decide) (fun c45 => ?_) (fun c45 => ?_)
            · refine e_iload_n (n := 4) C dX7_extreme_92 rfl rfl ?_
              refine e_istore_n C dX7_extreme_93 rfl (by decide) rfl ?_
              refine e_iinc (n := 5) (v := (i + 1)) C dX7_extreme_94 rfl rfl (by decide) rfl ?_
              refine e_goto (tgt := 4) C dX7_extreme_97 (by decide) ?_
              refine e_perm C [4, 5, 1, 0] rfl ?_
              exact (h46 c1 c3 c27 c39 c41 c45)
            · refine e_goto (tgt := 88) C dX7_extreme_78 (by decide) ?_
              refine e_iload_n (n := 5) C dX7_extreme_88 rfl rfl ?_
              refine e_goto (tgt := 93) C dX7_extreme_89 (by decide) ?_
              refine e_istore_n C dX7_extreme_93 rfl (by decide) rfl ?_
              refine e_iinc (n := 5) (v := (i + 1)) C dX7_extreme_94 rfl rfl (by decide) rfl ?_
              refine e_goto (tgt := 4) C dX7_extreme_97 (by decide) ?_
              refine e_perm C [4, 5, 1, 0] rfl ?_
              exact (h47 c1 c3 c27 c39 c41 c45)
set_option maxRecDepth 100000 in
set_option maxHeartbeats 4000000 in
theorem km_alike {k : ea_K} {o : Option Value} {M' : ea_M} (C : ea_C k RX7 cX7_alike 4 0) (X : ea_X k (some .int) o M') {M : ea_M}   (h1 : ea_E k 4 [(0, .ref 61), (1, .int (0 : Int32)), (2, .int (0 : Int32))] [] M) : ea_E k 0 [(0, .ref 61)] [] M := by
  refine e_iconst (v := 0) C dX7_alike_0 (by decide) ?_
  refine e_istore_n C dX7_alike_1 rfl (by decide) rfl ?_
  refine e_iconst (v := 0) C dX7_alike_2 (by decide) ?_
  refine e_istore_n C dX7_alike_3 rfl (by decide) rfl ?_
  refine e_perm C [2, 1, 0] rfl ?_
  exact h1
set_option maxRecDepth 100000 in
set_option maxHeartbeats 4000000 in
theorem km_alike_4 {k : ea_K} {o : Option Value} {M' : ea_M} (C : ea_C k RX7 cX7_alike 4 0) (X : ea_X k (some .int) o M') {M : ea_M} {n i : Int32}   (h2 : (M 61 6) ≤ i → o = some (.int n) ∧ M' = M) (h3 : ¬ (M 61 6) ≤ i → ea_E k 14 [(0, .ref 61), (1, .int n), (2, .int i), (3, .int (0 : Int32))] [] M) : ea_E k 4 [(0, .ref 61), (1, .int n), (2, .int i)] [] M := by
  refine e_iload_n (n := 2) C dX7_alike_4 rfl rfl ?_
  refine e_aload_n (n := 0) C dX7_alike_5 rfl rfl ?_
  refine e_get (v := .int (M 61 6)) C fd_X7_126 (by decide) rfl rfl dX7_alike_6 ?_
  refine e_icmp_ge (tgt := 73) C dX7_alike_9 (by decide) (fun c1 => ?_) (fun c1 => ?_)
  · refine e_iload_n (n := 1) C dX7_alike_73 rfl rfl ?_
    exact e_iret C X rfl (vp_nar_int _) dX7_alike_74 (h2 c1)
  · refine e_iconst (v := 0) C dX7_alike_12 (by decide) ?_
    refine e_istore_n C dX7_alike_13 rfl (by decide) rfl ?_
    refine e_perm C [1, 2, 3, 0] rfl ?_
    exact (h3 c1)
set_option maxRecDepth 100000 in
set_option maxHeartbeats 4000000 in
theorem km_alike_14 {k : ea_K} {o : Option Value} {M' : ea_M} (C : ea_C k RX7 cX7_alike 4 0) (X : ea_X k (some .int) o M') {M : ea_M} {n i j : Int32}   (h2 : i ≤ j → ea_E k 4 [(0, .ref 61), (1, .int n), (2, .int (i + 1))] [] M) (s3 : ¬ i ≤ j → vp_in i 10) (s4 : ¬ i ≤ j → vp_in j 10) (h6 : ¬ i ≤ j → ¬ (M 67 i.toNatClampNeg) = (M 67 j.toNatClampNeg) → ea_E k 14 [(0, .ref 61), (1, .int (n + (0 : Int32))), (2, .int i), (3, .int (j + 1))] [] M) (s7 : ¬ i ≤ j → (M 67 i.toNatClampNeg) = (M 67 j.toNatClampNeg) → vp_in ((0 : Int32) + i) 192) (s8 : ¬ i ≤ j → (M 67 i.toNatClampNeg) = (M 67 j.toNatClampNeg) → vp_in ((0 : Int32) + j) 192) (h10 : ¬ i ≤ j → (M 67 i.toNatClampNeg) = (M 67 j.toNatClampNeg) → ¬ (M 62 ((0 : Int32) + i).toNatClampNeg) = (M 62 ((0 : Int32) + j).toNatClampNeg) → ea_E k 14 [(0, .ref 61), (1, .int (n + (0 : Int32))), (2, .int i), (3, .int (j + 1))] [] M) (h11 : ¬ i ≤ j → (M 67 i.toNatClampNeg) = (M 67 j.toNatClampNeg) → (M 62 ((0 : Int32) + i).toNatClampNeg) = (M 62 ((0 : Int32) + j).toNatClampNeg) → ea_E k 14 [(0, .ref 61), (1, .int (n + (1 : Int32))), (2, .int i), (3, .int (j + 1))] [] M) : ea_E k 14 [(0, .ref 61), (1, .int n), (2, .int i), (3, .int j)] [] M := by
  refine e_iload_n (n := 3) C dX7_alike_14 rfl rfl ?_
  refine e_iload_n (n := 2) C dX7_alike_15 rfl rfl ?_
  refine e_icmp_ge (tgt := 67) C dX7_alike_16 (by decide) (fun c1 => ?_) (fun c1 => ?_)
  · refine e_iinc (n := 2) (v := (i + 1)) C dX7_alike_67 rfl rfl (by decide) rfl ?_
    refine e_goto (tgt := 4) C dX7_alike_70 (by decide) ?_
    refine e_perm C [1, 2, 0] rfl ?_
    exact (h2 c1)
  · refine e_iload_n (n := 1) C dX7_alike_19 rfl rfl ?_
    refine e_aload_n (n := 0) C dX7_alike_20 rfl rfl ?_
    refine e_get (v := .ref 67) C fd_X7_25 (by decide) rfl rfl dX7_alike_21 ?_
    refine e_iload_n (n := 2) C dX7_alike_24 rfl rfl ?_
    refine e_iald (n := 10) C (by decide) rfl (by decide) (s3 c1) dX7_alike_25 ?_
    refine e_aload_n (n := 0) C dX7_alike_26 rfl rfl ?_
    refine e_get (v := .ref 67) C fd_X7_25 (by decide) rfl rfl dX7_alike_27 ?_
    refine e_iload_n (n := 3) C dX7_alike_30 rfl rfl ?_
    refine e_iald (n := 10) C (by decide) rfl (by decide) (s4 c1) dX7_alike_31 ?_
    refine e_icmp_ne (tgt := 58) C dX7_alike_32 (by decide) (fun c5 => ?_) (fun c5 => ?_)
    · refine e_iconst (v := 0) C dX7_alike_58 (by decide) ?_
      refine e_iadd C dX7_alike_59 ?_
      refine e_istore_n C dX7_alike_60 rfl (by decide) rfl ?_
      refine e_iinc (n := 3) (v := (j + 1)) C dX7_alike_61 rfl rfl (by decide) rfl ?_
      refine e_goto (tgt := 14) C dX7_alike_64 (by decide) ?_
      refine e_perm C [2, 1, 3, 0] rfl ?_
      exact (h6 c1 c5)
    · refine e_aload_n (n := 0) C dX7_alike_35 rfl rfl ?_
      refine e_get (v := .ref 62) C fd_X7_7 (by decide) rfl rfl dX7_alike_36 ?_
      refine e_iconst (v := 0) C dX7_alike_39 (by decide) ?_
      refine e_iload_n (n := 2) C dX7_alike_40 rfl rfl ?_
      refine e_iadd C dX7_alike_41 ?_
      refine e_iald (n := 192) C (by decide) rfl (by decide) (s7 c1 c5) dX7_alike_42 ?_
      refine e_aload_n (n := 0) C dX7_alike_43 rfl rfl ?_
      refine e_get (v := .ref 62) C fd_X7_7 (by decide) rfl rfl dX7_alike_44 ?_
      refine e_iconst (v := 0) C dX7_alike_47 (by decide) ?_
      refine e_iload_n (n := 3) C dX7_alike_48 rfl rfl ?_
      refine e_iadd C dX7_alike_49 ?_
      refine e_iald (n := 192) C (by decide) rfl (by decide) (s8 c1 c5) dX7_alike_50 ?_
      refine e_icmp_ne (tgt := 58) C dX7_alike_51 (by decide) (fun c9 => ?_) (fun c9 => ?_)
      · refine e_iconst (v := 0) C dX7_alike_58 (by decide) ?_
        refine e_iadd C dX7_alike_59 ?_
        refine e_istore_n C dX7_alike_60 rfl (by decide) rfl ?_
        refine e_iinc (n := 3) (v := (j + 1)) C dX7_alike_61 rfl rfl (by decide) rfl ?_
        refine e_goto (tgt := 14) C dX7_alike_64 (by decide) ?_
        refine e_perm C [2, 1, 3, 0] rfl ?_
        exact (h10 c1 c5 c9)
      · refine e_iconst (v := 1) C dX7_alike_54 (by decide) ?_
        refine e_goto (tgt := 59) C dX7_alike_55 (by decide) ?_
        refine e_iadd C dX7_alike_59 ?_
        refine e_istore_n C dX7_alike_60 rfl (by decide) rfl ?_
        refine e_iinc (n := 3) (v := (j + 1)) C dX7_alike_61 rfl rfl (by decide) rfl ?_
        refine e_goto (tgt := 14) C dX7_alike_64 (by decide) ?_
        refine e_perm C [2, 1, 3, 0] rfl ?_
        exact (h11 c1 c5 c9)
set_option maxRecDepth 100000 in
set_option maxHeartbeats 4000000 in
theorem km_allKeys {k : ea_K} {o : Option Value} {M' : ea_M} (C : ea_C k RX7 cX7_allKeys 3 0) (X : ea_X k (some .int) o M') {M : ea_M}   (h1 : ea_E k 4 [(0, .ref 61), (1, .int (0 : Int32)), (2, .int (0 : Int32))] [] M) : ea_E k 0 [(0, .ref 61)] [] M := by
  refine e_iconst (v := 0) C dX7_allKeys_0 (by decide) ?_
  refine e_istore_n C dX7_allKeys_1 rfl (by decide) rfl ?_
  refine e_iconst (v := 0) C dX7_allKeys_2 (by decide) ?_
  refine e_istore_n C dX7_allKeys_3 rfl (by decide) rfl ?_
  refine e_perm C [2, 1, 0] rfl ?_
  exact h1
set_option maxRecDepth 100000 in
set_option maxHeartbeats 4000000 in
theorem km_allKeys_4 {k : ea_K} {o : Option Value} {M' : ea_M} (C : ea_C k RX7 cX7_allKeys 3 0) (X : ea_X k (some .int) o M') {M : ea_M} {n t : Int32}   (h2 : (3 : Int32) ≤ t → o = some (.int n) ∧ M' = M) (s3 : ¬ (3 : Int32) ≤ t → vp_in t 3) (s5 : ¬ (3 : Int32) ≤ t → 0 ≤ (M 70 t.toNatClampNeg) → vp_in t 3) (h6 : ¬ (3 : Int32) ≤ t → 0 ≤ (M 70 t.toNatClampNeg) → ea_E k 4 [(0, .ref 61), (1, .int (n + (M 70 t.toNatClampNeg))), (2, .int (t + 1))] [] M) (h7 : ¬ (3 : Int32) ≤ t → ¬ 0 ≤ (M 70 t.toNatClampNeg) → ea_E k 4 [(0, .ref 61), (1, .int (n + (0 : Int32))), (2, .int (t + 1))] [] M) : ea_E k 4 [(0, .ref 61), (1, .int n), (2, .int t)] [] M := by
  refine e_iload_n (n := 2) C dX7_allKeys_4 rfl rfl ?_
  refine e_iconst (v := 3) C dX7_allKeys_5 (by decide) ?_
  refine e_icmp_ge (tgt := 37) C dX7_allKeys_6 (by decide) (fun c1 => ?_) (fun c1 => ?_)
  · refine e_iload_n (n := 1) C dX7_allKeys_37 rfl rfl ?_
    exact e_iret C X rfl (vp_nar_int _) dX7_allKeys_38 (h2 c1)
  · refine e_iload_n (n := 1) C dX7_allKeys_9 rfl rfl ?_
    refine e_aload_n (n := 0) C dX7_allKeys_10 rfl rfl ?_
    refine e_get (v := .ref 70) C fd_X7_35 (by decide) rfl rfl dX7_allKeys_11 ?_
    refine e_iload_n (n := 2) C dX7_allKeys_14 rfl rfl ?_
    refine e_iald (n := 3) C (by decide) rfl (by decide) (s3 c1) dX7_allKeys_15 ?_
    refine e_if_ge (tgt := 23) C dX7_allKeys_16 (by decide) (fun c4 => ?_) (fun c4 => ?_)
    · refine e_aload_n (n := 0) C dX7_allKeys_23 rfl rfl ?_
      refine e_get (v := .ref 70) C fd_X7_35 (by decide) rfl rfl dX7_allKeys_24 ?_
      refine e_iload_n (n := 2) C dX7_allKeys_27 rfl rfl ?_
      refine e_iald (n := 3) C (by decide) rfl (by decide) (s5 c1 c4) dX7_allKeys_28 ?_
      refine e_iadd C dX7_allKeys_29 ?_
      refine e_istore_n C dX7_allKeys_30 rfl (by decide) rfl ?_
      refine e_iinc (n := 2) (v := (t + 1)) C dX7_allKeys_31 rfl rfl (by decide) rfl ?_
      refine e_goto (tgt := 4) C dX7_allKeys_34 (by decide) ?_
      refine e_perm C [2, 1, 0] rfl ?_
      exact (h6 c1 c4)
    · refine e_iconst (v := 0) C dX7_allKeys_19 (by decide) ?_
      refine e_goto (tgt := 29) C dX7_allKeys_20 (by decide) ?_
      refine e_iadd C dX7_allKeys_29 ?_
      refine e_istore_n C dX7_allKeys_30 rfl (by decide) rfl ?_
      refine e_iinc (n := 2) (v := (t + 1)) C dX7_allKeys_31 rfl rfl (by decide) rfl ?_
      refine e_goto (tgt := 4) C dX7_allKeys_34 (by decide) ?_
      refine e_perm C [2, 1, 0] rfl ?_
      exact (h7 c1 c4)
