set_option maxRecDepth 100000 in
set_option maxHeartbeats 4000000 in
theorem whole_start {p : Program} {e : Env} {s : State} {m : MethodId} {below : List Frame} {meth : Method} {c : Code} (l : Launch) (hflags : l.flags = flags0) {b L : Nat} {xs : Nat → Int32} (hL : L ≤ 2560) (C0 : lw_At p s m meth c b L xs) : W p l e room_1 s m #[Value.ref b] below meth c s.heap [] 0 0 (lw_Z below #[Value.ref b] s) (entryFrame m ([Value.ref b] : List Value).toArray 4) := by
  obtain ⟨hx, hb, hr, hml, hown, hts0, hX, hbl, hlocks, hgv⟩ := id C0
  have hts : ∀ w ∈ wsL_law, w.before #[Value.ref b] s = true := fun w h => hts0 w (wsL_law_in w h)
  have hB : va_AO RX0 s := va_AO.of (hts0 (.arrayOver (.object RX0)) (by decide +kernel))
  have hW : va_AO RX5 s := va_AO.of (hts0 (.arrayOver (.object RX5)) (by decide +kernel))
  obtain ⟨D, tc, hK⟩ := lw_K hts hB hW
  have hA : ∀ a : Nat, a < s.heap.size → ¬ (fun q : Nat => s.heap.size ≤ q) a := fun a h z => Nat.not_le.mpr h z
  obtain ⟨adK, adV, t, hS1, hZ1, hR1, hQ1⟩ := lw_En (A := fun q : Nat => s.heap.size ≤ q) hA hts0 hgv
  have hn1 : ∀ w ∈ ea_NS, va_Nw (.methodLinkNest w.1 w.2.1 w.2.2 "WallHeat") s := fun w hw => va_Nw.of rfl (hts0 _ (lw_f7 w hw))
  have hn2 : ∀ w ∈ cn_NS, va_Nw (.methodLinkNest w.1 w.2.1 w.2.2 "WallHeat") s := fun w hw => va_Nw.of rfl (hts0 _ (lw_f8 w hw))
  obtain ⟨k0, hk0⟩ : ∃ k0 : ea_K, k0 = (p, l, e, room_1, s, m, #[Value.ref b], below, meth, c, lw_Z below #[Value.ref b] s, (fun q : Nat => s.heap.size ≤ q), 0, 0, 4, ((D, tc, fun _ => 0, fun _ => 0) : ea_G)) := ⟨_, rfl⟩
  have C : cn_C k0 RL cL_law 4 10 79 1374 := by
    rw [hk0]
    exact ⟨hx, hb, hml, hown, hts, hlocks, fun _ h => h, ⟨hK, hn2, hB, hW⟩, ⟨by decide, by decide, by decide, by decide⟩, rfl⟩
  have hg : cn_g k0 = ((D, tc, fun _ => 0, fun _ => 0) : ea_G) := by rw [hk0]; rfl
  have K : cn_E k0 0 [(0, .ref b)] [] [] 0 0 := by
    refine c_make C ⟨by decide, wsm_1 (List.mem_of_getElem? (i := 0) rfl), wsm_1 (List.mem_of_getElem? (i := 1) rfl), wsm_1 (List.mem_of_getElem? (i := 2) rfl)⟩ cn_z6 cn_6 (by decide) ⟨Or.inr (wsm_1 (List.mem_of_getElem? (i := 6) rfl)), wsm_1 (List.mem_of_getElem? (i := 8) rfl), wsm_1 (List.mem_of_getElem? (i := 2) rfl), ⟨by decide +kernel, by decide +kernel, by decide +kernel⟩, by decide, wsm_1 (List.mem_of_getElem? (i := 7) rfl), rfl⟩ dL_law_0 dL_law_3 dL_law_4 (Nat.le_of_ble_eq_true rfl) (Nat.le_of_ble_eq_true rfl) (Nat.le_of_ble_eq_true rfl) (fun aW => ?_)
    show cn_E k0 7 [(0, .ref b)] [.ref (aW 0)] (po_6 (cn_g k0) aW) 61 721
    refine c_astore_n C dL_law_7 rfl (by decide) rfl ?_
    refine c_make C ⟨by decide, wsm_1 (List.mem_of_getElem? (i := 3) rfl), wsm_1 (List.mem_of_getElem? (i := 4) rfl), wsm_1 (List.mem_of_getElem? (i := 5) rfl)⟩ cn_z7 cn_7 (by decide) ⟨Or.inr (wsm_4 (List.mem_of_getElem? (i := 4) rfl)), wsm_4 (List.mem_of_getElem? (i := 6) rfl), wsm_1 (List.mem_of_getElem? (i := 5) rfl), ⟨by decide +kernel, by decide +kernel, by decide +kernel⟩, by decide, wsm_4 (List.mem_of_getElem? (i := 5) rfl), rfl⟩ dL_law_8 dL_law_11 dL_law_12 (Nat.le_of_ble_eq_true rfl) (Nat.le_of_ble_eq_true rfl) (Nat.le_of_ble_eq_true rfl) (fun aM => ?_)
    show cn_E k0 15 [(1, .ref (aW 0)), (0, .ref b)] [.ref (aM 0)] (po_6 (cn_g k0) aW ++ po_7 (cn_g k0) aM) 79 1374
    refine c_astore_n C dL_law_15 rfl (by decide) rfl ?_
    refine c_iconst (v := 0) C dL_law_16 (by decide) ?_
    refine c_istore_n C dL_law_17 rfl (by decide) rfl ?_
    show cn_E k0 18 [(3, .int 0), (2, .ref (aM 0)), (1, .ref (aW 0)), (0, .ref b)] [] (po_6 (cn_g k0) aW ++ po_7 (cn_g k0) aM) 79 1374
    rw [hg]
    refine c_fixQ (q0 := 25) C (fun i => (ea_ra 25 i).map (lw_ad aW aM adK adV t b)) rfl (fun j hj => by rcases (show j = 0 ∨ j = 1 ∨ j = 2 ∨ j = 3 ∨ j = 4 ∨ j = 5 ∨ j = 6 ∨ j = 7 by omega) with rfl | rfl | rfl | rfl | rfl | rfl | rfl | rfl <;> rfl) ?_
    refine c_fixQ (q0 := 26) C (fun i => (ea_ra 26 i).map (lw_ad aW aM adK adV t b)) rfl (fun j hj => by rcases (show j = 0 ∨ j = 1 by omega) with rfl | rfl <;> rfl) ?_
    refine c_fixQ (q0 := 48) C (fun i => (ea_ra 48 i).map (lw_ad aW aM adK adV t b)) rfl (fun j hj => by rcases (show j = 0 ∨ j = 1 ∨ j = 2 by omega) with rfl | rfl | rfl <;> rfl) ?_
    refine c_eq (po_eq D tc aW aM adK adV (fun _ => 0) (fun _ => 0) t b) ?_
    rw [hk0]
    intro H locs ls hP hD hS hl
    obtain ⟨g, hgg⟩ : ∃ g, g = lw_g D tc aW aM adK adV t b := ⟨_, rfl⟩
    have a3 : g.2.2.1 300 = b := by rw [hgg]; rfl
    have aK : ∀ i, i < 5 → g.2.2.1 (200 + i) = adK i := fun i hi => by
      rcases (show i = 0 ∨ i = 1 ∨ i = 2 ∨ i = 3 ∨ i = 4 by omega) with rfl | rfl | rfl | rfl | rfl <;> (rw [hgg]; rfl)
    have aV : ∀ i, i < 5 → g.2.2.1 (220 + i) = adV i := fun i hi => by
      rcases (show i = 0 ∨ i = 1 ∨ i = 2 ∨ i = 3 ∨ i = 4 by omega) with rfl | rfl | rfl | rfl | rfl <;> (rw [hgg]; rfl)
    have aT : g.2.2.1 210 = t := by rw [hgg]; rfl
    have aX : g.2.2.1 0 = aW 0 ∧ g.2.2.1 61 = aM 0 := by rw [hgg]; exact ⟨rfl, rfl⟩
    have hK1 : va_K g.1 vwCl (ea_ty g) s := by rw [hgg]; exact hK
    rw [← hgg] at hP hD
    have hP : va_P g.1 vwCl (ea_Wd g lw_M0) H := by
      rw [hgg] at hP ⊢
      exact hP
    have En : ea_En g (fun q : Nat => s.heap.size ≤ q) s s.heap := by
      refine ⟨hK1, hn1, ⟨fun i hi => ?_, fun i j hi hj h => hS1.2 i j hi hj ?_⟩, hZ1, fun i q hq => ?_, ?_⟩
      · have z := hS1.1 i hi
        rw [← aK i hi, ← aV i hi] at z
        exact z
      · rw [← aK i hi, ← aK j hj]
        exact h
      · have hi : i < 5 := by
          have := (List.getElem?_eq_some_iff.mp hq).1
          exact this
        rw [aK i hi]
        exact hR1 i q hq
      · rw [aT]
        exact hQ1
    obtain ⟨k1, hk1⟩ : ∃ k1 : ea_K, k1 = (p, l, e, room_1, s, m, #[Value.ref b], below, meth, c, lw_Z below #[Value.ref b] s, (fun q : Nat => s.heap.size ≤ q), 79, 1374, 4, g) := ⟨_, rfl⟩
    have C1 : ea_C k1 RL cL_law 4 10 := by
      rw [hk1]
      exact ⟨hx, hb, hml, hown, hts, hlocks, ea_D_any hD, fun _ h => h, En, ⟨by decide, by decide, by decide, by decide⟩, rfl⟩
    have S1 : ea_Sc k1 L xs := by
      rw [hk1]
      refine ⟨?_, ?_, ?_⟩
      · rw [a3]; exact hX
      · rw [a3]; exact hbl
      · rw [a3]; exact hA b hbl
    have hend : ∀ (M : ea_M) (lv : List (Nat × Value)), ea_E k1 932 lv [.int 1] M := by
      intro M lv
      rw [hk1]
      intro H locs ls hP hS hl
      refine va_forget (fun q hq => hS.2.2 q hq) ?_
      refine W.widen (k := 600000) (n := 7302250) (by decide) (by decide) ?_
      exact lw_ret hx hb hr hlocks dL_law_932
    have fin := law_loop C1 S1 hL hend (L + 1) 0 _ lw_M0 (by omega) (by omega) Rel_0
    rw [hk1] at fin
    refine fin H locs ls hP hS ?_
    have hl2 : lv_has ls 4 [(0, .ref b), (1, .ref (aW 0)), (2, .ref (aM 0)), (3, .int 0)] := lv_sub hl [3, 2, 1, 0] rfl
    show lv_has ls 4 [(0, .ref (g.2.2.1 300)), (1, .ref (g.2.2.1 0)), (2, .ref (g.2.2.1 61)), (3, .int (nI 0))]
    rw [a3, aX.1, aX.2]
    exact hl2
  rw [hk0] at K
  rw [lg_entry_eq]
  have hl := lv_entry ([.ref b]) (n := 4) (Nat.le_of_ble_eq_true rfl)
  exact K s.heap [] _ (fun k q h => by simp at h) ⟨fun i j p q h => by simp at h, fun k q h => by simp at h⟩ va_S.rf hl
