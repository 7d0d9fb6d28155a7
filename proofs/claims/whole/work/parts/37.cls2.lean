/-! THE CLASS, 2: the kinds (printed by gen_cls2.py): tire, letsGo, isOf, and calls of a kind's methods -/
theorem tires_0 {s : Nat → Int32} {i : Nat} (h : s (5 + 5 * i) = nI 0) : tires s i = 4 := by
  unfold tires
  rw [h, if_neg (by decide), if_neg (by decide), if_neg (by decide), if_neg (by decide), if_neg (by decide)]
theorem tires_1 {s : Nat → Int32} {i : Nat} (h : s (5 + 5 * i) = nI 1) : tires s i = 3 := by
  unfold tires
  rw [h, if_pos (by decide)]
theorem tires_2 {s : Nat → Int32} {i : Nat} (h : s (5 + 5 * i) = nI 2) : tires s i = 4 + (if isSun s then 3 else 0) := by
  unfold tires
  rw [h, if_neg (by decide), if_pos (by decide)]
theorem tires_3 {s : Nat → Int32} {i : Nat} (h : s (5 + 5 * i) = nI 3) : tires s i = 2 := by
  unfold tires
  rw [h, if_neg (by decide), if_neg (by decide), if_pos (by decide)]
theorem tires_4 {s : Nat → Int32} {i : Nat} (h : s (5 + 5 * i) = nI 4) : tires s i = if isSun s then 0 else 3 := by
  unfold tires
  rw [h, if_neg (by decide), if_neg (by decide), if_neg (by decide), if_pos (by decide)]
theorem tires_5 {s : Nat → Int32} {i : Nat} (h : s (5 + 5 * i) = nI 5) : tires s i = 2 + (if isSun s then 3 else 0) := by
  unfold tires
  rw [h, if_neg (by decide), if_neg (by decide), if_neg (by decide), if_neg (by decide), if_pos (by decide)]
theorem letsG_0 {s : Nat → Int32} {i : Nat} (h : s (5 + 5 * i) = nI 0) : letsG s i = decide (90 ≤ s (5 + 5 * i + 3)) := by
  unfold letsG
  rw [h, if_neg (by decide), if_neg (by decide), if_neg (by decide), if_neg (by decide)]
theorem letsG_1 {s : Nat → Int32} {i : Nat} (h : s (5 + 5 * i) = nI 1) : letsG s i = decide (95 ≤ s (5 + 5 * i + 3)) := by
  unfold letsG
  rw [h, if_pos (by decide)]
theorem letsG_2 {s : Nat → Int32} {i : Nat} (h : s (5 + 5 * i) = nI 2) : letsG s i = (isSun s || decide (90 ≤ s (5 + 5 * i + 3))) := by
  unfold letsG
  rw [h, if_neg (by decide), if_pos (by decide), Bool.or_comm]
theorem letsG_3 {s : Nat → Int32} {i : Nat} (h : s (5 + 5 * i) = nI 3) : letsG s i = (decide (90 ≤ s (5 + 5 * i + 3)) || (decide (30 ≤ s (5 + 5 * i + 3)) && !isHar s)) := by
  unfold letsG
  rw [h, if_neg (by decide), if_neg (by decide), if_pos (by decide), Bool.and_comm]
theorem letsG_4 {s : Nat → Int32} {i : Nat} (h : s (5 + 5 * i) = nI 4) : letsG s i = decide (95 ≤ s (5 + 5 * i + 3)) := by
  unfold letsG
  rw [h, if_pos (by decide)]
theorem letsG_5 {s : Nat → Int32} {i : Nat} (h : s (5 + 5 * i) = nI 5) : letsG s i = ((decide (20 ≤ s (5 + 5 * i + 3)) && decide (aheadN s ≠ s (5 + 5 * i + 1))) || (isSun s || decide (90 ≤ s (5 + 5 * i + 3)))) := by
  unfold letsG
  rw [h, if_neg (by decide), if_neg (by decide), if_neg (by decide), if_pos (by decide), Bool.or_comm, Bool.and_comm, Bool.or_comm (decide (90 ≤ s (5 + 5 * i + 3)))]
theorem isOfK_0 (x : Int32) : isOfK (nI 0) x = decide (x = 0) := by
  unfold isOfK
  by_cases h0 : x = 0
  · subst h0; decide
  by_cases h1 : x = 1
  · subst h1; decide
  by_cases h2 : x = 2
  · subst h2; decide
  by_cases h3 : x = 3
  · subst h3; decide
  by_cases h4 : x = 4
  · subst h4; decide
  by_cases h5 : x = 5
  · subst h5; decide
  rw [decide_eq_false (fun z : nI 0 = x => h0 z.symm)]
  simp only [decide_eq_false h0, decide_eq_false h1, decide_eq_false h2, decide_eq_false h3, decide_eq_false h4, decide_eq_false h5, Bool.and_false, Bool.or_false]
theorem isOfK_1 (x : Int32) : isOfK (nI 1) x = (decide (x = 1) || decide (x = 0)) := by
  unfold isOfK
  by_cases h0 : x = 0
  · subst h0; decide
  by_cases h1 : x = 1
  · subst h1; decide
  by_cases h2 : x = 2
  · subst h2; decide
  by_cases h3 : x = 3
  · subst h3; decide
  by_cases h4 : x = 4
  · subst h4; decide
  by_cases h5 : x = 5
  · subst h5; decide
  rw [decide_eq_false (fun z : nI 1 = x => h1 z.symm)]
  simp only [decide_eq_false h0, decide_eq_false h1, decide_eq_false h2, decide_eq_false h3, decide_eq_false h4, decide_eq_false h5, Bool.and_false, Bool.or_false]
theorem isOfK_2 (x : Int32) : isOfK (nI 2) x = (decide (x = 2) || decide (x = 0)) := by
  unfold isOfK
  by_cases h0 : x = 0
  · subst h0; decide
  by_cases h1 : x = 1
  · subst h1; decide
  by_cases h2 : x = 2
  · subst h2; decide
  by_cases h3 : x = 3
  · subst h3; decide
  by_cases h4 : x = 4
  · subst h4; decide
  by_cases h5 : x = 5
  · subst h5; decide
  rw [decide_eq_false (fun z : nI 2 = x => h2 z.symm)]
  simp only [decide_eq_false h0, decide_eq_false h1, decide_eq_false h2, decide_eq_false h3, decide_eq_false h4, decide_eq_false h5, Bool.and_false, Bool.or_false]
theorem isOfK_3 (x : Int32) : isOfK (nI 3) x = (decide (x = 3) || decide (x = 0)) := by
  unfold isOfK
  by_cases h0 : x = 0
  · subst h0; decide
  by_cases h1 : x = 1
  · subst h1; decide
  by_cases h2 : x = 2
  · subst h2; decide
  by_cases h3 : x = 3
  · subst h3; decide
  by_cases h4 : x = 4
  · subst h4; decide
  by_cases h5 : x = 5
  · subst h5; decide
  rw [decide_eq_false (fun z : nI 3 = x => h3 z.symm)]
  simp only [decide_eq_false h0, decide_eq_false h1, decide_eq_false h2, decide_eq_false h3, decide_eq_false h4, decide_eq_false h5, Bool.and_false, Bool.or_false]
theorem isOfK_4 (x : Int32) : isOfK (nI 4) x = (decide (x = 4) || (decide (x = 1) || decide (x = 0))) := by
  unfold isOfK
  by_cases h0 : x = 0
  · subst h0; decide
  by_cases h1 : x = 1
  · subst h1; decide
  by_cases h2 : x = 2
  · subst h2; decide
  by_cases h3 : x = 3
  · subst h3; decide
  by_cases h4 : x = 4
  · subst h4; decide
  by_cases h5 : x = 5
  · subst h5; decide
  rw [decide_eq_false (fun z : nI 4 = x => h4 z.symm)]
  simp only [decide_eq_false h0, decide_eq_false h1, decide_eq_false h2, decide_eq_false h3, decide_eq_false h4, decide_eq_false h5, Bool.and_false, Bool.or_false]
theorem isOfK_5 (x : Int32) : isOfK (nI 5) x = (decide (x = 5) || (decide (x = 2) || decide (x = 0))) := by
  unfold isOfK
  by_cases h0 : x = 0
  · subst h0; decide
  by_cases h1 : x = 1
  · subst h1; decide
  by_cases h2 : x = 2
  · subst h2; decide
  by_cases h3 : x = 3
  · subst h3; decide
  by_cases h4 : x = 4
  · subst h4; decide
  by_cases h5 : x = 5
  · subst h5; decide
  rw [decide_eq_false (fun z : nI 5 = x => h5 z.symm)]
  simp only [decide_eq_false h0, decide_eq_false h1, decide_eq_false h2, decide_eq_false h3, decide_eq_false h4, decide_eq_false h5, Bool.and_false, Bool.or_false]
section Cls2
variable {Sc : SCR} {μ μ0 : Mem} {n : Nat × Nat} {Q : PQ} {s : Nat → Int32} {g q i r ci : Nat} {x : Int32}
theorem c_tireM (hQ : Q (some (.int 4)) K0 μ) : AM Sc mX3_tire [.ref r, .ref g] K0 μ n Q := by
  refine AM.of rfl (ble rfl) ?_
  refine aw_iconst (v := 4) (by decide) dX3_tire_0 ?_
  refine aw_iret dX3_tire_1 rfl ?_
  exact hQ
theorem c_tireW (hQ : Q (some (.int 2)) K0 μ) : AM Sc mX10_tire [.ref r, .ref g] K0 μ n Q := by
  refine AM.of rfl (ble rfl) ?_
  refine aw_iconst (v := 2) (by decide) dX10_tire_0 ?_
  refine aw_iret dX10_tire_1 rfl ?_
  exact hQ
theorem c_tireS (hr : K0[r]? = some (.inl ci)) (hci : ci < 13) (hQ : Q (some (.int 3)) K0 μ) : AM Sc mX7_tire [.ref r, .ref g] K0 μ n Q := by
  refine AM.of rfl (ble rfl) ?_
  refine aw_aload_n rfl dX7_tire_0 ?_
  refine aw_aload_n rfl dX7_tire_1 ?_
  refine aw_su1 kX7_17 ⟨ble rfl, ble rfl⟩ hr hci (ble rfl) dX7_tire_2 (c_tireM ?_)
  refine aw_iconst (v := 1) (by decide) dX7_tire_5 ?_
  refine aw_isub dX7_tire_6 ?_
  refine aw_iret dX7_tire_7 rfl ?_
  rw [show (4 : Int32) - 1 = 3 by decide]
  exact hQ
theorem c_tireD (hg : gOk g) (hG : GH μ g s) (hr : K0[r]? = some (.inl ci)) (hci : ci < 13) (hQ : Q (some (.int (4 + (if isSun s then 3 else 0)))) K0 μ) : AM Sc mX1_tire [.ref r, .ref g] K0 μ n Q := by
  refine AM.of rfl (ble rfl) ?_
  refine aw_aload_n rfl dX1_tire_0 ?_
  refine aw_v0 kX1_13 ⟨ble rfl, ble rfl⟩ (rcG hg) (ble rfl) dX1_tire_1 (c_isSunday hg hG ?_)
  refine aw_zeq 17 rfl dX1_tire_4 (fun c => ?_) (fun c => ?_)
  · rw [if_neg (by rw [c]; decide), Int32.add_zero] at hQ
    refine aw_aload_n rfl dX1_tire_17 ?_
    refine aw_aload_n rfl dX1_tire_18 ?_
    refine aw_su1 kX1_23 ⟨ble rfl, ble rfl⟩ hr hci (ble rfl) dX1_tire_19 (c_tireM ?_)
    refine aw_iret dX1_tire_22 rfl ?_
    exact hQ
  · rw [if_pos c] at hQ
    refine aw_aload_n rfl dX1_tire_7 ?_
    refine aw_aload_n rfl dX1_tire_8 ?_
    refine aw_su1 kX1_23 ⟨ble rfl, ble rfl⟩ hr hci (ble rfl) dX1_tire_9 (c_tireM ?_)
    refine aw_iconst (v := 3) (by decide) dX1_tire_12 ?_
    refine aw_iadd dX1_tire_13 ?_
    refine aw_goto 22 rfl dX1_tire_14 ?_
    refine aw_iret dX1_tire_22 rfl ?_
    exact hQ
theorem c_tireP (hg : gOk g) (hG : GH μ g s) (hr : K0[r]? = some (.inl ci)) (hci : ci < 13) (hQ : Q (some (.int (if isSun s then 0 else 3))) K0 μ) : AM Sc mX5_tire [.ref r, .ref g] K0 μ n Q := by
  refine AM.of rfl (ble rfl) ?_
  refine aw_aload_n rfl dX5_tire_0 ?_
  refine aw_v0 kX5_13 ⟨ble rfl, ble rfl⟩ (rcG hg) (ble rfl) dX5_tire_1 (c_isSunday hg hG ?_)
  refine aw_zeq 11 rfl dX5_tire_4 (fun c => ?_) (fun c => ?_)
  · rw [if_neg (by rw [c]; decide)] at hQ
    refine aw_aload_n rfl dX5_tire_11 ?_
    refine aw_aload_n rfl dX5_tire_12 ?_
    refine aw_su1 kX5_23 ⟨ble rfl, ble rfl⟩ hr hci (ble rfl) dX5_tire_13 (c_tireS hr hci ?_)
    refine aw_iret dX5_tire_16 rfl ?_
    exact hQ
  · rw [if_pos c] at hQ
    refine aw_iconst (v := 0) (by decide) dX5_tire_7 ?_
    refine aw_goto 16 rfl dX5_tire_8 ?_
    refine aw_iret dX5_tire_16 rfl ?_
    exact hQ
theorem c_tireX (hg : gOk g) (hG : GH μ g s) (hr : K0[r]? = some (.inl ci)) (hci : ci < 13) (hQ : Q (some (.int (2 + (if isSun s then 3 else 0)))) K0 μ) : AM Sc mX8_tire [.ref r, .ref g] K0 μ n Q := by
  refine AM.of rfl (ble rfl) ?_
  refine aw_aload_n rfl dX8_tire_0 ?_
  refine aw_aload_n rfl dX8_tire_1 ?_
  refine aw_su1 kX8_29 ⟨ble rfl, ble rfl⟩ hr hci (ble rfl) dX8_tire_2 (c_tireD hg hG hr hci ?_)
  refine aw_iconst (v := 2) (by decide) dX8_tire_5 ?_
  refine aw_isub dX8_tire_6 ?_
  refine aw_iret dX8_tire_7 rfl ?_
  rw [show (4 : Int32) + (if isSun s then 3 else 0) - 2 = 2 + (if isSun s then 3 else 0) by split <;> decide]
  exact hQ
theorem c_letsM (hq : K0[q]? = some (.inl 4)) (h : PH μ q s i) (hQ : Q (some (.int (bI (decide (90 ≤ s (5 + 5 * i + 3)))))) K0 μ) : AM Sc mX3_letsGo [.ref r, .ref q, .ref g] K0 μ n Q := by
  refine AM.of rfl (ble rfl) ?_
  refine aw_aload_n rfl dX3_letsGo_0 ?_
  refine aw_getI gX3_20_4 hq rfl dX3_letsGo_1 ?_
  refine aw_bipush (v := 90) (by decide) dX3_letsGo_4 ?_
  rw [h.2.2.1]
  refine aw_icmp_lt 13 rfl dX3_letsGo_6 (fun c => ?_) (fun c => ?_)
  · rw [decide_eq_false (Int32.not_le.mpr c)] at hQ
    refine aw_iconst (v := 0) (by decide) dX3_letsGo_13 ?_
    exact aw_zret (b := false) rfl dX3_letsGo_14 rfl hQ
  · rw [decide_eq_true (Int32.not_lt.mp c)] at hQ
    refine aw_iconst (v := 1) (by decide) dX3_letsGo_9 ?_
    refine aw_goto 14 rfl dX3_letsGo_10 ?_
    exact aw_zret (b := true) rfl dX3_letsGo_14 rfl hQ
theorem c_letsS (hq : K0[q]? = some (.inl 4)) (h : PH μ q s i) (hQ : Q (some (.int (bI (decide (95 ≤ s (5 + 5 * i + 3)))))) K0 μ) : AM Sc mX7_letsGo [.ref r, .ref q, .ref g] K0 μ n Q := by
  refine AM.of rfl (ble rfl) ?_
  refine aw_aload_n rfl dX7_letsGo_0 ?_
  refine aw_getI gX7_21_4 hq rfl dX7_letsGo_1 ?_
  refine aw_bipush (v := 95) (by decide) dX7_letsGo_4 ?_
  rw [h.2.2.1]
  refine aw_icmp_lt 13 rfl dX7_letsGo_6 (fun c => ?_) (fun c => ?_)
  · rw [decide_eq_false (Int32.not_le.mpr c)] at hQ
    refine aw_iconst (v := 0) (by decide) dX7_letsGo_13 ?_
    exact aw_zret (b := false) rfl dX7_letsGo_14 rfl hQ
  · rw [decide_eq_true (Int32.not_lt.mp c)] at hQ
    refine aw_iconst (v := 1) (by decide) dX7_letsGo_9 ?_
    refine aw_goto 14 rfl dX7_letsGo_10 ?_
    exact aw_zret (b := true) rfl dX7_letsGo_14 rfl hQ
theorem c_letsD (hg : gOk g) (hG : GH μ g s) (hr : K0[r]? = some (.inl ci)) (hci : ci < 13) (hq : K0[q]? = some (.inl 4)) (h : PH μ q s i) (hQ : Q (some (.int (bI (isSun s || decide (90 ≤ s (5 + 5 * i + 3)))))) K0 μ) : AM Sc mX1_letsGo [.ref r, .ref q, .ref g] K0 μ n Q := by
  refine AM.of rfl (ble rfl) ?_
  have yes : (isSun s || decide (90 ≤ s (5 + 5 * i + 3))) = true → AW Sc mX1_letsGo 16 [(0, .ref r), (1, .ref q), (2, .ref g)] [] K0 μ n Q := by
    intro e
    rw [e] at hQ
    refine aw_iconst (v := 1) (by decide) dX1_letsGo_16 ?_
    refine aw_goto 21 rfl dX1_letsGo_17 ?_
    exact aw_zret (b := true) rfl dX1_letsGo_21 rfl hQ
  refine aw_aload_n rfl dX1_letsGo_0 ?_
  refine aw_v0 kX1_13 ⟨ble rfl, ble rfl⟩ (rcG hg) (ble rfl) dX1_letsGo_1 (c_isSunday hg hG ?_)
  refine aw_zne 16 rfl dX1_letsGo_4 (fun c => ?_) (fun c => ?_)
  · exact yes (by rw [c]; rfl)
  · refine aw_aload_n rfl dX1_letsGo_7 ?_
    refine aw_aload_n rfl dX1_letsGo_8 ?_
    refine aw_aload_n rfl dX1_letsGo_9 ?_
    refine aw_su2 kX1_27 ⟨ble rfl, ble rfl⟩ hr hci (ble rfl) dX1_letsGo_10 (c_letsM hq h ?_)
    refine aw_zeq 20 rfl dX1_letsGo_13 (fun c2 => ?_) (fun c2 => ?_)
    · rw [c, c2] at hQ
      refine aw_iconst (v := 0) (by decide) dX1_letsGo_20 ?_
      exact aw_zret (b := false) rfl dX1_letsGo_21 rfl hQ
    · exact yes (by rw [c2, Bool.or_true])
theorem c_letsW (hg : gOk g) (hG : GH μ g s) (hr : K0[r]? = some (.inl ci)) (hci : ci < 13) (hq : K0[q]? = some (.inl 4)) (h : PH μ q s i) (hQ : Q (some (.int (bI (decide (90 ≤ s (5 + 5 * i + 3)) || (decide (30 ≤ s (5 + 5 * i + 3)) && !isHar s))))) K0 μ) : AM Sc mX10_letsGo [.ref r, .ref q, .ref g] K0 μ n Q := by
  refine AM.of rfl (ble rfl) ?_
  generalize hB : (decide (90 ≤ s (5 + 5 * i + 3)) || (decide (30 ≤ s (5 + 5 * i + 3)) && !isHar s)) = B at hQ
  have yes : B = true → AW Sc mX10_letsGo 25 [(0, .ref r), (1, .ref q), (2, .ref g)] [] K0 μ n Q := by
    intro e
    subst e
    refine aw_iconst (v := 1) (by decide) dX10_letsGo_25 ?_
    refine aw_goto 30 rfl dX10_letsGo_26 ?_
    exact aw_zret (b := true) rfl dX10_letsGo_30 rfl hQ
  have no : B = false → AW Sc mX10_letsGo 29 [(0, .ref r), (1, .ref q), (2, .ref g)] [] K0 μ n Q := by
    intro e
    subst e
    refine aw_iconst (v := 0) (by decide) dX10_letsGo_29 ?_
    exact aw_zret (b := false) rfl dX10_letsGo_30 rfl hQ
  refine aw_aload_n rfl dX10_letsGo_0 ?_
  refine aw_aload_n rfl dX10_letsGo_1 ?_
  refine aw_aload_n rfl dX10_letsGo_2 ?_
  refine aw_su2 kX10_23 ⟨ble rfl, ble rfl⟩ hr hci (ble rfl) dX10_letsGo_3 (c_letsM hq h ?_)
  refine aw_zne 25 rfl dX10_letsGo_6 (fun c => ?_) (fun c => ?_)
  · exact yes (by rw [← hB, c]; rfl)
  · refine aw_aload_n rfl dX10_letsGo_9 ?_
    refine aw_getI gX10_27_4 hq rfl dX10_letsGo_10 ?_
    refine aw_bipush (v := 30) (by decide) dX10_letsGo_13 ?_
    rw [h.2.2.1]
    rw [c, Bool.false_or] at hB
    refine aw_icmp_lt 29 rfl dX10_letsGo_15 (fun c2 => ?_) (fun c2 => ?_)
    · exact no (by rw [← hB, decide_eq_false (Int32.not_le.mpr c2)]; rfl)
    · rw [decide_eq_true (Int32.not_lt.mp c2), Bool.true_and] at hB
      refine aw_aload_n rfl dX10_letsGo_18 ?_
      refine aw_v0 kX10_13 ⟨ble rfl, ble rfl⟩ (rcG hg) (ble rfl) dX10_letsGo_19 (c_isHarvest hg hG ?_)
      refine aw_zne 29 rfl dX10_letsGo_22 (fun c3 => ?_) (fun c3 => ?_)
      · exact no (by rw [← hB, c3]; rfl)
      · exact yes (by rw [← hB, c3]; rfl)
theorem c_letsX (hk : -9999 ≤ s 1 ∧ s 1 ≤ 9999) (hd : s (5 + 5 * i + 1) = 0 ∨ s (5 + 5 * i + 1) = 1) (hg : gOk g) (hG : GH μ g s) (hr : K0[r]? = some (.inl ci)) (hci : ci < 13) (hq : K0[q]? = some (.inl 4)) (h : PH μ q s i) (hQ : Q (some (.int (bI ((decide (20 ≤ s (5 + 5 * i + 3)) && decide (aheadN s ≠ s (5 + 5 * i + 1))) || (isSun s || decide (90 ≤ s (5 + 5 * i + 3))))))) K0 μ) : AM Sc mX8_letsGo [.ref r, .ref q, .ref g] K0 μ n Q := by
  refine AM.of rfl (ble rfl) ?_
  generalize hB : ((decide (20 ≤ s (5 + 5 * i + 3)) && decide (aheadN s ≠ s (5 + 5 * i + 1))) || (isSun s || decide (90 ≤ s (5 + 5 * i + 3)))) = B at hQ
  have e := tow_gt hk hd
  have yes : B = true → AW Sc mX8_letsGo 29 [(0, .ref r), (1, .ref q), (2, .ref g)] [] K0 μ n Q := by
    intro e
    subst e
    refine aw_iconst (v := 1) (by decide) dX8_letsGo_29 ?_
    refine aw_goto 34 rfl dX8_letsGo_30 ?_
    exact aw_zret (b := true) rfl dX8_letsGo_34 rfl hQ
  have rest : (decide (20 ≤ s (5 + 5 * i + 3)) && decide (aheadN s ≠ s (5 + 5 * i + 1))) = false → AW Sc mX8_letsGo 20 [(0, .ref r), (1, .ref q), (2, .ref g)] [] K0 μ n Q := by
    intro e
    rw [e, Bool.false_or] at hB
    refine aw_aload_n rfl dX8_letsGo_20 ?_
    refine aw_aload_n rfl dX8_letsGo_21 ?_
    refine aw_aload_n rfl dX8_letsGo_22 ?_
    refine aw_su2 kX8_36 ⟨ble rfl, ble rfl⟩ hr hci (ble rfl) dX8_letsGo_23 (c_letsD hg hG hr hci hq h ?_)
    rw [hB]
    refine aw_zeq 33 rfl dX8_letsGo_26 (fun c => ?_) (fun c => ?_)
    · subst c
      refine aw_iconst (v := 0) (by decide) dX8_letsGo_33 ?_
      exact aw_zret (b := false) rfl dX8_letsGo_34 rfl hQ
    · exact yes c
  refine aw_aload_n rfl dX8_letsGo_0 ?_
  refine aw_getI gX8_33_4 hq rfl dX8_letsGo_1 ?_
  refine aw_bipush (v := 20) (by decide) dX8_letsGo_4 ?_
  rw [h.2.2.1]
  refine aw_icmp_lt 20 rfl dX8_letsGo_6 (fun c => ?_) (fun c => ?_)
  · exact rest (by rw [decide_eq_false (Int32.not_le.mpr c)]; rfl)
  · refine aw_aload_n rfl dX8_letsGo_9 ?_
    refine aw_aload_n rfl dX8_letsGo_10 ?_
    refine aw_getI gX8_13_4 hq rfl dX8_letsGo_11 ?_
    refine aw_v1 kX8_19 ⟨ble rfl, ble rfl⟩ (rcG hg) (ble rfl) dX8_letsGo_14 (c_towards hg hG ?_)
    rw [h.1]
    refine aw_if_le 29 rfl dX8_letsGo_17 (fun c2 => ?_) (fun c2 => ?_)
    · have c3 : aheadN s ≠ s (5 + 5 * i + 1) := fun z => Int32.not_lt.mpr c2 (e.mpr z)
      exact yes (by rw [← hB, decide_eq_true (Int32.not_lt.mp c), decide_eq_true c3]; rfl)
    · have c3 : ¬ aheadN s ≠ s (5 + 5 * i + 1) := fun z => z (e.mp (Int32.not_le.mp c2))
      exact rest (by rw [decide_eq_false c3, Bool.and_false])
theorem c_isOfM (hQ : Q (some (.int (bI (decide (x = 0))))) K0 μ) : AM Sc mX3_isOf [.ref r, .int x] K0 μ n Q := by
  refine AM.of rfl (ble rfl) ?_
  refine aw_iload_n rfl dX3_isOf_0 ?_
  refine aw_if_ne 8 rfl dX3_isOf_1 (fun c => ?_) (fun c => ?_)
  · rw [decide_eq_false c] at hQ
    refine aw_iconst (v := 0) (by decide) dX3_isOf_8 ?_
    exact aw_zret (b := false) rfl dX3_isOf_9 rfl hQ
  · rw [decide_eq_true c] at hQ
    refine aw_iconst (v := 1) (by decide) dX3_isOf_4 ?_
    refine aw_goto 9 rfl dX3_isOf_5 ?_
    exact aw_zret (b := true) rfl dX3_isOf_9 rfl hQ
theorem c_isOfS (hr : K0[r]? = some (.inl ci)) (hci : ci < 13) (hQ : Q (some (.int (bI (decide (x = 1) || decide (x = 0))))) K0 μ) : AM Sc mX7_isOf [.ref r, .int x] K0 μ n Q := by
  refine AM.of rfl (ble rfl) ?_
  have yes : (decide (x = 1) || decide (x = 0)) = true → AW Sc mX7_isOf 13 [(0, .ref r), (1, .int x)] [] K0 μ n Q := by
    intro e
    rw [e] at hQ
    refine aw_iconst (v := 1) (by decide) dX7_isOf_13 ?_
    refine aw_goto 18 rfl dX7_isOf_14 ?_
    exact aw_zret (b := true) rfl dX7_isOf_18 rfl hQ
  refine aw_iload_n rfl dX7_isOf_0 ?_
  refine aw_iconst (v := 1) (by decide) dX7_isOf_1 ?_
  refine aw_icmp_eq 13 rfl dX7_isOf_2 (fun c => ?_) (fun c => ?_)
  · exact yes (by rw [decide_eq_true c]; rfl)
  · refine aw_aload_n rfl dX7_isOf_5 ?_
    refine aw_iload_n rfl dX7_isOf_6 ?_
    refine aw_su1 kX7_9 ⟨ble rfl, ble rfl⟩ hr hci (ble rfl) dX7_isOf_7 (c_isOfM ?_)
    refine aw_zeq 17 rfl dX7_isOf_10 (fun c2 => ?_) (fun c2 => ?_)
    · rw [decide_eq_false c, c2] at hQ
      refine aw_iconst (v := 0) (by decide) dX7_isOf_17 ?_
      exact aw_zret (b := false) rfl dX7_isOf_18 rfl hQ
    · exact yes (by rw [c2, Bool.or_true])
theorem c_isOfD (hr : K0[r]? = some (.inl ci)) (hci : ci < 13) (hQ : Q (some (.int (bI (decide (x = 2) || decide (x = 0))))) K0 μ) : AM Sc mX1_isOf [.ref r, .int x] K0 μ n Q := by
  refine AM.of rfl (ble rfl) ?_
  have yes : (decide (x = 2) || decide (x = 0)) = true → AW Sc mX1_isOf 13 [(0, .ref r), (1, .int x)] [] K0 μ n Q := by
    intro e
    rw [e] at hQ
    refine aw_iconst (v := 1) (by decide) dX1_isOf_13 ?_
    refine aw_goto 18 rfl dX1_isOf_14 ?_
    exact aw_zret (b := true) rfl dX1_isOf_18 rfl hQ
  refine aw_iload_n rfl dX1_isOf_0 ?_
  refine aw_iconst (v := 2) (by decide) dX1_isOf_1 ?_
  refine aw_icmp_eq 13 rfl dX1_isOf_2 (fun c => ?_) (fun c => ?_)
  · exact yes (by rw [decide_eq_true c]; rfl)
  · refine aw_aload_n rfl dX1_isOf_5 ?_
    refine aw_iload_n rfl dX1_isOf_6 ?_
    refine aw_su1 kX1_9 ⟨ble rfl, ble rfl⟩ hr hci (ble rfl) dX1_isOf_7 (c_isOfM ?_)
    refine aw_zeq 17 rfl dX1_isOf_10 (fun c2 => ?_) (fun c2 => ?_)
    · rw [decide_eq_false c, c2] at hQ
      refine aw_iconst (v := 0) (by decide) dX1_isOf_17 ?_
      exact aw_zret (b := false) rfl dX1_isOf_18 rfl hQ
    · exact yes (by rw [c2, Bool.or_true])
theorem c_isOfW (hr : K0[r]? = some (.inl ci)) (hci : ci < 13) (hQ : Q (some (.int (bI (decide (x = 3) || decide (x = 0))))) K0 μ) : AM Sc mX10_isOf [.ref r, .int x] K0 μ n Q := by
  refine AM.of rfl (ble rfl) ?_
  have yes : (decide (x = 3) || decide (x = 0)) = true → AW Sc mX10_isOf 13 [(0, .ref r), (1, .int x)] [] K0 μ n Q := by
    intro e
    rw [e] at hQ
    refine aw_iconst (v := 1) (by decide) dX10_isOf_13 ?_
    refine aw_goto 18 rfl dX10_isOf_14 ?_
    exact aw_zret (b := true) rfl dX10_isOf_18 rfl hQ
  refine aw_iload_n rfl dX10_isOf_0 ?_
  refine aw_iconst (v := 3) (by decide) dX10_isOf_1 ?_
  refine aw_icmp_eq 13 rfl dX10_isOf_2 (fun c => ?_) (fun c => ?_)
  · exact yes (by rw [decide_eq_true c]; rfl)
  · refine aw_aload_n rfl dX10_isOf_5 ?_
    refine aw_iload_n rfl dX10_isOf_6 ?_
    refine aw_su1 kX10_9 ⟨ble rfl, ble rfl⟩ hr hci (ble rfl) dX10_isOf_7 (c_isOfM ?_)
    refine aw_zeq 17 rfl dX10_isOf_10 (fun c2 => ?_) (fun c2 => ?_)
    · rw [decide_eq_false c, c2] at hQ
      refine aw_iconst (v := 0) (by decide) dX10_isOf_17 ?_
      exact aw_zret (b := false) rfl dX10_isOf_18 rfl hQ
    · exact yes (by rw [c2, Bool.or_true])
theorem c_isOfP (hr : K0[r]? = some (.inl ci)) (hci : ci < 13) (hQ : Q (some (.int (bI (decide (x = 4) || (decide (x = 1) || decide (x = 0)))))) K0 μ) : AM Sc mX5_isOf [.ref r, .int x] K0 μ n Q := by
  refine AM.of rfl (ble rfl) ?_
  have yes : (decide (x = 4) || (decide (x = 1) || decide (x = 0))) = true → AW Sc mX5_isOf 13 [(0, .ref r), (1, .int x)] [] K0 μ n Q := by
    intro e
    rw [e] at hQ
    refine aw_iconst (v := 1) (by decide) dX5_isOf_13 ?_
    refine aw_goto 18 rfl dX5_isOf_14 ?_
    exact aw_zret (b := true) rfl dX5_isOf_18 rfl hQ
  refine aw_iload_n rfl dX5_isOf_0 ?_
  refine aw_iconst (v := 4) (by decide) dX5_isOf_1 ?_
  refine aw_icmp_eq 13 rfl dX5_isOf_2 (fun c => ?_) (fun c => ?_)
  · exact yes (by rw [decide_eq_true c]; rfl)
  · refine aw_aload_n rfl dX5_isOf_5 ?_
    refine aw_iload_n rfl dX5_isOf_6 ?_
    refine aw_su1 kX5_9 ⟨ble rfl, ble rfl⟩ hr hci (ble rfl) dX5_isOf_7 (c_isOfS hr hci ?_)
    refine aw_zeq 17 rfl dX5_isOf_10 (fun c2 => ?_) (fun c2 => ?_)
    · rw [decide_eq_false c, c2] at hQ
      refine aw_iconst (v := 0) (by decide) dX5_isOf_17 ?_
      exact aw_zret (b := false) rfl dX5_isOf_18 rfl hQ
    · exact yes (by rw [c2, Bool.or_true])
theorem c_isOfX (hr : K0[r]? = some (.inl ci)) (hci : ci < 13) (hQ : Q (some (.int (bI (decide (x = 5) || (decide (x = 2) || decide (x = 0)))))) K0 μ) : AM Sc mX8_isOf [.ref r, .int x] K0 μ n Q := by
  refine AM.of rfl (ble rfl) ?_
  have yes : (decide (x = 5) || (decide (x = 2) || decide (x = 0))) = true → AW Sc mX8_isOf 13 [(0, .ref r), (1, .int x)] [] K0 μ n Q := by
    intro e
    rw [e] at hQ
    refine aw_iconst (v := 1) (by decide) dX8_isOf_13 ?_
    refine aw_goto 18 rfl dX8_isOf_14 ?_
    exact aw_zret (b := true) rfl dX8_isOf_18 rfl hQ
  refine aw_iload_n rfl dX8_isOf_0 ?_
  refine aw_iconst (v := 5) (by decide) dX8_isOf_1 ?_
  refine aw_icmp_eq 13 rfl dX8_isOf_2 (fun c => ?_) (fun c => ?_)
  · exact yes (by rw [decide_eq_true c]; rfl)
  · refine aw_aload_n rfl dX8_isOf_5 ?_
    refine aw_iload_n rfl dX8_isOf_6 ?_
    refine aw_su1 kX8_9 ⟨ble rfl, ble rfl⟩ hr hci (ble rfl) dX8_isOf_7 (c_isOfD hr hci ?_)
    refine aw_zeq 17 rfl dX8_isOf_10 (fun c2 => ?_) (fun c2 => ?_)
    · rw [decide_eq_false c, c2] at hQ
      refine aw_iconst (v := 0) (by decide) dX8_isOf_17 ?_
      exact aw_zret (b := false) rfl dX8_isOf_18 rfl hQ
    · exact yes (by rw [c2, Bool.or_true])
theorem v_pullG {M : MD} {pc j k : Nat} {lv : List (Nat × Value)} {rest : List Value} (hj : gOk j) (hk : k < 6) (hn : -9999 ≤ s 1 ∧ s 1 ≤ 9999) (hd : s (5 + 5 * i + 1) = 0 ∨ s (5 + 5 * i + 1) = 1) (hg : gOk g) (hG : GH μ g s) (hq : K0[q]? = some (.inl 4)) (h : PH μ q s i) (hs : s (5 + 5 * i) = nI k) (hc : M.1.cls = "EndlessTug$Green") (hf : Fit M mX3_pull ∧ Fit M mX7_pull ∧ Fit M mX1_pull ∧ Fit M mX10_pull ∧ Fit M mX5_pull ∧ Fit M mX8_pull) (h8 : (rest.map fun v => v.category).sum ≤ 8) (d : decode M.2.1 pc = .ok (.invokevirtual 92, 3)) (hQ : AW Sc M (pc + 3) lv (pushr (some (.int (pulls s i))) rest) K0 μ n Q) : AW Sc M pc lv (.ref g :: .ref q :: .ref (j + 3 + k) :: rest) K0 μ n Q := by
  obtain ⟨f0, f1, f2, f3, f4, f5⟩ := hf
  have hr := kMan hj hk
  have hk6 : k = 0 ∨ k = 1 ∨ k = 2 ∨ k = 3 ∨ k = 4 ∨ k = 5 := by omega
  rcases hk6 with rfl | rfl | rfl | rfl | rfl | rfl
  · rw [pulls_0 hs] at hQ
    exact aw_v2 (hc ▸ kX2_92) f0 (Rcv.ob hr rfl) h8 d (c_pullM hq h hQ)
  · rw [pulls_1 hs] at hQ
    exact aw_o2 (hc ▸ kX2_92_X7) f1 (Rcv.ob hr rfl) h8 d (c_pullS hr (by decide) hq h hQ)
  · rw [pulls_2 hs] at hQ
    exact aw_o2 (hc ▸ kX2_92_X1) f2 (Rcv.ob hr rfl) h8 d (c_pullD hg hG hr (by decide) hq h hQ)
  · rw [pulls_3 hs] at hQ
    exact aw_o2 (hc ▸ kX2_92_X10) f3 (Rcv.ob hr rfl) h8 d (c_pullW hg hG hr (by decide) hq h hQ)
  · rw [pulls_4 hs] at hQ
    exact aw_o2 (hc ▸ kX2_92_X5) f4 (Rcv.ob hr rfl) h8 d (c_pullP hg hG hr (by decide) hq h hQ)
  · rw [pulls_5 hs] at hQ
    exact aw_o2 (hc ▸ kX2_92_X8) f5 (Rcv.ob hr rfl) h8 d (c_pullX hn hd hg hG hr (by decide) hq h hQ)
theorem v_pullE {M : MD} {pc j k : Nat} {lv : List (Nat × Value)} {rest : List Value} (hj : gOk j) (hk : k < 6) (hn : -9999 ≤ s 1 ∧ s 1 ≤ 9999) (hd : s (5 + 5 * i + 1) = 0 ∨ s (5 + 5 * i + 1) = 1) (hg : gOk g) (hG : GH μ g s) (hq : K0[q]? = some (.inl 4)) (h : PH μ q s i) (hs : s (5 + 5 * i) = nI k) (hc : M.1.cls = "EndlessTug") (hf : Fit M mX3_pull ∧ Fit M mX7_pull ∧ Fit M mX1_pull ∧ Fit M mX10_pull ∧ Fit M mX5_pull ∧ Fit M mX8_pull) (h8 : (rest.map fun v => v.category).sum ≤ 8) (d : decode M.2.1 pc = .ok (.invokevirtual 137, 3)) (hQ : AW Sc M (pc + 3) lv (pushr (some (.int (pulls s i))) rest) K0 μ n Q) : AW Sc M pc lv (.ref g :: .ref q :: .ref (j + 3 + k) :: rest) K0 μ n Q := by
  obtain ⟨f0, f1, f2, f3, f4, f5⟩ := hf
  have hr := kMan hj hk
  have hk6 : k = 0 ∨ k = 1 ∨ k = 2 ∨ k = 3 ∨ k = 4 ∨ k = 5 := by omega
  rcases hk6 with rfl | rfl | rfl | rfl | rfl | rfl
  · rw [pulls_0 hs] at hQ
    exact aw_v2 (hc ▸ kX11_137) f0 (Rcv.ob hr rfl) h8 d (c_pullM hq h hQ)
  · rw [pulls_1 hs] at hQ
    exact aw_o2 (hc ▸ kX11_137_X7) f1 (Rcv.ob hr rfl) h8 d (c_pullS hr (by decide) hq h hQ)
  · rw [pulls_2 hs] at hQ
    exact aw_o2 (hc ▸ kX11_137_X1) f2 (Rcv.ob hr rfl) h8 d (c_pullD hg hG hr (by decide) hq h hQ)
  · rw [pulls_3 hs] at hQ
    exact aw_o2 (hc ▸ kX11_137_X10) f3 (Rcv.ob hr rfl) h8 d (c_pullW hg hG hr (by decide) hq h hQ)
  · rw [pulls_4 hs] at hQ
    exact aw_o2 (hc ▸ kX11_137_X5) f4 (Rcv.ob hr rfl) h8 d (c_pullP hg hG hr (by decide) hq h hQ)
  · rw [pulls_5 hs] at hQ
    exact aw_o2 (hc ▸ kX11_137_X8) f5 (Rcv.ob hr rfl) h8 d (c_pullX hn hd hg hG hr (by decide) hq h hQ)
theorem v_tireP {M : MD} {pc j k : Nat} {lv : List (Nat × Value)} {rest : List Value} (hj : gOk j) (hk : k < 6) (hg : gOk g) (hG : GH μ g s) (hs : s (5 + 5 * i) = nI k) (hc : M.1.cls = "EndlessTug$Person") (hf : Fit M mX3_tire ∧ Fit M mX7_tire ∧ Fit M mX1_tire ∧ Fit M mX10_tire ∧ Fit M mX5_tire ∧ Fit M mX8_tire) (h8 : (rest.map fun v => v.category).sum ≤ 8) (d : decode M.2.1 pc = .ok (.invokevirtual 28, 3)) (hQ : AW Sc M (pc + 3) lv (pushr (some (.int (tires s i))) rest) K0 μ n Q) : AW Sc M pc lv (.ref g :: .ref (j + 3 + k) :: rest) K0 μ n Q := by
  obtain ⟨f0, f1, f2, f3, f4, f5⟩ := hf
  have hr := kMan hj hk
  have hk6 : k = 0 ∨ k = 1 ∨ k = 2 ∨ k = 3 ∨ k = 4 ∨ k = 5 := by omega
  rcases hk6 with rfl | rfl | rfl | rfl | rfl | rfl
  · rw [tires_0 hs] at hQ
    exact aw_v1 (hc ▸ kX4_28) f0 (Rcv.ob hr rfl) h8 d (c_tireM hQ)
  · rw [tires_1 hs] at hQ
    exact aw_o1 (hc ▸ kX4_28_X7) f1 (Rcv.ob hr rfl) h8 d (c_tireS hr (by decide) hQ)
  · rw [tires_2 hs] at hQ
    exact aw_o1 (hc ▸ kX4_28_X1) f2 (Rcv.ob hr rfl) h8 d (c_tireD hg hG hr (by decide) hQ)
  · rw [tires_3 hs] at hQ
    exact aw_o1 (hc ▸ kX4_28_X10) f3 (Rcv.ob hr rfl) h8 d (c_tireW hQ)
  · rw [tires_4 hs] at hQ
    exact aw_o1 (hc ▸ kX4_28_X5) f4 (Rcv.ob hr rfl) h8 d (c_tireP hg hG hr (by decide) hQ)
  · rw [tires_5 hs] at hQ
    exact aw_o1 (hc ▸ kX4_28_X8) f5 (Rcv.ob hr rfl) h8 d (c_tireX hg hG hr (by decide) hQ)
theorem v_tireE {M : MD} {pc j k : Nat} {lv : List (Nat × Value)} {rest : List Value} (hj : gOk j) (hk : k < 6) (hg : gOk g) (hG : GH μ g s) (hs : s (5 + 5 * i) = nI k) (hc : M.1.cls = "EndlessTug") (hf : Fit M mX3_tire ∧ Fit M mX7_tire ∧ Fit M mX1_tire ∧ Fit M mX10_tire ∧ Fit M mX5_tire ∧ Fit M mX8_tire) (h8 : (rest.map fun v => v.category).sum ≤ 8) (d : decode M.2.1 pc = .ok (.invokevirtual 141, 3)) (hQ : AW Sc M (pc + 3) lv (pushr (some (.int (tires s i))) rest) K0 μ n Q) : AW Sc M pc lv (.ref g :: .ref (j + 3 + k) :: rest) K0 μ n Q := by
  obtain ⟨f0, f1, f2, f3, f4, f5⟩ := hf
  have hr := kMan hj hk
  have hk6 : k = 0 ∨ k = 1 ∨ k = 2 ∨ k = 3 ∨ k = 4 ∨ k = 5 := by omega
  rcases hk6 with rfl | rfl | rfl | rfl | rfl | rfl
  · rw [tires_0 hs] at hQ
    exact aw_v1 (hc ▸ kX11_141) f0 (Rcv.ob hr rfl) h8 d (c_tireM hQ)
  · rw [tires_1 hs] at hQ
    exact aw_o1 (hc ▸ kX11_141_X7) f1 (Rcv.ob hr rfl) h8 d (c_tireS hr (by decide) hQ)
  · rw [tires_2 hs] at hQ
    exact aw_o1 (hc ▸ kX11_141_X1) f2 (Rcv.ob hr rfl) h8 d (c_tireD hg hG hr (by decide) hQ)
  · rw [tires_3 hs] at hQ
    exact aw_o1 (hc ▸ kX11_141_X10) f3 (Rcv.ob hr rfl) h8 d (c_tireW hQ)
  · rw [tires_4 hs] at hQ
    exact aw_o1 (hc ▸ kX11_141_X5) f4 (Rcv.ob hr rfl) h8 d (c_tireP hg hG hr (by decide) hQ)
  · rw [tires_5 hs] at hQ
    exact aw_o1 (hc ▸ kX11_141_X8) f5 (Rcv.ob hr rfl) h8 d (c_tireX hg hG hr (by decide) hQ)
theorem v_letsP {M : MD} {pc j k : Nat} {lv : List (Nat × Value)} {rest : List Value} (hj : gOk j) (hk : k < 6) (hn : -9999 ≤ s 1 ∧ s 1 ≤ 9999) (hd : s (5 + 5 * i + 1) = 0 ∨ s (5 + 5 * i + 1) = 1) (hg : gOk g) (hG : GH μ g s) (hq : K0[q]? = some (.inl 4)) (h : PH μ q s i) (hs : s (5 + 5 * i) = nI k) (hc : M.1.cls = "EndlessTug$Person") (hf : Fit M mX3_letsGo ∧ Fit M mX7_letsGo ∧ Fit M mX1_letsGo ∧ Fit M mX10_letsGo ∧ Fit M mX7_letsGo ∧ Fit M mX8_letsGo) (h8 : (rest.map fun v => v.category).sum ≤ 8) (d : decode M.2.1 pc = .ok (.invokevirtual 34, 3)) (hQ : AW Sc M (pc + 3) lv (pushr (some (.int (bI (letsG s i)))) rest) K0 μ n Q) : AW Sc M pc lv (.ref g :: .ref q :: .ref (j + 3 + k) :: rest) K0 μ n Q := by
  obtain ⟨f0, f1, f2, f3, f4, f5⟩ := hf
  have hr := kMan hj hk
  have hk6 : k = 0 ∨ k = 1 ∨ k = 2 ∨ k = 3 ∨ k = 4 ∨ k = 5 := by omega
  rcases hk6 with rfl | rfl | rfl | rfl | rfl | rfl
  · rw [letsG_0 hs] at hQ
    exact aw_v2 (hc ▸ kX4_34) f0 (Rcv.ob hr rfl) h8 d (c_letsM hq h hQ)
  · rw [letsG_1 hs] at hQ
    exact aw_o2 (hc ▸ kX4_34_X7) f1 (Rcv.ob hr rfl) h8 d (c_letsS hq h hQ)
  · rw [letsG_2 hs] at hQ
    exact aw_o2 (hc ▸ kX4_34_X1) f2 (Rcv.ob hr rfl) h8 d (c_letsD hg hG hr (by decide) hq h hQ)
  · rw [letsG_3 hs] at hQ
    exact aw_o2 (hc ▸ kX4_34_X10) f3 (Rcv.ob hr rfl) h8 d (c_letsW hg hG hr (by decide) hq h hQ)
  · rw [letsG_4 hs] at hQ
    exact aw_o2 (hc ▸ kX4_34_X5) f4 (Rcv.ob hr rfl) h8 d (c_letsS hq h hQ)
  · rw [letsG_5 hs] at hQ
    exact aw_o2 (hc ▸ kX4_34_X8) f5 (Rcv.ob hr rfl) h8 d (c_letsX hn hd hg hG hr (by decide) hq h hQ)
theorem v_letsE {M : MD} {pc j k : Nat} {lv : List (Nat × Value)} {rest : List Value} (hj : gOk j) (hk : k < 6) (hn : -9999 ≤ s 1 ∧ s 1 ≤ 9999) (hd : s (5 + 5 * i + 1) = 0 ∨ s (5 + 5 * i + 1) = 1) (hg : gOk g) (hG : GH μ g s) (hq : K0[q]? = some (.inl 4)) (h : PH μ q s i) (hs : s (5 + 5 * i) = nI k) (hc : M.1.cls = "EndlessTug") (hf : Fit M mX3_letsGo ∧ Fit M mX7_letsGo ∧ Fit M mX1_letsGo ∧ Fit M mX10_letsGo ∧ Fit M mX7_letsGo ∧ Fit M mX8_letsGo) (h8 : (rest.map fun v => v.category).sum ≤ 8) (d : decode M.2.1 pc = .ok (.invokevirtual 145, 3)) (hQ : AW Sc M (pc + 3) lv (pushr (some (.int (bI (letsG s i)))) rest) K0 μ n Q) : AW Sc M pc lv (.ref g :: .ref q :: .ref (j + 3 + k) :: rest) K0 μ n Q := by
  obtain ⟨f0, f1, f2, f3, f4, f5⟩ := hf
  have hr := kMan hj hk
  have hk6 : k = 0 ∨ k = 1 ∨ k = 2 ∨ k = 3 ∨ k = 4 ∨ k = 5 := by omega
  rcases hk6 with rfl | rfl | rfl | rfl | rfl | rfl
  · rw [letsG_0 hs] at hQ
    exact aw_v2 (hc ▸ kX11_145) f0 (Rcv.ob hr rfl) h8 d (c_letsM hq h hQ)
  · rw [letsG_1 hs] at hQ
    exact aw_o2 (hc ▸ kX11_145_X7) f1 (Rcv.ob hr rfl) h8 d (c_letsS hq h hQ)
  · rw [letsG_2 hs] at hQ
    exact aw_o2 (hc ▸ kX11_145_X1) f2 (Rcv.ob hr rfl) h8 d (c_letsD hg hG hr (by decide) hq h hQ)
  · rw [letsG_3 hs] at hQ
    exact aw_o2 (hc ▸ kX11_145_X10) f3 (Rcv.ob hr rfl) h8 d (c_letsW hg hG hr (by decide) hq h hQ)
  · rw [letsG_4 hs] at hQ
    exact aw_o2 (hc ▸ kX11_145_X5) f4 (Rcv.ob hr rfl) h8 d (c_letsS hq h hQ)
  · rw [letsG_5 hs] at hQ
    exact aw_o2 (hc ▸ kX11_145_X8) f5 (Rcv.ob hr rfl) h8 d (c_letsX hn hd hg hG hr (by decide) hq h hQ)
theorem v_isOfE {M : MD} {pc j k : Nat} {lv : List (Nat × Value)} {rest : List Value} (hj : gOk j) (hk : k < 6) (hc : M.1.cls = "EndlessTug") (hf : Fit M mX3_isOf ∧ Fit M mX7_isOf ∧ Fit M mX1_isOf ∧ Fit M mX10_isOf ∧ Fit M mX5_isOf ∧ Fit M mX8_isOf) (h8 : (rest.map fun v => v.category).sum ≤ 8) (d : decode M.2.1 pc = .ok (.invokevirtual 153, 3)) (hQ : AW Sc M (pc + 3) lv (pushr (some (.int (bI (isOfK (nI k) x)))) rest) K0 μ n Q) : AW Sc M pc lv (.int x :: .ref (j + 3 + k) :: rest) K0 μ n Q := by
  obtain ⟨f0, f1, f2, f3, f4, f5⟩ := hf
  have hr := kMan hj hk
  have hk6 : k = 0 ∨ k = 1 ∨ k = 2 ∨ k = 3 ∨ k = 4 ∨ k = 5 := by omega
  rcases hk6 with rfl | rfl | rfl | rfl | rfl | rfl
  · rw [isOfK_0 x] at hQ
    exact aw_v1 (hc ▸ kX11_153) f0 (Rcv.ob hr rfl) h8 d (c_isOfM hQ)
  · rw [isOfK_1 x] at hQ
    exact aw_o1 (hc ▸ kX11_153_X7) f1 (Rcv.ob hr rfl) h8 d (c_isOfS hr (by decide) hQ)
  · rw [isOfK_2 x] at hQ
    exact aw_o1 (hc ▸ kX11_153_X1) f2 (Rcv.ob hr rfl) h8 d (c_isOfD hr (by decide) hQ)
  · rw [isOfK_3 x] at hQ
    exact aw_o1 (hc ▸ kX11_153_X10) f3 (Rcv.ob hr rfl) h8 d (c_isOfW hr (by decide) hQ)
  · rw [isOfK_4 x] at hQ
    exact aw_o1 (hc ▸ kX11_153_X5) f4 (Rcv.ob hr rfl) h8 d (c_isOfP hr (by decide) hQ)
  · rw [isOfK_5 x] at hQ
    exact aw_o1 (hc ▸ kX11_153_X8) f5 (Rcv.ob hr rfl) h8 d (c_isOfX hr (by decide) hQ)
end Cls2
