/-! THE CLASS, 1: places, what a green holds, the kinds -/
def gOk (g : Nat) : Prop := g = 1 ∨ g = 20 ∨ g = 39
theorem kG {g : Nat} (hg : gOk g) : K0[g]? = some (.inl 2) := by rcases hg with rfl | rfl | rfl <;> rfl
theorem kGk {g : Nat} (hg : gOk g) : K0[g + 1]? = some (.inr (3, 6)) := by rcases hg with rfl | rfl | rfl <;> rfl
theorem kGp {g : Nat} (hg : gOk g) : K0[g + 2]? = some (.inr (4, 10)) := by rcases hg with rfl | rfl | rfl <;> rfl
theorem kP {g i : Nat} (hg : gOk g) (hi : i < 10) : K0[g + 9 + i]? = some (.inl 4) := by
  have h : ∀ i, i < 10 → K0[1 + 9 + i]? = some (.inl 4) ∧ K0[20 + 9 + i]? = some (.inl 4) ∧ K0[39 + 9 + i]? = some (.inl 4) := by decide
  rcases hg with rfl | rfl | rfl
  · exact (h i hi).1
  · exact (h i hi).2.1
  · exact (h i hi).2.2
/-- the class of kind k -/
def kCl (k : Nat) : Nat := ([3, 7, 1, 10, 5, 8] : List Nat).getD k 0
theorem kMan {g k : Nat} (hg : gOk g) (hk : k < 6) : K0[g + 3 + k]? = some (.inl (kCl k)) := by
  have h : ∀ k, k < 6 → K0[1 + 3 + k]? = some (.inl (kCl k)) ∧ K0[20 + 3 + k]? = some (.inl (kCl k)) ∧ K0[39 + 3 + k]? = some (.inl (kCl k)) := by decide
  rcases hg with rfl | rfl | rfl
  · exact (h k hk).1
  · exact (h k hk).2.1
  · exact (h k hk).2.2
theorem rcG {g : Nat} (hg : gOk g) : Rcv K0 "EndlessTug$Green" g := Rcv.ob (kG hg) rfl
theorem rcP {q : Nat} (hq : K0[q]? = some (.inl 4)) : Rcv K0 "EndlessTug$Person" q := Rcv.ob hq rfl
def GH (μ : Mem) (g : Nat) (s : Nat → Int32) : Prop := μ.1 g 0 = s 0 ∧ μ.1 g 1 = s 3 ∧ μ.1 g 2 = s 1 ∧ μ.1 g 3 = s 2 ∧ μ.1 g 4 = s 4
def PH (μ : Mem) (q : Nat) (s : Nat → Int32) (i : Nat) : Prop := μ.1 q 1 = s (5 + 5 * i + 1) ∧ μ.1 q 2 = s (5 + 5 * i + 2) ∧ μ.1 q 3 = s (5 + 5 * i + 3) ∧ μ.1 q 4 = s (5 + 5 * i + 4)
theorem pulls_0 {s : Nat → Int32} {i : Nat} (h : s (5 + 5 * i) = nI 0) : pulls s i = manP s i := by
  unfold pulls
  rw [h, if_neg (by decide), if_neg (by decide), if_neg (by decide), if_neg (by decide), if_neg (by decide)]
theorem pulls_1 {s : Nat → Int32} {i : Nat} (h : s (5 + 5 * i) = nI 1) : pulls s i = manP s i + 2 := by
  unfold pulls
  rw [h, if_pos (by decide)]
theorem pulls_2 {s : Nat → Int32} {i : Nat} (h : s (5 + 5 * i) = nI 2) : pulls s i = if isSun s then 1 else manP s i := by
  unfold pulls
  rw [h, if_neg (by decide), if_pos (by decide)]
theorem pulls_3 {s : Nat → Int32} {i : Nat} (h : s (5 + 5 * i) = nI 3) : pulls s i = manP s i + (if isHar s then 4 else 0) := by
  unfold pulls
  rw [h, if_neg (by decide), if_neg (by decide), if_pos (by decide)]
theorem pulls_4 {s : Nat → Int32} {i : Nat} (h : s (5 + 5 * i) = nI 4) : pulls s i = if isSun s then 2 * (manP s i + 2) else manP s i + 2 := by
  unfold pulls
  rw [h, if_neg (by decide), if_neg (by decide), if_neg (by decide), if_pos (by decide)]
theorem pulls_5 {s : Nat → Int32} {i : Nat} (h : s (5 + 5 * i) = nI 5) : pulls s i = if aheadN s = s (5 + 5 * i + 1) then 0 else if isSun s then 1 else manP s i := by
  unfold pulls
  rw [h, if_neg (by decide), if_neg (by decide), if_neg (by decide), if_neg (by decide), if_pos (by decide)]
/-- towards, told by who is ahead -/
theorem tow_gt {s : Nat → Int32} {d : Int32} (hk : -9999 ≤ s 1 ∧ s 1 ≤ 9999) (hd : d = 0 ∨ d = 1) : 0 < tow d s ↔ aheadN s = d := by
  obtain ⟨h1, h2⟩ := hk
  rw [fa_le] at h1 h2
  have h1 : (-9999 : Int) ≤ (s 1).toInt := h1
  have h2 : (s 1).toInt ≤ (9999 : Int) := h2
  have hn : (-s 1).toInt = -(s 1).toInt := fb_negI (by omega)
  have l1 : s 1 < 0 ↔ (s 1).toInt < 0 := fa_lt _ _
  have l2 : 0 < s 1 ↔ 0 < (s 1).toInt := fa_lt _ _
  have l3 : 0 < -s 1 ↔ (s 1).toInt < 0 := by
    rw [fa_lt, hn]
    show (0 : Int) < _ ↔ _
    omega
  unfold tow aheadN
  rcases hd with rfl | rfl
  · rw [if_neg (by decide), l3]
    by_cases c1 : s 1 < 0
    · rw [if_pos c1]
      exact ⟨fun _ => rfl, fun _ => l1.mp c1⟩
    · rw [if_neg c1]
      refine ⟨fun z => absurd (l1.mpr z) c1, fun z => ?_⟩
      split at z <;> exact absurd z (by decide)
  · rw [if_pos rfl]
    by_cases c1 : s 1 < 0
    · rw [if_pos c1]
      exact ⟨fun z => by have := l1.mp c1; have := l2.mp z; omega, fun z => absurd z (by decide)⟩
    · rw [if_neg c1]
      by_cases c2 : 0 < s 1
      · rw [if_pos c2]
        exact ⟨fun _ => rfl, fun _ => c2⟩
      · rw [if_neg c2]
        exact ⟨fun z => absurd z c2, fun z => absurd z (by decide)⟩
section Cls1
variable {Sc : SCR} {μ μ0 : Mem} {n : Nat × Nat} {Q : PQ} {s : Nat → Int32} {g q i r ci : Nat}
theorem c_isSunday (hg : gOk g) (h : GH μ g s) (hQ : Q (some (.int (bI (isSun s)))) K0 μ) : AM Sc mX2_isSunday [.ref g] K0 μ n Q := by
  refine AM.of rfl (ble rfl) ?_
  refine aw_aload_n rfl dX2_isSunday_0 ?_
  refine aw_getI gX2_51_2 (kG hg) rfl dX2_isSunday_1 ?_
  refine aw_bipush (v := 7) (by decide) dX2_isSunday_4 ?_
  refine aw_irem (by decide) dX2_isSunday_6 ?_
  refine aw_bipush (v := 6) (by decide) dX2_isSunday_7 ?_
  rw [h.1]
  unfold isSun at hQ
  refine aw_icmp_ne 16 rfl dX2_isSunday_9 (fun c => ?_) (fun c => ?_)
  · rw [decide_eq_false c] at hQ
    refine aw_iconst (v := 0) (by decide) dX2_isSunday_16 ?_
    exact aw_zret (b := false) rfl dX2_isSunday_17 rfl hQ
  · rw [decide_eq_true c] at hQ
    refine aw_iconst (v := 1) (by decide) dX2_isSunday_12 ?_
    refine aw_goto 17 rfl dX2_isSunday_13 ?_
    exact aw_zret (b := true) rfl dX2_isSunday_17 rfl hQ
theorem c_weekOfYear (hg : gOk g) (h : GH μ g s) (hQ : Q (some (.int (weekN s))) K0 μ) : AM Sc mX2_weekOfYear [.ref g] K0 μ n Q := by
  refine AM.of rfl (ble rfl) ?_
  refine aw_aload_n rfl dX2_weekOfYear_0 ?_
  refine aw_getI gX2_51_2 (kG hg) rfl dX2_weekOfYear_1 ?_
  refine aw_bipush (v := 7) (by decide) dX2_weekOfYear_4 ?_
  refine aw_idiv (by decide) dX2_weekOfYear_6 ?_
  refine aw_bipush (v := 8) (by decide) dX2_weekOfYear_7 ?_
  refine aw_irem (by decide) dX2_weekOfYear_9 ?_
  refine aw_iret dX2_weekOfYear_10 rfl ?_
  rw [h.1]
  exact hQ
theorem c_isHarvest (hg : gOk g) (h : GH μ g s) (hQ : Q (some (.int (bI (isHar s)))) K0 μ) : AM Sc mX2_isHarvest [.ref g] K0 μ n Q := by
  refine AM.of rfl (ble rfl) ?_
  refine aw_aload_n rfl dX2_isHarvest_0 ?_
  refine aw_getI gX2_9_2 (kG hg) rfl dX2_isHarvest_1 ?_
  refine aw_aload_n rfl dX2_isHarvest_4 ?_
  refine aw_v0 kX2_88 ⟨ble rfl, ble rfl⟩ (rcG hg) (ble rfl) dX2_isHarvest_5 (c_weekOfYear hg h ?_)
  refine aw_ishr dX2_isHarvest_8 ?_
  refine aw_iconst (v := 1) (by decide) dX2_isHarvest_9 ?_
  refine aw_iand dX2_isHarvest_10 ?_
  refine aw_iconst (v := 1) (by decide) dX2_isHarvest_11 ?_
  rw [h.2.1]
  unfold isHar at hQ
  refine aw_icmp_ne 19 rfl dX2_isHarvest_12 (fun c => ?_) (fun c => ?_)
  · rw [decide_eq_false c] at hQ
    refine aw_iconst (v := 0) (by decide) dX2_isHarvest_19 ?_
    exact aw_zret (b := false) rfl dX2_isHarvest_20 rfl hQ
  · rw [decide_eq_true c] at hQ
    refine aw_iconst (v := 1) (by decide) dX2_isHarvest_15 ?_
    refine aw_goto 20 rfl dX2_isHarvest_16 ?_
    exact aw_zret (b := true) rfl dX2_isHarvest_20 rfl hQ
theorem c_towards {d : Int32} (hg : gOk g) (h : GH μ g s) (hQ : Q (some (.int (tow d s))) K0 μ) : AM Sc mX2_towards [.ref g, .int d] K0 μ n Q := by
  refine AM.of rfl (ble rfl) ?_
  unfold tow at hQ
  refine aw_iload_n rfl dX2_towards_0 ?_
  refine aw_iconst (v := 1) (by decide) dX2_towards_1 ?_
  refine aw_icmp_ne 12 rfl dX2_towards_2 (fun c => ?_) (fun c => ?_)
  · rw [if_neg c] at hQ
    refine aw_aload_n rfl dX2_towards_12 ?_
    refine aw_getI gX2_54_2 (kG hg) rfl dX2_towards_13 ?_
    refine aw_ineg dX2_towards_16 ?_
    refine aw_iret dX2_towards_17 rfl ?_
    rw [h.2.2.1]
    exact hQ
  · rw [if_pos c] at hQ
    refine aw_aload_n rfl dX2_towards_5 ?_
    refine aw_getI gX2_54_2 (kG hg) rfl dX2_towards_6 ?_
    refine aw_goto 17 rfl dX2_towards_9 ?_
    refine aw_iret dX2_towards_17 rfl ?_
    rw [h.2.2.1]
    exact hQ
theorem c_pullM (hq : K0[q]? = some (.inl 4)) (h : PH μ q s i) (hQ : Q (some (.int (manP s i))) K0 μ) : AM Sc mX3_pull [.ref r, .ref q, .ref g] K0 μ n Q := by
  refine AM.of rfl (ble rfl) ?_
  refine aw_aload_n rfl dX3_pull_0 ?_
  refine aw_getI gX3_15_4 hq rfl dX3_pull_1 ?_
  refine aw_aload_n rfl dX3_pull_4 ?_
  refine aw_getI gX3_20_4 hq rfl dX3_pull_5 ?_
  refine aw_bipush (v := 10) (by decide) dX3_pull_8 ?_
  refine aw_idiv (by decide) dX3_pull_10 ?_
  refine aw_isub dX3_pull_11 ?_
  refine aw_istore_n (ble rfl) dX3_pull_12 ?_
  refine aw_iload_n rfl dX3_pull_13 ?_
  rw [h.2.2.1, h.2.2.2]
  unfold manP at hQ
  generalize s (5 + 5 * i + 4) - s (5 + 5 * i + 3) / 10 = v at hQ
  refine aw_if_le 21 rfl dX3_pull_14 (fun c => ?_) (fun c => ?_)
  · have e : (if v < 0 then 0 else v) = 0 := by
      split
      · rfl
      · next hc => exact Int32.le_antisymm c (Int32.not_lt.mp hc)
    rw [e] at hQ
    refine aw_iconst (v := 0) (by decide) dX3_pull_21 ?_
    refine aw_iret dX3_pull_22 rfl ?_
    exact hQ
  · rw [if_neg (fun z => c (Int32.le_of_lt z))] at hQ
    refine aw_iload_n rfl dX3_pull_17 ?_
    refine aw_goto 22 rfl dX3_pull_18 ?_
    refine aw_iret dX3_pull_22 rfl ?_
    exact hQ
theorem c_pullS (hr : K0[r]? = some (.inl ci)) (hci : ci < 13) (hq : K0[q]? = some (.inl 4)) (h : PH μ q s i) (hQ : Q (some (.int (manP s i + 2))) K0 μ) : AM Sc mX7_pull [.ref r, .ref q, .ref g] K0 μ n Q := by
  refine AM.of rfl (ble rfl) ?_
  refine aw_aload_n rfl dX7_pull_0 ?_
  refine aw_aload_n rfl dX7_pull_1 ?_
  refine aw_aload_n rfl dX7_pull_2 ?_
  refine aw_su2 kX7_13 ⟨ble rfl, ble rfl⟩ hr hci (ble rfl) dX7_pull_3 (c_pullM hq h ?_)
  refine aw_iconst (v := 2) (by decide) dX7_pull_6 ?_
  refine aw_iadd dX7_pull_7 ?_
  refine aw_iret dX7_pull_8 rfl ?_
  exact hQ
theorem c_pullD (hg : gOk g) (hG : GH μ g s) (hr : K0[r]? = some (.inl ci)) (hci : ci < 13) (hq : K0[q]? = some (.inl 4)) (h : PH μ q s i) (hQ : Q (some (.int (if isSun s then 1 else manP s i))) K0 μ) : AM Sc mX1_pull [.ref r, .ref q, .ref g] K0 μ n Q := by
  refine AM.of rfl (ble rfl) ?_
  refine aw_aload_n rfl dX1_pull_0 ?_
  refine aw_v0 kX1_13 ⟨ble rfl, ble rfl⟩ (rcG hg) (ble rfl) dX1_pull_1 (c_isSunday hg hG ?_)
  refine aw_zeq 11 rfl dX1_pull_4 (fun c => ?_) (fun c => ?_)
  · rw [if_neg (by rw [c]; decide)] at hQ
    refine aw_aload_n rfl dX1_pull_11 ?_
    refine aw_aload_n rfl dX1_pull_12 ?_
    refine aw_aload_n rfl dX1_pull_13 ?_
    refine aw_su2 kX1_19 ⟨ble rfl, ble rfl⟩ hr hci (ble rfl) dX1_pull_14 (c_pullM hq h ?_)
    refine aw_iret dX1_pull_17 rfl ?_
    exact hQ
  · rw [if_pos c] at hQ
    refine aw_iconst (v := 1) (by decide) dX1_pull_7 ?_
    refine aw_goto 17 rfl dX1_pull_8 ?_
    refine aw_iret dX1_pull_17 rfl ?_
    exact hQ
theorem c_pullW (hg : gOk g) (hG : GH μ g s) (hr : K0[r]? = some (.inl ci)) (hci : ci < 13) (hq : K0[q]? = some (.inl 4)) (h : PH μ q s i) (hQ : Q (some (.int (manP s i + (if isHar s then 4 else 0)))) K0 μ) : AM Sc mX10_pull [.ref r, .ref q, .ref g] K0 μ n Q := by
  refine AM.of rfl (ble rfl) ?_
  refine aw_aload_n rfl dX10_pull_0 ?_
  refine aw_v0 kX10_13 ⟨ble rfl, ble rfl⟩ (rcG hg) (ble rfl) dX10_pull_1 (c_isHarvest hg hG ?_)
  refine aw_zeq 18 rfl dX10_pull_4 (fun c => ?_) (fun c => ?_)
  · rw [if_neg (by rw [c]; decide), Int32.add_zero] at hQ
    refine aw_aload_n rfl dX10_pull_18 ?_
    refine aw_aload_n rfl dX10_pull_19 ?_
    refine aw_aload_n rfl dX10_pull_20 ?_
    refine aw_su2 kX10_19 ⟨ble rfl, ble rfl⟩ hr hci (ble rfl) dX10_pull_21 (c_pullM hq h ?_)
    refine aw_iret dX10_pull_24 rfl ?_
    exact hQ
  · rw [if_pos c] at hQ
    refine aw_aload_n rfl dX10_pull_7 ?_
    refine aw_aload_n rfl dX10_pull_8 ?_
    refine aw_aload_n rfl dX10_pull_9 ?_
    refine aw_su2 kX10_19 ⟨ble rfl, ble rfl⟩ hr hci (ble rfl) dX10_pull_10 (c_pullM hq h ?_)
    refine aw_iconst (v := 4) (by decide) dX10_pull_13 ?_
    refine aw_iadd dX10_pull_14 ?_
    refine aw_goto 24 rfl dX10_pull_15 ?_
    refine aw_iret dX10_pull_24 rfl ?_
    exact hQ
theorem c_pullP (hg : gOk g) (hG : GH μ g s) (hr : K0[r]? = some (.inl ci)) (hci : ci < 13) (hq : K0[q]? = some (.inl 4)) (h : PH μ q s i) (hQ : Q (some (.int (if isSun s then 2 * (manP s i + 2) else manP s i + 2))) K0 μ) : AM Sc mX5_pull [.ref r, .ref q, .ref g] K0 μ n Q := by
  refine AM.of rfl (ble rfl) ?_
  refine aw_aload_n rfl dX5_pull_0 ?_
  refine aw_v0 kX5_13 ⟨ble rfl, ble rfl⟩ (rcG hg) (ble rfl) dX5_pull_1 (c_isSunday hg hG ?_)
  refine aw_zeq 18 rfl dX5_pull_4 (fun c => ?_) (fun c => ?_)
  · rw [if_neg (by rw [c]; decide)] at hQ
    refine aw_aload_n rfl dX5_pull_18 ?_
    refine aw_aload_n rfl dX5_pull_19 ?_
    refine aw_aload_n rfl dX5_pull_20 ?_
    refine aw_su2 kX5_19 ⟨ble rfl, ble rfl⟩ hr hci (ble rfl) dX5_pull_21 (c_pullS hr hci hq h ?_)
    refine aw_iret dX5_pull_24 rfl ?_
    exact hQ
  · rw [if_pos c] at hQ
    refine aw_iconst (v := 2) (by decide) dX5_pull_7 ?_
    refine aw_aload_n rfl dX5_pull_8 ?_
    refine aw_aload_n rfl dX5_pull_9 ?_
    refine aw_aload_n rfl dX5_pull_10 ?_
    refine aw_su2 kX5_19 ⟨ble rfl, ble rfl⟩ hr hci (ble rfl) dX5_pull_11 (c_pullS hr hci hq h ?_)
    refine aw_imul dX5_pull_14 ?_
    refine aw_goto 24 rfl dX5_pull_15 ?_
    refine aw_iret dX5_pull_24 rfl ?_
    exact hQ
theorem c_pullX (hk : -9999 ≤ s 1 ∧ s 1 ≤ 9999) (hd : s (5 + 5 * i + 1) = 0 ∨ s (5 + 5 * i + 1) = 1) (hg : gOk g) (hG : GH μ g s) (hr : K0[r]? = some (.inl ci)) (hci : ci < 13) (hq : K0[q]? = some (.inl 4)) (h : PH μ q s i) (hQ : Q (some (.int (if aheadN s = s (5 + 5 * i + 1) then 0 else if isSun s then 1 else manP s i))) K0 μ) : AM Sc mX8_pull [.ref r, .ref q, .ref g] K0 μ n Q := by
  refine AM.of rfl (ble rfl) ?_
  refine aw_aload_n rfl dX8_pull_0 ?_
  refine aw_aload_n rfl dX8_pull_1 ?_
  refine aw_getI gX8_13_4 hq rfl dX8_pull_2 ?_
  refine aw_v1 kX8_19 ⟨ble rfl, ble rfl⟩ (rcG hg) (ble rfl) dX8_pull_5 (c_towards hg hG ?_)
  rw [h.1]
  have e := tow_gt hk hd
  refine aw_if_le 15 rfl dX8_pull_8 (fun c => ?_) (fun c => ?_)
  · rw [if_neg (fun z => Int32.not_lt.mpr c (e.mpr z))] at hQ
    refine aw_aload_n rfl dX8_pull_15 ?_
    refine aw_aload_n rfl dX8_pull_16 ?_
    refine aw_aload_n rfl dX8_pull_17 ?_
    refine aw_su2 kX8_25 ⟨ble rfl, ble rfl⟩ hr hci (ble rfl) dX8_pull_18 (c_pullD hg hG hr hci hq h ?_)
    refine aw_iret dX8_pull_21 rfl ?_
    exact hQ
  · rw [if_pos (e.mp (Int32.not_le.mp c))] at hQ
    refine aw_iconst (v := 0) (by decide) dX8_pull_11 ?_
    refine aw_goto 21 rfl dX8_pull_12 ?_
    refine aw_iret dX8_pull_21 rfl ?_
    exact hQ
end Cls1
