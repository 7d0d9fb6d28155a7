/-! THE MODEL, 2: what a day is (the reference, told over the row s) -/
def isSun (s : Nat → Int32) : Bool := decide (s 0 % 7 = 6)
def weekN (s : Nat → Int32) : Int32 := s 0 / 7 % 8
def isHar (s : Nat → Int32) : Bool := decide ((s 3 >>> (weekN s &&& 31)) &&& 1 = 1)
def aheadN (s : Nat → Int32) : Int32 := if s 1 < 0 then 0 else if 0 < s 1 then 1 else -1
def manP (s : Nat → Int32) (k : Nat) : Int32 := if s (5 + 5 * k + 4) - s (5 + 5 * k + 3) / 10 < 0 then 0 else s (5 + 5 * k + 4) - s (5 + 5 * k + 3) / 10
def pulls (s : Nat → Int32) (k : Nat) : Int32 :=
  if s (5 + 5 * k) = 1 then manP s k + 2
  else if s (5 + 5 * k) = 2 then (if isSun s then 1 else manP s k)
  else if s (5 + 5 * k) = 3 then manP s k + (if isHar s then 4 else 0)
  else if s (5 + 5 * k) = 4 then (if isSun s then 2 * (manP s k + 2) else manP s k + 2)
  else if s (5 + 5 * k) = 5 then (if aheadN s = s (5 + 5 * k + 1) then 0 else if isSun s then 1 else manP s k)
  else manP s k
def tires (s : Nat → Int32) (k : Nat) : Int32 :=
  if s (5 + 5 * k) = 1 then 3
  else if s (5 + 5 * k) = 2 then 4 + (if isSun s then 3 else 0)
  else if s (5 + 5 * k) = 3 then 2
  else if s (5 + 5 * k) = 4 then (if isSun s then 0 else 3)
  else if s (5 + 5 * k) = 5 then 2 + (if isSun s then 3 else 0)
  else 4
def letsG (s : Nat → Int32) (k : Nat) : Bool :=
  if s (5 + 5 * k) = 1 ∨ s (5 + 5 * k) = 4 then decide (95 ≤ s (5 + 5 * k + 3))
  else if s (5 + 5 * k) = 2 then decide (90 ≤ s (5 + 5 * k + 3)) || isSun s
  else if s (5 + 5 * k) = 3 then decide (90 ≤ s (5 + 5 * k + 3)) || (!isHar s && decide (30 ≤ s (5 + 5 * k + 3)))
  else if s (5 + 5 * k) = 5 then decide (90 ≤ s (5 + 5 * k + 3)) || isSun s || (decide (aheadN s ≠ s (5 + 5 * k + 1)) && decide (20 ≤ s (5 + 5 * k + 3)))
  else decide (90 ≤ s (5 + 5 * k + 3))
theorem sw15 (x : Int32) : ((x.toInt < 1 ∨ 5 < x.toInt) ∧ ¬ x = 1 ∧ ¬ x = 2 ∧ ¬ x = 3 ∧ ¬ x = 4 ∧ ¬ x = 5) ∨ x = 1 ∨ x = 2 ∨ x = 3 ∨ x = 4 ∨ x = 5 := by
  by_cases h1 : x = 1
  · simp [h1]
  by_cases h2 : x = 2
  · simp [h2]
  by_cases h3 : x = 3
  · simp [h3]
  by_cases h4 : x = 4
  · simp [h4]
  by_cases h5 : x = 5
  · simp [h5]
  refine Or.inl ⟨?_, h1, h2, h3, h4, h5⟩
  have e : ∀ k : Int32, ¬ x = k → ¬ x.toInt = k.toInt := fun k h q => h (Int32.toInt_inj.mp q)
  have e1 := e 1 h1
  have e2 := e 2 h2
  have e3 := e 3 h3
  have e4 := e 4 h4
  have e5 := e 5 h5
  simp at e1 e2 e3 e4 e5
  omega
section Mod2
variable {Sc : SCR} {μ : Mem} {n : Nat × Nat} {Q : PQ} {s : Nat → Int32}
theorem g_get {k j : Nat} {x y : Int32} (hM : MR μ.2.2) (hs : μ.1 72 = s) (hx : x = nI k) (hy : y = nI j) (hk : k < 10) (hj : j < 5) (hQ : Q (some (.int (s (5 + 5 * k + j)))) K0 μ) : AM Sc mX12_get [.ref 71, .int x, .int y] K0 μ n Q := by
  subst hs
  exact k_get hM hx hy hk hj hQ
theorem g_puts {k j : Nat} {x y v : Int32} (hM : MR μ.2.2) (hs : μ.1 72 = s) (hx : x = nI k) (hy : y = nI j) (hk : k < 10) (hj : j < 5) (hQ : Q none K0 (rowI μ 72 (upd s (5 + 5 * k + j) v))) : AM Sc mX12_puts [.ref 71, .int x, .int y, .int v] K0 μ n Q := by
  subst hs
  exact k_puts hM hx hy hk hj hQ
theorem k_isSunday (hM : MR μ.2.2) (hs : μ.1 72 = s) (hQ : Q (some (.int (bI (isSun s)))) K0 μ) : AM Sc mX12_isSunday [.ref 71] K0 μ n Q := by
  subst hs
  refine AM.of rfl (ble rfl) ?_
  refine aw_aload_n rfl dX12_isSunday_0 ?_
  refine aw_getR gX12_9_12 kM rfl (hM.s) dX12_isSunday_1 ?_
  refine aw_iconst (v := 0) (by decide) dX12_isSunday_4 ?_
  refine aw_ialoadN kS (c := 0) rfl (by decide) (by decide) dX12_isSunday_5 ?_
  refine aw_bipush (v := 7) (by decide) dX12_isSunday_6 ?_
  refine aw_irem (by decide) dX12_isSunday_8 ?_
  refine aw_bipush (v := 6) (by decide) dX12_isSunday_9 ?_
  refine aw_icmp_ne 18 rfl dX12_isSunday_11 (fun c => ?_) (fun c => ?_)
  · refine aw_iconst (v := 0) (by decide) dX12_isSunday_18 ?_
    exact aw_zret (b := isSun (μ.1 72)) (by simp [isSun, c, bI]) dX12_isSunday_19 rfl hQ
  · refine aw_iconst (v := 1) (by decide) dX12_isSunday_14 ?_
    refine aw_goto 19 rfl dX12_isSunday_15 ?_
    exact aw_zret (b := isSun (μ.1 72)) (by simp [isSun, c, bI]) dX12_isSunday_19 rfl hQ
theorem k_weekNow (hM : MR μ.2.2) (hs : μ.1 72 = s) (hQ : Q (some (.int (weekN s))) K0 μ) : AM Sc mX12_weekNow [.ref 71] K0 μ n Q := by
  subst hs
  refine AM.of rfl (ble rfl) ?_
  refine aw_aload_n rfl dX12_weekNow_0 ?_
  refine aw_getR gX12_9_12 kM rfl (hM.s) dX12_weekNow_1 ?_
  refine aw_iconst (v := 0) (by decide) dX12_weekNow_4 ?_
  refine aw_ialoadN kS (c := 0) rfl (by decide) (by decide) dX12_weekNow_5 ?_
  refine aw_bipush (v := 7) (by decide) dX12_weekNow_6 ?_
  refine aw_idiv (by decide) dX12_weekNow_8 ?_
  refine aw_bipush (v := 8) (by decide) dX12_weekNow_9 ?_
  refine aw_irem (by decide) dX12_weekNow_11 ?_
  refine aw_iret dX12_weekNow_12 rfl ?_
  exact hQ
theorem k_isHarvest (hM : MR μ.2.2) (hs : μ.1 72 = s) (hQ : Q (some (.int (bI (isHar s)))) K0 μ) : AM Sc mX12_isHarvest [.ref 71] K0 μ n Q := by
  subst hs
  refine AM.of rfl (ble rfl) ?_
  refine aw_aload_n rfl dX12_isHarvest_0 ?_
  refine aw_getR gX12_9_12 kM rfl (hM.s) dX12_isHarvest_1 ?_
  refine aw_iconst (v := 3) (by decide) dX12_isHarvest_4 ?_
  refine aw_ialoadN kS (c := 3) rfl (by decide) (by decide) dX12_isHarvest_5 ?_
  refine aw_aload_n rfl dX12_isHarvest_6 ?_
  refine aw_v0 kX12_56 ⟨ble rfl, ble rfl⟩ (rcM) (ble rfl) dX12_isHarvest_7 (k_weekNow hM rfl ?_)
  refine aw_ishr dX12_isHarvest_10 ?_
  refine aw_iconst (v := 1) (by decide) dX12_isHarvest_11 ?_
  refine aw_iand dX12_isHarvest_12 ?_
  refine aw_iconst (v := 1) (by decide) dX12_isHarvest_13 ?_
  refine aw_icmp_ne 21 rfl dX12_isHarvest_14 (fun c => ?_) (fun c => ?_)
  · refine aw_iconst (v := 0) (by decide) dX12_isHarvest_21 ?_
    exact aw_zret (b := isHar (μ.1 72)) (by simp [isHar, c, bI]) dX12_isHarvest_22 rfl hQ
  · refine aw_iconst (v := 1) (by decide) dX12_isHarvest_17 ?_
    refine aw_goto 22 rfl dX12_isHarvest_18 ?_
    exact aw_zret (b := isHar (μ.1 72)) (by simp [isHar, c, bI]) dX12_isHarvest_22 rfl hQ
theorem k_aheadNow (hM : MR μ.2.2) (hs : μ.1 72 = s) (hQ : Q (some (.int (aheadN s))) K0 μ) : AM Sc mX12_aheadNow [.ref 71] K0 μ n Q := by
  subst hs
  refine AM.of rfl (ble rfl) ?_
  refine aw_aload_n rfl dX12_aheadNow_0 ?_
  refine aw_getR gX12_9_12 kM rfl (hM.s) dX12_aheadNow_1 ?_
  refine aw_iconst (v := 1) (by decide) dX12_aheadNow_4 ?_
  refine aw_ialoadN kS (c := 1) rfl (by decide) (by decide) dX12_aheadNow_5 ?_
  refine aw_if_ge 13 rfl dX12_aheadNow_6 (fun c => ?_) (fun c => ?_)
  · refine aw_aload_n rfl dX12_aheadNow_13 ?_
    refine aw_getR gX12_9_12 kM rfl (hM.s) dX12_aheadNow_14 ?_
    refine aw_iconst (v := 1) (by decide) dX12_aheadNow_17 ?_
    refine aw_ialoadN kS (c := 1) rfl (by decide) (by decide) dX12_aheadNow_18 ?_
    refine aw_if_le 26 rfl dX12_aheadNow_19 (fun c2 => ?_) (fun c2 => ?_)
    · refine aw_iconst (v := (-1)) (by decide) dX12_aheadNow_26 ?_
      refine aw_iret dX12_aheadNow_27 rfl ?_
      have e : aheadN (μ.1 72) = -1 := by rw [aheadN, if_neg (Int32.not_lt.mpr c), if_neg (Int32.not_lt.mpr c2)]
      rw [e] at hQ
      exact hQ
    · refine aw_iconst (v := 1) (by decide) dX12_aheadNow_22 ?_
      refine aw_goto 27 rfl dX12_aheadNow_23 ?_
      refine aw_iret dX12_aheadNow_27 rfl ?_
      have e : aheadN (μ.1 72) = 1 := by rw [aheadN, if_neg (Int32.not_lt.mpr c), if_pos (Int32.not_le.mp c2)]
      rw [e] at hQ
      exact hQ
  · refine aw_iconst (v := 0) (by decide) dX12_aheadNow_9 ?_
    refine aw_goto 27 rfl dX12_aheadNow_10 ?_
    refine aw_iret dX12_aheadNow_27 rfl ?_
    have e : aheadN (μ.1 72) = 0 := by rw [aheadN, if_pos (Int32.not_le.mp c)]
    rw [e] at hQ
    exact hQ
theorem k_pullsOf {k : Nat} {x : Int32} (hM : MR μ.2.2) (hs : μ.1 72 = s) (hx : x = nI k) (hk : k < 10) (hQ : Q (some (.int (pulls s k))) K0 μ) : AM Sc mX12_pullsOf [.ref 71, .int x] K0 μ n Q := by
  refine AM.of rfl (ble rfl) ?_
  refine aw_aload_n rfl dX12_pullsOf_0 ?_
  refine aw_iload_n rfl dX12_pullsOf_1 ?_
  refine aw_iconst (v := 0) (by decide) dX12_pullsOf_2 ?_
  refine aw_v2 kX12_60 ⟨ble rfl, ble rfl⟩ (rcM) (ble rfl) dX12_pullsOf_3 (g_get hM hs hx (j := 0) rfl hk (by decide) ?_)
  refine aw_istore_n (ble rfl) dX12_pullsOf_6 ?_
  refine aw_aload_n rfl dX12_pullsOf_7 ?_
  refine aw_iload_n rfl dX12_pullsOf_8 ?_
  refine aw_iconst (v := 4) (by decide) dX12_pullsOf_9 ?_
  refine aw_v2 kX12_60 ⟨ble rfl, ble rfl⟩ (rcM) (ble rfl) dX12_pullsOf_10 (g_get hM hs hx (j := 4) rfl hk (by decide) ?_)
  refine aw_aload_n rfl dX12_pullsOf_13 ?_
  refine aw_iload_n rfl dX12_pullsOf_14 ?_
  refine aw_iconst (v := 3) (by decide) dX12_pullsOf_15 ?_
  refine aw_v2 kX12_60 ⟨ble rfl, ble rfl⟩ (rcM) (ble rfl) dX12_pullsOf_16 (g_get hM hs hx (j := 3) rfl hk (by decide) ?_)
  refine aw_bipush (v := 10) (by decide) dX12_pullsOf_19 ?_
  refine aw_idiv (by decide) dX12_pullsOf_21 ?_
  refine aw_isub dX12_pullsOf_22 ?_
  refine aw_istore_n (ble rfl) dX12_pullsOf_23 ?_
  refine aw_iload_n rfl dX12_pullsOf_24 ?_
  have fin : AW Sc mX12_pullsOf 34 [(0, .ref 71), (1, .int x), (2, .int (s (5 + 5 * k))), (3, .int (manP s k))] [] K0 μ n Q := by
    refine aw_iload_n rfl dX12_pullsOf_34 ?_
    unfold pulls at hQ
    rcases sw15 (s (5 + 5 * k)) with ⟨h, h1, h2, h3, h4, h5⟩ | h | h | h | h | h
    · refine aw_tabOut 149 (h) rfl dX12_pullsOf_35 ?_
      refine aw_iload_n rfl dX12_pullsOf_149 ?_
      refine aw_iret dX12_pullsOf_150 rfl ?_
      rw [if_neg h1, if_neg h2, if_neg h3, if_neg h4, if_neg h5] at hQ
      exact hQ
    · rw [h] at hQ ⊢
      refine aw_tabIn 68 (by decide) (by decide) rfl rfl dX12_pullsOf_35 ?_
      refine aw_iload_n rfl dX12_pullsOf_68 ?_
      refine aw_iconst (v := 2) (by decide) dX12_pullsOf_69 ?_
      refine aw_iadd dX12_pullsOf_70 ?_
      refine aw_iret dX12_pullsOf_71 rfl ?_
      exact hQ
    · rw [h] at hQ ⊢
      refine aw_tabIn 72 (by decide) (by decide) rfl rfl dX12_pullsOf_35 ?_
      refine aw_aload_n rfl dX12_pullsOf_72 ?_
      refine aw_v0 kX12_64 ⟨ble rfl, ble rfl⟩ (rcM) (ble rfl) dX12_pullsOf_73 (k_isSunday hM hs ?_)
      refine aw_zeq 83 rfl dX12_pullsOf_76 (fun c => ?_) (fun c => ?_)
      · rw [c] at hQ
        refine aw_iload_n rfl dX12_pullsOf_83 ?_
        refine aw_iret dX12_pullsOf_84 rfl ?_
        exact hQ
      · rw [c] at hQ
        refine aw_iconst (v := 1) (by decide) dX12_pullsOf_79 ?_
        refine aw_goto 84 rfl dX12_pullsOf_80 ?_
        refine aw_iret dX12_pullsOf_84 rfl ?_
        exact hQ
    · rw [h] at hQ ⊢
      refine aw_tabIn 85 (by decide) (by decide) rfl rfl dX12_pullsOf_35 ?_
      refine aw_iload_n rfl dX12_pullsOf_85 ?_
      refine aw_aload_n rfl dX12_pullsOf_86 ?_
      refine aw_v0 kX12_68 ⟨ble rfl, ble rfl⟩ (rcM) (ble rfl) dX12_pullsOf_87 (k_isHarvest hM hs ?_)
      refine aw_zeq 97 rfl dX12_pullsOf_90 (fun c => ?_) (fun c => ?_)
      · rw [c] at hQ
        refine aw_iconst (v := 0) (by decide) dX12_pullsOf_97 ?_
        refine aw_iadd dX12_pullsOf_98 ?_
        refine aw_iret dX12_pullsOf_99 rfl ?_
        exact hQ
      · rw [c] at hQ
        refine aw_iconst (v := 4) (by decide) dX12_pullsOf_93 ?_
        refine aw_goto 98 rfl dX12_pullsOf_94 ?_
        refine aw_iadd dX12_pullsOf_98 ?_
        refine aw_iret dX12_pullsOf_99 rfl ?_
        exact hQ
    · rw [h] at hQ ⊢
      refine aw_tabIn 100 (by decide) (by decide) rfl rfl dX12_pullsOf_35 ?_
      refine aw_aload_n rfl dX12_pullsOf_100 ?_
      refine aw_v0 kX12_64 ⟨ble rfl, ble rfl⟩ (rcM) (ble rfl) dX12_pullsOf_101 (k_isSunday hM hs ?_)
      refine aw_zeq 115 rfl dX12_pullsOf_104 (fun c => ?_) (fun c => ?_)
      · rw [c] at hQ
        refine aw_iload_n rfl dX12_pullsOf_115 ?_
        refine aw_iconst (v := 2) (by decide) dX12_pullsOf_116 ?_
        refine aw_iadd dX12_pullsOf_117 ?_
        refine aw_iret dX12_pullsOf_118 rfl ?_
        exact hQ
      · rw [c] at hQ
        refine aw_iconst (v := 2) (by decide) dX12_pullsOf_107 ?_
        refine aw_iload_n rfl dX12_pullsOf_108 ?_
        refine aw_iconst (v := 2) (by decide) dX12_pullsOf_109 ?_
        refine aw_iadd dX12_pullsOf_110 ?_
        refine aw_imul dX12_pullsOf_111 ?_
        refine aw_goto 118 rfl dX12_pullsOf_112 ?_
        refine aw_iret dX12_pullsOf_118 rfl ?_
        exact hQ
    · rw [h] at hQ ⊢
      refine aw_tabIn 119 (by decide) (by decide) rfl rfl dX12_pullsOf_35 ?_
      refine aw_aload_n rfl dX12_pullsOf_119 ?_
      refine aw_v0 kX12_71 ⟨ble rfl, ble rfl⟩ (rcM) (ble rfl) dX12_pullsOf_120 (k_aheadNow hM hs ?_)
      refine aw_aload_n rfl dX12_pullsOf_123 ?_
      refine aw_iload_n rfl dX12_pullsOf_124 ?_
      refine aw_iconst (v := 1) (by decide) dX12_pullsOf_125 ?_
      refine aw_v2 kX12_60 ⟨ble rfl, ble rfl⟩ (rcM) (ble rfl) dX12_pullsOf_126 (g_get hM hs hx (j := 1) rfl hk (by decide) ?_)
      refine aw_icmp_ne 136 rfl dX12_pullsOf_129 (fun c => ?_) (fun c => ?_)
      · refine aw_aload_n rfl dX12_pullsOf_136 ?_
        refine aw_v0 kX12_64 ⟨ble rfl, ble rfl⟩ (rcM) (ble rfl) dX12_pullsOf_137 (k_isSunday hM hs ?_)
        refine aw_zeq 147 rfl dX12_pullsOf_140 (fun c2 => ?_) (fun c2 => ?_)
        · rw [c2] at hQ
          refine aw_iload_n rfl dX12_pullsOf_147 ?_
          refine aw_iret dX12_pullsOf_148 rfl ?_
          simpa [c] using hQ
        · rw [c2] at hQ
          refine aw_iconst (v := 1) (by decide) dX12_pullsOf_143 ?_
          refine aw_goto 148 rfl dX12_pullsOf_144 ?_
          refine aw_iret dX12_pullsOf_148 rfl ?_
          simpa [c] using hQ
      · refine aw_iconst (v := 0) (by decide) dX12_pullsOf_132 ?_
        refine aw_goto 148 rfl dX12_pullsOf_133 ?_
        refine aw_iret dX12_pullsOf_148 rfl ?_
        simpa [c] using hQ
  refine aw_if_ge 32 rfl dX12_pullsOf_25 (fun c => ?_) (fun c => ?_)
  · refine aw_iload_n rfl dX12_pullsOf_32 ?_
    refine aw_istore_n (ble rfl) dX12_pullsOf_33 ?_
    have e : manP s k = s (5 + 5 * k + 4) - s (5 + 5 * k + 3) / 10 := by rw [manP, if_neg (Int32.not_lt.mpr c)]
    rw [e] at fin
    exact fin
  · refine aw_iconst (v := 0) (by decide) dX12_pullsOf_28 ?_
    refine aw_goto 33 rfl dX12_pullsOf_29 ?_
    refine aw_istore_n (ble rfl) dX12_pullsOf_33 ?_
    have e : manP s k = 0 := by rw [manP, if_pos (Int32.not_le.mp c)]
    rw [e] at fin
    exact fin
theorem k_tiresOf {k : Nat} {x : Int32} (hM : MR μ.2.2) (hs : μ.1 72 = s) (hx : x = nI k) (hk : k < 10) (hQ : Q (some (.int (tires s k))) K0 μ) : AM Sc mX12_tiresOf [.ref 71, .int x] K0 μ n Q := by
  refine AM.of rfl (ble rfl) ?_
  have fin : AW Sc mX12_tiresOf 12 [(0, .ref 71), (1, .int x)] [.int (if isSun s then 3 else 0)] K0 μ n Q := by
    refine aw_istore_n (ble rfl) dX12_tiresOf_12 ?_
    refine aw_aload_n rfl dX12_tiresOf_13 ?_
    refine aw_iload_n rfl dX12_tiresOf_14 ?_
    refine aw_iconst (v := 0) (by decide) dX12_tiresOf_15 ?_
    refine aw_v2 kX12_60 ⟨ble rfl, ble rfl⟩ (rcM) (ble rfl) dX12_tiresOf_16 (g_get hM hs hx (j := 0) rfl hk (by decide) ?_)
    unfold tires at hQ
    show AW Sc mX12_tiresOf 19 _ [.int (s (5 + 5 * k))] K0 μ n Q
    rcases sw15 (s (5 + 5 * k)) with ⟨h, h1, h2, h3, h4, h5⟩ | h | h | h | h | h
    · refine aw_tabOut 77 (h) rfl dX12_tiresOf_19 ?_
      refine aw_iconst (v := 4) (by decide) dX12_tiresOf_77 ?_
      refine aw_iret dX12_tiresOf_78 rfl ?_
      rw [if_neg h1, if_neg h2, if_neg h3, if_neg h4, if_neg h5] at hQ
      exact hQ
    · rw [h] at hQ ⊢
      refine aw_tabIn 52 (by decide) (by decide) rfl rfl dX12_tiresOf_19 ?_
      refine aw_iconst (v := 3) (by decide) dX12_tiresOf_52 ?_
      refine aw_iret dX12_tiresOf_53 rfl ?_
      exact hQ
    · rw [h] at hQ ⊢
      refine aw_tabIn 54 (by decide) (by decide) rfl rfl dX12_tiresOf_19 ?_
      refine aw_iconst (v := 4) (by decide) dX12_tiresOf_54 ?_
      refine aw_iload_n rfl dX12_tiresOf_55 ?_
      refine aw_iadd dX12_tiresOf_56 ?_
      refine aw_iret dX12_tiresOf_57 rfl ?_
      exact hQ
    · rw [h] at hQ ⊢
      refine aw_tabIn 58 (by decide) (by decide) rfl rfl dX12_tiresOf_19 ?_
      refine aw_iconst (v := 2) (by decide) dX12_tiresOf_58 ?_
      refine aw_iret dX12_tiresOf_59 rfl ?_
      exact hQ
    · rw [h] at hQ ⊢
      refine aw_tabIn 60 (by decide) (by decide) rfl rfl dX12_tiresOf_19 ?_
      refine aw_aload_n rfl dX12_tiresOf_60 ?_
      refine aw_v0 kX12_64 ⟨ble rfl, ble rfl⟩ (rcM) (ble rfl) dX12_tiresOf_61 (k_isSunday hM hs ?_)
      refine aw_zeq 71 rfl dX12_tiresOf_64 (fun c => ?_) (fun c => ?_)
      · rw [c] at hQ
        refine aw_iconst (v := 3) (by decide) dX12_tiresOf_71 ?_
        refine aw_iret dX12_tiresOf_72 rfl ?_
        exact hQ
      · rw [c] at hQ
        refine aw_iconst (v := 0) (by decide) dX12_tiresOf_67 ?_
        refine aw_goto 72 rfl dX12_tiresOf_68 ?_
        refine aw_iret dX12_tiresOf_72 rfl ?_
        exact hQ
    · rw [h] at hQ ⊢
      refine aw_tabIn 73 (by decide) (by decide) rfl rfl dX12_tiresOf_19 ?_
      refine aw_iconst (v := 2) (by decide) dX12_tiresOf_73 ?_
      refine aw_iload_n rfl dX12_tiresOf_74 ?_
      refine aw_iadd dX12_tiresOf_75 ?_
      refine aw_iret dX12_tiresOf_76 rfl ?_
      exact hQ
  refine aw_aload_n rfl dX12_tiresOf_0 ?_
  refine aw_v0 kX12_64 ⟨ble rfl, ble rfl⟩ (rcM) (ble rfl) dX12_tiresOf_1 (k_isSunday hM hs ?_)
  refine aw_zeq 11 rfl dX12_tiresOf_4 (fun c => ?_) (fun c => ?_)
  · rw [c] at fin
    refine aw_iconst (v := 0) (by decide) dX12_tiresOf_11 ?_
    exact fin
  · rw [c] at fin
    refine aw_iconst (v := 3) (by decide) dX12_tiresOf_7 ?_
    refine aw_goto 12 rfl dX12_tiresOf_8 ?_
    exact fin
end Mod2
