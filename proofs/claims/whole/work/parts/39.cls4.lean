/-! THE CLASS, 4: what a green tells -/
def GS (r : Nat → Nat → Option Nat) (g : Nat) : Prop := r g 5 = some (g + 1) ∧ r g 6 = some (g + 2) ∧ (∀ k, k < 6 → r (g + 1) k = some (g + 3 + k)) ∧ ∀ i, i < 10 → r (g + 2) i = some (g + 9 + i)
/-- green g holds the row s -/
def GA (μ : Mem) (g : Nat) (s : Nat → Int32) : Prop := GS μ.2.2 g ∧ GH μ g s ∧ ∀ i, i < mny s → FP (μ.1 (g + 9 + i)) s i ∧ KR μ.2.2 (g + 9 + i) s i
theorem GA.sz {μ : Mem} {g : Nat} {s : Nat → Int32} (h : GA μ g s) (hW : WFs s) : μ.1 g 4 = nI (mny s) := h.2.1.2.2.2.2.trans hW.1
theorem GA.pe {μ : Mem} {g i : Nat} {s : Nat → Int32} (h : GA μ g s) (hi : i < 10) : μ.2.2 (g + 2) i = some (g + 9 + i) := h.1.2.2.2 i hi
section Cls4
variable {Sc : SCR} {μ μ0 : Mem} {n : Nat × Nat} {Q : PQ} {s : Nat → Int32} {g q i r ci : Nat} {x y : Int32}
theorem has_t {m : Nat} (h4 : s 4 = nI m) (hm : m ≤ 10) : in1 x 0 (s 4 - 1) = (decide (¬ x < 0) && decide (x < nI m)) := by
  unfold in1
  rw [h4]
  rw [← Bool.decide_and, ← Bool.decide_and]
  refine decide_eq_decide.mpr ?_
  have l1 : (0 : Int32) ≤ x ↔ ¬ x < 0 := Int32.not_lt.symm
  have l2 : x ≤ nI m - 1 ↔ x < nI m := by
    rw [fa_le, fa_lt, fb_subI (by rw [nI_toInt (by omega)]; show (-2147483648 : Int) ≤ (m : Int) - 1; omega) (by rw [nI_toInt (by omega)]; show (m : Int) - 1 < (2147483648 : Int); omega), nI_toInt (by omega)]
    show x.toInt ≤ (m : Int) - 1 ↔ _
    omega
  rw [l1, l2]
theorem c_has (hg : gOk g) (h : GA μ g s) (hW : WFs s) (hQ : Q (some (.int (bI (in1 x 0 (s 4 - 1))))) K0 μ) : AM Sc mX2_has [.ref g, .int x] K0 μ n Q := by
  refine AM.of rfl (ble rfl) ?_
  rw [has_t hW.1 hW.2.1] at hQ
  have no : (decide (¬ x < 0) && decide (x < nI (mny s))) = false → AW Sc mX2_has 16 [(0, .ref g), (1, .int x)] [] K0 μ n Q := by
    intro e
    rw [e] at hQ
    refine aw_iconst (v := 0) (by decide) dX2_has_16 ?_
    exact aw_zret (b := false) rfl dX2_has_17 rfl hQ
  refine aw_iload_n rfl dX2_has_0 ?_
  refine aw_if_lt 16 rfl dX2_has_1 (fun c => ?_) (fun c => ?_)
  · exact no (by rw [decide_eq_false (fun z => z c)]; rfl)
  · refine aw_iload_n rfl dX2_has_4 ?_
    refine aw_aload_n rfl dX2_has_5 ?_
    refine aw_getI gX2_57_2 (kG hg) rfl dX2_has_6 ?_
    rw [h.sz hW]
    refine aw_icmp_ge 16 rfl dX2_has_9 (fun c2 => ?_) (fun c2 => ?_)
    · exact no (by rw [decide_eq_false (Int32.not_lt.mpr c2), Bool.and_false])
    · rw [decide_eq_true c, decide_eq_true (Int32.not_le.mp c2)] at hQ
      refine aw_iconst (v := 1) (by decide) dX2_has_12 ?_
      refine aw_goto 17 rfl dX2_has_13 ?_
      exact aw_zret (b := true) rfl dX2_has_17 rfl hQ
theorem c_isFull (hg : gOk g) (h : GA μ g s) (hW : WFs s) (hQ : Q (some (.int (bI (decide (s 4 = 10))))) K0 μ) : AM Sc mX2_isFull [.ref g] K0 μ n Q := by
  refine AM.of rfl (ble rfl) ?_
  have hm := hW.2.1
  have h4 := hW.1
  refine aw_aload_n rfl dX2_isFull_0 ?_
  refine aw_getI gX2_57_2 (kG hg) rfl dX2_isFull_1 ?_
  refine aw_bipush (v := 10) (by decide) dX2_isFull_4 ?_
  rw [h.sz hW]
  refine aw_icmp_lt 13 rfl dX2_isFull_6 (fun c => ?_) (fun c => ?_)
  · rw [decide_eq_false] at hQ
    · refine aw_iconst (v := 0) (by decide) dX2_isFull_13 ?_
      exact aw_zret (b := false) rfl dX2_isFull_14 rfl hQ
    · intro z
      rw [h4] at z
      rw [z] at c
      exact absurd c (by decide)
  · have e : mny s = 10 := by
      have c : ¬ nI (mny s) < nI 10 := c
      have : ¬ mny s < 10 := fun z => c (nI_lt z (by decide))
      omega
    rw [decide_eq_true (by rw [h4, e]; rfl)] at hQ
    refine aw_iconst (v := 1) (by decide) dX2_isFull_9 ?_
    refine aw_goto 14 rfl dX2_isFull_10 ?_
    exact aw_zret (b := true) rfl dX2_isFull_14 rfl hQ
theorem c_sideAhead (hg : gOk g) (h : GA μ g s) (hQ : Q (some (.int (aheadN s))) K0 μ) : AM Sc mX2_sideAhead [.ref g] K0 μ n Q := by
  refine AM.of rfl (ble rfl) ?_
  unfold aheadN at hQ
  have h1 := h.2.1.2.2.1
  refine aw_aload_n rfl dX2_sideAhead_0 ?_
  refine aw_getI gX2_54_2 (kG hg) rfl dX2_sideAhead_1 ?_
  rw [h1]
  refine aw_if_ne 9 rfl dX2_sideAhead_4 (fun c => ?_) (fun c => ?_)
  · refine aw_aload_n rfl dX2_sideAhead_9 ?_
    refine aw_getI gX2_54_2 (kG hg) rfl dX2_sideAhead_10 ?_
    rw [h1]
    refine aw_if_ge 20 rfl dX2_sideAhead_13 (fun c2 => ?_) (fun c2 => ?_)
    · rw [if_neg (Int32.not_lt.mpr c2), if_pos (Int32.lt_of_le_of_ne c2 (fun z => c z.symm))] at hQ
      refine aw_iconst (v := 1) (by decide) dX2_sideAhead_20 ?_
      refine aw_iret dX2_sideAhead_21 rfl ?_
      exact hQ
    · rw [if_pos (Int32.not_le.mp c2)] at hQ
      refine aw_iconst (v := 0) (by decide) dX2_sideAhead_16 ?_
      refine aw_goto 21 rfl dX2_sideAhead_17 ?_
      refine aw_iret dX2_sideAhead_21 rfl ?_
      exact hQ
  · rw [c, if_neg (by decide), if_neg (by decide)] at hQ
    refine aw_iconst (v := (-1)) (by decide) dX2_sideAhead_7 ?_
    refine aw_iret dX2_sideAhead_8 rfl ?_
    exact hQ
theorem c_setOn (hg : gOk g) (h : GA μ g s) (hW : WFs s) (hQ : Q (some (.int (ropeS s (mny s)))) K0 μ) : AM Sc mX2_setOn [.ref g] K0 μ n Q := by
  refine AM.of rfl (ble rfl) ?_
  have hm := hW.2.1
  have loop : ∀ j i, i + j = mny s → AW Sc mX2_setOn 4 [(0, .ref g), (1, .int (ropeS s i)), (2, .int (nI i))] [] K0 μ n Q := by
    intro j
    induction j with
    | zero =>
      intro i hi
      refine aw_iload_n rfl dX2_setOn_4 ?_
      refine aw_aload_n rfl dX2_setOn_5 ?_
      refine aw_getI gX2_57_2 (kG hg) rfl dX2_setOn_6 ?_
      rw [h.sz hW]
      refine aw_icmp_ge 32 rfl dX2_setOn_9 (fun _ => ?_) (fun c_ => absurd (nI_le (by omega) (by omega)) c_)
      obtain rfl : i = mny s := by omega
      refine aw_iload_n rfl dX2_setOn_32 ?_
      refine aw_iret dX2_setOn_33 rfl ?_
      exact hQ
    | succ j ih =>
      intro i hi
      refine aw_iload_n rfl dX2_setOn_4 ?_
      refine aw_aload_n rfl dX2_setOn_5 ?_
      refine aw_getI gX2_57_2 (kG hg) rfl dX2_setOn_6 ?_
      rw [h.sz hW]
      refine aw_icmp_ge 32 rfl dX2_setOn_9 (fun c_ => absurd c_ (nI_ge (by omega) (by omega))) (fun _ => ?_)
      refine aw_iload_n rfl dX2_setOn_12 ?_
      refine aw_aload_n rfl dX2_setOn_13 ?_
      refine aw_getR gX2_26_2 (kG hg) rfl (h.1.2.1) dX2_setOn_14 ?_
      refine aw_iload_n rfl dX2_setOn_17 ?_
      refine aw_aaloadN (kGp hg) (fun _ => rfl) rfl (by omega) (by decide) (h.pe (by omega)) dX2_setOn_18 ?_
      refine aw_getI gX2_79_4 (kP hg (i := i) (by omega)) rfl dX2_setOn_19 ?_
      refine aw_iload_n rfl dX2_setOn_22 ?_
      refine aw_ishl dX2_setOn_23 ?_
      refine aw_ior dX2_setOn_24 ?_
      refine aw_istore_n (ble rfl) dX2_setOn_25 ?_
      refine aw_iinc rfl (v := 1) (by decide) (ble rfl) dX2_setOn_26 ?_
      refine aw_goto 4 rfl dX2_setOn_29 ?_
      rw [nI_1, (h.2.2 i (by omega)).1.2.1]
      exact ih (i + 1) (by omega)
  refine aw_iconst (v := 0) (by decide) dX2_setOn_0 ?_
  refine aw_istore_n (ble rfl) dX2_setOn_1 ?_
  refine aw_iconst (v := 0) (by decide) dX2_setOn_2 ?_
  refine aw_istore_n (ble rfl) dX2_setOn_3 ?_
  exact loop (mny s) 0 (by omega)
theorem c_tiredTogether (hg : gOk g) (h : GA μ g s) (hW : WFs s) (hQ : Q (some (.int (tirS s (mny s)))) K0 μ) : AM Sc mX2_tiredTogether [.ref g] K0 μ n Q := by
  refine AM.of rfl (ble rfl) ?_
  have hm := hW.2.1
  have loop : ∀ j i, i + j = mny s → AW Sc mX2_tiredTogether 4 [(0, .ref g), (1, .int (tirS s i)), (2, .int (nI i))] [] K0 μ n Q := by
    intro j
    induction j with
    | zero =>
      intro i hi
      refine aw_iload_n rfl dX2_tiredTogether_4 ?_
      refine aw_aload_n rfl dX2_tiredTogether_5 ?_
      refine aw_getI gX2_57_2 (kG hg) rfl dX2_tiredTogether_6 ?_
      rw [h.sz hW]
      refine aw_icmp_ge 30 rfl dX2_tiredTogether_9 (fun _ => ?_) (fun c_ => absurd (nI_le (by omega) (by omega)) c_)
      obtain rfl : i = mny s := by omega
      refine aw_iload_n rfl dX2_tiredTogether_30 ?_
      refine aw_iret dX2_tiredTogether_31 rfl ?_
      exact hQ
    | succ j ih =>
      intro i hi
      refine aw_iload_n rfl dX2_tiredTogether_4 ?_
      refine aw_aload_n rfl dX2_tiredTogether_5 ?_
      refine aw_getI gX2_57_2 (kG hg) rfl dX2_tiredTogether_6 ?_
      rw [h.sz hW]
      refine aw_icmp_ge 30 rfl dX2_tiredTogether_9 (fun c_ => absurd c_ (nI_ge (by omega) (by omega))) (fun _ => ?_)
      refine aw_iload_n rfl dX2_tiredTogether_12 ?_
      refine aw_aload_n rfl dX2_tiredTogether_13 ?_
      refine aw_getR gX2_26_2 (kG hg) rfl (h.1.2.1) dX2_tiredTogether_14 ?_
      refine aw_iload_n rfl dX2_tiredTogether_17 ?_
      refine aw_aaloadN (kGp hg) (fun _ => rfl) rfl (by omega) (by decide) (h.pe (by omega)) dX2_tiredTogether_18 ?_
      refine aw_getI gX2_82_4 (kP hg (i := i) (by omega)) rfl dX2_tiredTogether_19 ?_
      refine aw_iadd dX2_tiredTogether_22 ?_
      refine aw_istore_n (ble rfl) dX2_tiredTogether_23 ?_
      refine aw_iinc rfl (v := 1) (by decide) (ble rfl) dX2_tiredTogether_24 ?_
      refine aw_goto 4 rfl dX2_tiredTogether_27 ?_
      rw [nI_1, (h.2.2 i (by omega)).1.2.2.1]
      exact ih (i + 1) (by omega)
  refine aw_iconst (v := 0) (by decide) dX2_tiredTogether_0 ?_
  refine aw_istore_n (ble rfl) dX2_tiredTogether_1 ?_
  refine aw_iconst (v := 0) (by decide) dX2_tiredTogether_2 ?_
  refine aw_istore_n (ble rfl) dX2_tiredTogether_3 ?_
  exact loop (mny s) 0 (by omega)
theorem c_sizeOf (hg : gOk g) (h : GA μ g s) (hW : WFs s) (hQ : Q (some (.int (cntS s (mny s)))) K0 μ) : AM Sc mX2_sizeOf [.ref g, .int 0] K0 μ n Q := by
  refine AM.of rfl (ble rfl) ?_
  have hm := hW.2.1
  have loop : ∀ j i, i + j = mny s → AW Sc mX2_sizeOf 4 [(0, .ref g), (1, .int 0), (2, .int (cntS s i)), (3, .int (nI i))] [] K0 μ n Q := by
    intro j
    induction j with
    | zero =>
      intro i hi
      refine aw_iload_n rfl dX2_sizeOf_4 ?_
      refine aw_aload_n rfl dX2_sizeOf_5 ?_
      refine aw_getI gX2_57_2 (kG hg) rfl dX2_sizeOf_6 ?_
      rw [h.sz hW]
      refine aw_icmp_ge 34 rfl dX2_sizeOf_9 (fun _ => ?_) (fun c_ => absurd (nI_le (by omega) (by omega)) c_)
      obtain rfl : i = mny s := by omega
      refine aw_iload_n rfl dX2_sizeOf_34 ?_
      refine aw_iret dX2_sizeOf_35 rfl ?_
      exact hQ
    | succ j ih =>
      intro i hi
      have ih' := ih (i + 1) (by omega)
      rw [cntS] at ih'
      refine aw_iload_n rfl dX2_sizeOf_4 ?_
      refine aw_aload_n rfl dX2_sizeOf_5 ?_
      refine aw_getI gX2_57_2 (kG hg) rfl dX2_sizeOf_6 ?_
      rw [h.sz hW]
      refine aw_icmp_ge 34 rfl dX2_sizeOf_9 (fun c_ => absurd c_ (nI_ge (by omega) (by omega))) (fun _ => ?_)
      refine aw_aload_n rfl dX2_sizeOf_12 ?_
      refine aw_getR gX2_26_2 (kG hg) rfl (h.1.2.1) dX2_sizeOf_13 ?_
      refine aw_iload_n rfl dX2_sizeOf_16 ?_
      refine aw_aaloadN (kGp hg) (fun _ => rfl) rfl (by omega) (by decide) (h.pe (by omega)) dX2_sizeOf_17 ?_
      refine aw_getI gX2_76_4 (kP hg (i := i) (by omega)) rfl dX2_sizeOf_18 ?_
      refine aw_iload_n rfl dX2_sizeOf_21 ?_
      rw [(h.2.2 i (by omega)).1.1]
      refine aw_icmp_ne 28 rfl dX2_sizeOf_22 (fun c => ?_) (fun c => ?_)
      · rw [if_neg c, Int32.add_zero] at ih'
        refine aw_iinc rfl (v := 1) (by decide) (ble rfl) dX2_sizeOf_28 ?_
        refine aw_goto 4 rfl dX2_sizeOf_31 ?_
        rw [nI_1]
        exact ih'
      · rw [if_pos c] at ih'
        refine aw_iinc rfl (v := 1) (by decide) (ble rfl) dX2_sizeOf_25 ?_
        refine aw_iinc rfl (v := 1) (by decide) (ble rfl) dX2_sizeOf_28 ?_
        refine aw_goto 4 rfl dX2_sizeOf_31 ?_
        rw [nI_1]
        exact ih'
  refine aw_iconst (v := 0) (by decide) dX2_sizeOf_0 ?_
  refine aw_istore_n (ble rfl) dX2_sizeOf_1 ?_
  refine aw_iconst (v := 0) (by decide) dX2_sizeOf_2 ?_
  refine aw_istore_n (ble rfl) dX2_sizeOf_3 ?_
  exact loop (mny s) 0 (by omega)
theorem c_setOff (hg : gOk g) (h : GA μ g s) (hW : WFs s) (hQ : Q (some (.int (offS s x (mny s)))) K0 μ) : AM Sc mX2_setOff [.ref g, .int x] K0 μ n Q := by
  refine AM.of rfl (ble rfl) ?_
  have hm := hW.2.1
  have loop : ∀ j i, i + j = mny s → AW Sc mX2_setOff 4 [(0, .ref g), (1, .int x), (2, .int (offS s x i)), (3, .int (nI i))] [] K0 μ n Q := by
    intro j
    induction j with
    | zero =>
      intro i hi
      refine aw_iload_n rfl dX2_setOff_4 ?_
      refine aw_aload_n rfl dX2_setOff_5 ?_
      refine aw_getI gX2_57_2 (kG hg) rfl dX2_setOff_6 ?_
      rw [h.sz hW]
      refine aw_icmp_ge 49 rfl dX2_setOff_9 (fun _ => ?_) (fun c_ => absurd (nI_le (by omega) (by omega)) c_)
      obtain rfl : i = mny s := by omega
      refine aw_iload_n rfl dX2_setOff_49 ?_
      refine aw_iret dX2_setOff_50 rfl ?_
      exact hQ
    | succ j ih =>
      intro i hi
      have ih' := ih (i + 1) (by omega)
      rw [offS] at ih'
      have skip : ¬ (s (5 + 5 * i + 1) = x ∧ s (5 + 5 * i + 2) = 0) → AW Sc mX2_setOff 43 [(0, .ref g), (1, .int x), (2, .int (offS s x i)), (3, .int (nI i))] [] K0 μ n Q := by
        intro hc
        rw [if_neg hc, Int32.or_zero] at ih'
        refine aw_iinc rfl (v := 1) (by decide) (ble rfl) dX2_setOff_43 ?_
        refine aw_goto 4 rfl dX2_setOff_46 ?_
        rw [nI_1]
        exact ih'
      refine aw_iload_n rfl dX2_setOff_4 ?_
      refine aw_aload_n rfl dX2_setOff_5 ?_
      refine aw_getI gX2_57_2 (kG hg) rfl dX2_setOff_6 ?_
      rw [h.sz hW]
      refine aw_icmp_ge 49 rfl dX2_setOff_9 (fun c_ => absurd c_ (nI_ge (by omega) (by omega))) (fun _ => ?_)
      refine aw_aload_n rfl dX2_setOff_12 ?_
      refine aw_getR gX2_26_2 (kG hg) rfl (h.1.2.1) dX2_setOff_13 ?_
      refine aw_iload_n rfl dX2_setOff_16 ?_
      refine aw_aaloadN (kGp hg) (fun _ => rfl) rfl (by omega) (by decide) (h.pe (by omega)) dX2_setOff_17 ?_
      refine aw_getI gX2_76_4 (kP hg (i := i) (by omega)) rfl dX2_setOff_18 ?_
      refine aw_iload_n rfl dX2_setOff_21 ?_
      rw [(h.2.2 i (by omega)).1.1]
      refine aw_icmp_ne 43 rfl dX2_setOff_22 (fun c => ?_) (fun c => ?_)
      · exact skip (fun z => c z.1)
      · refine aw_aload_n rfl dX2_setOff_25 ?_
        refine aw_getR gX2_26_2 (kG hg) rfl (h.1.2.1) dX2_setOff_26 ?_
        refine aw_iload_n rfl dX2_setOff_29 ?_
        refine aw_aaloadN (kGp hg) (fun _ => rfl) rfl (by omega) (by decide) (h.pe (by omega)) dX2_setOff_30 ?_
        refine aw_getI gX2_79_4 (kP hg (i := i) (by omega)) rfl dX2_setOff_31 ?_
        rw [(h.2.2 i (by omega)).1.2.1]
        refine aw_if_ne 43 rfl dX2_setOff_34 (fun c2 => ?_) (fun c2 => ?_)
        · exact skip (fun z => c2 z.2)
        · rw [if_pos ⟨c, c2⟩] at ih'
          refine aw_iload_n rfl dX2_setOff_37 ?_
          refine aw_iconst (v := 1) (by decide) dX2_setOff_38 ?_
          refine aw_iload_n rfl dX2_setOff_39 ?_
          refine aw_ishl dX2_setOff_40 ?_
          refine aw_ior dX2_setOff_41 ?_
          refine aw_istore_n (ble rfl) dX2_setOff_42 ?_
          refine aw_iinc rfl (v := 1) (by decide) (ble rfl) dX2_setOff_43 ?_
          refine aw_goto 4 rfl dX2_setOff_46 ?_
          rw [nI_1]
          exact ih'
  refine aw_iconst (v := 0) (by decide) dX2_setOff_0 ?_
  refine aw_istore_n (ble rfl) dX2_setOff_1 ?_
  refine aw_iconst (v := 0) (by decide) dX2_setOff_2 ?_
  refine aw_istore_n (ble rfl) dX2_setOff_3 ?_
  exact loop (mny s) 0 (by omega)
theorem c_pullOf (hg : gOk g) (h : GA μ g s) (hW : WFs s) (hQ : Q (some (.int (sideP s x (mny s)))) K0 μ) : AM Sc mX2_pullOf [.ref g, .int x] K0 μ n Q := by
  refine AM.of rfl (ble rfl) ?_
  have hm := hW.2.1
  have loop : ∀ j i, i + j = mny s → AW Sc mX2_pullOf 4 [(0, .ref g), (1, .int x), (2, .int (sideP s x i)), (3, .int (nI i))] [] K0 μ n Q := by
    intro j
    induction j with
    | zero =>
      intro i hi
      refine aw_iload_n rfl dX2_pullOf_4 ?_
      refine aw_aload_n rfl dX2_pullOf_5 ?_
      refine aw_getI gX2_57_2 (kG hg) rfl dX2_pullOf_6 ?_
      rw [h.sz hW]
      refine aw_icmp_ge 58 rfl dX2_pullOf_9 (fun _ => ?_) (fun c_ => absurd (nI_le (by omega) (by omega)) c_)
      obtain rfl : i = mny s := by omega
      refine aw_iload_n rfl dX2_pullOf_58 ?_
      refine aw_iret dX2_pullOf_59 rfl ?_
      exact hQ
    | succ j ih =>
      intro i hi
      have ih' := ih (i + 1) (by omega)
      rw [sideP] at ih'
      obtain ⟨hf, jj, k, hj, hk6, hsk, hrk⟩ := h.2.2 i (by omega)
      obtain ⟨w0, w1, w2, w3, w4⟩ := hW.2.2.2.2 i (by omega)
      have skip : ¬ (s (5 + 5 * i + 1) = x ∧ s (5 + 5 * i + 2) = 1) → AW Sc mX2_pullOf 52 [(0, .ref g), (1, .int x), (2, .int (sideP s x i)), (3, .int (nI i)), (4, .ref (g + 9 + i))] [] K0 μ n Q := by
        intro hc
        rw [if_neg hc, Int32.add_zero] at ih'
        refine aw_iinc rfl (v := 1) (by decide) (ble rfl) dX2_pullOf_52 ?_
        refine aw_goto 4 rfl dX2_pullOf_55 ?_
        rw [nI_1]
        refine aw_keep [0, 1, 2, 3] ?_
        exact ih'
      refine aw_iload_n rfl dX2_pullOf_4 ?_
      refine aw_aload_n rfl dX2_pullOf_5 ?_
      refine aw_getI gX2_57_2 (kG hg) rfl dX2_pullOf_6 ?_
      rw [h.sz hW]
      refine aw_icmp_ge 58 rfl dX2_pullOf_9 (fun c_ => absurd c_ (nI_ge (by omega) (by omega))) (fun _ => ?_)
      refine aw_aload_n rfl dX2_pullOf_12 ?_
      refine aw_getR gX2_26_2 (kG hg) rfl (h.1.2.1) dX2_pullOf_13 ?_
      refine aw_iload_n rfl dX2_pullOf_16 ?_
      refine aw_aaloadN (kGp hg) (fun _ => rfl) rfl (by omega) (by decide) (h.pe (by omega)) dX2_pullOf_17 ?_
      refine aw_astore (ble rfl) dX2_pullOf_18 ?_
      refine aw_aload rfl dX2_pullOf_20 ?_
      refine aw_getI gX2_79_4 (kP hg (i := i) (by omega)) rfl dX2_pullOf_22 ?_
      refine aw_iconst (v := 1) (by decide) dX2_pullOf_25 ?_
      rw [hf.2.1]
      refine aw_icmp_ne 52 rfl dX2_pullOf_26 (fun c => ?_) (fun c => ?_)
      · exact skip (fun z => c z.2)
      · refine aw_aload rfl dX2_pullOf_29 ?_
        refine aw_getI gX2_76_4 (kP hg (i := i) (by omega)) rfl dX2_pullOf_31 ?_
        refine aw_iload_n rfl dX2_pullOf_34 ?_
        rw [hf.1]
        refine aw_icmp_ne 52 rfl dX2_pullOf_35 (fun c2 => ?_) (fun c2 => ?_)
        · exact skip (fun z => c2 z.1)
        · rw [if_pos ⟨c2, c⟩] at ih'
          refine aw_iload_n rfl dX2_pullOf_38 ?_
          refine aw_aload rfl dX2_pullOf_39 ?_
          refine aw_getR gX2_72_4 (kP hg (i := i) (by omega)) rfl (hrk) dX2_pullOf_41 ?_
          refine aw_aload rfl dX2_pullOf_44 ?_
          refine aw_aload_n rfl dX2_pullOf_46 ?_
          refine v_pullG hj hk6 hW.2.2.1 w1 hg h.2.1 (kP hg (i := i) (by omega)) hf hsk rfl ⟨⟨ble rfl, ble rfl⟩, ⟨ble rfl, ble rfl⟩, ⟨ble rfl, ble rfl⟩, ⟨ble rfl, ble rfl⟩, ⟨ble rfl, ble rfl⟩, ⟨ble rfl, ble rfl⟩⟩ (ble rfl) dX2_pullOf_47 ?_
          refine aw_iadd dX2_pullOf_50 ?_
          refine aw_istore_n (ble rfl) dX2_pullOf_51 ?_
          refine aw_iinc rfl (v := 1) (by decide) (ble rfl) dX2_pullOf_52 ?_
          refine aw_goto 4 rfl dX2_pullOf_55 ?_
          rw [nI_1]
          refine aw_keep [0, 1, 2, 3] ?_
          exact ih'
  refine aw_iconst (v := 0) (by decide) dX2_pullOf_0 ?_
  refine aw_istore_n (ble rfl) dX2_pullOf_1 ?_
  refine aw_iconst (v := 0) (by decide) dX2_pullOf_2 ?_
  refine aw_istore_n (ble rfl) dX2_pullOf_3 ?_
  exact loop (mny s) 0 (by omega)
/-- what a set pulls: sumF from 0 -/
theorem c_pullOfSet (hg : gOk g) (h : GA μ g s) (hW : WFs s) (hQ : Q (some (.int (sumF s x 0 (mny s)))) K0 μ) : AM Sc mX2_pullOfSet [.ref g, .int x] K0 μ n Q := by
  refine AM.of rfl (ble rfl) ?_
  have hm := hW.2.1
  have loop : ∀ j i, i + j = mny s → AW Sc mX2_pullOfSet 4 [(0, .ref g), (1, .int x), (2, .int (sumF s x 0 i)), (3, .int (nI i))] [] K0 μ n Q := by
    intro j
    induction j with
    | zero =>
      intro i hi
      refine aw_iload_n rfl dX2_pullOfSet_4 ?_
      refine aw_aload_n rfl dX2_pullOfSet_5 ?_
      refine aw_getI gX2_57_2 (kG hg) rfl dX2_pullOfSet_6 ?_
      rw [h.sz hW]
      refine aw_icmp_ge 49 rfl dX2_pullOfSet_9 (fun _ => ?_) (fun c_ => absurd (nI_le (by omega) (by omega)) c_)
      obtain rfl : i = mny s := by omega
      refine aw_iload_n rfl dX2_pullOfSet_49 ?_
      refine aw_iret dX2_pullOfSet_50 rfl ?_
      exact hQ
    | succ j ih =>
      intro i hi
      have ih' := ih (i + 1) (by omega)
      rw [sumF] at ih'
      obtain ⟨hf, jj, k, hj, hk6, hsk, hrk⟩ := h.2.2 i (by omega)
      obtain ⟨w0, w1, w2, w3, w4⟩ := hW.2.2.2.2 i (by omega)
      refine aw_iload_n rfl dX2_pullOfSet_4 ?_
      refine aw_aload_n rfl dX2_pullOfSet_5 ?_
      refine aw_getI gX2_57_2 (kG hg) rfl dX2_pullOfSet_6 ?_
      rw [h.sz hW]
      refine aw_icmp_ge 49 rfl dX2_pullOfSet_9 (fun c_ => absurd c_ (nI_ge (by omega) (by omega))) (fun _ => ?_)
      refine aw_iload_n rfl dX2_pullOfSet_12 ?_
      refine aw_iload_n rfl dX2_pullOfSet_13 ?_
      refine aw_ishr dX2_pullOfSet_14 ?_
      refine aw_iconst (v := 1) (by decide) dX2_pullOfSet_15 ?_
      refine aw_iand dX2_pullOfSet_16 ?_
      refine aw_iconst (v := 1) (by decide) dX2_pullOfSet_17 ?_
      refine aw_icmp_ne 43 rfl dX2_pullOfSet_18 (fun c => ?_) (fun c => ?_)
      · rw [if_neg c, Int32.add_zero] at ih'
        refine aw_iinc rfl (v := 1) (by decide) (ble rfl) dX2_pullOfSet_43 ?_
        refine aw_goto 4 rfl dX2_pullOfSet_46 ?_
        rw [nI_1]
        exact ih'
      · rw [if_pos c] at ih'
        refine aw_iload_n rfl dX2_pullOfSet_21 ?_
        refine aw_aload_n rfl dX2_pullOfSet_22 ?_
        refine aw_getR gX2_26_2 (kG hg) rfl (h.1.2.1) dX2_pullOfSet_23 ?_
        refine aw_iload_n rfl dX2_pullOfSet_26 ?_
        refine aw_aaloadN (kGp hg) (fun _ => rfl) rfl (by omega) (by decide) (h.pe (by omega)) dX2_pullOfSet_27 ?_
        refine aw_getR gX2_72_4 (kP hg (i := i) (by omega)) rfl (hrk) dX2_pullOfSet_28 ?_
        refine aw_aload_n rfl dX2_pullOfSet_31 ?_
        refine aw_getR gX2_26_2 (kG hg) rfl (h.1.2.1) dX2_pullOfSet_32 ?_
        refine aw_iload_n rfl dX2_pullOfSet_35 ?_
        refine aw_aaloadN (kGp hg) (fun _ => rfl) rfl (by omega) (by decide) (h.pe (by omega)) dX2_pullOfSet_36 ?_
        refine aw_aload_n rfl dX2_pullOfSet_37 ?_
        refine v_pullG hj hk6 hW.2.2.1 w1 hg h.2.1 (kP hg (i := i) (by omega)) hf hsk rfl ⟨⟨ble rfl, ble rfl⟩, ⟨ble rfl, ble rfl⟩, ⟨ble rfl, ble rfl⟩, ⟨ble rfl, ble rfl⟩, ⟨ble rfl, ble rfl⟩, ⟨ble rfl, ble rfl⟩⟩ (ble rfl) dX2_pullOfSet_38 ?_
        refine aw_iadd dX2_pullOfSet_41 ?_
        refine aw_istore_n (ble rfl) dX2_pullOfSet_42 ?_
        refine aw_iinc rfl (v := 1) (by decide) (ble rfl) dX2_pullOfSet_43 ?_
        refine aw_goto 4 rfl dX2_pullOfSet_46 ?_
        rw [nI_1]
        exact ih'
  refine aw_iconst (v := 0) (by decide) dX2_pullOfSet_0 ?_
  refine aw_istore_n (ble rfl) dX2_pullOfSet_1 ?_
  refine aw_iconst (v := 0) (by decide) dX2_pullOfSet_2 ?_
  refine aw_istore_n (ble rfl) dX2_pullOfSet_3 ?_
  exact loop (mny s) 0 (by omega)
def ledS (s : Nat → Int32) : Nat → Int32
  | 0 => 0
  | k + 1 => ledS s k + (if s (5 + 5 * k + 2) = 1 then (if s (5 + 5 * k + 1) = 1 then pulls s k else -pulls s k) else 0)
theorem ledS_eq (hW : WFs s) : ∀ k, k ≤ mny s → ledS s k = sideP s 1 k - sideP s 0 k
  | 0, _ => by unfold ledS sideP; decide
  | k + 1, hk => by
    rw [ledS, ledS_eq hW k (by omega), sideP, sideP]
    obtain ⟨w0, w1, w2, w3, w4⟩ := hW.2.2.2.2 k (by omega)
    generalize sideP s 1 k = a
    generalize sideP s 0 k = b
    generalize pulls s k = p
    by_cases c : s (5 + 5 * k + 2) = 1
    · rcases w1 with w1 | w1
      · rw [w1, c, if_pos rfl, if_neg (by decide), if_neg (by decide), if_pos (by decide)]
        rw [Int32.add_zero, ← Int32.sub_eq_add_neg, Int32.sub_eq_add_neg, Int32.sub_eq_add_neg, Int32.sub_eq_add_neg, Int32.neg_add, Int32.add_assoc, Int32.sub_eq_add_neg]
      · rw [w1, c, if_pos rfl, if_pos rfl, if_pos (by decide), if_neg (by decide), Int32.add_zero]
        rw [Int32.sub_eq_add_neg, Int32.sub_eq_add_neg, Int32.add_assoc, Int32.add_comm (-b) p, ← Int32.add_assoc]
    · rw [if_neg c, if_neg (fun z => c z.2), if_neg (fun z => c z.2), Int32.add_zero, Int32.add_zero, Int32.add_zero]
theorem c_leadOfChapel (hg : gOk g) (h : GA μ g s) (hW : WFs s) (hQ : Q (some (.int (sideP s 1 (mny s) - sideP s 0 (mny s)))) K0 μ) : AM Sc mX2_leadOfChapel [.ref g] K0 μ n Q := by
  refine AM.of rfl (ble rfl) ?_
  have hm := hW.2.1
  rw [← ledS_eq hW _ (Nat.le_refl _)] at hQ
  have loop : ∀ j i, i + j = mny s → AW Sc mX2_leadOfChapel 4 [(0, .ref g), (1, .int (ledS s i)), (2, .int (nI i))] [] K0 μ n Q := by
    intro j
    induction j with
    | zero =>
      intro i hi
      refine aw_iload_n rfl dX2_leadOfChapel_4 ?_
      refine aw_aload_n rfl dX2_leadOfChapel_5 ?_
      refine aw_getI gX2_57_2 (kG hg) rfl dX2_leadOfChapel_6 ?_
      rw [h.sz hW]
      refine aw_icmp_ge 63 rfl dX2_leadOfChapel_9 (fun _ => ?_) (fun c_ => absurd (nI_le (by omega) (by omega)) c_)
      obtain rfl : i = mny s := by omega
      refine aw_iload_n rfl dX2_leadOfChapel_63 ?_
      refine aw_iret dX2_leadOfChapel_64 rfl ?_
      exact hQ
    | succ j ih =>
      intro i hi
      have ih' := ih (i + 1) (by omega)
      rw [ledS] at ih'
      obtain ⟨hf, jj, k, hj, hk6, hsk, hrk⟩ := h.2.2 i (by omega)
      obtain ⟨w0, w1, w2, w3, w4⟩ := hW.2.2.2.2 i (by omega)
      refine aw_iload_n rfl dX2_leadOfChapel_4 ?_
      refine aw_aload_n rfl dX2_leadOfChapel_5 ?_
      refine aw_getI gX2_57_2 (kG hg) rfl dX2_leadOfChapel_6 ?_
      rw [h.sz hW]
      refine aw_icmp_ge 63 rfl dX2_leadOfChapel_9 (fun c_ => absurd c_ (nI_ge (by omega) (by omega))) (fun _ => ?_)
      refine aw_aload_n rfl dX2_leadOfChapel_12 ?_
      refine aw_getR gX2_26_2 (kG hg) rfl (h.1.2.1) dX2_leadOfChapel_13 ?_
      refine aw_iload_n rfl dX2_leadOfChapel_16 ?_
      refine aw_aaloadN (kGp hg) (fun _ => rfl) rfl (by omega) (by decide) (h.pe (by omega)) dX2_leadOfChapel_17 ?_
      refine aw_astore_n (ble rfl) dX2_leadOfChapel_18 ?_
      refine aw_aload_n rfl dX2_leadOfChapel_19 ?_
      refine aw_getI gX2_79_4 (kP hg (i := i) (by omega)) rfl dX2_leadOfChapel_20 ?_
      refine aw_iconst (v := 1) (by decide) dX2_leadOfChapel_23 ?_
      rw [hf.2.1]
      refine aw_icmp_ne 57 rfl dX2_leadOfChapel_24 (fun c => ?_) (fun c => ?_)
      · rw [if_neg c, Int32.add_zero] at ih'
        refine aw_iinc rfl (v := 1) (by decide) (ble rfl) dX2_leadOfChapel_57 ?_
        refine aw_goto 4 rfl dX2_leadOfChapel_60 ?_
        rw [nI_1]
        refine aw_keep [0, 1, 2] ?_
        exact ih'
      · rw [if_pos c] at ih'
        refine aw_aload_n rfl dX2_leadOfChapel_27 ?_
        refine aw_getR gX2_72_4 (kP hg (i := i) (by omega)) rfl (hrk) dX2_leadOfChapel_28 ?_
        refine aw_aload_n rfl dX2_leadOfChapel_31 ?_
        refine aw_aload_n rfl dX2_leadOfChapel_32 ?_
        refine v_pullG hj hk6 hW.2.2.1 w1 hg h.2.1 (kP hg (i := i) (by omega)) hf hsk rfl ⟨⟨ble rfl, ble rfl⟩, ⟨ble rfl, ble rfl⟩, ⟨ble rfl, ble rfl⟩, ⟨ble rfl, ble rfl⟩, ⟨ble rfl, ble rfl⟩, ⟨ble rfl, ble rfl⟩⟩ (ble rfl) dX2_leadOfChapel_33 ?_
        refine aw_istore (ble rfl) dX2_leadOfChapel_36 ?_
        refine aw_iload_n rfl dX2_leadOfChapel_38 ?_
        refine aw_aload_n rfl dX2_leadOfChapel_39 ?_
        refine aw_getI gX2_76_4 (kP hg (i := i) (by omega)) rfl dX2_leadOfChapel_40 ?_
        refine aw_iconst (v := 1) (by decide) dX2_leadOfChapel_43 ?_
        rw [hf.1]
        refine aw_icmp_ne 52 rfl dX2_leadOfChapel_44 (fun c2 => ?_) (fun c2 => ?_)
        · rw [if_neg c2] at ih'
          refine aw_iload rfl dX2_leadOfChapel_52 ?_
          refine aw_ineg dX2_leadOfChapel_54 ?_
          refine aw_iadd dX2_leadOfChapel_55 ?_
          refine aw_istore_n (ble rfl) dX2_leadOfChapel_56 ?_
          refine aw_iinc rfl (v := 1) (by decide) (ble rfl) dX2_leadOfChapel_57 ?_
          refine aw_goto 4 rfl dX2_leadOfChapel_60 ?_
          rw [nI_1]
          refine aw_keep [0, 1, 2] ?_
          exact ih'
        · rw [if_pos c2] at ih'
          refine aw_iload rfl dX2_leadOfChapel_47 ?_
          refine aw_goto 55 rfl dX2_leadOfChapel_49 ?_
          refine aw_iadd dX2_leadOfChapel_55 ?_
          refine aw_istore_n (ble rfl) dX2_leadOfChapel_56 ?_
          refine aw_iinc rfl (v := 1) (by decide) (ble rfl) dX2_leadOfChapel_57 ?_
          refine aw_goto 4 rfl dX2_leadOfChapel_60 ?_
          rw [nI_1]
          refine aw_keep [0, 1, 2] ?_
          exact ih'
  refine aw_iconst (v := 0) (by decide) dX2_leadOfChapel_0 ?_
  refine aw_istore_n (ble rfl) dX2_leadOfChapel_1 ?_
  refine aw_iconst (v := 0) (by decide) dX2_leadOfChapel_2 ?_
  refine aw_istore_n (ble rfl) dX2_leadOfChapel_3 ?_
  exact loop (mny s) 0 (by omega)
end Cls4
