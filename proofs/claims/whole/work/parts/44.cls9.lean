/-! THE CLASS, 9: sheets put and held, bits counted -/
def ush (x k : Int32) : Int32 := (x.toUInt32 >>> (k.toUInt32 &&& Int32.toUInt32 31)).toInt32
def bc1 (x : Int32) : Int32 := x - (ush x 1 &&& 1431655765)
def bc2 (x : Int32) : Int32 := (x &&& 858993459) + (ush x 2 &&& 858993459)
def bc3 (x : Int32) : Int32 := (x + ush x 4) &&& 252645135
def bcF (x : Int32) : Int32 := ((bc3 (bc2 (bc1 x)) + ush (bc3 (bc2 (bc1 x))) 8) + ush (bc3 (bc2 (bc1 x)) + ush (bc3 (bc2 (bc1 x))) 8) 16) &&& 63
theorem bc_kern : ∀ a : Nat, a < 1024 → bcF (nI a) = nI (kern 11 a) := by decide +kernel
section Cls9
variable {Sc : SCR} {μ μ0 : Mem} {n : Nat × Nat} {Q : PQ} {s : Nat → Int32} {g o q p i r ci : Nat} {x y : Int32}
theorem c_put {z k : Nat} {v : Int64} (hi : i < 4) (hr : μ.2.2 (63 + 2 * i) 2 = some (64 + 2 * i)) (hz : μ.1 (63 + 2 * i) 1 = nI z) (hzl : z ≤ 40) (hx : x = nI k) (hk : k < z) (hQ : Q none K0 (pJ μ (64 + 2 * i) k (nar (μ.1 (63 + 2 * i) 0) v))) : AM Sc mX6_put [.ref (63 + 2 * i), .int x, .long v] K0 μ n Q := by
  subst hx
  refine AM.of rfl (ble rfl) ?_
  unfold nar at hQ
  refine aw_iload_n rfl dX6_put_0 ?_
  refine aw_if_lt 12 rfl dX6_put_1 (fun c_ => absurd c_ (nI_pos (by omega))) (fun _ => ?_)
  refine aw_iload_n rfl dX6_put_4 ?_
  refine aw_aload_n rfl dX6_put_5 ?_
  refine aw_getI gX6_19_6 (kSh hi) rfl dX6_put_6 ?_
  rw [hz]
  refine aw_icmp_lt 13 rfl dX6_put_9 (fun _ => ?_) (fun c_ => absurd (nI_lt (by omega) (by omega)) c_)
  refine aw_aload_n rfl dX6_put_13 ?_
  refine aw_getI gX6_15_6 (kSh hi) rfl dX6_put_14 ?_
  refine aw_bipush (v := 8) (by decide) dX6_put_17 ?_
  refine aw_icmp_ne 35 rfl dX6_put_19 (fun c => ?_) (fun c => ?_)
  · rw [if_neg c] at hQ
    refine aw_aload_n rfl dX6_put_35 ?_
    refine aw_getI gX6_15_6 (kSh hi) rfl dX6_put_36 ?_
    refine aw_bipush (v := 16) (by decide) dX6_put_39 ?_
    refine aw_icmp_ne 57 rfl dX6_put_41 (fun c2 => ?_) (fun c2 => ?_)
    · rw [if_neg c2] at hQ
      refine aw_aload_n rfl dX6_put_57 ?_
      refine aw_getR gX6_9_6 (kSh hi) rfl (hr) dX6_put_58 ?_
      refine aw_iload_n rfl dX6_put_61 ?_
      refine aw_lload_n rfl dX6_put_62 ?_
      refine aw_lastoreN (kNu hi) rfl (by omega) (by decide) dX6_put_63 ?_
      refine aw_return dX6_put_64 rfl ?_
      exact hQ
    · rw [if_pos c2] at hQ
      refine aw_aload_n rfl dX6_put_44 ?_
      refine aw_getR gX6_9_6 (kSh hi) rfl (hr) dX6_put_45 ?_
      refine aw_iload_n rfl dX6_put_48 ?_
      refine aw_lload_n rfl dX6_put_49 ?_
      refine aw_l2i dX6_put_50 ?_
      refine aw_i2s dX6_put_51 ?_
      refine aw_i2l dX6_put_52 ?_
      refine aw_lastoreN (kNu hi) rfl (by omega) (by decide) dX6_put_53 ?_
      refine aw_goto 64 rfl dX6_put_54 ?_
      refine aw_return dX6_put_64 rfl ?_
      exact hQ
  · rw [if_pos c] at hQ
    refine aw_aload_n rfl dX6_put_22 ?_
    refine aw_getR gX6_9_6 (kSh hi) rfl (hr) dX6_put_23 ?_
    refine aw_iload_n rfl dX6_put_26 ?_
    refine aw_lload_n rfl dX6_put_27 ?_
    refine aw_l2i dX6_put_28 ?_
    refine aw_i2b dX6_put_29 ?_
    refine aw_i2l dX6_put_30 ?_
    refine aw_lastoreN (kNu hi) rfl (by omega) (by decide) dX6_put_31 ?_
    refine aw_goto 64 rfl dX6_put_32 ?_
    refine aw_return dX6_put_64 rfl ?_
    exact hQ
theorem c_holds {a t : Int32} {z : Nat} (hi : i < 4) (hz : μ.1 (63 + 2 * i) 1 = nI z) (hzl : z ≤ 40) (hQ : Q (some (.int (bI (!decide (a < 0) && (!decide (t < 0) && !decide (nI z - t < a)))))) K0 μ) : AM Sc mX6_holds [.ref (63 + 2 * i), .int a, .int t] K0 μ n Q := by
  refine AM.of rfl (ble rfl) ?_
  have no : (!decide (a < 0) && (!decide (t < 0) && !decide (nI z - t < a))) = false → AW Sc mX6_holds 30 [(0, .ref (63 + 2 * i)), (1, .int a), (2, .int t)] [] K0 μ n Q := by
    intro e
    rw [e] at hQ
    refine aw_iconst (v := 0) (by decide) dX6_holds_30 ?_
    exact aw_zret (b := false) rfl dX6_holds_31 rfl hQ
  refine aw_iload_n rfl dX6_holds_0 ?_
  refine aw_if_lt 30 rfl dX6_holds_1 (fun c1 => ?_) (fun c1 => ?_)
  · exact no (by rw [decide_eq_true c1]; rfl)
  · refine aw_iload_n rfl dX6_holds_4 ?_
    refine aw_if_lt 30 rfl dX6_holds_5 (fun c2 => ?_) (fun c2 => ?_)
    · exact no (by rw [decide_eq_true c2]; simp)
    · have t0 : 0 ≤ t.toInt := by
        have := (fa_le _ _).mp (Int32.not_lt.mp c2)
        exact this
      have a0 : 0 ≤ a.toInt := by
        have := (fa_le _ _).mp (Int32.not_lt.mp c1)
        exact this
      have t1 := (fb_rng t).2
      have hzi : (nI z).toInt = z := nI_toInt (by omega)
      have es : (nI z - t).toInt = z - t.toInt := by rw [fb_subI (by omega) (by omega), hzi]
      refine aw_iload_n rfl dX6_holds_8 ?_
      refine aw_aload_n rfl dX6_holds_9 ?_
      refine aw_getI gX6_19_6 (kSh hi) rfl dX6_holds_10 ?_
      rw [hz]
      refine aw_icmp_gt 30 rfl dX6_holds_13 (fun c3 => ?_) (fun c3 => ?_)
      · refine no ?_
        have c3 := (fa_lt _ _).mp c3
        rw [hzi] at c3
        rw [decide_eq_true (show nI z - t < a by rw [fa_lt, es]; omega)]
        simp
      · refine aw_iload_n rfl dX6_holds_16 ?_
        refine aw_aload_n rfl dX6_holds_17 ?_
        refine aw_getI gX6_19_6 (kSh hi) rfl dX6_holds_18 ?_
        refine aw_iload_n rfl dX6_holds_21 ?_
        refine aw_isub dX6_holds_22 ?_
        rw [hz]
        refine aw_icmp_gt 30 rfl dX6_holds_23 (fun c4 => ?_) (fun c4 => ?_)
        · exact no (by rw [decide_eq_true c4]; simp)
        · rw [decide_eq_false c1, decide_eq_false c2, decide_eq_false c4] at hQ
          refine aw_iconst (v := 1) (by decide) dX6_holds_26 ?_
          refine aw_goto 31 rfl dX6_holds_27 ?_
          exact aw_zret (b := true) rfl dX6_holds_31 rfl hQ
theorem c_goesAs {z : Nat} {c : Nat → Int64} (hg : gOk g) (h : GA μ g s) (hW : WFs s) (hi : i < 4) (hr : μ.2.2 (63 + 2 * i) 2 = some (64 + 2 * i)) (hz : μ.1 (63 + 2 * i) 1 = nI z) (hzl : z ≤ 40) (hc : ∀ j, j < 40 → μ.2.1 (64 + 2 * i) j = c j) (hQ : ∀ μ', Fr g μ μ' → Q (some (.int (bI (soF c (mny s) z 0 s)))) K0 μ') : AM Sc mX2_goesAs [.ref g, .ref (63 + 2 * i)] K0 μ n Q := by
  refine AM.of rfl (ble rfl) ?_
  have far : 63 + 2 * i ≠ g ∧ ¬ (g + 9 ≤ 63 + 2 * i ∧ 63 + 2 * i < g + 19) := by
    rcases hg with rfl | rfl | rfl <;> omega
  have loop : ∀ j k (ν : Mem) (t : Nat → Int32), k + j = z → Fr g μ ν → GA ν g t → WFs t → mny t = mny s → soF c (mny s) z 0 s = soF c (mny s) j k t → AW Sc mX2_goesAs 2 [(0, .ref g), (1, .ref (63 + 2 * i)), (2, .int (nI k))] [] K0 ν n Q := by
    intro j
    induction j with
    | zero =>
      intro k ν t hk F hν hWt hmt he
      rw [he] at hQ
      refine aw_iload_n rfl dX2_goesAs_2 ?_
      refine aw_aload_n rfl dX2_goesAs_3 ?_
      refine aw_getI gX2_128_6 (kSh hi) rfl dX2_goesAs_4 ?_
      rw [F.1 _ far.1 far.2, hz]
      refine aw_icmp_ge 37 rfl dX2_goesAs_7 (fun _ => ?_) (fun c_ => absurd (nI_le (by omega) (by omega)) c_)
      refine aw_iconst (v := 1) (by decide) dX2_goesAs_37 ?_
      exact aw_zret (b := true) rfl dX2_goesAs_38 rfl (hQ ν F)
    | succ j ih =>
      intro k ν t hk F hν hWt hmt he
      refine aw_iload_n rfl dX2_goesAs_2 ?_
      refine aw_aload_n rfl dX2_goesAs_3 ?_
      refine aw_getI gX2_128_6 (kSh hi) rfl dX2_goesAs_4 ?_
      rw [F.1 _ far.1 far.2, hz]
      refine aw_icmp_ge 37 rfl dX2_goesAs_7 (fun c_ => absurd c_ (nI_ge (by omega) (by omega))) (fun _ => ?_)
      rw [soF] at he
      refine aw_aload_n rfl dX2_goesAs_10 ?_
      refine aw_getR gX2_131_6 (kSh hi) rfl (by rw [F.2.2 _ far.2]; exact hr) dX2_goesAs_11 ?_
      refine aw_iload_n rfl dX2_goesAs_14 ?_
      refine aw_laloadN (kNu hi) (c := k) rfl (by omega) (by decide) dX2_goesAs_15 ?_
      refine aw_aload_n rfl dX2_goesAs_16 ?_
      refine aw_getI gX2_54_2 (kG hg) rfl dX2_goesAs_17 ?_
      refine aw_i2l dX2_goesAs_20 ?_
      refine aw_lcmp dX2_goesAs_21 ?_
      rw [F.2.1, hc k (by omega), hν.2.1.2.2.1]
      refine aw_if_eq 27 rfl dX2_goesAs_22 (fun c5 => ?_) (fun c5 => ?_)
      · rw [if_pos ((lg_cmp_eq _ _).mp c5)] at he
        refine aw_aload_n rfl dX2_goesAs_27 ?_
        refine aw_v0 kX2_103 ⟨ble rfl, ble rfl⟩ (rcG hg) (ble rfl) dX2_goesAs_28 (c_goDay hg hν hWt (fun μ2 F2 h2 => ?_))
        refine aw_iinc rfl (v := 1) (by decide) (ble rfl) dX2_goesAs_31 ?_
        refine aw_goto 2 rfl dX2_goesAs_34 ?_
        rw [nI_1]
        rw [hmt] at h2
        exact ih (k + 1) μ2 _ (by omega) (F.trans F2) h2 (WFs_day hWt) (by rw [mny_day]; exact hmt) he
      · rw [if_neg (fun z => c5 ((lg_cmp_eq _ _).mpr z))] at he
        rw [he] at hQ
        refine aw_iconst (v := 0) (by decide) dX2_goesAs_25 ?_
        exact aw_zret (b := false) rfl dX2_goesAs_26 rfl (hQ ν F)
  refine aw_iconst (v := 0) (by decide) dX2_goesAs_0 ?_
  refine aw_istore_n (ble rfl) dX2_goesAs_1 ?_
  exact loop z 0 μ s (by omega) (Fr.refl _ _) h hW rfl rfl
theorem c_abs (hQ : Q (some (.int (absd x))) K0 μ) : AM Sc mJ9_abs_0f7a4 [.int x] K0 μ n Q := by
  refine AM.ofF (by decide +kernel) (ble rfl) ?_
  unfold absd at hQ
  refine aw_iload_n rfl dJ9_abs_0f7a4_0 ?_
  refine aw_if_ge 9 rfl dJ9_abs_0f7a4_1 (fun c => ?_) (fun c => ?_)
  · rw [if_neg (Int32.not_lt.mpr c)] at hQ
    refine aw_iload_n rfl dJ9_abs_0f7a4_9 ?_
    refine aw_iret dJ9_abs_0f7a4_10 rfl ?_
    exact hQ
  · rw [if_pos (Int32.not_le.mp c)] at hQ
    refine aw_iload_n rfl dJ9_abs_0f7a4_4 ?_
    refine aw_ineg dJ9_abs_0f7a4_5 ?_
    refine aw_goto 10 rfl dJ9_abs_0f7a4_6 ?_
    refine aw_iret dJ9_abs_0f7a4_10 rfl ?_
    exact hQ
theorem c_bitCount {a : Nat} (hx : x = nI a) (ha : a < 1024) (hQ : Q (some (.int (nI (kern 11 a)))) K0 μ) : AM Sc mJ6_bitCount_0f7a4 [.int x] K0 μ n Q := by
  subst hx
  refine AM.of rfl (ble rfl) ?_
  rw [← bc_kern a ha] at hQ
  unfold bcF at hQ
  refine aw_iload_n rfl dJ6_bitCount_0f7a4_0 ?_
  refine aw_iload_n rfl dJ6_bitCount_0f7a4_1 ?_
  refine aw_iconst (v := 1) (by decide) dJ6_bitCount_0f7a4_2 ?_
  refine aw_iushr dJ6_bitCount_0f7a4_3 ?_
  refine aw_ldc_w (v := 1431655765) w_633 dJ6_bitCount_0f7a4_4 ?_
  refine aw_iand dJ6_bitCount_0f7a4_7 ?_
  refine aw_isub dJ6_bitCount_0f7a4_8 ?_
  refine aw_istore_n (ble rfl) dJ6_bitCount_0f7a4_9 ?_
  show AW Sc mJ6_bitCount_0f7a4 10 [(0, .int (bc1 (nI a)))] [] K0 μ n Q
  generalize bc1 (nI a) = x1 at hQ
  refine aw_iload_n rfl dJ6_bitCount_0f7a4_10 ?_
  refine aw_ldc_w (v := 858993459) w_634 dJ6_bitCount_0f7a4_11 ?_
  refine aw_iand dJ6_bitCount_0f7a4_14 ?_
  refine aw_iload_n rfl dJ6_bitCount_0f7a4_15 ?_
  refine aw_iconst (v := 2) (by decide) dJ6_bitCount_0f7a4_16 ?_
  refine aw_iushr dJ6_bitCount_0f7a4_17 ?_
  refine aw_ldc_w (v := 858993459) w_634 dJ6_bitCount_0f7a4_18 ?_
  refine aw_iand dJ6_bitCount_0f7a4_21 ?_
  refine aw_iadd dJ6_bitCount_0f7a4_22 ?_
  refine aw_istore_n (ble rfl) dJ6_bitCount_0f7a4_23 ?_
  show AW Sc mJ6_bitCount_0f7a4 24 [(0, .int (bc2 x1))] [] K0 μ n Q
  generalize bc2 x1 = x2 at hQ
  refine aw_iload_n rfl dJ6_bitCount_0f7a4_24 ?_
  refine aw_iload_n rfl dJ6_bitCount_0f7a4_25 ?_
  refine aw_iconst (v := 4) (by decide) dJ6_bitCount_0f7a4_26 ?_
  refine aw_iushr dJ6_bitCount_0f7a4_27 ?_
  refine aw_iadd dJ6_bitCount_0f7a4_28 ?_
  refine aw_ldc_w (v := 252645135) w_635 dJ6_bitCount_0f7a4_29 ?_
  refine aw_iand dJ6_bitCount_0f7a4_32 ?_
  refine aw_istore_n (ble rfl) dJ6_bitCount_0f7a4_33 ?_
  show AW Sc mJ6_bitCount_0f7a4 34 [(0, .int (bc3 x2))] [] K0 μ n Q
  generalize bc3 x2 = x3 at hQ
  refine aw_iload_n rfl dJ6_bitCount_0f7a4_34 ?_
  refine aw_iload_n rfl dJ6_bitCount_0f7a4_35 ?_
  refine aw_bipush (v := 8) (by decide) dJ6_bitCount_0f7a4_36 ?_
  refine aw_iushr dJ6_bitCount_0f7a4_38 ?_
  refine aw_iadd dJ6_bitCount_0f7a4_39 ?_
  refine aw_istore_n (ble rfl) dJ6_bitCount_0f7a4_40 ?_
  show AW Sc mJ6_bitCount_0f7a4 41 [(0, .int (x3 + ush x3 8))] [] K0 μ n Q
  generalize x3 + ush x3 8 = x4 at hQ
  refine aw_iload_n rfl dJ6_bitCount_0f7a4_41 ?_
  refine aw_iload_n rfl dJ6_bitCount_0f7a4_42 ?_
  refine aw_bipush (v := 16) (by decide) dJ6_bitCount_0f7a4_43 ?_
  refine aw_iushr dJ6_bitCount_0f7a4_45 ?_
  refine aw_iadd dJ6_bitCount_0f7a4_46 ?_
  refine aw_istore_n (ble rfl) dJ6_bitCount_0f7a4_47 ?_
  refine aw_iload_n rfl dJ6_bitCount_0f7a4_48 ?_
  refine aw_bipush (v := 63) (by decide) dJ6_bitCount_0f7a4_49 ?_
  refine aw_iand dJ6_bitCount_0f7a4_51 ?_
  refine aw_iret dJ6_bitCount_0f7a4_52 rfl ?_
  exact hQ
end Cls9
