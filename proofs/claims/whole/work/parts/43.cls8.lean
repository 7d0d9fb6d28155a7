/-! THE CLASS, 8: one more person, the best, sheets -/
theorem addS_lo {s : Nat → Int32} {m j : Nat} {x y : Int32} (h : j < 4 ∨ (5 ≤ j ∧ j < 5 + 5 * m)) : addS s m x y j = s j := by
  unfold addS
  rw [upd_ne (by omega), upd_ne (by omega), upd_ne (by omega), upd_ne (by omega), upd_ne (by omega), upd_ne (by omega)]
section Cls8
variable {Sc : SCR} {μ μ0 : Mem} {n : Nat × Nat} {Q : PQ} {s : Nat → Int32} {g o q p i r ci : Nat} {x y : Int32}
theorem c_addOne {kd : Nat} (hg : gOk g) (h : GA μ g s) (hW : WFs s) (hm9 : mny s < 10) (hx : x = nI kd) (hk : kd < 6) (hQ : ∀ μ', Fr g μ μ' → GA μ' g (addS s (mny s) x y) → Q none K0 μ') : AM Sc mX2_addOne [.ref g, .int x, .int y] K0 μ n Q := by
  subst hx
  refine AM.of rfl (ble rfl) ?_
  have h10 : ¬ s 4 = 10 := by
    rw [hW.1]
    intro z
    have := congrArg ix z
    rw [ix_nI (by omega)] at this
    have e : mny s = 10 := this
    omega
  refine aw_aload_n rfl dX2_addOne_0 ?_
  refine aw_v0 kX2_64 ⟨ble rfl, ble rfl⟩ (rcG hg) (ble rfl) dX2_addOne_1 (c_isFull hg h hW ?_)
  rw [decide_eq_false h10]
  refine aw_if_ne 14 rfl dX2_addOne_4 (fun c_ => absurd ((by decide)) c_) (fun _ => ?_)
  refine aw_iload_n rfl dX2_addOne_7 ?_
  refine aw_sn1 kX2_68 ⟨ble rfl, ble rfl⟩ (ble rfl) dX2_addOne_8 (c_isKind ?_)
  have ek : in1 (nI kd) 0 5 = true := by
    have : ∀ k : Nat, k < 6 → in1 (nI k) 0 5 = true := by decide
    exact this kd hk
  rw [ek]
  refine aw_if_ne 15 rfl dX2_addOne_11 (fun _ => ?_) (fun c_ => absurd c_ ((by decide)))
  refine aw_aload_n rfl dX2_addOne_15 ?_
  refine aw_getR gX2_26_2 (kG hg) rfl (h.1.2.1) dX2_addOne_16 ?_
  refine aw_aload_n rfl dX2_addOne_19 ?_
  refine aw_getI gX2_57_2 (kG hg) rfl dX2_addOne_20 ?_
  refine aw_aaloadN (kGp hg) (fun _ => rfl) (h.sz hW) hm9 (by decide) (h.pe hm9) dX2_addOne_23 ?_
  refine aw_astore_n (ble rfl) dX2_addOne_24 ?_
  refine aw_aload_n rfl dX2_addOne_25 ?_
  refine aw_aload_n rfl dX2_addOne_26 ?_
  refine aw_getR gX2_20_2 (kG hg) rfl (h.1.1) dX2_addOne_27 ?_
  refine aw_iload_n rfl dX2_addOne_30 ?_
  refine aw_aaloadN (kGk hg) (fun _ => rfl) rfl hk (by decide) (h.1.2.2.1 kd hk) dX2_addOne_31 ?_
  refine aw_putR (pX2_72_4 _) (kP hg (i := mny s) hm9) rfl (fun _ => rfl) (fun _ => rfl) dX2_addOne_32 ?_
  refine aw_aload_n rfl dX2_addOne_35 ?_
  refine aw_iload_n rfl dX2_addOne_36 ?_
  refine aw_putI (pX2_76_4 _) (kP hg (i := mny s) hm9) rfl rfl rfl dX2_addOne_37 ?_
  refine aw_aload_n rfl dX2_addOne_40 ?_
  refine aw_iconst (v := 0) (by decide) dX2_addOne_41 ?_
  refine aw_putI (pX2_79_4 _) (kP hg (i := mny s) hm9) rfl rfl rfl dX2_addOne_42 ?_
  refine aw_aload_n rfl dX2_addOne_45 ?_
  refine aw_iconst (v := 0) (by decide) dX2_addOne_46 ?_
  refine aw_putI (pX2_82_4 _) (kP hg (i := mny s) hm9) rfl rfl rfl dX2_addOne_47 ?_
  refine aw_aload_n rfl dX2_addOne_50 ?_
  refine aw_bipush (v := 8) (by decide) dX2_addOne_51 ?_
  refine aw_putI (pX2_85_4 _) (kP hg (i := mny s) hm9) rfl rfl rfl dX2_addOne_53 ?_
  rw [pI_4]
  generalize hF : upd (upd (upd (upd ((pR μ (g + 9 + mny s) 0 (some (g + 3 + kd))).1 (g + 9 + mny s)) 1 y) 2 0) 3 0) 4 8 = F
  have F1 : Fr g μ (rowI (pR μ (g + 9 + mny s) 0 (some (g + 3 + kd))) (g + 9 + mny s) F) := Fr.kind ⟨by omega, by omega⟩
  have eg : (rowI (pR μ (g + 9 + mny s) 0 (some (g + 3 + kd))) (g + 9 + mny s) F).1 g = μ.1 g := rowI_ne _ _ (by omega)
  have e4 : (rowI (pR μ (g + 9 + mny s) 0 (some (g + 3 + kd))) (g + 9 + mny s) F).1 g 4 = nI (mny s) := by rw [eg]; exact h.sz hW
  refine aw_aload_n rfl dX2_addOne_56 ?_
  refine aw_dup rfl dX2_addOne_57 ?_
  refine aw_getI gX2_57_2 (kG hg) rfl dX2_addOne_58 ?_
  refine aw_iconst (v := 1) (by decide) dX2_addOne_61 ?_
  refine aw_iadd dX2_addOne_62 ?_
  refine aw_putI (pX2_57_2 _) (kG hg) rfl rfl rfl dX2_addOne_63 ?_
  refine aw_return dX2_addOne_66 rfl ?_
  rw [e4, nI_1]
  refine hQ _ (F1.trans (Fr.row (f := upd ((rowI (pR μ (g + 9 + mny s) 0 (some (g + 3 + kd))) (g + 9 + mny s) F).1 g) 4 (nI (mny s + 1))) (Or.inl rfl))) ⟨by have := h.1.fr F1; exact this, ?_, fun k hk2 => ?_⟩
  · unfold GH
    rw [pI_row, eg]
    obtain ⟨g0, g1, g2, g3, g4⟩ := h.2.1
    refine ⟨?_, ?_, ?_, ?_, ?_⟩
    · rw [upd_ne (by decide), addS_lo (by omega)]; exact g0
    · rw [upd_ne (by decide), addS_lo (by omega)]; exact g1
    · rw [upd_ne (by decide), addS_lo (by omega)]; exact g2
    · rw [upd_ne (by decide), addS_lo (by omega)]; exact g3
    · rw [upd_eq]; unfold addS; rw [upd_eq]
  · rw [mny_add hm9] at hk2
    rw [pI_ne _ _ _ (by omega)]
    by_cases e : k = mny s
    · subst e
      refine ⟨?_, g, kd, hg, hk, ?_, pR_get _ _ _ _⟩
      · rw [rowI_get, ← hF]
        unfold FP addS
        refine ⟨?_, ?_, ?_, ?_⟩
        · rw [upd_ne (by decide), upd_ne (by decide), upd_ne (by decide), upd_eq, upd_ne (by omega), upd_ne (by omega), upd_ne (by omega), upd_ne (by omega), upd_eq]
        · rw [upd_ne (by decide), upd_ne (by decide), upd_eq, upd_ne (by omega), upd_ne (by omega), upd_ne (by omega), upd_eq]
        · rw [upd_ne (by decide), upd_eq, upd_ne (by omega), upd_ne (by omega), upd_eq]
        · rw [upd_eq, upd_ne (by omega), upd_eq]
      · unfold addS
        rw [upd_ne (by omega), upd_ne (by omega), upd_ne (by omega), upd_ne (by omega), upd_ne (by omega), upd_eq]
    · obtain ⟨a, b⟩ := h.2.2 k (by omega)
      rw [rowI_ne _ _ (by omega)]
      unfold FP
      rw [addS_lo (by omega), addS_lo (by omega), addS_lo (by omega), addS_lo (by omega)]
      refine ⟨a, ?_⟩
      unfold KR
      rw [addS_lo (by omega), show (pI (rowI (pR μ (g + 9 + mny s) 0 (some (g + 3 + kd))) (g + 9 + mny s) F) g 4 (nI (mny s + 1))).2.2 (g + 9 + k) = μ.2.2 (g + 9 + k) from pR_ne _ _ _ (by omega)]
      exact b
/-! the best: place 58 holds o -/
theorem kBest : K0[58]? = some (.inl 0) := rfl
theorem rcBest : Rcv K0 "EndlessTug$Best" 58 := Rcv.ob kBest rfl
def bB (o : OB) : Bool := match o with
  | none => false
  | some _ => true
def BH (f : Nat → Int32) (o : OB) : Prop := f 0 = bI (bB o) ∧ ∀ q, o = some q → f 1 = nI q.1 ∧ f 2 = q.2
theorem c_clear (hQ : ∀ f, BH f none → f 1 = 0 → Q none K0 (rowI μ 58 f)) : AM Sc mX0_clear [.ref 58] K0 μ n Q := by
  refine AM.of rfl (ble rfl) ?_
  refine aw_aload_n rfl dX0_clear_0 ?_
  refine aw_iconst (v := 0) (by decide) dX0_clear_1 ?_
  refine aw_putI (pX0_7_0 _) kBest rfl (by decide) (by decide) dX0_clear_2 ?_
  refine aw_aload_n rfl dX0_clear_5 ?_
  refine aw_iconst (v := 0) (by decide) dX0_clear_6 ?_
  refine aw_putI (pX0_13_0 _) kBest rfl rfl rfl dX0_clear_7 ?_
  refine aw_aload_n rfl dX0_clear_10 ?_
  refine aw_iconst (v := 0) (by decide) dX0_clear_11 ?_
  refine aw_putI (pX0_17_0 _) kBest rfl rfl rfl dX0_clear_12 ?_
  refine aw_return dX0_clear_15 rfl ?_
  rw [show pI μ 58 0 0 = rowI μ 58 (upd (μ.1 58) 0 0) from rfl, pI_rowI, pI_rowI]
  refine hQ _ ⟨?_, fun q hq => by cases hq⟩ ?_
  · rw [upd_ne (by decide), upd_ne (by decide), upd_eq]; rfl
  · rw [upd_ne (by decide), upd_eq]
theorem c_offer {o : OB} {k : Nat} (h : BH (μ.1 58) o) (hx : x = nI k) (hQ : ∀ f, BH f (stepB o k y) → Q none K0 (rowI μ 58 f)) : AM Sc mX0_offer [.ref 58, .int x, .int y] K0 μ n Q := by
  subst hx
  refine AM.of rfl (ble rfl) ?_
  obtain ⟨h0, h1⟩ := h
  have put : stepB o k y = some (k, y) → AW Sc mX0_offer 15 [(0, .ref 58), (1, .int (nI k)), (2, .int y)] [] K0 μ n Q := by
    intro e
    rw [e] at hQ
    refine aw_aload_n rfl dX0_offer_15 ?_
    refine aw_iconst (v := 1) (by decide) dX0_offer_16 ?_
    refine aw_putI (pX0_7_0 _) kBest rfl (by decide) (by decide) dX0_offer_17 ?_
    refine aw_aload_n rfl dX0_offer_20 ?_
    refine aw_iload_n rfl dX0_offer_21 ?_
    refine aw_putI (pX0_13_0 _) kBest rfl rfl rfl dX0_offer_22 ?_
    refine aw_aload_n rfl dX0_offer_25 ?_
    refine aw_iload_n rfl dX0_offer_26 ?_
    refine aw_putI (pX0_17_0 _) kBest rfl rfl rfl dX0_offer_27 ?_
    refine aw_return dX0_offer_30 rfl ?_
    rw [show pI μ 58 0 1 = rowI μ 58 (upd (μ.1 58) 0 1) from rfl, pI_rowI, pI_rowI]
    refine hQ _ ⟨?_, fun q hq => ?_⟩
    · rw [upd_ne (by decide), upd_ne (by decide), upd_eq]; rfl
    · cases hq
      refine ⟨?_, upd_eq⟩
      rw [upd_ne (by decide), upd_eq]
  refine aw_aload_n rfl dX0_offer_0 ?_
  refine aw_getI gX0_7_0 kBest rfl dX0_offer_1 ?_
  rw [h0]
  cases o with
  | none =>
    refine aw_if_eq 15 rfl dX0_offer_4 (fun _ => ?_) (fun c_ => absurd ((by decide)) c_)
    exact put rfl
  | some q =>
    refine aw_if_eq 15 rfl dX0_offer_4 (fun c_ => absurd c_ ((show ¬ bI true = 0 by decide))) (fun _ => ?_)
    refine aw_iload_n rfl dX0_offer_7 ?_
    refine aw_aload_n rfl dX0_offer_8 ?_
    refine aw_getI gX0_17_0 kBest rfl dX0_offer_9 ?_
    rw [(h1 q rfl).2]
    refine aw_icmp_le 30 rfl dX0_offer_12 (fun c => ?_) (fun c => ?_)
    · have e : stepB (some q) k y = some q := by
        unfold stepB
        exact if_neg (Int32.not_lt.mpr c)
      rw [e] at hQ
      refine aw_return dX0_offer_30 rfl ?_
      have := hQ (μ.1 58) ⟨h0, h1⟩
      rw [rowI_self] at this
      exact this
    · exact put (by unfold stepB; exact if_pos (Int32.not_le.mp c))
/-! sheets: sheet i at place 63 + 2 i, its numbers behind it -/
theorem kSh (hi : i < 4) : K0[63 + 2 * i]? = some (.inl 6) := by
  have : ∀ i, i < 4 → K0[63 + 2 * i]? = some (.inl 6) := by decide
  exact this i hi
theorem kNu (hi : i < 4) : K0[64 + 2 * i]? = some (.inr (1, 40)) := by
  have : ∀ i, i < 4 → K0[64 + 2 * i]? = some (.inr (1, 40)) := by decide
  exact this i hi
theorem rcSh (hi : i < 4) : Rcv K0 "EndlessTug$Sheet" (63 + 2 * i) := Rcv.ob (kSh hi) rfl
theorem c_isMissing (hi : i < 4) (hQ : Q (some (.int (bI (decide (μ.1 (63 + 2 * i) 0 = 0))))) K0 μ) : AM Sc mX6_isMissing [.ref (63 + 2 * i)] K0 μ n Q := by
  refine AM.of rfl (ble rfl) ?_
  refine aw_aload_n rfl dX6_isMissing_0 ?_
  refine aw_getI gX6_15_6 (kSh hi) rfl dX6_isMissing_1 ?_
  refine aw_if_ne 11 rfl dX6_isMissing_4 (fun c => ?_) (fun c => ?_)
  · rw [decide_eq_false c] at hQ
    refine aw_iconst (v := 0) (by decide) dX6_isMissing_11 ?_
    exact aw_zret (b := false) rfl dX6_isMissing_12 rfl hQ
  · rw [decide_eq_true c] at hQ
    refine aw_iconst (v := 1) (by decide) dX6_isMissing_7 ?_
    refine aw_goto 12 rfl dX6_isMissing_8 ?_
    exact aw_zret (b := true) rfl dX6_isMissing_12 rfl hQ
theorem c_fill (hi : i < 4) (hQ : ∀ f, (∀ j, j < 40 → f j = 0) → Q none K0 (pRow μ (64 + 2 * i) f)) : AM Sc mJ7_fill_d0a16 [.ref (64 + 2 * i), .long 0] K0 μ n Q := by
  refine AM.of rfl (ble rfl) ?_
  have loop : ∀ j k (f : Nat → Int64), k + j = 40 → (∀ t, t < k → f t = 0) → AW Sc mJ7_fill_d0a16 6 [(0, .ref (64 + 2 * i)), (1, .long 0), (3, .int (nI k)), (4, .int (nI 40))] [] K0 (pRow μ (64 + 2 * i) f) n Q := by
    intro j
    induction j with
    | zero =>
      intro k f hk hf
      refine aw_iload_n rfl dJ7_fill_d0a16_6 ?_
      refine aw_iload rfl dJ7_fill_d0a16_7 ?_
      refine aw_icmp_ge 22 rfl dJ7_fill_d0a16_9 (fun _ => ?_) (fun c_ => absurd (nI_le (by omega) (by omega)) c_)
      refine aw_return dJ7_fill_d0a16_22 rfl ?_
      exact hQ f (fun t ht => hf t (by omega))
    | succ j ih =>
      intro k f hk hf
      refine aw_iload_n rfl dJ7_fill_d0a16_6 ?_
      refine aw_iload rfl dJ7_fill_d0a16_7 ?_
      refine aw_icmp_ge 22 rfl dJ7_fill_d0a16_9 (fun c_ => absurd c_ (nI_ge (by omega) (by omega))) (fun _ => ?_)
      refine aw_aload_n rfl dJ7_fill_d0a16_12 ?_
      refine aw_iload_n rfl dJ7_fill_d0a16_13 ?_
      refine aw_lload_n rfl dJ7_fill_d0a16_14 ?_
      refine aw_lastoreN (kNu hi) rfl (by omega) (by decide) dJ7_fill_d0a16_15 ?_
      refine aw_iinc rfl (v := 1) (by decide) (ble rfl) dJ7_fill_d0a16_16 ?_
      refine aw_goto 6 rfl dJ7_fill_d0a16_19 ?_
      rw [nI_1]
      have e : pJ (pRow μ (64 + 2 * i) f) (64 + 2 * i) k 0 = pRow μ (64 + 2 * i) (vp_updL f k 0) := by
        show pRow (pRow μ (64 + 2 * i) f) (64 + 2 * i) (vp_updL ((pRow μ (64 + 2 * i) f).2.1 (64 + 2 * i)) k 0) = _
        rw [pRow_get, pRow_pRow]
      rw [e]
      refine ih (k + 1) _ (by omega) (fun t ht => ?_)
      unfold vp_updL
      by_cases h : t = k
      · rw [if_pos h]
      · rw [if_neg h]; exact hf t (by omega)
  refine aw_iconst (v := 0) (by decide) dJ7_fill_d0a16_0 ?_
  refine aw_istore_n (ble rfl) dJ7_fill_d0a16_1 ?_
  refine aw_aload_n rfl dJ7_fill_d0a16_2 ?_
  refine aw_alen (kNu hi) (fun _ => rfl) dJ7_fill_d0a16_3 ?_
  refine aw_istore (ble rfl) dJ7_fill_d0a16_4 ?_
  have := loop 40 0 (μ.2.1 (64 + 2 * i)) (by omega) (fun t ht => absurd ht (by omega))
  rw [pRow_same rfl] at this
  exact this
theorem c_begin {b t : Int32} (hi : i < 4) (hr : μ.2.2 (63 + 2 * i) 2 = some (64 + 2 * i)) (hQ : ∀ w f, w 0 = b → w 1 = (if b = 0 then 0 else t) → (∀ j, j < 40 → f j = 0) → Q none K0 (pRow (rowI μ (63 + 2 * i) w) (64 + 2 * i) f)) : AM Sc mX6_begin [.ref (63 + 2 * i), .int b, .int t] K0 μ n Q := by
  refine AM.of rfl (ble rfl) ?_
  have fin : ∀ v : Int32, v = (if b = 0 then 0 else t) → AW Sc mX6_begin 15 [(0, .ref (63 + 2 * i)), (1, .int b), (2, .int t)] [.int v, .ref (63 + 2 * i)] K0 (pI μ (63 + 2 * i) 0 b) n Q := by
    intro v hv
    refine aw_putI (pX6_19_6 _) (kSh hi) rfl rfl rfl dX6_begin_15 ?_
    rw [show pI μ (63 + 2 * i) 0 b = rowI μ (63 + 2 * i) (upd (μ.1 (63 + 2 * i)) 0 b) from rfl, pI_rowI]
    refine aw_aload_n rfl dX6_begin_18 ?_
    refine aw_getR gX6_9_6 (kSh hi) rfl (hr) dX6_begin_19 ?_
    refine aw_lconst (v := 0) (by decide) dX6_begin_22 ?_
    refine aw_s2 kX6_22 ⟨ble rfl, ble rfl⟩ (ble rfl) dX6_begin_23 (c_fill hi (fun f hf => ?_))
    refine aw_return dX6_begin_26 rfl ?_
    refine hQ _ f ?_ ?_ hf
    · rw [upd_ne (by decide), upd_eq]
    · rw [upd_eq, hv]
  refine aw_aload_n rfl dX6_begin_0 ?_
  refine aw_iload_n rfl dX6_begin_1 ?_
  refine aw_putI (pX6_15_6 _) (kSh hi) rfl rfl rfl dX6_begin_2 ?_
  refine aw_aload_n rfl dX6_begin_5 ?_
  refine aw_iload_n rfl dX6_begin_6 ?_
  refine aw_if_ne 14 rfl dX6_begin_7 (fun c => ?_) (fun c => ?_)
  · refine aw_iload_n rfl dX6_begin_14 ?_
    exact fin _ (if_neg c).symm
  · refine aw_iconst (v := 0) (by decide) dX6_begin_10 ?_
    refine aw_goto 15 rfl dX6_begin_11 ?_
    exact fin _ (if_pos c).symm
end Cls8
