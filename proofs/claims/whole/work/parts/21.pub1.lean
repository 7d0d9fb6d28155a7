/-! THE MODEL'S CALLS, 1: the green and the people -/
theorem in1_t {x : Int32} {a b : Nat} (ha : a < 2 ^ 31) (hb : b < 2 ^ 31) (h : in1 x (nI a) (nI b) = true) : ∃ t : Nat, a ≤ t ∧ t ≤ b ∧ x = nI t := by
  simp only [in1, Bool.and_eq_true, decide_eq_true_eq] at h
  obtain ⟨h1, h2⟩ := h
  have p : ¬ x < 0 := by
    intro q
    have := Int32.le_iff_toInt_le.mp h1
    have := Int32.lt_iff_toInt_lt.mp q
    rw [nI_toInt ha] at *
    simp at *
    omega
  obtain ⟨j, hj, rfl⟩ := nI_of p
  exact ⟨j, (nI_leI ha hj).mp h1, (nI_leI hj hb).mp h2, rfl⟩
def ix (x : Int32) : Nat := x.toNatClampNeg
theorem ix_nI {k : Nat} (h : k < 2 ^ 31) : ix (nI k) = k := nI_clamp h
theorem per_t {x : Int32} {s : Nat → Int32} {m : Nat} (h4 : s 4 = nI m) (hm : m ≤ 10) (h : in1 x 0 (s 4 - 1) = true) : ∃ k, k < m ∧ x = nI k ∧ ix x = k := by
  rw [h4] at h
  cases m with
  | zero =>
    simp only [in1, Bool.and_eq_true, decide_eq_true_eq] at h
    obtain ⟨h1, h2⟩ := h
    have := Int32.le_iff_toInt_le.mp h1
    have := Int32.le_iff_toInt_le.mp h2
    have e : (nI 0 - 1).toInt = -1 := by decide
    rw [e] at this
    simp at *
    omega
  | succ m =>
    rw [nI_pred] at h
    obtain ⟨t, -, h2, rfl⟩ := in1_t (a := 0) (by decide) (by omega) h
    exact ⟨t, by omega, rfl, ix_nI (by omega)⟩
def isP (S : SG) (x : Int32) : Bool := in1 x 0 (S.1 4 - 1)
def sp_slack (v : Int32) (S : SG) : Int32 × SG := if in1 v 0 99 then (S.1 2, wS S (upd S.1 2 v)) else fnd S 0
def sp_harvest (v : Int32) (S : SG) : Int32 × SG := if in1 v 0 255 then (S.1 3, wS S (upd S.1 3 v)) else fnd S 0
def sp_knot (v : Int32) (S : SG) : Int32 × SG := if in1 v (-9999) 9999 then (S.1 1, wS S (upd S.1 1 v)) else fnd S 0
def sp_now (x : Int32) (S : SG) : Int32 × SG :=
  if x = 0 then (S.1 0, S) else if x = 1 then (weekN S.1, S) else if x = 2 then (bI (isHar S.1), S) else if x = 3 then (bI (isSun S.1), S) else if x = 4 then (S.1 1, S)
  else if x = 5 then (S.1 2, S) else if x = 6 then (aheadN S.1, S) else if x = 7 then (ropeS S.1 (mny S.1), S) else if x = 8 then (sideP S.1 0 (mny S.1), S) else if x = 9 then (sideP S.1 1 (mny S.1), S) else fnd S 0
def sp_person (k d : Int32) (S : SG) : Int32 × SG := if in1 k 0 5 && in1 d 0 1 then (if S.1 4 = 10 then fnd S 1 else (S.1 4, wS S (addS S.1 (mny S.1) k d))) else fnd S 0
def sp_of (x w : Int32) (S : SG) : Int32 × SG := if isP S x && in1 w 0 7 then
    (if w = 5 then (pulls S.1 (ix x), S) else if w = 6 then (tires S.1 (ix x), S) else if w = 7 then (bI (letsG S.1 (ix x)), S) else (S.1 (5 + 5 * ix x + ix w), S)) else fnd S 0
def sp_set (x w v : Int32) (S : SG) : Int32 × SG := if isP S x && (in1 w 1 4 && in1 v (if w = 4 then 1 else 0) (if w = 3 then 99 else if w = 4 then 20 else 1)) then (S.1 (5 + 5 * ix x + ix w), wS S (upd S.1 (5 + 5 * ix x + ix w) v)) else fnd S 0
def sp_turn (x k : Int32) (S : SG) : Int32 × SG := if isP S x && in1 k 0 5 then (S.1 (5 + 5 * ix x), wS S (upd S.1 (5 + 5 * ix x) k)) else fnd S 0
def isOfK (a k : Int32) : Bool := decide (a = k) || decide (k = 0) || (decide (a = 4) && decide (k = 1)) || (decide (a = 5) && decide (k = 2))
def sp_as (x k : Int32) (S : SG) : Int32 × SG := if isP S x && in1 k 0 5 then (if isOfK (S.1 (5 + 5 * ix x)) k then (S.1 (5 + 5 * ix x + 4), S) else fnd S 2) else fnd S 0
def mayR (s : Nat → Int32) (a b : Nat) : Bool := decide (s (5 + 5 * a + 2) = 0) && (decide (s (5 + 5 * b + 2) = 1) && decide (s (5 + 5 * a + 1) = s (5 + 5 * b + 1)))
def relS (s : Nat → Int32) (a b : Nat) : Nat → Int32 := upd (upd s (5 + 5 * a + 2) 1) (5 + 5 * b + 2) 0
def sp_relieve (a b : Int32) (S : SG) : Int32 × SG := if isP S a && isP S b then (if mayR S.1 (ix a) (ix b) then (1, wS S (relS S.1 (ix a) (ix b))) else fnd S 4) else fnd S 0
def sp_days (t : Int32) (S : SG) : Int32 × SG := if in1 t 1 100 then (if S.1 0 + t ≤ 99999 then (goesN (mny S.1) (ix t) S.1 1, wS S (goesN (mny S.1) (ix t) S.1)) else fnd S 4) else fnd S 0
section Pub1
variable {Sc : SCR} {μ μ0 : Mem} {n : Nat × Nat} {Q : PQ} {S : SG}
theorem g_isPerson {x : Int32} (h : MJ μ0 μ S) (hQ : Q (some (.int (bI (isP S x)))) K0 μ) : AM Sc mX12_isPerson [.ref 71, .int x] K0 μ n Q := k_isPerson h.hM (by rw [h.hs]; exact hQ)
theorem q_slack {v : Int32} (h : MJ μ0 μ S) (hQ : ∀ μ', MJ μ0 μ' (sp_slack v S).2 → Q (some (.int (sp_slack v S).1)) K0 μ') : AM Sc mX12_slack [.ref 71, .int v] K0 μ n Q := by
  refine AM.of rfl (ble rfl) ?_
  refine aw_iload_n rfl dX12_slack_0 ?_
  refine aw_iconst (v := 0) (by decide) dX12_slack_1 ?_
  refine aw_bipush (v := 99) (by decide) dX12_slack_2 ?_
  refine aw_s3 kX12_52 ⟨ble rfl, ble rfl⟩ (ble rfl) dX12_slack_4 (k_in1 ?_)
  unfold sp_slack at hQ
  refine aw_zeq 19 rfl dX12_slack_7 (fun c => ?_) (fun c => ?_)
  · rw [c] at hQ
    refine aw_aload_n rfl dX12_slack_19 ?_
    refine aw_iconst (v := 0) (by decide) dX12_slack_20 ?_
    refine aw_v1 kX12_118 ⟨ble rfl, ble rfl⟩ (rcM) (ble rfl) dX12_slack_21 (q_no h rfl (by decide) (fun μ' h' => ?_))
    refine aw_iret dX12_slack_24 rfl ?_
    exact hQ μ' h'
  · rw [c] at hQ
    refine aw_aload_n rfl dX12_slack_10 ?_
    refine aw_iconst (v := 2) (by decide) dX12_slack_11 ?_
    refine aw_iload_n rfl dX12_slack_12 ?_
    refine aw_v2 kX12_115 ⟨ble rfl, ble rfl⟩ (rcM) (ble rfl) dX12_slack_13 (k_becomes h.hM h.hs (k := 2) rfl (by decide) ?_)
    refine aw_goto 24 rfl dX12_slack_16 ?_
    refine aw_iret dX12_slack_24 rfl ?_
    exact hQ _ (h.row _)
theorem q_harvest {v : Int32} (h : MJ μ0 μ S) (hQ : ∀ μ', MJ μ0 μ' (sp_harvest v S).2 → Q (some (.int (sp_harvest v S).1)) K0 μ') : AM Sc mX12_harvest [.ref 71, .int v] K0 μ n Q := by
  refine AM.of rfl (ble rfl) ?_
  refine aw_iload_n rfl dX12_harvest_0 ?_
  refine aw_iconst (v := 0) (by decide) dX12_harvest_1 ?_
  refine aw_sipush (v := 255) (by decide) dX12_harvest_2 ?_
  refine aw_s3 kX12_52 ⟨ble rfl, ble rfl⟩ (ble rfl) dX12_harvest_5 (k_in1 ?_)
  unfold sp_harvest at hQ
  refine aw_zeq 20 rfl dX12_harvest_8 (fun c => ?_) (fun c => ?_)
  · rw [c] at hQ
    refine aw_aload_n rfl dX12_harvest_20 ?_
    refine aw_iconst (v := 0) (by decide) dX12_harvest_21 ?_
    refine aw_v1 kX12_118 ⟨ble rfl, ble rfl⟩ (rcM) (ble rfl) dX12_harvest_22 (q_no h rfl (by decide) (fun μ' h' => ?_))
    refine aw_iret dX12_harvest_25 rfl ?_
    exact hQ μ' h'
  · rw [c] at hQ
    refine aw_aload_n rfl dX12_harvest_11 ?_
    refine aw_iconst (v := 3) (by decide) dX12_harvest_12 ?_
    refine aw_iload_n rfl dX12_harvest_13 ?_
    refine aw_v2 kX12_115 ⟨ble rfl, ble rfl⟩ (rcM) (ble rfl) dX12_harvest_14 (k_becomes h.hM h.hs (k := 3) rfl (by decide) ?_)
    refine aw_goto 25 rfl dX12_harvest_17 ?_
    refine aw_iret dX12_harvest_25 rfl ?_
    exact hQ _ (h.row _)
theorem k_isKnot {v : Int32} (hQ : Q (some (.int (bI (in1 v (-9999) 9999)))) K0 μ) : AM Sc mX12_isKnot [.int v] K0 μ n Q := by
  refine AM.of rfl (ble rfl) ?_
  refine aw_iload_n rfl dX12_isKnot_0 ?_
  refine aw_sipush (v := (-9999)) (by decide) dX12_isKnot_1 ?_
  refine aw_sipush (v := 9999) (by decide) dX12_isKnot_4 ?_
  refine aw_s3 kX12_52 ⟨ble rfl, ble rfl⟩ (ble rfl) dX12_isKnot_7 (k_in1 ?_)
  exact aw_zret rfl dX12_isKnot_10 rfl hQ
theorem q_knot {v : Int32} (h : MJ μ0 μ S) (hQ : ∀ μ', MJ μ0 μ' (sp_knot v S).2 → Q (some (.int (sp_knot v S).1)) K0 μ') : AM Sc mX12_knot [.ref 71, .int v] K0 μ n Q := by
  refine AM.of rfl (ble rfl) ?_
  refine aw_iload_n rfl dX12_knot_0 ?_
  refine aw_s1 kX12_121 ⟨ble rfl, ble rfl⟩ (ble rfl) dX12_knot_1 (k_isKnot ?_)
  unfold sp_knot at hQ
  refine aw_zeq 16 rfl dX12_knot_4 (fun c => ?_) (fun c => ?_)
  · rw [c] at hQ
    refine aw_aload_n rfl dX12_knot_16 ?_
    refine aw_iconst (v := 0) (by decide) dX12_knot_17 ?_
    refine aw_v1 kX12_118 ⟨ble rfl, ble rfl⟩ (rcM) (ble rfl) dX12_knot_18 (q_no h rfl (by decide) (fun μ' h' => ?_))
    refine aw_iret dX12_knot_21 rfl ?_
    exact hQ μ' h'
  · rw [c] at hQ
    refine aw_aload_n rfl dX12_knot_7 ?_
    refine aw_iconst (v := 1) (by decide) dX12_knot_8 ?_
    refine aw_iload_n rfl dX12_knot_9 ?_
    refine aw_v2 kX12_115 ⟨ble rfl, ble rfl⟩ (rcM) (ble rfl) dX12_knot_10 (k_becomes h.hM h.hs (k := 1) rfl (by decide) ?_)
    refine aw_goto 21 rfl dX12_knot_13 ?_
    refine aw_iret dX12_knot_21 rfl ?_
    exact hQ _ (h.row _)
theorem sw09 (x : Int32) : ((x.toInt < 0 ∨ 9 < x.toInt) ∧ ¬ x = 0 ∧ ¬ x = 1 ∧ ¬ x = 2 ∧ ¬ x = 3 ∧ ¬ x = 4 ∧ ¬ x = 5 ∧ ¬ x = 6 ∧ ¬ x = 7 ∧ ¬ x = 8 ∧ ¬ x = 9) ∨ x = 0 ∨ x = 1 ∨ x = 2 ∨ x = 3 ∨ x = 4 ∨ x = 5 ∨ x = 6 ∨ x = 7 ∨ x = 8 ∨ x = 9 := by
  by_cases h : x.toInt < 0 ∨ 9 < x.toInt
  · refine Or.inl ⟨h, ?_, ?_, ?_, ?_, ?_, ?_, ?_, ?_, ?_, ?_⟩ <;> (intro q; rw [q] at h; revert h; decide)
  · right
    have e : ∀ k : Int32, x.toInt = k.toInt → x = k := fun k q => Int32.toInt_inj.mp q
    have : x.toInt = 0 ∨ x.toInt = 1 ∨ x.toInt = 2 ∨ x.toInt = 3 ∨ x.toInt = 4 ∨ x.toInt = 5 ∨ x.toInt = 6 ∨ x.toInt = 7 ∨ x.toInt = 8 ∨ x.toInt = 9 := by omega
    rcases this with q | q | q | q | q | q | q | q | q | q
    · exact Or.inl (e 0 q)
    · exact Or.inr (Or.inl (e 1 q))
    · exact Or.inr (Or.inr (Or.inl (e 2 q)))
    · exact Or.inr (Or.inr (Or.inr (Or.inl (e 3 q))))
    · exact Or.inr (Or.inr (Or.inr (Or.inr (Or.inl (e 4 q)))))
    · exact Or.inr (Or.inr (Or.inr (Or.inr (Or.inr (Or.inl (e 5 q))))))
    · exact Or.inr (Or.inr (Or.inr (Or.inr (Or.inr (Or.inr (Or.inl (e 6 q)))))))
    · exact Or.inr (Or.inr (Or.inr (Or.inr (Or.inr (Or.inr (Or.inr (Or.inl (e 7 q))))))))
    · exact Or.inr (Or.inr (Or.inr (Or.inr (Or.inr (Or.inr (Or.inr (Or.inr (Or.inl (e 8 q)))))))))
    · exact Or.inr (Or.inr (Or.inr (Or.inr (Or.inr (Or.inr (Or.inr (Or.inr (Or.inr (e 9 q)))))))))
theorem q_now {x : Int32} (h : MJ μ0 μ S) (hW : WF S) (hQ : ∀ μ', MJ μ0 μ' (sp_now x S).2 → Q (some (.int (sp_now x S).1)) K0 μ') : AM Sc mX12_now [.ref 71, .int x] K0 μ n Q := by
  refine AM.of rfl (ble rfl) ?_
  refine aw_iload_n rfl dX12_now_0 ?_
  unfold sp_now at hQ
  have hs := h.hs
  have hM := h.hM
  obtain ⟨h4, hm, -⟩ := hW.1
  rcases sw09 x with ⟨hx, e0, e1, e2, e3, e4, e5, e6, e7, e8, e9⟩ | rfl | rfl | rfl | rfl | rfl | rfl | rfl | rfl | rfl | rfl
  · rw [if_neg e0, if_neg e1, if_neg e2, if_neg e3, if_neg e4, if_neg e5, if_neg e6, if_neg e7, if_neg e8, if_neg e9] at hQ
    refine aw_tabOut 127 (hx) rfl dX12_now_1 ?_
    refine aw_aload_n rfl dX12_now_127 ?_
    refine aw_iconst (v := 0) (by decide) dX12_now_128 ?_
    refine aw_v1 kX12_118 ⟨ble rfl, ble rfl⟩ (rcM) (ble rfl) dX12_now_129 (q_no h rfl (by decide) (fun μ' h' => ?_))
    refine aw_iret dX12_now_132 rfl ?_
    exact hQ μ' h'
  · refine aw_tabIn 56 (by decide) (by decide) rfl rfl dX12_now_1 ?_
    refine aw_aload_n rfl dX12_now_56 ?_
    refine aw_getR gX12_9_12 kM rfl (hM.s) dX12_now_57 ?_
    refine aw_iconst (v := 0) (by decide) dX12_now_60 ?_
    refine aw_ialoadN kS (c := 0) rfl (by decide) (by decide) dX12_now_61 ?_
    refine aw_iret dX12_now_62 rfl ?_
    rw [hs]
    exact hQ _ h
  · refine aw_tabIn 63 (by decide) (by decide) rfl rfl dX12_now_1 ?_
    refine aw_aload_n rfl dX12_now_63 ?_
    refine aw_v0 kX12_56 ⟨ble rfl, ble rfl⟩ (rcM) (ble rfl) dX12_now_64 (k_weekNow hM hs ?_)
    refine aw_iret dX12_now_67 rfl ?_
    exact hQ _ h
  · refine aw_tabIn 68 (by decide) (by decide) rfl rfl dX12_now_1 ?_
    refine aw_aload_n rfl dX12_now_68 ?_
    refine aw_v0 kX12_68 ⟨ble rfl, ble rfl⟩ (rcM) (ble rfl) dX12_now_69 (k_isHarvest hM hs ?_)
    refine aw_zeq 79 rfl dX12_now_72 (fun c => ?_) (fun c => ?_)
    · refine aw_iconst (v := 0) (by decide) dX12_now_79 ?_
      refine aw_iret dX12_now_80 rfl ?_
      have := hQ _ h
      rw [c] at this
      exact this
    · refine aw_iconst (v := 1) (by decide) dX12_now_75 ?_
      refine aw_goto 80 rfl dX12_now_76 ?_
      refine aw_iret dX12_now_80 rfl ?_
      have := hQ _ h
      rw [c] at this
      exact this
  · refine aw_tabIn 81 (by decide) (by decide) rfl rfl dX12_now_1 ?_
    refine aw_aload_n rfl dX12_now_81 ?_
    refine aw_v0 kX12_64 ⟨ble rfl, ble rfl⟩ (rcM) (ble rfl) dX12_now_82 (k_isSunday hM hs ?_)
    refine aw_zeq 92 rfl dX12_now_85 (fun c => ?_) (fun c => ?_)
    · refine aw_iconst (v := 0) (by decide) dX12_now_92 ?_
      refine aw_iret dX12_now_93 rfl ?_
      have := hQ _ h
      rw [c] at this
      exact this
    · refine aw_iconst (v := 1) (by decide) dX12_now_88 ?_
      refine aw_goto 93 rfl dX12_now_89 ?_
      refine aw_iret dX12_now_93 rfl ?_
      have := hQ _ h
      rw [c] at this
      exact this
  · refine aw_tabIn 94 (by decide) (by decide) rfl rfl dX12_now_1 ?_
    refine aw_aload_n rfl dX12_now_94 ?_
    refine aw_getR gX12_9_12 kM rfl (hM.s) dX12_now_95 ?_
    refine aw_iconst (v := 1) (by decide) dX12_now_98 ?_
    refine aw_ialoadN kS (c := 1) rfl (by decide) (by decide) dX12_now_99 ?_
    refine aw_iret dX12_now_100 rfl ?_
    rw [hs]
    exact hQ _ h
  · refine aw_tabIn 101 (by decide) (by decide) rfl rfl dX12_now_1 ?_
    refine aw_aload_n rfl dX12_now_101 ?_
    refine aw_getR gX12_9_12 kM rfl (hM.s) dX12_now_102 ?_
    refine aw_iconst (v := 2) (by decide) dX12_now_105 ?_
    refine aw_ialoadN kS (c := 2) rfl (by decide) (by decide) dX12_now_106 ?_
    refine aw_iret dX12_now_107 rfl ?_
    rw [hs]
    exact hQ _ h
  · refine aw_tabIn 108 (by decide) (by decide) rfl rfl dX12_now_1 ?_
    refine aw_aload_n rfl dX12_now_108 ?_
    refine aw_v0 kX12_71 ⟨ble rfl, ble rfl⟩ (rcM) (ble rfl) dX12_now_109 (k_aheadNow hM hs ?_)
    refine aw_iret dX12_now_112 rfl ?_
    exact hQ _ h
  · refine aw_tabIn 113 (by decide) (by decide) rfl rfl dX12_now_1 ?_
    refine aw_aload_n rfl dX12_now_113 ?_
    refine aw_v0 kX12_124 ⟨ble rfl, ble rfl⟩ (rcM) (ble rfl) dX12_now_114 (k_onRope hM hs h4 hm ?_)
    refine aw_iret dX12_now_117 rfl ?_
    exact hQ _ h
  · refine aw_tabIn 118 (by decide) (by decide) rfl rfl dX12_now_1 ?_
    refine aw_aload_n rfl dX12_now_118 ?_
    refine aw_iload_n rfl dX12_now_119 ?_
    refine aw_bipush (v := 8) (by decide) dX12_now_120 ?_
    refine aw_isub dX12_now_122 ?_
    refine aw_v1 kX12_78 ⟨ble rfl, ble rfl⟩ (rcM) (ble rfl) dX12_now_123 (k_sidePulls hM hs h4 hm ?_)
    refine aw_iret dX12_now_126 rfl ?_
    exact hQ _ h
  · refine aw_tabIn 118 (by decide) (by decide) rfl rfl dX12_now_1 ?_
    refine aw_aload_n rfl dX12_now_118 ?_
    refine aw_iload_n rfl dX12_now_119 ?_
    refine aw_bipush (v := 8) (by decide) dX12_now_120 ?_
    refine aw_isub dX12_now_122 ?_
    refine aw_v1 kX12_78 ⟨ble rfl, ble rfl⟩ (rcM) (ble rfl) dX12_now_123 (k_sidePulls hM hs h4 hm ?_)
    refine aw_iret dX12_now_126 rfl ?_
    exact hQ _ h
theorem q_person {k d : Int32} (h : MJ μ0 μ S) (hW : WF S) (hQ : ∀ μ', MJ μ0 μ' (sp_person k d S).2 → Q (some (.int (sp_person k d S).1)) K0 μ') : AM Sc mX12_person [.ref 71, .int k, .int d] K0 μ n Q := by
  refine AM.of rfl (ble rfl) ?_
  have hs := h.hs
  have hM := h.hM
  obtain ⟨h4, hm, -⟩ := hW.1
  unfold sp_person at hQ
  refine aw_iload_n rfl dX12_person_0 ?_
  refine aw_iconst (v := 0) (by decide) dX12_person_1 ?_
  refine aw_iconst (v := 5) (by decide) dX12_person_2 ?_
  refine aw_s3 kX12_52 ⟨ble rfl, ble rfl⟩ (ble rfl) dX12_person_3 (k_in1 ?_)
  have bad : (in1 k 0 5 && in1 d 0 1) = false → AW Sc mX12_person 16 [(0, .ref 71), (1, .int k), (2, .int d)] [] K0 μ n Q := by
    intro e
    rw [e] at hQ
    refine aw_aload_n rfl dX12_person_16 ?_
    refine aw_iconst (v := 0) (by decide) dX12_person_17 ?_
    refine aw_v1 kX12_118 ⟨ble rfl, ble rfl⟩ (rcM) (ble rfl) dX12_person_18 (q_no h rfl (by decide) (fun μ' h' => ?_))
    refine aw_iret dX12_person_21 rfl ?_
    exact hQ μ' h'
  refine aw_zeq 16 rfl dX12_person_6 (fun c => ?_) (fun c => ?_)
  · exact bad (by rw [c]; rfl)
  · refine aw_iload_n rfl dX12_person_9 ?_
    refine aw_s1 kX12_127 ⟨ble rfl, ble rfl⟩ (ble rfl) dX12_person_10 (k_isSide ?_)
    refine aw_zne 22 rfl dX12_person_13 (fun c2 => ?_) (fun c2 => ?_)
    · rw [c, c2] at hQ
      refine aw_aload_n rfl dX12_person_22 ?_
      refine aw_getR gX12_9_12 kM rfl (hM.s) dX12_person_23 ?_
      refine aw_iconst (v := 4) (by decide) dX12_person_26 ?_
      refine aw_ialoadN kS (c := 4) rfl (by decide) (by decide) dX12_person_27 ?_
      refine aw_bipush (v := 10) (by decide) dX12_person_28 ?_
      rw [hs]
      refine aw_icmp_ne 39 rfl dX12_person_30 (fun c3 => ?_) (fun c3 => ?_)
      · simp only [Bool.and_self, if_true, if_neg c3] at hQ
        have hm2 : mny S.1 < 10 := by
          rcases Nat.lt_or_ge (mny S.1) 10 with q | q
          · exact q
          · exact absurd (by rw [h4, show mny S.1 = 10 by omega]; rfl) c3
        refine aw_aload_n rfl dX12_person_39 ?_
        refine aw_iload_n rfl dX12_person_40 ?_
        refine aw_iload_n rfl dX12_person_41 ?_
        refine aw_v2 kX12_130 ⟨ble rfl, ble rfl⟩ (rcM) (ble rfl) dX12_person_42 (k_addsPerson hM hs h4 hm2 ?_)
        refine aw_aload_n rfl dX12_person_45 ?_
        refine aw_getR gX12_9_12 kM rfl (hM.s) dX12_person_46 ?_
        refine aw_iconst (v := 4) (by decide) dX12_person_49 ?_
        refine aw_ialoadN kS (c := 4) rfl (by decide) (by decide) dX12_person_50 ?_
        refine aw_iconst (v := 1) (by decide) dX12_person_51 ?_
        refine aw_isub dX12_person_52 ?_
        refine aw_iret dX12_person_53 rfl ?_
        rw [rowI_get]
        have e : addS S.1 (mny S.1) k d 4 - 1 = S.1 4 := by rw [addS, upd_eq, nI_pred]; exact h4.symm
        rw [e]
        exact hQ _ (h.row _)
      · simp only [Bool.and_self, if_true, if_pos c3] at hQ
        refine aw_aload_n rfl dX12_person_33 ?_
        refine aw_iconst (v := 1) (by decide) dX12_person_34 ?_
        refine aw_v1 kX12_118 ⟨ble rfl, ble rfl⟩ (rcM) (ble rfl) dX12_person_35 (q_no h (k := 1) rfl (by decide) (fun μ' h' => ?_))
        refine aw_iret dX12_person_38 rfl ?_
        exact hQ μ' h'
    · exact bad (by rw [c2, Bool.and_false])
theorem q_of {x w : Int32} (h : MJ μ0 μ S) (hW : WF S) (hQ : ∀ μ', MJ μ0 μ' (sp_of x w S).2 → Q (some (.int (sp_of x w S).1)) K0 μ') : AM Sc mX12_of [.ref 71, .int x, .int w] K0 μ n Q := by
  refine AM.of rfl (ble rfl) ?_
  have hs := h.hs
  have hM := h.hM
  obtain ⟨h4, hm, -⟩ := hW.1
  unfold sp_of at hQ
  have bad : (isP S x && in1 w 0 7) = false → AW Sc mX12_of 18 [(0, .ref 71), (1, .int x), (2, .int w)] [] K0 μ n Q := by
    intro e
    rw [e] at hQ
    refine aw_aload_n rfl dX12_of_18 ?_
    refine aw_iconst (v := 0) (by decide) dX12_of_19 ?_
    refine aw_v1 kX12_118 ⟨ble rfl, ble rfl⟩ (rcM) (ble rfl) dX12_of_20 (q_no h rfl (by decide) (fun μ' h' => ?_))
    refine aw_iret dX12_of_23 rfl ?_
    exact hQ μ' h'
  refine aw_aload_n rfl dX12_of_0 ?_
  refine aw_iload_n rfl dX12_of_1 ?_
  refine aw_v1 kX12_134 ⟨ble rfl, ble rfl⟩ (rcM) (ble rfl) dX12_of_2 (g_isPerson h ?_)
  refine aw_zeq 18 rfl dX12_of_5 (fun c => ?_) (fun c => ?_)
  · exact bad (by rw [c]; rfl)
  · refine aw_iload_n rfl dX12_of_8 ?_
    refine aw_iconst (v := 0) (by decide) dX12_of_9 ?_
    refine aw_bipush (v := 7) (by decide) dX12_of_10 ?_
    refine aw_s3 kX12_52 ⟨ble rfl, ble rfl⟩ (ble rfl) dX12_of_12 (k_in1 ?_)
    refine aw_zne 24 rfl dX12_of_15 (fun c2 => ?_) (fun c2 => ?_)
    · rw [c, c2] at hQ
      obtain ⟨k, hk, hx, hix⟩ := per_t h4 hm c
      obtain ⟨t, -, ht, rfl⟩ := in1_t (a := 0) (b := 7) (by decide) (by decide) c2
      rw [hix] at hQ
      simp only [Bool.and_self, if_true] at hQ
      refine aw_iload_n rfl dX12_of_24 ?_
      have hc : t = 5 ∨ t = 6 ∨ t = 7 ∨ t < 5 := by omega
      rcases hc with rfl | rfl | rfl | hc
      · refine aw_tabIn 52 (by decide) (by decide) rfl rfl dX12_of_25 ?_
        refine aw_aload_n rfl dX12_of_52 ?_
        refine aw_iload_n rfl dX12_of_53 ?_
        refine aw_v1 kX12_74 ⟨ble rfl, ble rfl⟩ (rcM) (ble rfl) dX12_of_54 (k_pullsOf hM hs hx (by omega) ?_)
        refine aw_iret dX12_of_57 rfl ?_
        exact hQ _ h
      · refine aw_tabIn 58 (by decide) (by decide) rfl rfl dX12_of_25 ?_
        refine aw_aload_n rfl dX12_of_58 ?_
        refine aw_iload_n rfl dX12_of_59 ?_
        refine aw_v1 kX12_85 ⟨ble rfl, ble rfl⟩ (rcM) (ble rfl) dX12_of_60 (k_tiresOf hM hs hx (by omega) ?_)
        refine aw_iret dX12_of_63 rfl ?_
        exact hQ _ h
      · refine aw_tabIn 64 (by decide) (by decide) rfl rfl dX12_of_25 ?_
        refine aw_aload_n rfl dX12_of_64 ?_
        refine aw_iload_n rfl dX12_of_65 ?_
        refine aw_v1 kX12_92 ⟨ble rfl, ble rfl⟩ (rcM) (ble rfl) dX12_of_66 (k_letsGo hM hs hx (by omega) ?_)
        refine aw_zeq 76 rfl dX12_of_69 (fun c3 => ?_) (fun c3 => ?_)
        · refine aw_iconst (v := 0) (by decide) dX12_of_76 ?_
          refine aw_iret dX12_of_77 rfl ?_
          have := hQ _ h
          rw [c3] at this
          exact this
        · refine aw_iconst (v := 1) (by decide) dX12_of_72 ?_
          refine aw_goto 77 rfl dX12_of_73 ?_
          refine aw_iret dX12_of_77 rfl ?_
          have := hQ _ h
          rw [c3] at this
          exact this
      · refine aw_tabOut 78 ((by rw [nI_toInt (by omega)]; omega)) rfl dX12_of_25 ?_
        have n5 : ∀ a : Nat, 5 ≤ a → a < 2 ^ 31 → ¬ nI t = nI a := fun a h1 h2 q => by
          have := (nI_eq (by omega) h2).mp q
          omega
        have e5 : ¬ nI t = 5 := n5 5 (by decide) (by decide)
        have e6 : ¬ nI t = 6 := n5 6 (by decide) (by decide)
        have e7 : ¬ nI t = 7 := n5 7 (by decide) (by decide)
        rw [if_neg e5, if_neg e6, if_neg e7, ix_nI (by omega)] at hQ
        refine aw_aload_n rfl dX12_of_78 ?_
        refine aw_iload_n rfl dX12_of_79 ?_
        refine aw_iload_n rfl dX12_of_80 ?_
        refine aw_v2 kX12_60 ⟨ble rfl, ble rfl⟩ (rcM) (ble rfl) dX12_of_81 (g_get hM hs hx (j := t) rfl (by omega) hc ?_)
        refine aw_iret dX12_of_84 rfl ?_
        exact hQ _ h
    · exact bad (by rw [c2, Bool.and_false])
end Pub1
