/-! THE CLASS, 12: wins, off, turns -/
section Cls12
variable {Sc : SCR} {μ μ0 : Mem} {n : Nat × Nat} {Q : PQ} {S : SG}
theorem e_wins {d v : Int32} (h : CI μ0 μ S) (hW : WF S) (hQ : ∀ μ', CI μ0 μ' (sp_wins d v S).2 → Q (some (.int (sp_wins d v S).1)) K0 μ') : AM Sc mX11_wins [.ref 0, .int d, .int v] K0 μ n Q := by
  refine AM.of rfl (ble rfl) ?_
  have hX := h.hX
  have hga := h.ga
  unfold sp_wins at hQ
  have bad : (in1 d 0 1 && in1 v 1 9999) = false → AW Sc mX11_wins 18 [(0, .ref 0), (1, .int d), (2, .int v)] [] K0 μ n Q := by
    intro e
    rw [e] at hQ
    refine aw_aload_n rfl dX11_wins_18 ?_
    refine aw_ldc (v := (-1000000001)) w_316 dX11_wins_19 ?_
    refine aw_v1 kX11_52 ⟨ble rfl, ble rfl⟩ (rcX) (ble rfl) dX11_wins_21 (e_finding (k := 0) h hW (by decide) (by decide) (fun μ' h' => ?_))
    refine aw_iret dX11_wins_24 rfl ?_
    exact hQ μ' h'
  refine aw_iload_n rfl dX11_wins_0 ?_
  refine aw_s1 kX11_93 ⟨ble rfl, ble rfl⟩ (ble rfl) dX11_wins_1 (c_isSide ?_)
  refine aw_zeq 18 rfl dX11_wins_4 (fun c => ?_) (fun c => ?_)
  · exact bad (by rw [c]; rfl)
  · refine aw_iload_n rfl dX11_wins_7 ?_
    refine aw_iconst (v := 1) (by decide) dX11_wins_8 ?_
    refine aw_sipush (v := 9999) (by decide) dX11_wins_9 ?_
    refine aw_s3 kX11_47 ⟨ble rfl, ble rfl⟩ (ble rfl) dX11_wins_12 (c_isWithin ?_)
    refine aw_zne 25 rfl dX11_wins_15 (fun c2 => ?_) (fun c2 => ?_)
    · rw [c, c2] at hQ
      simp only [Bool.and_self, if_true] at hQ
      generalize hT : fday (fun s => decide (v ≤ tow d s)) (mny S.1) 401 S.1 = T at hQ
      have loop : ∀ j i (ν : Mem), i + j = 401 → T = i + fday (fun s => decide (v ≤ tow d s)) (mny S.1) j (goesN (mny S.1) i S.1) → CI μ0 ν S → GA ν 20 (goesN (mny S.1) i S.1) → AW Sc mX11_wins 38 [(0, .ref 0), (1, .int d), (2, .int v), (3, .int (nI i))] [] K0 ν n Q := by
        intro j
        induction j with
        | zero =>
          intro i ν hi he hν hg
          obtain rfl : i = 401 := by omega
          refine aw_iload_n rfl dX11_wins_38 ?_
          refine aw_sipush (v := 400) (by decide) dX11_wins_39 ?_
          refine aw_icmp_gt 72 rfl dX11_wins_42 (fun _ => ?_) (fun c_ => absurd ((by decide)) c_)
          unfold ansD at hQ
          rw [fday] at he
          rw [if_neg (by omega)] at hQ
          refine aw_aload_n rfl dX11_wins_72 ?_
          refine aw_ldc (v := (-1000000004)) w_577 dX11_wins_73 ?_
          refine aw_v1 kX11_52 ⟨ble rfl, ble rfl⟩ (rcX) (ble rfl) dX11_wins_75 (e_finding (k := 3) hν hW (by decide) (by decide) (fun μ' h' => ?_))
          refine aw_iret dX11_wins_78 rfl ?_
          exact hQ μ' h'
        | succ j ih =>
          intro i ν hi he hν hg
          have hX := hν.hX
          refine aw_iload_n rfl dX11_wins_38 ?_
          refine aw_sipush (v := 400) (by decide) dX11_wins_39 ?_
          refine aw_icmp_gt 72 rfl dX11_wins_42 (fun c_ => absurd c_ (nI_nlt (b := i) (a := 400) (by omega) (by omega))) (fun _ => ?_)
          refine aw_aload_n rfl dX11_wins_45 ?_
          refine aw_getR gX11_16_11 kX rfl (hX.trial) dX11_wins_46 ?_
          refine aw_iload_n rfl dX11_wins_49 ?_
          refine aw_v1 kX11_174 ⟨ble rfl, ble rfl⟩ (rcG g20) (ble rfl) dX11_wins_50 (c_towards g20 hg.2.1 ?_)
          refine aw_iload_n rfl dX11_wins_53 ?_
          rw [fday] at he
          refine aw_icmp_lt 59 rfl dX11_wins_54 (fun c3 => ?_) (fun c3 => ?_)
          · rw [decide_eq_false (Int32.not_le.mpr c3), if_neg (by decide)] at he
            refine aw_aload_n rfl dX11_wins_59 ?_
            refine aw_getR gX11_16_11 kX rfl (hX.trial) dX11_wins_60 ?_
            refine aw_v0 kX11_177 ⟨ble rfl, ble rfl⟩ (rcG g20) (ble rfl) dX11_wins_63 (c_goDay g20 hg (WFs_goes i hW.1) (fun μ2 F2 h2 => ?_))
            refine aw_iinc rfl (v := 1) (by decide) (ble rfl) dX11_wins_66 ?_
            refine aw_goto 38 rfl dX11_wins_69 ?_
            rw [nI_1]
            rw [mny_goes, ← goesN_succ] at h2
            exact ih (i + 1) μ2 (by omega) (by rw [goesN_succ]; omega) (hν.tr hW F2) h2
          · rw [decide_eq_true (Int32.not_lt.mp c3), if_pos rfl] at he
            obtain rfl : T = i := by omega
            unfold ansD at hQ
            rw [if_pos (by omega)] at hQ
            refine aw_iload_n rfl dX11_wins_57 ?_
            refine aw_iret dX11_wins_58 rfl ?_
            exact hQ ν hν
      refine aw_aload_n rfl dX11_wins_25 ?_
      refine aw_getR gX11_16_11 kX rfl (hX.trial) dX11_wins_26 ?_
      refine aw_aload_n rfl dX11_wins_29 ?_
      refine aw_getR gX11_10_11 kX rfl (hX.green) dX11_wins_30 ?_
      refine aw_v1 kX11_170 ⟨ble rfl, ble rfl⟩ (rcG g20) (ble rfl) dX11_wins_33 (c_become g20 g1 (by decide) hX.2.1.2.1 hga hW.1 (fun μ1 F1 h1 => ?_))
      refine aw_iconst (v := 0) (by decide) dX11_wins_36 ?_
      refine aw_istore_n (ble rfl) dX11_wins_37 ?_
      exact loop 401 0 μ1 rfl (by rw [Nat.zero_add]; exact hT.symm) (h.tr hW F1) h1
    · exact bad (by rw [c2, Bool.and_false])
theorem e_off {x : Int32} (h : CI μ0 μ S) (hW : WF S) (hQ : ∀ μ', CI μ0 μ' (sp_off x S).2 → Q (some (.int (sp_off x S).1)) K0 μ') : AM Sc mX11_off [.ref 0, .int x] K0 μ n Q := by
  refine AM.of rfl (ble rfl) ?_
  have hX := h.hX
  have hga := h.ga
  obtain ⟨h4, hm, -⟩ := hW.1
  unfold sp_off at hQ
  refine aw_aload_n rfl dX11_off_0 ?_
  refine aw_getR gX11_10_11 kX rfl (hX.green) dX11_off_1 ?_
  refine aw_iload_n rfl dX11_off_4 ?_
  refine aw_v1 kX11_107 ⟨ble rfl, ble rfl⟩ (rcG g1) (ble rfl) dX11_off_5 (c_has g1 hga hW.1 ?_)
  refine aw_zne 18 rfl dX11_off_8 (fun c => ?_) (fun c => ?_)
  · rw [if_pos (show isP S x = true from c)] at hQ
    obtain ⟨p, hp, hxp, hip⟩ := per_t h4 hm c
    rw [hip] at hQ
    generalize hT : fday (fun s => decide (¬ s (5 + 5 * p + 2) = 1)) (mny S.1) 401 S.1 = T at hQ
    have loop : ∀ j i (ν : Mem), i + j = 401 → T = i + fday (fun s => decide (¬ s (5 + 5 * p + 2) = 1)) (mny S.1) j (goesN (mny S.1) i S.1) → CI μ0 ν S → GA ν 20 (goesN (mny S.1) i S.1) → AW Sc mX11_off 31 [(0, .ref 0), (1, .int x), (2, .int (nI i))] [] K0 ν n Q := by
      intro j
      induction j with
      | zero =>
        intro i ν hi he hν hg
        obtain rfl : i = 401 := by omega
        refine aw_iload_n rfl dX11_off_31 ?_
        refine aw_sipush (v := 400) (by decide) dX11_off_32 ?_
        refine aw_icmp_gt 68 rfl dX11_off_35 (fun _ => ?_) (fun c_ => absurd ((by decide)) c_)
        unfold ansD at hQ
        rw [fday] at he
        rw [if_neg (by omega)] at hQ
        refine aw_aload_n rfl dX11_off_68 ?_
        refine aw_ldc (v := (-1000000004)) w_577 dX11_off_69 ?_
        refine aw_v1 kX11_52 ⟨ble rfl, ble rfl⟩ (rcX) (ble rfl) dX11_off_71 (e_finding (k := 3) hν hW (by decide) (by decide) (fun μ' h' => ?_))
        refine aw_iret dX11_off_74 rfl ?_
        exact hQ μ' h'
      | succ j ih =>
        intro i ν hi he hν hg
        have hX := hν.hX
        have hWt := WFs_goes (m := mny S.1) i hW.1
        have hpt : p < mny (goesN (mny S.1) i S.1) := by rw [mny_goes]; exact hp
        obtain ⟨w0, w1, w2, w3, w4⟩ := hWt.2.2.2.2 p hpt
        refine aw_iload_n rfl dX11_off_31 ?_
        refine aw_sipush (v := 400) (by decide) dX11_off_32 ?_
        refine aw_icmp_gt 68 rfl dX11_off_35 (fun c_ => absurd c_ (nI_nlt (b := i) (a := 400) (by omega) (by omega))) (fun _ => ?_)
        refine aw_aload_n rfl dX11_off_38 ?_
        refine aw_getR gX11_16_11 kX rfl (hX.trial) dX11_off_39 ?_
        refine aw_getR gX11_110_2 (kG g20) rfl (hg.1.2.1) dX11_off_42 ?_
        refine aw_iload_n rfl dX11_off_45 ?_
        refine aw_aaloadN (kGp g20) (fun _ => rfl) hxp (by omega) (by decide) (hg.pe (by omega)) dX11_off_46 ?_
        refine aw_getI gX11_128_4 (kP g20 (i := p) (by omega)) rfl dX11_off_47 ?_
        rw [(hg.2.2 p hpt).1.2.1]
        rw [fday] at he
        refine aw_if_ne 55 rfl dX11_off_50 (fun c3 => ?_) (fun c3 => ?_)
        · have c4 := w2.resolve_left c3
          rw [decide_eq_false (fun z => z c4), if_neg (by decide)] at he
          refine aw_aload_n rfl dX11_off_55 ?_
          refine aw_getR gX11_16_11 kX rfl (hX.trial) dX11_off_56 ?_
          refine aw_v0 kX11_177 ⟨ble rfl, ble rfl⟩ (rcG g20) (ble rfl) dX11_off_59 (c_goDay g20 hg hWt (fun μ2 F2 h2 => ?_))
          refine aw_iinc rfl (v := 1) (by decide) (ble rfl) dX11_off_62 ?_
          refine aw_goto 31 rfl dX11_off_65 ?_
          rw [nI_1]
          rw [mny_goes, ← goesN_succ] at h2
          exact ih (i + 1) μ2 (by omega) (by rw [goesN_succ]; omega) (hν.tr hW F2) h2
        · rw [decide_eq_true (by rw [c3]; decide), if_pos rfl] at he
          obtain rfl : T = i := by omega
          unfold ansD at hQ
          rw [if_pos (by omega)] at hQ
          refine aw_iload_n rfl dX11_off_53 ?_
          refine aw_iret dX11_off_54 rfl ?_
          exact hQ ν hν
    refine aw_aload_n rfl dX11_off_18 ?_
    refine aw_getR gX11_16_11 kX rfl (hX.trial) dX11_off_19 ?_
    refine aw_aload_n rfl dX11_off_22 ?_
    refine aw_getR gX11_10_11 kX rfl (hX.green) dX11_off_23 ?_
    refine aw_v1 kX11_170 ⟨ble rfl, ble rfl⟩ (rcG g20) (ble rfl) dX11_off_26 (c_become g20 g1 (by decide) hX.2.1.2.1 hga hW.1 (fun μ1 F1 h1 => ?_))
    refine aw_iconst (v := 0) (by decide) dX11_off_29 ?_
    refine aw_istore_n (ble rfl) dX11_off_30 ?_
    exact loop 401 0 μ1 rfl (by rw [Nat.zero_add]; exact hT.symm) (h.tr hW F1) h1
  · rw [if_neg (by unfold isP; rw [c]; decide)] at hQ
    refine aw_aload_n rfl dX11_off_11 ?_
    refine aw_ldc (v := (-1000000001)) w_316 dX11_off_12 ?_
    refine aw_v1 kX11_52 ⟨ble rfl, ble rfl⟩ (rcX) (ble rfl) dX11_off_14 (e_finding (k := 0) h hW (by decide) (by decide) (fun μ' h' => ?_))
    refine aw_iret dX11_off_17 rfl ?_
    exact hQ μ' h'
theorem e_turns (h : CI μ0 μ S) (hW : WF S) (hQ : ∀ μ', CI μ0 μ' (sp_turns S).2 → Q (some (.int (sp_turns S).1)) K0 μ') : AM Sc mX11_turns [.ref 0] K0 μ n Q := by
  refine AM.of rfl (ble rfl) ?_
  have hX := h.hX
  have hga := h.ga
  unfold sp_turns at hQ
  generalize hT : fday (fun s => decide (¬ aheadN s = aheadN S.1)) (mny S.1) 401 S.1 = T at hQ
  rw [fday, decide_eq_false (fun z => z rfl), if_neg (by decide)] at hT
  have loop : ∀ j i (ν : Mem), i + j = 400 → T = i + 1 + fday (fun s => decide (¬ aheadN s = aheadN S.1)) (mny S.1) j (goesN (mny S.1) (i + 1) S.1) → CI μ0 ν S → GA ν 20 (goesN (mny S.1) i S.1) → AW Sc mX11_turns 13 [(0, .ref 0), (1, .int (nI (i + 1)))] [] K0 ν n Q := by
    intro j
    induction j with
    | zero =>
      intro i ν hi he hν hg
      obtain rfl : i = 400 := by omega
      refine aw_iload_n rfl dX11_turns_13 ?_
      refine aw_sipush (v := 400) (by decide) dX11_turns_14 ?_
      refine aw_icmp_gt 52 rfl dX11_turns_17 (fun _ => ?_) (fun c_ => absurd ((by decide)) c_)
      unfold ansD at hQ
      rw [fday] at he
      rw [if_neg (by omega)] at hQ
      refine aw_aload_n rfl dX11_turns_52 ?_
      refine aw_ldc (v := (-1000000004)) w_577 dX11_turns_53 ?_
      refine aw_v1 kX11_52 ⟨ble rfl, ble rfl⟩ (rcX) (ble rfl) dX11_turns_55 (e_finding (k := 3) hν hW (by decide) (by decide) (fun μ' h' => ?_))
      refine aw_iret dX11_turns_58 rfl ?_
      exact hQ μ' h'
    | succ j ih =>
      intro i ν hi he hν hg
      have hX := hν.hX
      refine aw_iload_n rfl dX11_turns_13 ?_
      refine aw_sipush (v := 400) (by decide) dX11_turns_14 ?_
      refine aw_icmp_gt 52 rfl dX11_turns_17 (fun c_ => absurd c_ (nI_nlt (b := i + 1) (a := 400) (by omega) (by omega))) (fun _ => ?_)
      refine aw_aload_n rfl dX11_turns_20 ?_
      refine aw_getR gX11_16_11 kX rfl (hX.trial) dX11_turns_21 ?_
      refine aw_v0 kX11_177 ⟨ble rfl, ble rfl⟩ (rcG g20) (ble rfl) dX11_turns_24 (c_goDay g20 hg (WFs_goes i hW.1) (fun μ2 F2 h2 => ?_))
      rw [mny_goes, ← goesN_succ] at h2
      have i2 := hν.tr hW F2
      have hX := i2.hX
      refine aw_aload_n rfl dX11_turns_27 ?_
      refine aw_getR gX11_16_11 kX rfl (hX.trial) dX11_turns_28 ?_
      refine aw_v0 kX11_80 ⟨ble rfl, ble rfl⟩ (rcG g20) (ble rfl) dX11_turns_31 (c_sideAhead g20 h2 ?_)
      refine aw_aload_n rfl dX11_turns_34 ?_
      refine aw_getR gX11_10_11 kX rfl (hX.green) dX11_turns_35 ?_
      refine aw_v0 kX11_80 ⟨ble rfl, ble rfl⟩ (rcG g1) (ble rfl) dX11_turns_38 (c_sideAhead g1 i2.ga ?_)
      rw [fday] at he
      refine aw_icmp_eq 46 rfl dX11_turns_41 (fun c3 => ?_) (fun c3 => ?_)
      · rw [decide_eq_false (fun z => z c3), if_neg (by decide)] at he
        refine aw_iinc rfl (v := 1) (by decide) (ble rfl) dX11_turns_46 ?_
        refine aw_goto 13 rfl dX11_turns_49 ?_
        rw [nI_1]
        exact ih (i + 1) μ2 (by omega) (by rw [goesN_succ _ (i + 1)]; omega) i2 h2
      · rw [decide_eq_true c3, if_pos rfl] at he
        obtain rfl : T = i + 1 := by omega
        unfold ansD at hQ
        rw [if_pos (by omega)] at hQ
        refine aw_iload_n rfl dX11_turns_44 ?_
        refine aw_iret dX11_turns_45 rfl ?_
        exact hQ μ2 i2
  refine aw_aload_n rfl dX11_turns_0 ?_
  refine aw_getR gX11_16_11 kX rfl (hX.trial) dX11_turns_1 ?_
  refine aw_aload_n rfl dX11_turns_4 ?_
  refine aw_getR gX11_10_11 kX rfl (hX.green) dX11_turns_5 ?_
  refine aw_v1 kX11_170 ⟨ble rfl, ble rfl⟩ (rcG g20) (ble rfl) dX11_turns_8 (c_become g20 g1 (by decide) hX.2.1.2.1 hga hW.1 (fun μ1 F1 h1 => ?_))
  refine aw_iconst (v := 1) (by decide) dX11_turns_11 ?_
  refine aw_istore_n (ble rfl) dX11_turns_12 ?_
  exact loop 400 0 μ1 rfl (by rw [← hT]; exact Nat.add_comm _ _) (h.tr hW F1) h1
end Cls12
