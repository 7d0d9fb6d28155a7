/-! THE CLASS, 15: image, undo, tear, count, wipe -/
section CIs2
variable {μ0 μ μ' : Mem} {S : SG}
theorem CI.flag (hW : WF S) (h : CI μ0 μ S) (b : Bool) (kp : Nat → Int32) (hk : b = true → GA μ 39 kp ∧ mny kp ≤ 10) : CI μ0 (pI μ 0 3 (bI b)) (kM1 S b kp) := by
  obtain ⟨a, x, c, d, e, f', t1, t2, t3, t4, t5⟩ := h
  show CI μ0 (rowI μ 0 (upd (μ.1 0) 3 (bI b))) _
  refine ⟨fun q hq => ?_, x, fun j k hj hk => ?_, d.rowO g1 hW.1.2.1 (by omega), fun e' => (hk e').1.rowO g39 (hk e').2 (by omega), ?_, fun k hk => ?_, ?_, fun k hk => ?_, fun i hi => ?_, t5⟩
  · rw [rowI_ne _ _ (by omega)]; exact a q hq
  · rw [rowI_ne _ _ (by omega)]; exact c j k hj hk
  · rw [rowI_get, upd_eq]; rfl
  · rw [rowI_ne _ _ (by omega)]; exact t1 k hk
  · rw [rowI_ne _ _ (by omega)]; exact t2
  · rw [rowI_ne _ _ (by omega)]; exact t3 k hk
  · rw [rowI_ne _ _ (by omega)]; exact t4 i hi
/-- the tape's own ints change: its size is told -/
theorem CI.trw (hW : WF S) (h : CI μ0 μ S) (f : Nat → Int32) (c' : Nat) (hf : f 1 = nI c') : CI μ0 (rowI μ 59 f) (tM1 S S.2.2.2.2.1 c') := by
  obtain ⟨a, x, c, d, e, f', t1, t2, t3, t4, t5⟩ := h
  refine ⟨fun q hq => ?_, x, fun j k hj hk => ?_, d.rowO g1 hW.1.2.1 (by omega), fun e' => (e e').rowO g39 (hW.2.1 e').2.1 (by omega), ?_, fun k hk => ?_, ?_, fun k hk => ?_, fun i hi => ?_, t5⟩
  · rw [rowI_ne _ _ (by omega)]; exact a q hq
  · rw [rowI_ne _ _ (by rcases hj with rfl | rfl | rfl <;> omega)]; exact c j k hj hk
  · rw [rowI_ne _ _ (by omega)]; exact f'
  · rw [rowI_ne _ _ (by omega)]; exact t1 k hk
  · rw [rowI_get]; exact hf
  · rw [rowI_ne _ _ (by omega)]; exact t3 k hk
  · rw [rowI_ne _ _ (by omega)]; exact t4 i hi
end CIs2
section Cls15
variable {Sc : SCR} {μ μ0 : Mem} {n : Nat × Nat} {Q : PQ} {S : SG}
theorem e_image (h : CI μ0 μ S) (hW : WF S) (hQ : ∀ μ', CI μ0 μ' (sp_image S).2 → Q (some (.int (sp_image S).1)) K0 μ') : AM Sc mX11_image [.ref 0] K0 μ n Q := by
  refine AM.of rfl (ble rfl) ?_
  have hX := h.hX
  have hga := h.ga
  refine aw_aload_n rfl dX11_image_0 ?_
  refine aw_getR gX11_19_11 kX rfl (hX.kept) dX11_image_1 ?_
  refine aw_aload_n rfl dX11_image_4 ?_
  refine aw_getR gX11_10_11 kX rfl (hX.green) dX11_image_5 ?_
  refine aw_v1 kX11_170 ⟨ble rfl, ble rfl⟩ (rcG g39) (ble rfl) dX11_image_8 (c_become g39 g1 (by decide) hX.2.1.2.2 hga hW.1 (fun μ1 F1 h1 => ?_))
  have i1 := h.frs g39 F1 (s' := S.1) (kp := S.1) (GA.fr g39 g1 (by decide) hW.1.2.1 hga F1) (fun _ => h1)
  have hW1 : WF ((S.1, S.2.1, S.2.2.1, S.1, S.2.2.2.2) : SG) := ⟨hW.1, fun _ => hW.1, hW.2.2⟩
  have i2 := i1.flag hW1 true S.1 (fun _ => ⟨h1, hW.1.2.1⟩)
  refine aw_aload_n rfl dX11_image_11 ?_
  refine aw_iconst (v := 1) (by decide) dX11_image_12 ?_
  refine aw_putI (pX11_254_11 _) kX rfl (by decide) (by decide) dX11_image_13 ?_
  refine aw_iconst (v := 1) (by decide) dX11_image_16 ?_
  refine aw_iret dX11_image_17 rfl ?_
  exact hQ _ i2
theorem e_undo (h : CI μ0 μ S) (hW : WF S) (hQ : ∀ μ', CI μ0 μ' (sp_undo S).2 → Q (some (.int (sp_undo S).1)) K0 μ') : AM Sc mX11_undo [.ref 0] K0 μ n Q := by
  refine AM.of rfl (ble rfl) ?_
  have hX := h.hX
  unfold sp_undo at hQ
  refine aw_aload_n rfl dX11_undo_0 ?_
  refine aw_getI gX11_254_11 kX rfl dX11_undo_1 ?_
  rw [h.2.2.2.2.2.1]
  refine aw_zne 14 rfl dX11_undo_4 (fun c => ?_) (fun c => ?_)
  · rw [if_pos c] at hQ
    have hk := h.2.2.2.2.1 c
    refine aw_aload_n rfl dX11_undo_14 ?_
    refine aw_getR gX11_10_11 kX rfl (hX.green) dX11_undo_15 ?_
    refine aw_aload_n rfl dX11_undo_18 ?_
    refine aw_getR gX11_19_11 kX rfl (hX.kept) dX11_undo_19 ?_
    refine aw_v1 kX11_170 ⟨ble rfl, ble rfl⟩ (rcG g1) (ble rfl) dX11_undo_22 (c_become g1 g39 (by decide) hX.2.1.1 hk (hW.2.1 c) (fun μ1 F1 h1 => ?_))
    have i1 := h.gr hW F1 h1
    have hX := i1.hX
    refine aw_aload_n rfl dX11_undo_25 ?_
    refine aw_getR gX11_10_11 kX rfl (hX.green) dX11_undo_26 ?_
    refine aw_getI gX11_100_2 kG1 rfl dX11_undo_29 ?_
    refine aw_iret dX11_undo_32 rfl ?_
    rw [h1.2.1.2.2.2.2]
    exact hQ _ i1
  · rw [if_neg (by rw [c]; decide)] at hQ
    refine aw_aload_n rfl dX11_undo_7 ?_
    refine aw_ldc (v := (-1000000004)) w_577 dX11_undo_8 ?_
    refine aw_v1 kX11_52 ⟨ble rfl, ble rfl⟩ (rcX) (ble rfl) dX11_undo_10 (e_finding (k := 3) h hW (by decide) (by decide) (fun μ' h' => ?_))
    refine aw_iret dX11_undo_13 rfl ?_
    exact hQ μ' h'
theorem e_tear (h : CI μ0 μ S) (hW : WF S) (hQ : ∀ μ', CI μ0 μ' (sp_tear S).2 → Q (some (.int (sp_tear S).1)) K0 μ') : AM Sc mX11_tear [.ref 0] K0 μ n Q := by
  refine AM.of rfl (ble rfl) ?_
  unfold sp_tear at hQ
  have i2 := h.flag hW false S.2.2.2.1 (fun e => by cases e)
  have hq := hQ _ i2
  refine aw_aload_n rfl dX11_tear_0 ?_
  refine aw_getI gX11_254_11 kX rfl dX11_tear_1 ?_
  rw [h.2.2.2.2.2.1]
  refine aw_zeq 11 rfl dX11_tear_4 (fun c => ?_) (fun c => ?_)
  · rw [c] at hq
    refine aw_iconst (v := 0) (by decide) dX11_tear_11 ?_
    refine aw_istore_n (ble rfl) dX11_tear_12 ?_
    refine aw_aload_n rfl dX11_tear_13 ?_
    refine aw_iconst (v := 0) (by decide) dX11_tear_14 ?_
    refine aw_putI (pX11_254_11 _) kX rfl (by decide) (by decide) dX11_tear_15 ?_
    refine aw_iload_n rfl dX11_tear_18 ?_
    refine aw_iret dX11_tear_19 rfl ?_
    exact hq
  · rw [c] at hq
    refine aw_iconst (v := 1) (by decide) dX11_tear_7 ?_
    refine aw_goto 12 rfl dX11_tear_8 ?_
    refine aw_istore_n (ble rfl) dX11_tear_12 ?_
    refine aw_aload_n rfl dX11_tear_13 ?_
    refine aw_iconst (v := 0) (by decide) dX11_tear_14 ?_
    refine aw_putI (pX11_254_11 _) kX rfl (by decide) (by decide) dX11_tear_15 ?_
    refine aw_iload_n rfl dX11_tear_18 ?_
    refine aw_iret dX11_tear_19 rfl ?_
    exact hq
theorem e_count {x : Int32} (h : CI μ0 μ S) (hW : WF S) (hQ : ∀ μ', CI μ0 μ' (sp_count x S).2 → Q (some (.int (sp_count x S).1)) K0 μ') : AM Sc mX11_count [.ref 0, .int x] K0 μ n Q := by
  refine AM.of rfl (ble rfl) ?_
  have hX := h.hX
  have hga := h.ga
  unfold sp_count at hQ
  refine aw_iload_n rfl dX11_count_0 ?_
  cases c2 : in1 x 0 3 with
  | false =>
    have e : ∀ k : Nat, k < 4 → ¬ x = nI k := by
      intro k hk z
      rw [z] at c2
      have : ∀ k : Nat, k < 4 → ¬ in1 (nI k) 0 3 = false := by decide
      exact this k hk c2
    rw [if_neg (show ¬ x = 0 from e 0 (by decide)), if_neg (show ¬ x = 1 from e 1 (by decide)), if_neg (show ¬ x = 2 from e 2 (by decide)), if_neg (show ¬ x = 3 from e 3 (by decide))] at hQ
    refine aw_tabOut 65 (in1_out (b := 3) (by decide) c2) rfl dX11_count_1 ?_
    refine aw_aload_n rfl dX11_count_65 ?_
    refine aw_ldc (v := (-1000000001)) w_316 dX11_count_66 ?_
    refine aw_v1 kX11_52 ⟨ble rfl, ble rfl⟩ (rcX) (ble rfl) dX11_count_68 (e_finding (k := 0) h hW (by decide) (by decide) (fun μ' h' => ?_))
    refine aw_iret dX11_count_71 rfl ?_
    exact hQ μ' h'
  | true =>
    obtain ⟨t, -, ht, rfl⟩ := in1_t (a := 0) (b := 3) (by decide) (by decide) c2
    have ht4 : t = 0 ∨ t = 1 ∨ t = 2 ∨ t = 3 := by omega
    rcases ht4 with rfl | rfl | rfl | rfl
    · refine aw_tabIn 32 (by decide) (by decide) rfl rfl dX11_count_1 ?_
      refine aw_aload_n rfl dX11_count_32 ?_
      refine aw_getR gX11_10_11 kX rfl (hX.green) dX11_count_33 ?_
      refine aw_getI gX11_100_2 kG1 rfl dX11_count_36 ?_
      refine aw_iret dX11_count_39 rfl ?_
      rw [hga.2.1.2.2.2.2]
      exact hQ _ h
    · refine aw_tabIn 40 (by decide) (by decide) rfl rfl dX11_count_1 ?_
      refine aw_aload_n rfl dX11_count_40 ?_
      refine aw_getR gX11_32_11 kX rfl (hX.tape) dX11_count_41 ?_
      refine aw_getI gX11_209_9 kTp rfl dX11_count_44 ?_
      refine aw_iret dX11_count_47 rfl ?_
      rw [h.2.2.2.2.2.2.2.1]
      exact hQ _ h
    · refine aw_tabIn 48 (by decide) (by decide) rfl rfl dX11_count_1 ?_
      refine aw_aload_n rfl dX11_count_48 ?_
      refine aw_getR gX11_10_11 kX rfl (hX.green) dX11_count_49 ?_
      refine aw_iconst (v := 0) (by decide) dX11_count_52 ?_
      refine aw_v1 kX11_258 ⟨ble rfl, ble rfl⟩ (rcG g1) (ble rfl) dX11_count_53 (c_sizeOf g1 hga hW.1 ?_)
      refine aw_iret dX11_count_56 rfl ?_
      exact hQ _ h
    · refine aw_tabIn 57 (by decide) (by decide) rfl rfl dX11_count_1 ?_
      refine aw_aload_n rfl dX11_count_57 ?_
      refine aw_getR gX11_10_11 kX rfl (hX.green) dX11_count_58 ?_
      refine aw_v0 kX11_261 ⟨ble rfl, ble rfl⟩ (rcG g1) (ble rfl) dX11_count_61 (c_tiredTogether g1 hga hW.1 ?_)
      refine aw_iret dX11_count_64 rfl ?_
      exact hQ _ h
theorem e_wipe (h : CI μ0 μ S) (hW : WF S) (hQ : ∀ μ', CI μ0 μ' (sp_wipe S).2 → Q (some (.int (sp_wipe S).1)) K0 μ') : AM Sc mX11_wipe [.ref 0] K0 μ n Q := by
  refine AM.of rfl (ble rfl) ?_
  have hX := h.hX
  refine aw_aload_n rfl dX11_wipe_0 ?_
  refine aw_getR gX11_32_11 kX rfl (hX.tape) dX11_wipe_1 ?_
  refine aw_getI gX11_209_9 kTp rfl dX11_wipe_4 ?_
  refine aw_istore_n (ble rfl) dX11_wipe_7 ?_
  refine aw_aload_n rfl dX11_wipe_8 ?_
  refine aw_getR gX11_32_11 kX rfl (hX.tape) dX11_wipe_9 ?_
  refine aw_iconst (v := 0) (by decide) dX11_wipe_12 ?_
  refine aw_putI (pX11_209_9 _) kTp rfl rfl rfl dX11_wipe_13 ?_
  refine aw_iload_n rfl dX11_wipe_16 ?_
  refine aw_iret dX11_wipe_17 rfl ?_
  rw [h.2.2.2.2.2.2.2.1]
  exact hQ _ (h.trw hW (upd (μ.1 59) 1 0) 0 upd_eq)
theorem stS_all {f : Nat → Int32} : ∀ k, stS f (-1) (k + 1) = stS f (-1) k + f k := by
  intro k
  rw [stS, if_pos (Or.inl rfl)]
theorem stS_one {f : Nat → Int32} {t : Nat} (ht : t < 7) : stS f (nI t) 7 = f t := by
  have h1 : ∀ t : Nat, t < 7 → ¬ nI t = -1 := by decide
  have h2 : ∀ t : Nat, t < 7 → ∀ k : Nat, k < 7 → ¬ t = k → ¬ nI t = nI k := by decide
  have lo : ∀ k, k ≤ t → stS f (nI t) k = 0 := by
    intro k
    induction k with
    | zero => intro _; rfl
    | succ k ih =>
      intro hk
      rw [stS, ih (by omega), if_neg (fun z => z.elim (h1 t ht) (h2 t ht k (by omega) (by omega)))]
      rfl
  have hi : ∀ d, t + 1 + d ≤ 7 → stS f (nI t) (t + 1 + d) = f t := by
    intro d
    induction d with
    | zero =>
      intro _
      show stS f (nI t) (t + 1) = f t
      rw [stS, lo t (Nat.le_refl _), if_pos (Or.inr rfl), Int32.zero_add]
    | succ d ih =>
      intro hd
      rw [← Nat.add_assoc, stS, ih (by omega), if_neg (fun z => z.elim (h1 t ht) (h2 t ht (t + 1 + d) (by omega) (by omega))), Int32.add_zero]
  have := hi (6 - t) (by omega)
  rw [show t + 1 + (6 - t) = 7 by omega] at this
  exact this
theorem e_status {x : Int32} (h : CI μ0 μ S) (hW : WF S) (hQ : ∀ μ', CI μ0 μ' (sp_status x S).2 → Q (some (.int (sp_status x S).1)) K0 μ') : AM Sc mX11_status [.ref 0, .int x] K0 μ n Q := by
  refine AM.of rfl (ble rfl) ?_
  have hX := h.hX
  have hf := h.2.2.2.2.2.2.1
  unfold sp_status at hQ
  refine aw_iload_n rfl dX11_status_0 ?_
  refine aw_iconst (v := (-1)) (by decide) dX11_status_1 ?_
  refine aw_bipush (v := 6) (by decide) dX11_status_2 ?_
  refine aw_s3 kX11_47 ⟨ble rfl, ble rfl⟩ (ble rfl) dX11_status_4 (c_isWithin ?_)
  refine aw_zne 17 rfl dX11_status_7 (fun c => ?_) (fun c => ?_)
  · rw [if_pos c] at hQ
    have hx : x = -1 ∨ ∃ t : Nat, t < 7 ∧ x = nI t := by
      simp only [in1, Bool.and_eq_true, decide_eq_true_eq] at c
      rw [fa_le, fa_le] at c
      have c : (-1 : Int) ≤ x.toInt ∧ x.toInt ≤ 6 := c
      by_cases e : x.toInt = -1
      · exact Or.inl ((fa_eq _ _).mpr e)
      · refine Or.inr ⟨x.toInt.toNat, by omega, ?_⟩
        rw [fa_eq, nI_toInt (by omega)]
        omega
    rcases hx with rfl | ⟨t, ht, rfl⟩
    · refine aw_iload_n rfl dX11_status_17 ?_
      refine aw_if_lt 28 rfl dX11_status_18 (fun _ => ?_) (fun c_ => absurd ((by decide)) c_)
      have loop : ∀ j i, i + j = 7 → AW Sc mX11_status 32 [(0, .ref 0), (1, .int (-1)), (2, .int (stS S.2.1 (-1) i)), (3, .int (nI i))] [] K0 μ n Q := by
        intro j
        induction j with
        | zero =>
          intro i hi
          obtain rfl : i = 7 := by omega
          refine aw_iload_n rfl dX11_status_32 ?_
          refine aw_bipush (v := 7) (by decide) dX11_status_33 ?_
          refine aw_icmp_ge 53 rfl dX11_status_35 (fun _ => ?_) (fun c_ => absurd ((by decide)) c_)
          refine aw_iload_n rfl dX11_status_53 ?_
          refine aw_iret dX11_status_54 rfl ?_
          exact hQ μ h
        | succ j ih =>
          intro i hi
          have ih' := ih (i + 1) (by omega)
          rw [stS_all] at ih'
          refine aw_iload_n rfl dX11_status_32 ?_
          refine aw_bipush (v := 7) (by decide) dX11_status_33 ?_
          refine aw_icmp_ge 53 rfl dX11_status_35 (fun c_ => absurd c_ (nI_ge (b := 7) (by omega) (by omega))) (fun _ => ?_)
          refine aw_iload_n rfl dX11_status_38 ?_
          refine aw_aload_n rfl dX11_status_39 ?_
          refine aw_getR gX11_42_11 kX rfl (hX.found) dX11_status_40 ?_
          refine aw_iload_n rfl dX11_status_43 ?_
          refine aw_ialoadN kFnd rfl (by omega) (by decide) dX11_status_44 ?_
          refine aw_iadd dX11_status_45 ?_
          refine aw_istore_n (ble rfl) dX11_status_46 ?_
          refine aw_iinc rfl (v := 1) (by decide) (ble rfl) dX11_status_47 ?_
          refine aw_goto 32 rfl dX11_status_50 ?_
          rw [nI_1, hf i (by omega)]
          exact ih'
      refine aw_iconst (v := 0) (by decide) dX11_status_28 ?_
      refine aw_istore_n (ble rfl) dX11_status_29 ?_
      refine aw_iconst (v := 0) (by decide) dX11_status_30 ?_
      refine aw_istore_n (ble rfl) dX11_status_31 ?_
      exact loop 7 0 rfl
    · rw [stS_one ht] at hQ
      refine aw_iload_n rfl dX11_status_17 ?_
      refine aw_if_lt 28 rfl dX11_status_18 (fun c_ => absurd c_ (nI_pos (by omega))) (fun _ => ?_)
      refine aw_aload_n rfl dX11_status_21 ?_
      refine aw_getR gX11_42_11 kX rfl (hX.found) dX11_status_22 ?_
      refine aw_iload_n rfl dX11_status_25 ?_
      refine aw_ialoadN kFnd rfl ht (by decide) dX11_status_26 ?_
      refine aw_iret dX11_status_27 rfl ?_
      rw [hf t ht]
      exact hQ μ h
  · rw [if_neg (by rw [c]; decide)] at hQ
    refine aw_aload_n rfl dX11_status_10 ?_
    refine aw_ldc (v := (-1000000001)) w_316 dX11_status_11 ?_
    refine aw_v1 kX11_52 ⟨ble rfl, ble rfl⟩ (rcX) (ble rfl) dX11_status_13 (e_finding (k := 0) h hW (by decide) (by decide) (fun μ' h' => ?_))
    refine aw_iret dX11_status_16 rfl ?_
    exact hQ μ' h'
end Cls15
