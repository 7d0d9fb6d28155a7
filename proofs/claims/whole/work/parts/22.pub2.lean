/-! THE MODEL'S CALLS, 2: people, relief, days -/
section Pub2
variable {Sc : SCR} {μ μ0 : Mem} {n : Nat × Nat} {Q : PQ} {S : SG} {s : Nat → Int32}
theorem q_set {x w v : Int32} (h : MJ μ0 μ S) (hW : WF S) (hQ : ∀ μ', MJ μ0 μ' (sp_set x w v S).2 → Q (some (.int (sp_set x w v S).1)) K0 μ') : AM Sc mX12_set [.ref 71, .int x, .int w, .int v] K0 μ n Q := by
  refine AM.of rfl (ble rfl) ?_
  have hs := h.hs
  have hM := h.hM
  obtain ⟨h4, hm, -⟩ := hW.1
  unfold sp_set at hQ
  have fin : ∀ most : Int32, (if w = 3 then 99 else if w = 4 then 20 else 1) = most → AW Sc mX12_set 21 [(0, .ref 71), (1, .int x), (2, .int w), (3, .int v)] [.int most] K0 μ n Q := by
    intro most hmo
    rw [hmo] at hQ
    have bad : (isP S x && (in1 w 1 4 && in1 v (if w = 4 then 1 else 0) most)) = false → AW Sc mX12_set 59 [(0, .ref 71), (1, .int x), (2, .int w), (3, .int v), (4, .int most)] [] K0 μ n Q := by
      intro e
      rw [e] at hQ
      refine aw_aload_n rfl dX12_set_59 ?_
      refine aw_iconst (v := 0) (by decide) dX12_set_60 ?_
      refine aw_v1 kX12_118 ⟨ble rfl, ble rfl⟩ (rcM) (ble rfl) dX12_set_61 (q_no h rfl (by decide) (fun μ' h' => ?_))
      refine aw_iret dX12_set_64 rfl ?_
      exact hQ μ' h'
    refine aw_istore (ble rfl) dX12_set_21 ?_
    refine aw_aload_n rfl dX12_set_23 ?_
    refine aw_iload_n rfl dX12_set_24 ?_
    refine aw_v1 kX12_134 ⟨ble rfl, ble rfl⟩ (rcM) (ble rfl) dX12_set_25 (g_isPerson h ?_)
    refine aw_zeq 59 rfl dX12_set_28 (fun c => ?_) (fun c => ?_)
    · exact bad (by rw [c]; rfl)
    · refine aw_iload_n rfl dX12_set_31 ?_
      refine aw_iconst (v := 1) (by decide) dX12_set_32 ?_
      refine aw_iconst (v := 4) (by decide) dX12_set_33 ?_
      refine aw_s3 kX12_52 ⟨ble rfl, ble rfl⟩ (ble rfl) dX12_set_34 (k_in1 ?_)
      refine aw_zeq 59 rfl dX12_set_37 (fun c2 => ?_) (fun c2 => ?_)
      · exact bad (by rw [c2, Bool.false_and, Bool.and_false])
      · have fin2 : ∀ least : Int32, (if w = 4 then 1 else 0) = least → AW Sc mX12_set 51 [(0, .ref 71), (1, .int x), (2, .int w), (3, .int v), (4, .int most)] [.int least, .int v] K0 μ n Q := by
          intro least hle
          rw [hle] at hQ bad
          refine aw_iload rfl dX12_set_51 ?_
          refine aw_s3 kX12_52 ⟨ble rfl, ble rfl⟩ (ble rfl) dX12_set_53 (k_in1 ?_)
          refine aw_zne 65 rfl dX12_set_56 (fun c3 => ?_) (fun c3 => ?_)
          · rw [c, c2, c3] at hQ
            obtain ⟨k, hk, hx, hix⟩ := per_t h4 hm c
            obtain ⟨t, -, ht, hw⟩ := in1_t (a := 1) (b := 4) (by decide) (by decide) c2
            have hiw : ix w = t := by rw [hw]; exact ix_nI (by omega)
            rw [hix, hiw] at hQ
            refine aw_aload_n rfl dX12_set_65 ?_
            refine aw_iload_n rfl dX12_set_66 ?_
            refine aw_iload_n rfl dX12_set_67 ?_
            refine aw_v2 kX12_60 ⟨ble rfl, ble rfl⟩ (rcM) (ble rfl) dX12_set_68 (g_get hM hs hx hw (by omega) (by omega) ?_)
            refine aw_istore (ble rfl) dX12_set_71 ?_
            refine aw_aload_n rfl dX12_set_73 ?_
            refine aw_iload_n rfl dX12_set_74 ?_
            refine aw_iload_n rfl dX12_set_75 ?_
            refine aw_iload_n rfl dX12_set_76 ?_
            refine aw_v3 kX12_88 ⟨ble rfl, ble rfl⟩ (rcM) (ble rfl) dX12_set_77 (g_puts hM hs hx hw (by omega) (by omega) ?_)
            refine aw_iload rfl dX12_set_80 ?_
            refine aw_iret dX12_set_82 rfl ?_
            exact hQ _ (h.row _)
          · exact bad (by rw [c3, Bool.and_false, Bool.and_false])
        refine aw_iload_n rfl dX12_set_40 ?_
        refine aw_iload_n rfl dX12_set_41 ?_
        refine aw_iconst (v := 4) (by decide) dX12_set_42 ?_
        refine aw_icmp_ne 50 rfl dX12_set_43 (fun c4 => ?_) (fun c4 => ?_)
        · refine aw_iconst (v := 0) (by decide) dX12_set_50 ?_
          exact fin2 _ (if_neg c4)
        · refine aw_iconst (v := 1) (by decide) dX12_set_46 ?_
          refine aw_goto 51 rfl dX12_set_47 ?_
          exact fin2 _ (if_pos c4)
  refine aw_iload_n rfl dX12_set_0 ?_
  refine aw_iconst (v := 3) (by decide) dX12_set_1 ?_
  refine aw_icmp_ne 10 rfl dX12_set_2 (fun c => ?_) (fun c => ?_)
  · refine aw_iload_n rfl dX12_set_10 ?_
    refine aw_iconst (v := 4) (by decide) dX12_set_11 ?_
    refine aw_icmp_ne 20 rfl dX12_set_12 (fun c2 => ?_) (fun c2 => ?_)
    · refine aw_iconst (v := 1) (by decide) dX12_set_20 ?_
      exact fin _ (by rw [if_neg c, if_neg c2])
    · refine aw_bipush (v := 20) (by decide) dX12_set_15 ?_
      refine aw_goto 21 rfl dX12_set_17 ?_
      exact fin _ (by rw [if_neg c, if_pos c2])
  · refine aw_bipush (v := 99) (by decide) dX12_set_5 ?_
    refine aw_goto 21 rfl dX12_set_7 ?_
    exact fin _ (by rw [if_pos c])
theorem q_turn {x k : Int32} (h : MJ μ0 μ S) (hW : WF S) (hQ : ∀ μ', MJ μ0 μ' (sp_turn x k S).2 → Q (some (.int (sp_turn x k S).1)) K0 μ') : AM Sc mX12_turn [.ref 71, .int x, .int k] K0 μ n Q := by
  refine AM.of rfl (ble rfl) ?_
  have hs := h.hs
  have hM := h.hM
  obtain ⟨h4, hm, -⟩ := hW.1
  unfold sp_turn at hQ
  have bad : (isP S x && in1 k 0 5) = false → AW Sc mX12_turn 17 [(0, .ref 71), (1, .int x), (2, .int k)] [] K0 μ n Q := by
    intro e
    rw [e] at hQ
    refine aw_aload_n rfl dX12_turn_17 ?_
    refine aw_iconst (v := 0) (by decide) dX12_turn_18 ?_
    refine aw_v1 kX12_118 ⟨ble rfl, ble rfl⟩ (rcM) (ble rfl) dX12_turn_19 (q_no h rfl (by decide) (fun μ' h' => ?_))
    refine aw_iret dX12_turn_22 rfl ?_
    exact hQ μ' h'
  refine aw_aload_n rfl dX12_turn_0 ?_
  refine aw_iload_n rfl dX12_turn_1 ?_
  refine aw_v1 kX12_134 ⟨ble rfl, ble rfl⟩ (rcM) (ble rfl) dX12_turn_2 (g_isPerson h ?_)
  refine aw_zeq 17 rfl dX12_turn_5 (fun c => ?_) (fun c => ?_)
  · exact bad (by rw [c]; rfl)
  · refine aw_iload_n rfl dX12_turn_8 ?_
    refine aw_iconst (v := 0) (by decide) dX12_turn_9 ?_
    refine aw_iconst (v := 5) (by decide) dX12_turn_10 ?_
    refine aw_s3 kX12_52 ⟨ble rfl, ble rfl⟩ (ble rfl) dX12_turn_11 (k_in1 ?_)
    refine aw_zne 23 rfl dX12_turn_14 (fun c2 => ?_) (fun c2 => ?_)
    · rw [c, c2] at hQ
      obtain ⟨p, hk, hx, hix⟩ := per_t h4 hm c
      rw [hix] at hQ
      refine aw_aload_n rfl dX12_turn_23 ?_
      refine aw_iload_n rfl dX12_turn_24 ?_
      refine aw_iconst (v := 0) (by decide) dX12_turn_25 ?_
      refine aw_v2 kX12_60 ⟨ble rfl, ble rfl⟩ (rcM) (ble rfl) dX12_turn_26 (g_get hM hs hx (j := 0) rfl (by omega) (by decide) ?_)
      refine aw_istore_n (ble rfl) dX12_turn_29 ?_
      refine aw_aload_n rfl dX12_turn_30 ?_
      refine aw_iload_n rfl dX12_turn_31 ?_
      refine aw_iconst (v := 0) (by decide) dX12_turn_32 ?_
      refine aw_iload_n rfl dX12_turn_33 ?_
      refine aw_v3 kX12_88 ⟨ble rfl, ble rfl⟩ (rcM) (ble rfl) dX12_turn_34 (g_puts hM hs hx (j := 0) rfl (by omega) (by decide) ?_)
      refine aw_iload_n rfl dX12_turn_37 ?_
      refine aw_iret dX12_turn_38 rfl ?_
      exact hQ _ (h.row _)
    · exact bad (by rw [c2, Bool.and_false])
theorem q_as {x k : Int32} (h : MJ μ0 μ S) (hW : WF S) (hQ : ∀ μ', MJ μ0 μ' (sp_as x k S).2 → Q (some (.int (sp_as x k S).1)) K0 μ') : AM Sc mX12_as [.ref 71, .int x, .int k] K0 μ n Q := by
  refine AM.of rfl (ble rfl) ?_
  have hs := h.hs
  have hM := h.hM
  obtain ⟨h4, hm, -, -, hp⟩ := hW.1
  unfold sp_as at hQ
  have bad : (isP S x && in1 k 0 5) = false → AW Sc mX12_as 17 [(0, .ref 71), (1, .int x), (2, .int k)] [] K0 μ n Q := by
    intro e
    rw [e] at hQ
    refine aw_aload_n rfl dX12_as_17 ?_
    refine aw_iconst (v := 0) (by decide) dX12_as_18 ?_
    refine aw_v1 kX12_118 ⟨ble rfl, ble rfl⟩ (rcM) (ble rfl) dX12_as_19 (q_no h rfl (by decide) (fun μ' h' => ?_))
    refine aw_iret dX12_as_22 rfl ?_
    exact hQ μ' h'
  refine aw_aload_n rfl dX12_as_0 ?_
  refine aw_iload_n rfl dX12_as_1 ?_
  refine aw_v1 kX12_134 ⟨ble rfl, ble rfl⟩ (rcM) (ble rfl) dX12_as_2 (g_isPerson h ?_)
  refine aw_zeq 17 rfl dX12_as_5 (fun c => ?_) (fun c => ?_)
  · exact bad (by rw [c]; rfl)
  · refine aw_iload_n rfl dX12_as_8 ?_
    refine aw_iconst (v := 0) (by decide) dX12_as_9 ?_
    refine aw_iconst (v := 5) (by decide) dX12_as_10 ?_
    refine aw_s3 kX12_52 ⟨ble rfl, ble rfl⟩ (ble rfl) dX12_as_11 (k_in1 ?_)
    refine aw_zne 23 rfl dX12_as_14 (fun c2 => ?_) (fun c2 => ?_)
    · rw [c, c2] at hQ
      obtain ⟨p, hk, hx, hix⟩ := per_t h4 hm c
      rw [hix] at hQ
      simp only [Bool.and_self, if_true] at hQ
      obtain ⟨⟨a, ha, hA⟩, -⟩ := hp p hk
      rw [hA] at hQ
      refine aw_aload_n rfl dX12_as_23 ?_
      refine aw_iload_n rfl dX12_as_24 ?_
      refine aw_iconst (v := 0) (by decide) dX12_as_25 ?_
      refine aw_v2 kX12_60 ⟨ble rfl, ble rfl⟩ (rcM) (ble rfl) dX12_as_26 (g_get hM hs hx (j := 0) rfl (by omega) (by decide) ?_)
      refine aw_istore_n (ble rfl) dX12_as_29 ?_
      show AW Sc mX12_as 30 [(0, .ref 71), (1, .int x), (2, .int k), (3, .int (S.1 (5 + 5 * p)))] [] K0 μ n Q
      rw [hA]
      have good : ∀ z : Int32, z = k → isOfK (nI a) k = true → AW Sc mX12_as 62 [(0, .ref 71), (1, .int x), (2, .int k), (3, .int z)] [] K0 μ n Q := by
        intro z hz e
        rw [e] at hQ
        refine aw_iload_n rfl dX12_as_62 ?_
        refine aw_iload_n rfl dX12_as_63 ?_
        refine aw_icmp_ne 76 rfl dX12_as_64 (fun c_ => absurd (hz) c_) (fun _ => ?_)
        refine aw_aload_n rfl dX12_as_67 ?_
        refine aw_iload_n rfl dX12_as_68 ?_
        refine aw_iconst (v := 4) (by decide) dX12_as_69 ?_
        refine aw_v2 kX12_60 ⟨ble rfl, ble rfl⟩ (rcM) (ble rfl) dX12_as_70 (g_get hM hs hx (j := 4) rfl (by omega) (by decide) ?_)
        refine aw_goto 81 rfl dX12_as_73 ?_
        refine aw_iret dX12_as_81 rfl ?_
        exact hQ _ h
      have fail : ∀ z : Int32, ¬ z = k → isOfK (nI a) k = false → AW Sc mX12_as 62 [(0, .ref 71), (1, .int x), (2, .int k), (3, .int z)] [] K0 μ n Q := by
        intro z hz e
        rw [e] at hQ
        refine aw_iload_n rfl dX12_as_62 ?_
        refine aw_iload_n rfl dX12_as_63 ?_
        refine aw_icmp_ne 76 rfl dX12_as_64 (fun _ => ?_) (fun c_ => absurd c_ (hz))
        refine aw_aload_n rfl dX12_as_76 ?_
        refine aw_iconst (v := 2) (by decide) dX12_as_77 ?_
        refine aw_v1 kX12_118 ⟨ble rfl, ble rfl⟩ (rcM) (ble rfl) dX12_as_78 (q_no h (k := 2) rfl (by decide) (fun μ' h' => ?_))
        refine aw_iret dX12_as_81 rfl ?_
        exact hQ μ' h'
      have zero : isOfK (nI a) k = decide (0 = k) → AW Sc mX12_as 30 [(0, .ref 71), (1, .int x), (2, .int k), (3, .int 0)] [] K0 μ n Q := by
        intro e
        refine aw_iload_n rfl dX12_as_30 ?_
        refine aw_iload_n rfl dX12_as_31 ?_
        refine aw_icmp_eq 62 rfl dX12_as_32 (fun c3 => ?_) (fun c3 => ?_)
        · exact good 0 c3 (by rw [e, decide_eq_true c3])
        · refine aw_iload_n rfl dX12_as_35 ?_
          refine aw_if_eq 62 rfl dX12_as_36 (fun _ => ?_) (fun c_ => absurd (rfl) c_)
          exact fail 0 c3 (by rw [e, decide_eq_false c3])
      have nz : ∀ b : Nat, b < 6 → ¬ nI b = k → isOfK (nI a) k = (decide (nI b = k) || decide (k = 0)) → ∀ z : Int32, True → (if nI b = 4 then 1 else if nI b = 5 then 2 else 0) = z → (z = 0 → AW Sc mX12_as 58 [(0, .ref 71), (1, .int x), (2, .int k), (3, .int (nI b))] [.int z] K0 μ n Q) := by
        intro b _ hbk e z _ _ hz
        subst hz
        refine aw_istore_n (ble rfl) dX12_as_58 ?_
        refine aw_goto 30 rfl dX12_as_59 ?_
        refine zero ?_
        rw [e, decide_eq_false hbk, Bool.false_or]
        congr 1
        exact propext ⟨fun q => q.symm, fun q => q.symm⟩
      have step3 : ∀ b : Nat, b = 1 ∨ b = 2 ∨ b = 3 → isOfK (nI a) k = (decide (nI b = k) || decide (k = 0)) → AW Sc mX12_as 30 [(0, .ref 71), (1, .int x), (2, .int k), (3, .int (nI b))] [] K0 μ n Q := by
        intro b hb e
        refine aw_iload_n rfl dX12_as_30 ?_
        refine aw_iload_n rfl dX12_as_31 ?_
        refine aw_icmp_eq 62 rfl dX12_as_32 (fun c3 => ?_) (fun c3 => ?_)
        · exact good _ c3 (by rw [e, decide_eq_true c3, Bool.true_or])
        · refine aw_iload_n rfl dX12_as_35 ?_
          refine aw_if_eq 62 rfl dX12_as_36 (fun c_ => absurd c_ (nI_ne0 (by omega) (by omega))) (fun _ => ?_)
          refine aw_iload_n rfl dX12_as_39 ?_
          refine aw_iconst (v := 4) (by decide) dX12_as_40 ?_
          refine aw_icmp_ne 48 rfl dX12_as_41 (fun _ => ?_) (fun c_ => absurd c_ ((by rcases hb with rfl | rfl | rfl <;> decide)))
          refine aw_iload_n rfl dX12_as_48 ?_
          refine aw_iconst (v := 5) (by decide) dX12_as_49 ?_
          refine aw_icmp_ne 57 rfl dX12_as_50 (fun _ => ?_) (fun c_ => absurd c_ ((by rcases hb with rfl | rfl | rfl <;> decide)))
          refine aw_iconst (v := 0) (by decide) dX12_as_57 ?_
          exact nz b (by omega) c3 e 0 trivial (by rcases hb with rfl | rfl | rfl <;> decide) rfl
      have hc : a = 0 ∨ (a = 1 ∨ a = 2 ∨ a = 3) ∨ a = 4 ∨ a = 5 := by omega
      rcases hc with rfl | hc | rfl | rfl
      · refine zero ?_
        simp only [isOfK]
        by_cases q : k = 0
        · subst q; rfl
        · have q1 : ¬ nI 0 = k := fun z => q z.symm
          have q2 : ¬ (0 : Int32) = k := fun z => q z.symm
          have q3 : ¬ nI 0 = 4 := by decide
          have q4 : ¬ nI 0 = 5 := by decide
          simp [q, q1, q2, q3, q4]
      · refine step3 a hc ?_
        have q3 : ¬ nI a = 4 := by rcases hc with rfl | rfl | rfl <;> decide
        have q4 : ¬ nI a = 5 := by rcases hc with rfl | rfl | rfl <;> decide
        simp [isOfK, q3, q4]
      · refine aw_iload_n rfl dX12_as_30 ?_
        refine aw_iload_n rfl dX12_as_31 ?_
        refine aw_icmp_eq 62 rfl dX12_as_32 (fun c3 => ?_) (fun c3 => ?_)
        · exact good _ c3 (by simp [isOfK, c3])
        · refine aw_iload_n rfl dX12_as_35 ?_
          refine aw_if_eq 62 rfl dX12_as_36 (fun c_ => absurd c_ ((by decide))) (fun _ => ?_)
          refine aw_iload_n rfl dX12_as_39 ?_
          refine aw_iconst (v := 4) (by decide) dX12_as_40 ?_
          refine aw_icmp_ne 48 rfl dX12_as_41 (fun c_ => absurd (rfl) c_) (fun _ => ?_)
          refine aw_iconst (v := 1) (by decide) dX12_as_44 ?_
          refine aw_goto 58 rfl dX12_as_45 ?_
          refine aw_istore_n (ble rfl) dX12_as_58 ?_
          refine aw_goto 30 rfl dX12_as_59 ?_
          refine step3 1 (Or.inl rfl) ?_
          have q5 : decide (nI 1 = k) = decide (k = 1) := by
            by_cases q : k = 1
            · subst q; rfl
            · rw [decide_eq_false q, decide_eq_false (fun z => q z.symm)]
          rw [isOfK, q5, decide_eq_false c3, show decide (nI 4 = 4) = true from rfl, show decide (nI 4 = 5) = false by decide, Bool.false_or, Bool.true_and, Bool.false_and, Bool.or_false]
          exact Bool.or_comm _ _
      · refine aw_iload_n rfl dX12_as_30 ?_
        refine aw_iload_n rfl dX12_as_31 ?_
        refine aw_icmp_eq 62 rfl dX12_as_32 (fun c3 => ?_) (fun c3 => ?_)
        · exact good _ c3 (by simp [isOfK, c3])
        · refine aw_iload_n rfl dX12_as_35 ?_
          refine aw_if_eq 62 rfl dX12_as_36 (fun c_ => absurd c_ ((by decide))) (fun _ => ?_)
          refine aw_iload_n rfl dX12_as_39 ?_
          refine aw_iconst (v := 4) (by decide) dX12_as_40 ?_
          refine aw_icmp_ne 48 rfl dX12_as_41 (fun _ => ?_) (fun c_ => absurd c_ ((by decide)))
          refine aw_iload_n rfl dX12_as_48 ?_
          refine aw_iconst (v := 5) (by decide) dX12_as_49 ?_
          refine aw_icmp_ne 57 rfl dX12_as_50 (fun c_ => absurd (rfl) c_) (fun _ => ?_)
          refine aw_iconst (v := 2) (by decide) dX12_as_53 ?_
          refine aw_goto 58 rfl dX12_as_54 ?_
          refine aw_istore_n (ble rfl) dX12_as_58 ?_
          refine aw_goto 30 rfl dX12_as_59 ?_
          refine step3 2 (Or.inr (Or.inl rfl)) ?_
          have q5 : decide (nI 2 = k) = decide (k = 2) := by
            by_cases q : k = 2
            · subst q; rfl
            · rw [decide_eq_false q, decide_eq_false (fun z => q z.symm)]
          rw [isOfK, q5, decide_eq_false c3, show decide (nI 5 = 5) = true from rfl, show decide (nI 5 = 4) = false by decide, Bool.false_or, Bool.true_and, Bool.false_and, Bool.or_false]
          exact Bool.or_comm _ _
    · exact bad (by rw [c2, Bool.and_false])
theorem k_mayRelieve {a b : Nat} {x y : Int32} (hM : MR μ.2.2) (hs : μ.1 72 = s) (hx : x = nI a) (hy : y = nI b) (ha : a < 10) (hb : b < 10) (hQ : Q (some (.int (bI (mayR s a b)))) K0 μ) : AM Sc mX12_mayRelieve [.ref 71, .int x, .int y] K0 μ n Q := by
  refine AM.of rfl (ble rfl) ?_
  have bad : mayR s a b = false → AW Sc mX12_mayRelieve 38 [(0, .ref 71), (1, .int x), (2, .int y)] [] K0 μ n Q := by
    intro e
    refine aw_iconst (v := 0) (by decide) dX12_mayRelieve_38 ?_
    exact aw_zret (b := mayR s a b) (by rw [e]; rfl) dX12_mayRelieve_39 rfl hQ
  refine aw_aload_n rfl dX12_mayRelieve_0 ?_
  refine aw_iload_n rfl dX12_mayRelieve_1 ?_
  refine aw_iconst (v := 2) (by decide) dX12_mayRelieve_2 ?_
  refine aw_v2 kX12_60 ⟨ble rfl, ble rfl⟩ (rcM) (ble rfl) dX12_mayRelieve_3 (g_get hM hs hx (j := 2) rfl ha (by decide) ?_)
  refine aw_if_ne 38 rfl dX12_mayRelieve_6 (fun c => ?_) (fun c => ?_)
  · exact bad (by simp [mayR, c])
  · refine aw_aload_n rfl dX12_mayRelieve_9 ?_
    refine aw_iload_n rfl dX12_mayRelieve_10 ?_
    refine aw_iconst (v := 2) (by decide) dX12_mayRelieve_11 ?_
    refine aw_v2 kX12_60 ⟨ble rfl, ble rfl⟩ (rcM) (ble rfl) dX12_mayRelieve_12 (g_get hM hs hy (j := 2) rfl hb (by decide) ?_)
    refine aw_iconst (v := 1) (by decide) dX12_mayRelieve_15 ?_
    refine aw_icmp_ne 38 rfl dX12_mayRelieve_16 (fun c2 => ?_) (fun c2 => ?_)
    · exact bad (by simp [mayR, c2])
    · refine aw_aload_n rfl dX12_mayRelieve_19 ?_
      refine aw_iload_n rfl dX12_mayRelieve_20 ?_
      refine aw_iconst (v := 1) (by decide) dX12_mayRelieve_21 ?_
      refine aw_v2 kX12_60 ⟨ble rfl, ble rfl⟩ (rcM) (ble rfl) dX12_mayRelieve_22 (g_get hM hs hx (j := 1) rfl ha (by decide) ?_)
      refine aw_aload_n rfl dX12_mayRelieve_25 ?_
      refine aw_iload_n rfl dX12_mayRelieve_26 ?_
      refine aw_iconst (v := 1) (by decide) dX12_mayRelieve_27 ?_
      refine aw_v2 kX12_60 ⟨ble rfl, ble rfl⟩ (rcM) (ble rfl) dX12_mayRelieve_28 (g_get hM hs hy (j := 1) rfl hb (by decide) ?_)
      refine aw_icmp_ne 38 rfl dX12_mayRelieve_31 (fun c3 => ?_) (fun c3 => ?_)
      · exact bad (by simp [mayR, c3])
      · refine aw_iconst (v := 1) (by decide) dX12_mayRelieve_34 ?_
        refine aw_goto 39 rfl dX12_mayRelieve_35 ?_
        exact aw_zret (b := mayR s a b) (by simp [mayR, c, c2, c3, bI]) dX12_mayRelieve_39 rfl hQ
theorem k_relieves {a b : Nat} {x y : Int32} (hM : MR μ.2.2) (hs : μ.1 72 = s) (hx : x = nI a) (hy : y = nI b) (ha : a < 10) (hb : b < 10) (hQ : Q none K0 (rowI μ 72 (relS s a b))) : AM Sc mX12_relieves [.ref 71, .int x, .int y] K0 μ n Q := by
  refine AM.of rfl (ble rfl) ?_
  refine aw_aload_n rfl dX12_relieves_0 ?_
  refine aw_iload_n rfl dX12_relieves_1 ?_
  refine aw_iconst (v := 2) (by decide) dX12_relieves_2 ?_
  refine aw_iconst (v := 1) (by decide) dX12_relieves_3 ?_
  refine aw_v3 kX12_88 ⟨ble rfl, ble rfl⟩ (rcM) (ble rfl) dX12_relieves_4 (g_puts hM hs hx (j := 2) rfl ha (by decide) ?_)
  refine aw_aload_n rfl dX12_relieves_7 ?_
  refine aw_iload_n rfl dX12_relieves_8 ?_
  refine aw_iconst (v := 2) (by decide) dX12_relieves_9 ?_
  refine aw_iconst (v := 0) (by decide) dX12_relieves_10 ?_
  refine aw_v3 kX12_88 ⟨ble rfl, ble rfl⟩ (rcM) (ble rfl) dX12_relieves_11 (g_puts hM (rowI_get _ _ _) hy (j := 2) rfl hb (by decide) ?_)
  rw [rowI_rowI]
  refine aw_return dX12_relieves_14 rfl ?_
  exact hQ
theorem q_relieve {x y : Int32} (h : MJ μ0 μ S) (hW : WF S) (hQ : ∀ μ', MJ μ0 μ' (sp_relieve x y S).2 → Q (some (.int (sp_relieve x y S).1)) K0 μ') : AM Sc mX12_relieve [.ref 71, .int x, .int y] K0 μ n Q := by
  refine AM.of rfl (ble rfl) ?_
  have hs := h.hs
  have hM := h.hM
  obtain ⟨h4, hm, -⟩ := hW.1
  unfold sp_relieve at hQ
  have bad : (isP S x && isP S y) = false → AW Sc mX12_relieve 16 [(0, .ref 71), (1, .int x), (2, .int y)] [] K0 μ n Q := by
    intro e
    rw [e] at hQ
    refine aw_aload_n rfl dX12_relieve_16 ?_
    refine aw_iconst (v := 0) (by decide) dX12_relieve_17 ?_
    refine aw_v1 kX12_118 ⟨ble rfl, ble rfl⟩ (rcM) (ble rfl) dX12_relieve_18 (q_no h rfl (by decide) (fun μ' h' => ?_))
    refine aw_iret dX12_relieve_21 rfl ?_
    exact hQ μ' h'
  refine aw_aload_n rfl dX12_relieve_0 ?_
  refine aw_iload_n rfl dX12_relieve_1 ?_
  refine aw_v1 kX12_134 ⟨ble rfl, ble rfl⟩ (rcM) (ble rfl) dX12_relieve_2 (g_isPerson h ?_)
  refine aw_zeq 16 rfl dX12_relieve_5 (fun c => ?_) (fun c => ?_)
  · exact bad (by rw [c]; rfl)
  · refine aw_aload_n rfl dX12_relieve_8 ?_
    refine aw_iload_n rfl dX12_relieve_9 ?_
    refine aw_v1 kX12_134 ⟨ble rfl, ble rfl⟩ (rcM) (ble rfl) dX12_relieve_10 (g_isPerson h ?_)
    refine aw_zne 22 rfl dX12_relieve_13 (fun c2 => ?_) (fun c2 => ?_)
    · rw [c, c2] at hQ
      obtain ⟨a, ha, hx, hix⟩ := per_t h4 hm c
      obtain ⟨b, hb, hy, hiy⟩ := per_t h4 hm c2
      rw [hix, hiy] at hQ
      refine aw_aload_n rfl dX12_relieve_22 ?_
      refine aw_iload_n rfl dX12_relieve_23 ?_
      refine aw_iload_n rfl dX12_relieve_24 ?_
      refine aw_v2 kX12_137 ⟨ble rfl, ble rfl⟩ (rcM) (ble rfl) dX12_relieve_25 (k_mayRelieve hM hs hx hy (by omega) (by omega) ?_)
      refine aw_zne 37 rfl dX12_relieve_28 (fun c3 => ?_) (fun c3 => ?_)
      · rw [c3] at hQ
        refine aw_aload_n rfl dX12_relieve_37 ?_
        refine aw_iload_n rfl dX12_relieve_38 ?_
        refine aw_iload_n rfl dX12_relieve_39 ?_
        refine aw_v2 kX12_141 ⟨ble rfl, ble rfl⟩ (rcM) (ble rfl) dX12_relieve_40 (k_relieves hM hs hx hy (by omega) (by omega) ?_)
        refine aw_iconst (v := 1) (by decide) dX12_relieve_43 ?_
        refine aw_iret dX12_relieve_44 rfl ?_
        exact hQ _ (h.row _)
      · rw [c3] at hQ
        refine aw_aload_n rfl dX12_relieve_31 ?_
        refine aw_iconst (v := 4) (by decide) dX12_relieve_32 ?_
        refine aw_v1 kX12_118 ⟨ble rfl, ble rfl⟩ (rcM) (ble rfl) dX12_relieve_33 (q_no h (k := 4) rfl (by decide) (fun μ' h' => ?_))
        refine aw_iret dX12_relieve_36 rfl ?_
        exact hQ μ' h'
    · exact bad (by rw [c2, Bool.and_false])
theorem q_days {t : Int32} (h : MJ μ0 μ S) (hW : WF S) (hQ : ∀ μ', MJ μ0 μ' (sp_days t S).2 → Q (some (.int (sp_days t S).1)) K0 μ') : AM Sc mX12_days [.ref 71, .int t] K0 μ n Q := by
  refine AM.of rfl (ble rfl) ?_
  have hs := h.hs
  have hM := h.hM
  obtain ⟨h4, hm, -⟩ := hW.1
  unfold sp_days at hQ
  refine aw_iload_n rfl dX12_days_0 ?_
  refine aw_iconst (v := 1) (by decide) dX12_days_1 ?_
  refine aw_bipush (v := 100) (by decide) dX12_days_2 ?_
  refine aw_s3 kX12_52 ⟨ble rfl, ble rfl⟩ (ble rfl) dX12_days_4 (k_in1 ?_)
  refine aw_zne 16 rfl dX12_days_7 (fun c => ?_) (fun c => ?_)
  · rw [c] at hQ
    obtain ⟨k, -, hk, hx⟩ := in1_t (a := 1) (b := 100) (by decide) (by decide) c
    have hix : ix t = k := by rw [hx]; exact ix_nI (by omega)
    rw [hix] at hQ
    refine aw_aload_n rfl dX12_days_16 ?_
    refine aw_getR gX12_9_12 kM rfl (hM.s) dX12_days_17 ?_
    refine aw_iconst (v := 0) (by decide) dX12_days_20 ?_
    refine aw_ialoadN kS (c := 0) rfl (by decide) (by decide) dX12_days_21 ?_
    refine aw_iload_n rfl dX12_days_22 ?_
    refine aw_iadd dX12_days_23 ?_
    refine aw_ldc (v := 99999) w_1047 dX12_days_24 ?_
    rw [hs]
    refine aw_icmp_le 35 rfl dX12_days_26 (fun c2 => ?_) (fun c2 => ?_)
    · simp only [if_true, if_pos c2] at hQ
      refine aw_aload_n rfl dX12_days_35 ?_
      refine aw_iload_n rfl dX12_days_36 ?_
      refine aw_v1 kX12_106 ⟨ble rfl, ble rfl⟩ (rcM) (ble rfl) dX12_days_37 (k_goes hM hs h4 hm hx (by omega) ?_)
      refine aw_aload_n rfl dX12_days_40 ?_
      refine aw_getR gX12_9_12 kM rfl (hM.s) dX12_days_41 ?_
      refine aw_iconst (v := 1) (by decide) dX12_days_44 ?_
      refine aw_ialoadN kS (c := 1) rfl (by decide) (by decide) dX12_days_45 ?_
      refine aw_iret dX12_days_46 rfl ?_
      rw [rowI_get]
      exact hQ _ (h.row _)
    · simp only [if_true, if_neg c2] at hQ
      refine aw_aload_n rfl dX12_days_29 ?_
      refine aw_iconst (v := 4) (by decide) dX12_days_30 ?_
      refine aw_v1 kX12_118 ⟨ble rfl, ble rfl⟩ (rcM) (ble rfl) dX12_days_31 (q_no h (k := 4) rfl (by decide) (fun μ' h' => ?_))
      refine aw_iret dX12_days_34 rfl ?_
      exact hQ μ' h'
  · rw [c] at hQ
    refine aw_aload_n rfl dX12_days_10 ?_
    refine aw_iconst (v := 0) (by decide) dX12_days_11 ?_
    refine aw_v1 kX12_118 ⟨ble rfl, ble rfl⟩ (rcM) (ble rfl) dX12_days_12 (q_no h rfl (by decide) (fun μ' h' => ?_))
    refine aw_iret dX12_days_15 rfl ?_
    exact hQ μ' h'
end Pub2
