/-! THE CLASS, 11: now, person, relieve, days, on, then -/
section Cls11
variable {Sc : SCR} {μ μ0 : Mem} {n : Nat × Nat} {Q : PQ} {S : SG}
theorem e_now {x : Int32} (h : CI μ0 μ S) (hW : WF S) (hQ : ∀ μ', CI μ0 μ' (sp_now x S).2 → Q (some (.int (sp_now x S).1)) K0 μ') : AM Sc mX11_now [.ref 0, .int x] K0 μ n Q := by
  refine AM.of rfl (ble rfl) ?_
  have hX := h.hX
  have hga := h.ga
  refine aw_iload_n rfl dX11_now_0 ?_
  unfold sp_now at hQ
  rcases sw09 x with ⟨hx, e0, e1, e2, e3, e4, e5, e6, e7, e8, e9⟩ | rfl | rfl | rfl | rfl | rfl | rfl | rfl | rfl | rfl | rfl
  · rw [if_neg e0, if_neg e1, if_neg e2, if_neg e3, if_neg e4, if_neg e5, if_neg e6, if_neg e7, if_neg e8, if_neg e9] at hQ
    refine aw_tabOut 154 (hx) rfl dX11_now_1 ?_
    refine aw_aload_n rfl dX11_now_154 ?_
    refine aw_ldc (v := (-1000000001)) w_316 dX11_now_155 ?_
    refine aw_v1 kX11_52 ⟨ble rfl, ble rfl⟩ (rcX) (ble rfl) dX11_now_157 (e_finding (k := 0) h hW (by decide) (by decide) (fun μ' h' => ?_))
    refine aw_iret dX11_now_160 rfl ?_
    exact hQ μ' h'
  · refine aw_tabIn 56 (by decide) (by decide) rfl rfl dX11_now_1 ?_
    refine aw_aload_n rfl dX11_now_56 ?_
    refine aw_getR gX11_10_11 kX rfl (hX.green) dX11_now_57 ?_
    refine aw_getI gX11_66_2 kG1 rfl dX11_now_60 ?_
    refine aw_iret dX11_now_63 rfl ?_
    rw [hga.2.1.1]
    exact hQ _ h
  · refine aw_tabIn 64 (by decide) (by decide) rfl rfl dX11_now_1 ?_
    refine aw_aload_n rfl dX11_now_64 ?_
    refine aw_getR gX11_10_11 kX rfl (hX.green) dX11_now_65 ?_
    refine aw_v0 kX11_69 ⟨ble rfl, ble rfl⟩ (rcG g1) (ble rfl) dX11_now_68 (c_weekOfYear g1 hga.2.1 ?_)
    refine aw_iret dX11_now_71 rfl ?_
    exact hQ _ h
  · refine aw_tabIn 72 (by decide) (by decide) rfl rfl dX11_now_1 ?_
    refine aw_aload_n rfl dX11_now_72 ?_
    refine aw_getR gX11_10_11 kX rfl (hX.green) dX11_now_73 ?_
    refine aw_v0 kX11_73 ⟨ble rfl, ble rfl⟩ (rcG g1) (ble rfl) dX11_now_76 (c_isHarvest g1 hga.2.1 ?_)
    have hq := hQ _ h
    refine aw_zeq 86 rfl dX11_now_79 (fun c => ?_) (fun c => ?_)
    · refine aw_iconst (v := 0) (by decide) dX11_now_86 ?_
      refine aw_iret dX11_now_87 rfl ?_
      rw [c] at hq
      exact hq
    · refine aw_iconst (v := 1) (by decide) dX11_now_82 ?_
      refine aw_goto 87 rfl dX11_now_83 ?_
      refine aw_iret dX11_now_87 rfl ?_
      rw [c] at hq
      exact hq
  · refine aw_tabIn 88 (by decide) (by decide) rfl rfl dX11_now_1 ?_
    refine aw_aload_n rfl dX11_now_88 ?_
    refine aw_getR gX11_10_11 kX rfl (hX.green) dX11_now_89 ?_
    refine aw_v0 kX11_77 ⟨ble rfl, ble rfl⟩ (rcG g1) (ble rfl) dX11_now_92 (c_isSunday g1 hga.2.1 ?_)
    have hq := hQ _ h
    refine aw_zeq 102 rfl dX11_now_95 (fun c => ?_) (fun c => ?_)
    · refine aw_iconst (v := 0) (by decide) dX11_now_102 ?_
      refine aw_iret dX11_now_103 rfl ?_
      rw [c] at hq
      exact hq
    · refine aw_iconst (v := 1) (by decide) dX11_now_98 ?_
      refine aw_goto 103 rfl dX11_now_99 ?_
      refine aw_iret dX11_now_103 rfl ?_
      rw [c] at hq
      exact hq
  · refine aw_tabIn 104 (by decide) (by decide) rfl rfl dX11_now_1 ?_
    refine aw_aload_n rfl dX11_now_104 ?_
    refine aw_getR gX11_10_11 kX rfl (hX.green) dX11_now_105 ?_
    refine aw_getI gX11_63_2 kG1 rfl dX11_now_108 ?_
    refine aw_iret dX11_now_111 rfl ?_
    rw [hga.2.1.2.2.1]
    exact hQ _ h
  · refine aw_tabIn 112 (by decide) (by decide) rfl rfl dX11_now_1 ?_
    refine aw_aload_n rfl dX11_now_112 ?_
    refine aw_getR gX11_10_11 kX rfl (hX.green) dX11_now_113 ?_
    refine aw_getI gX11_56_2 kG1 rfl dX11_now_116 ?_
    refine aw_iret dX11_now_119 rfl ?_
    rw [hga.2.1.2.2.2.1]
    exact hQ _ h
  · refine aw_tabIn 120 (by decide) (by decide) rfl rfl dX11_now_1 ?_
    refine aw_aload_n rfl dX11_now_120 ?_
    refine aw_getR gX11_10_11 kX rfl (hX.green) dX11_now_121 ?_
    refine aw_v0 kX11_80 ⟨ble rfl, ble rfl⟩ (rcG g1) (ble rfl) dX11_now_124 (c_sideAhead g1 hga ?_)
    refine aw_iret dX11_now_127 rfl ?_
    exact hQ _ h
  · refine aw_tabIn 128 (by decide) (by decide) rfl rfl dX11_now_1 ?_
    refine aw_aload_n rfl dX11_now_128 ?_
    refine aw_getR gX11_10_11 kX rfl (hX.green) dX11_now_129 ?_
    refine aw_v0 kX11_83 ⟨ble rfl, ble rfl⟩ (rcG g1) (ble rfl) dX11_now_132 (c_setOn g1 hga hW.1 ?_)
    refine aw_iret dX11_now_135 rfl ?_
    exact hQ _ h
  · refine aw_tabIn 136 (by decide) (by decide) rfl rfl dX11_now_1 ?_
    refine aw_aload_n rfl dX11_now_136 ?_
    refine aw_getR gX11_10_11 kX rfl (hX.green) dX11_now_137 ?_
    refine aw_iconst (v := 0) (by decide) dX11_now_140 ?_
    refine aw_v1 kX11_86 ⟨ble rfl, ble rfl⟩ (rcG g1) (ble rfl) dX11_now_141 (c_pullOf g1 hga hW.1 ?_)
    refine aw_iret dX11_now_144 rfl ?_
    exact hQ _ h
  · refine aw_tabIn 145 (by decide) (by decide) rfl rfl dX11_now_1 ?_
    refine aw_aload_n rfl dX11_now_145 ?_
    refine aw_getR gX11_10_11 kX rfl (hX.green) dX11_now_146 ?_
    refine aw_iconst (v := 1) (by decide) dX11_now_149 ?_
    refine aw_v1 kX11_86 ⟨ble rfl, ble rfl⟩ (rcG g1) (ble rfl) dX11_now_150 (c_pullOf g1 hga hW.1 ?_)
    refine aw_iret dX11_now_153 rfl ?_
    exact hQ _ h
theorem e_person {k d : Int32} (h : CI μ0 μ S) (hW : WF S) (hQ : ∀ μ', CI μ0 μ' (sp_person k d S).2 → Q (some (.int (sp_person k d S).1)) K0 μ') : AM Sc mX11_person [.ref 0, .int k, .int d] K0 μ n Q := by
  refine AM.of rfl (ble rfl) ?_
  have hX := h.hX
  have hga := h.ga
  unfold sp_person at hQ
  have bad : (in1 k 0 5 && in1 d 0 1) = false → AW Sc mX11_person 14 [(0, .ref 0), (1, .int k), (2, .int d)] [] K0 μ n Q := by
    intro e
    rw [e] at hQ
    refine aw_aload_n rfl dX11_person_14 ?_
    refine aw_ldc (v := (-1000000001)) w_316 dX11_person_15 ?_
    refine aw_v1 kX11_52 ⟨ble rfl, ble rfl⟩ (rcX) (ble rfl) dX11_person_17 (e_finding (k := 0) h hW (by decide) (by decide) (fun μ' h' => ?_))
    refine aw_iret dX11_person_20 rfl ?_
    exact hQ μ' h'
  refine aw_iload_n rfl dX11_person_0 ?_
  refine aw_s1 kX11_89 ⟨ble rfl, ble rfl⟩ (ble rfl) dX11_person_1 (c_isKind ?_)
  refine aw_zeq 14 rfl dX11_person_4 (fun c => ?_) (fun c => ?_)
  · exact bad (by rw [c]; rfl)
  · refine aw_iload_n rfl dX11_person_7 ?_
    refine aw_s1 kX11_93 ⟨ble rfl, ble rfl⟩ (ble rfl) dX11_person_8 (c_isSide ?_)
    refine aw_zne 21 rfl dX11_person_11 (fun c2 => ?_) (fun c2 => ?_)
    · rw [c, c2] at hQ
      simp only [Bool.and_self, if_true] at hQ
      obtain ⟨kd, -, hkd, rfl⟩ := in1_t (a := 0) (b := 5) (by decide) (by decide) c
      refine aw_aload_n rfl dX11_person_21 ?_
      refine aw_getR gX11_10_11 kX rfl (hX.green) dX11_person_22 ?_
      refine aw_v0 kX11_96 ⟨ble rfl, ble rfl⟩ (rcG g1) (ble rfl) dX11_person_25 (c_isFull g1 hga hW.1 ?_)
      refine aw_zeq 38 rfl dX11_person_28 (fun c3 => ?_) (fun c3 => ?_)
      · have c3 := of_decide_eq_false c3
        rw [if_neg c3] at hQ
        have hm9 : mny S.1 < 10 := by
          have : mny S.1 ≠ 10 := by
            intro z
            have h4 := hW.1.1
            rw [z] at h4
            exact c3 h4
          have := hW.1.2.1
          omega
        refine aw_aload_n rfl dX11_person_38 ?_
        refine aw_getR gX11_10_11 kX rfl (hX.green) dX11_person_39 ?_
        refine aw_getI gX11_100_2 kG1 rfl dX11_person_42 ?_
        refine aw_istore_n (ble rfl) dX11_person_45 ?_
        rw [hga.2.1.2.2.2.2]
        refine aw_aload_n rfl dX11_person_46 ?_
        refine aw_getR gX11_10_11 kX rfl (hX.green) dX11_person_47 ?_
        refine aw_iload_n rfl dX11_person_50 ?_
        refine aw_iload_n rfl dX11_person_51 ?_
        refine aw_v2 kX11_103 ⟨ble rfl, ble rfl⟩ (rcG g1) (ble rfl) dX11_person_52 (c_addOne (kd := kd) g1 hga hW.1 hm9 rfl (by omega) (fun μ' F h' => ?_))
        refine aw_iload_n rfl dX11_person_55 ?_
        refine aw_iret dX11_person_56 rfl ?_
        exact hQ _ (h.gr hW F h')
      · have c3 := of_decide_eq_true c3
        rw [if_pos c3] at hQ
        refine aw_aload_n rfl dX11_person_31 ?_
        refine aw_ldc (v := (-1000000002)) w_404 dX11_person_32 ?_
        refine aw_v1 kX11_52 ⟨ble rfl, ble rfl⟩ (rcX) (ble rfl) dX11_person_34 (e_finding (k := 1) h hW (by decide) (by decide) (fun μ' h' => ?_))
        refine aw_iret dX11_person_37 rfl ?_
        exact hQ μ' h'
    · exact bad (by rw [c2, Bool.and_false])
theorem e_relieve {a b : Int32} (h : CI μ0 μ S) (hW : WF S) (hQ : ∀ μ', CI μ0 μ' (sp_relieve a b S).2 → Q (some (.int (sp_relieve a b S).1)) K0 μ') : AM Sc mX11_relieve [.ref 0, .int a, .int b] K0 μ n Q := by
  refine AM.of rfl (ble rfl) ?_
  have hX := h.hX
  have hga := h.ga
  obtain ⟨h4, hm, -⟩ := hW.1
  unfold sp_relieve at hQ
  have bad : (isP S a && isP S b) = false → AW Sc mX11_relieve 22 [(0, .ref 0), (1, .int a), (2, .int b)] [] K0 μ n Q := by
    intro e
    rw [e] at hQ
    refine aw_aload_n rfl dX11_relieve_22 ?_
    refine aw_ldc (v := (-1000000001)) w_316 dX11_relieve_23 ?_
    refine aw_v1 kX11_52 ⟨ble rfl, ble rfl⟩ (rcX) (ble rfl) dX11_relieve_25 (e_finding (k := 0) h hW (by decide) (by decide) (fun μ' h' => ?_))
    refine aw_iret dX11_relieve_28 rfl ?_
    exact hQ μ' h'
  refine aw_aload_n rfl dX11_relieve_0 ?_
  refine aw_getR gX11_10_11 kX rfl (hX.green) dX11_relieve_1 ?_
  refine aw_iload_n rfl dX11_relieve_4 ?_
  refine aw_v1 kX11_107 ⟨ble rfl, ble rfl⟩ (rcG g1) (ble rfl) dX11_relieve_5 (c_has g1 hga hW.1 ?_)
  refine aw_zeq 22 rfl dX11_relieve_8 (fun c => ?_) (fun c => ?_)
  · exact bad (by unfold isP; rw [c]; rfl)
  · refine aw_aload_n rfl dX11_relieve_11 ?_
    refine aw_getR gX11_10_11 kX rfl (hX.green) dX11_relieve_12 ?_
    refine aw_iload_n rfl dX11_relieve_15 ?_
    refine aw_v1 kX11_107 ⟨ble rfl, ble rfl⟩ (rcG g1) (ble rfl) dX11_relieve_16 (c_has g1 hga hW.1 ?_)
    refine aw_zne 29 rfl dX11_relieve_19 (fun c2 => ?_) (fun c2 => ?_)
    · have e : (isP S a && isP S b) = true := by unfold isP; rw [c, c2]; rfl
      rw [e] at hQ
      simp only [if_true] at hQ
      obtain ⟨ka, hka, hxa, hia⟩ := per_t h4 hm c
      obtain ⟨kb, hkb, hxb, hib⟩ := per_t h4 hm c2
      rw [hia, hib] at hQ
      refine aw_aload_n rfl dX11_relieve_29 ?_
      refine aw_getR gX11_10_11 kX rfl (hX.green) dX11_relieve_30 ?_
      refine aw_iload_n rfl dX11_relieve_33 ?_
      refine aw_iload_n rfl dX11_relieve_34 ?_
      refine aw_v2 kX11_157 ⟨ble rfl, ble rfl⟩ (rcG g1) (ble rfl) dX11_relieve_35 (c_canSwap g1 hga hW.1 hxa hxb hka hkb ?_)
      refine aw_zne 48 rfl dX11_relieve_38 (fun c3 => ?_) (fun c3 => ?_)
      · rw [if_pos c3] at hQ
        refine aw_aload_n rfl dX11_relieve_48 ?_
        refine aw_getR gX11_10_11 kX rfl (hX.green) dX11_relieve_49 ?_
        refine aw_iload_n rfl dX11_relieve_52 ?_
        refine aw_iload_n rfl dX11_relieve_53 ?_
        refine aw_v2 kX11_162 ⟨ble rfl, ble rfl⟩ (rcG g1) (ble rfl) dX11_relieve_54 (c_swap g1 hga hW.1 hxa hxb hka hkb c3 (fun μ' F h' => ?_))
        refine aw_iconst (v := 1) (by decide) dX11_relieve_57 ?_
        refine aw_iret dX11_relieve_58 rfl ?_
        exact hQ _ (h.gr hW F h')
      · rw [if_neg (by rw [c3]; decide)] at hQ
        refine aw_aload_n rfl dX11_relieve_41 ?_
        refine aw_ldc (v := (-1000000005)) w_512 dX11_relieve_42 ?_
        refine aw_v1 kX11_52 ⟨ble rfl, ble rfl⟩ (rcX) (ble rfl) dX11_relieve_44 (e_finding (k := 4) h hW (by decide) (by decide) (fun μ' h' => ?_))
        refine aw_iret dX11_relieve_47 rfl ?_
        exact hQ μ' h'
    · exact bad (by unfold isP; rw [c2, Bool.and_false])
theorem e_days {t : Int32} (h : CI μ0 μ S) (hW : WF S) (hQ : ∀ μ', CI μ0 μ' (sp_days t S).2 → Q (some (.int (sp_days t S).1)) K0 μ') : AM Sc mX11_days [.ref 0, .int t] K0 μ n Q := by
  refine AM.of rfl (ble rfl) ?_
  have hX := h.hX
  have hga := h.ga
  unfold sp_days at hQ
  refine aw_iload_n rfl dX11_days_0 ?_
  refine aw_iconst (v := 1) (by decide) dX11_days_1 ?_
  refine aw_bipush (v := 100) (by decide) dX11_days_2 ?_
  refine aw_s3 kX11_47 ⟨ble rfl, ble rfl⟩ (ble rfl) dX11_days_4 (c_isWithin ?_)
  refine aw_zne 17 rfl dX11_days_7 (fun c => ?_) (fun c => ?_)
  · rw [if_pos c] at hQ
    obtain ⟨k, -, hk, hx⟩ := in1_t (a := 1) (b := 100) (by decide) (by decide) c
    have hix : ix t = k := by rw [hx]; exact ix_nI (by omega)
    rw [hix] at hQ
    refine aw_aload_n rfl dX11_days_17 ?_
    refine aw_getR gX11_10_11 kX rfl (hX.green) dX11_days_18 ?_
    refine aw_getI gX11_66_2 kG1 rfl dX11_days_21 ?_
    refine aw_iload_n rfl dX11_days_24 ?_
    refine aw_iadd dX11_days_25 ?_
    refine aw_ldc (v := 99999) w_522 dX11_days_26 ?_
    rw [hga.2.1.1]
    refine aw_icmp_le 38 rfl dX11_days_28 (fun c2 => ?_) (fun c2 => ?_)
    · rw [if_pos c2] at hQ
      refine aw_aload_n rfl dX11_days_38 ?_
      refine aw_getR gX11_10_11 kX rfl (hX.green) dX11_days_39 ?_
      refine aw_iload_n rfl dX11_days_42 ?_
      refine aw_v1 kX11_166 ⟨ble rfl, ble rfl⟩ (rcG g1) (ble rfl) dX11_days_43 (c_go g1 hga hW.1 hx (by omega) (fun μ' F h' => ?_))
      have h2 := h.gr hW F h'
      have hX := h2.hX
      refine aw_aload_n rfl dX11_days_46 ?_
      refine aw_getR gX11_10_11 kX rfl (hX.green) dX11_days_47 ?_
      refine aw_getI gX11_63_2 kG1 rfl dX11_days_50 ?_
      refine aw_iret dX11_days_53 rfl ?_
      rw [h'.2.1.2.2.1]
      exact hQ _ h2
    · rw [if_neg c2] at hQ
      refine aw_aload_n rfl dX11_days_31 ?_
      refine aw_ldc (v := (-1000000005)) w_512 dX11_days_32 ?_
      refine aw_v1 kX11_52 ⟨ble rfl, ble rfl⟩ (rcX) (ble rfl) dX11_days_34 (e_finding (k := 4) h hW (by decide) (by decide) (fun μ' h' => ?_))
      refine aw_iret dX11_days_37 rfl ?_
      exact hQ μ' h'
  · rw [if_neg (by rw [c]; decide)] at hQ
    refine aw_aload_n rfl dX11_days_10 ?_
    refine aw_ldc (v := (-1000000001)) w_316 dX11_days_11 ?_
    refine aw_v1 kX11_52 ⟨ble rfl, ble rfl⟩ (rcX) (ble rfl) dX11_days_13 (e_finding (k := 0) h hW (by decide) (by decide) (fun μ' h' => ?_))
    refine aw_iret dX11_days_16 rfl ?_
    exact hQ μ' h'
theorem e_on {t w : Int32} (h : CI μ0 μ S) (hW : WF S) (hQ : ∀ μ', CI μ0 μ' (sp_on t w S).2 → Q (some (.int (sp_on t w S).1)) K0 μ') : AM Sc mX11_on [.ref 0, .int t, .int w] K0 μ n Q := by
  refine AM.of rfl (ble rfl) ?_
  have hX := h.hX
  have hga := h.ga
  unfold sp_on at hQ
  have bad : (in1 t 0 400 && in1 w 0 1) = false → AW Sc mX11_on 20 [(0, .ref 0), (1, .int t), (2, .int w)] [] K0 μ n Q := by
    intro e
    rw [e] at hQ
    refine aw_aload_n rfl dX11_on_20 ?_
    refine aw_ldc (v := (-1000000001)) w_316 dX11_on_21 ?_
    refine aw_v1 kX11_52 ⟨ble rfl, ble rfl⟩ (rcX) (ble rfl) dX11_on_23 (e_finding (k := 0) h hW (by decide) (by decide) (fun μ' h' => ?_))
    refine aw_iret dX11_on_26 rfl ?_
    exact hQ μ' h'
  refine aw_iload_n rfl dX11_on_0 ?_
  refine aw_iconst (v := 0) (by decide) dX11_on_1 ?_
  refine aw_sipush (v := 400) (by decide) dX11_on_2 ?_
  refine aw_s3 kX11_47 ⟨ble rfl, ble rfl⟩ (ble rfl) dX11_on_5 (c_isWithin ?_)
  refine aw_zeq 20 rfl dX11_on_8 (fun c => ?_) (fun c => ?_)
  · exact bad (by rw [c]; rfl)
  · refine aw_iload_n rfl dX11_on_11 ?_
    refine aw_iconst (v := 0) (by decide) dX11_on_12 ?_
    refine aw_iconst (v := 1) (by decide) dX11_on_13 ?_
    refine aw_s3 kX11_47 ⟨ble rfl, ble rfl⟩ (ble rfl) dX11_on_14 (c_isWithin ?_)
    refine aw_zne 27 rfl dX11_on_17 (fun c2 => ?_) (fun c2 => ?_)
    · rw [c, c2] at hQ
      simp only [Bool.and_self, if_true] at hQ
      obtain ⟨k, -, hk, hx⟩ := in1_t (a := 0) (b := 400) (by decide) (by decide) c
      have hix : ix t = k := by rw [hx]; exact ix_nI (by omega)
      rw [hix] at hQ
      refine aw_aload_n rfl dX11_on_27 ?_
      refine aw_getR gX11_16_11 kX rfl (hX.trial) dX11_on_28 ?_
      refine aw_aload_n rfl dX11_on_31 ?_
      refine aw_getR gX11_10_11 kX rfl (hX.green) dX11_on_32 ?_
      refine aw_v1 kX11_170 ⟨ble rfl, ble rfl⟩ (rcG g20) (ble rfl) dX11_on_35 (c_become g20 g1 (by decide) hX.2.1.2.1 hga hW.1 (fun μ1 F1 h1 => ?_))
      have i1 := h.tr hW F1
      have hX := i1.hX
      refine aw_aload_n rfl dX11_on_38 ?_
      refine aw_getR gX11_16_11 kX rfl (hX.trial) dX11_on_39 ?_
      refine aw_iload_n rfl dX11_on_42 ?_
      refine aw_v1 kX11_166 ⟨ble rfl, ble rfl⟩ (rcG g20) (ble rfl) dX11_on_43 (c_go g20 h1 hW.1 hx (by omega) (fun μ2 F2 h2 => ?_))
      have i2 := i1.tr hW F2
      have hX := i2.hX
      refine aw_iload_n rfl dX11_on_46 ?_
      refine aw_if_ne 60 rfl dX11_on_47 (fun c3 => ?_) (fun c3 => ?_)
      · rw [if_neg c3] at hQ
        refine aw_aload_n rfl dX11_on_60 ?_
        refine aw_getR gX11_16_11 kX rfl (hX.trial) dX11_on_61 ?_
        refine aw_v0 kX11_83 ⟨ble rfl, ble rfl⟩ (rcG g20) (ble rfl) dX11_on_64 (c_setOn g20 h2 (WFs_goes k hW.1) ?_)
        rw [mny_goes]
        refine aw_iret dX11_on_67 rfl ?_
        exact hQ _ i2
      · rw [if_pos c3] at hQ
        refine aw_aload_n rfl dX11_on_50 ?_
        refine aw_getR gX11_16_11 kX rfl (hX.trial) dX11_on_51 ?_
        refine aw_getI gX11_63_2 (kG g20) rfl dX11_on_54 ?_
        refine aw_goto 67 rfl dX11_on_57 ?_
        refine aw_iret dX11_on_67 rfl ?_
        rw [h2.2.1.2.2.1]
        exact hQ _ i2
    · exact bad (by rw [c2, Bool.and_false])
theorem e_then {x t w : Int32} (h : CI μ0 μ S) (hW : WF S) (hQ : ∀ μ', CI μ0 μ' (sp_then x t w S).2 → Q (some (.int (sp_then x t w S).1)) K0 μ') : AM Sc mX11_then [.ref 0, .int x, .int t, .int w] K0 μ n Q := by
  refine AM.of rfl (ble rfl) ?_
  have hX := h.hX
  have hga := h.ga
  obtain ⟨h4, hm, -⟩ := hW.1
  unfold sp_then at hQ
  have bad : (isP S x && (in1 t 0 400 && in1 w 0 1)) = false → AW Sc mX11_then 31 [(0, .ref 0), (1, .int x), (2, .int t), (3, .int w)] [] K0 μ n Q := by
    intro e
    rw [e] at hQ
    refine aw_aload_n rfl dX11_then_31 ?_
    refine aw_ldc (v := (-1000000001)) w_316 dX11_then_32 ?_
    refine aw_v1 kX11_52 ⟨ble rfl, ble rfl⟩ (rcX) (ble rfl) dX11_then_34 (e_finding (k := 0) h hW (by decide) (by decide) (fun μ' h' => ?_))
    refine aw_iret dX11_then_37 rfl ?_
    exact hQ μ' h'
  refine aw_aload_n rfl dX11_then_0 ?_
  refine aw_getR gX11_10_11 kX rfl (hX.green) dX11_then_1 ?_
  refine aw_iload_n rfl dX11_then_4 ?_
  refine aw_v1 kX11_107 ⟨ble rfl, ble rfl⟩ (rcG g1) (ble rfl) dX11_then_5 (c_has g1 hga hW.1 ?_)
  refine aw_zeq 31 rfl dX11_then_8 (fun c0 => ?_) (fun c0 => ?_)
  · exact bad (by unfold isP; rw [c0]; rfl)
  · refine aw_iload_n rfl dX11_then_11 ?_
    refine aw_iconst (v := 0) (by decide) dX11_then_12 ?_
    refine aw_sipush (v := 400) (by decide) dX11_then_13 ?_
    refine aw_s3 kX11_47 ⟨ble rfl, ble rfl⟩ (ble rfl) dX11_then_16 (c_isWithin ?_)
    refine aw_zeq 31 rfl dX11_then_19 (fun c => ?_) (fun c => ?_)
    · exact bad (by rw [c, Bool.false_and, Bool.and_false])
    · refine aw_iload_n rfl dX11_then_22 ?_
      refine aw_iconst (v := 0) (by decide) dX11_then_23 ?_
      refine aw_iconst (v := 1) (by decide) dX11_then_24 ?_
      refine aw_s3 kX11_47 ⟨ble rfl, ble rfl⟩ (ble rfl) dX11_then_25 (c_isWithin ?_)
      refine aw_zne 38 rfl dX11_then_28 (fun c2 => ?_) (fun c2 => ?_)
      · have e : (isP S x && (in1 t 0 400 && in1 w 0 1)) = true := by unfold isP; rw [c0, c, c2]; rfl
        rw [e] at hQ
        simp only [if_true] at hQ
        obtain ⟨p, hp, hxp, hip⟩ := per_t h4 hm c0
        obtain ⟨k, -, hk, hx⟩ := in1_t (a := 0) (b := 400) (by decide) (by decide) c
        have hix : ix t = k := by rw [hx]; exact ix_nI (by omega)
        rw [hix, hip] at hQ
        refine aw_aload_n rfl dX11_then_38 ?_
        refine aw_getR gX11_16_11 kX rfl (hX.trial) dX11_then_39 ?_
        refine aw_aload_n rfl dX11_then_42 ?_
        refine aw_getR gX11_10_11 kX rfl (hX.green) dX11_then_43 ?_
        refine aw_v1 kX11_170 ⟨ble rfl, ble rfl⟩ (rcG g20) (ble rfl) dX11_then_46 (c_become g20 g1 (by decide) hX.2.1.2.1 hga hW.1 (fun μ1 F1 h1 => ?_))
        have i1 := h.tr hW F1
        have hX := i1.hX
        refine aw_aload_n rfl dX11_then_49 ?_
        refine aw_getR gX11_16_11 kX rfl (hX.trial) dX11_then_50 ?_
        refine aw_iload_n rfl dX11_then_53 ?_
        refine aw_v1 kX11_166 ⟨ble rfl, ble rfl⟩ (rcG g20) (ble rfl) dX11_then_54 (c_go g20 h1 hW.1 hx (by omega) (fun μ2 F2 h2 => ?_))
        have i2 := i1.tr hW F2
        have hX := i2.hX
        have hf := (h2.2.2 p (by rw [mny_goes]; exact hp)).1
        refine aw_aload_n rfl dX11_then_57 ?_
        refine aw_getR gX11_16_11 kX rfl (hX.trial) dX11_then_58 ?_
        refine aw_getR gX11_110_2 (kG g20) rfl (h2.1.2.1) dX11_then_61 ?_
        refine aw_iload_n rfl dX11_then_64 ?_
        refine aw_aaloadN (kGp g20) (fun _ => rfl) hxp (by omega) (by decide) (h2.pe (by omega)) dX11_then_65 ?_
        refine aw_astore (ble rfl) dX11_then_66 ?_
        refine aw_iload_n rfl dX11_then_68 ?_
        refine aw_if_ne 80 rfl dX11_then_69 (fun c3 => ?_) (fun c3 => ?_)
        · rw [if_neg c3] at hQ
          refine aw_aload rfl dX11_then_80 ?_
          refine aw_getI gX11_131_4 (kP g20 (i := p) (by omega)) rfl dX11_then_82 ?_
          refine aw_iret dX11_then_85 rfl ?_
          rw [hf.2.2.1]
          exact hQ _ i2
        · rw [if_pos c3] at hQ
          refine aw_aload rfl dX11_then_72 ?_
          refine aw_getI gX11_128_4 (kP g20 (i := p) (by omega)) rfl dX11_then_74 ?_
          refine aw_goto 85 rfl dX11_then_77 ?_
          refine aw_iret dX11_then_85 rfl ?_
          rw [hf.2.1]
          exact hQ _ i2
      · exact bad (by rw [c2, Bool.and_false, Bool.and_false])
end Cls11
