/-! THE CLASS, 18: strong, bears, traitor -/
theorem WFp_1 {s : Nat → Int32} {k : Nat} {v : Int32} (h : WFp s k) (hv : v = 0 ∨ v = 1) : WFp (upd s (5 + 5 * k + 1) v) k := by
  obtain ⟨h0, h1, h2, h3, h4⟩ := h
  unfold WFp
  rw [upd_ne (by omega), upd_eq, upd_ne (by omega), upd_ne (by omega), upd_ne (by omega)]
  exact ⟨h0, hv, h2, h3, h4⟩
section Cls18
variable {Sc : SCR} {μ μ0 : Mem} {n : Nat × Nat} {Q : PQ} {S : SG}
theorem e_strong {x t v : Int32} (h : CI μ0 μ S) (hW : WF S) (hQ : ∀ μ', CI μ0 μ' (sp_strong x t v S).2 → Q (some (.int (sp_strong x t v S).1)) K0 μ') : AM Sc mX11_strong [.ref 0, .int x, .int t, .int v] K0 μ n Q := by
  refine AM.of rfl (ble rfl) ?_
  have hX := h.hX
  have hga := h.ga
  obtain ⟨h4, hm, -⟩ := hW.1
  unfold sp_strong at hQ
  have bad : (isP S x && (in1 t 1 60 && in1 v (-9999) 9999)) = false → AW Sc mX11_strong 34 [(0, .ref 0), (1, .int x), (2, .int t), (3, .int v)] [] K0 μ n Q := by
    intro e
    rw [e] at hQ
    refine aw_aload_n rfl dX11_strong_34 ?_
    refine aw_ldc (v := (-1000000001)) w_316 dX11_strong_35 ?_
    refine aw_v1 kX11_52 ⟨ble rfl, ble rfl⟩ (rcX) (ble rfl) dX11_strong_37 (e_finding (k := 0) h hW (by decide) (by decide) (fun μ' h' => ?_))
    refine aw_iret dX11_strong_40 rfl ?_
    exact hQ μ' h'
  refine aw_aload_n rfl dX11_strong_0 ?_
  refine aw_getR gX11_10_11 kX rfl (hX.green) dX11_strong_1 ?_
  refine aw_iload_n rfl dX11_strong_4 ?_
  refine aw_v1 kX11_107 ⟨ble rfl, ble rfl⟩ (rcG g1) (ble rfl) dX11_strong_5 (c_has g1 hga hW.1 ?_)
  refine aw_zeq 34 rfl dX11_strong_8 (fun c => ?_) (fun c => ?_)
  · exact bad (by unfold isP; rw [c]; rfl)
  · refine aw_iload_n rfl dX11_strong_11 ?_
    refine aw_iconst (v := 1) (by decide) dX11_strong_12 ?_
    refine aw_bipush (v := 60) (by decide) dX11_strong_13 ?_
    refine aw_s3 kX11_47 ⟨ble rfl, ble rfl⟩ (ble rfl) dX11_strong_15 (c_isWithin ?_)
    refine aw_zeq 34 rfl dX11_strong_18 (fun c2 => ?_) (fun c2 => ?_)
    · exact bad (by rw [c2, Bool.false_and, Bool.and_false])
    · refine aw_iload_n rfl dX11_strong_21 ?_
      refine aw_sipush (v := (-9999)) (by decide) dX11_strong_22 ?_
      refine aw_sipush (v := 9999) (by decide) dX11_strong_25 ?_
      refine aw_s3 kX11_47 ⟨ble rfl, ble rfl⟩ (ble rfl) dX11_strong_28 (c_isWithin ?_)
      refine aw_zne 41 rfl dX11_strong_31 (fun c3 => ?_) (fun c3 => ?_)
      · have e : (isP S x && (in1 t 1 60 && in1 v (-9999) 9999)) = true := by unfold isP; rw [c, c2, c3]; rfl
        rw [e] at hQ
        simp only [if_true] at hQ
        obtain ⟨p, hp, hxp, hip⟩ := per_t h4 hm c
        obtain ⟨k, -, hk, hx⟩ := in1_t (a := 1) (b := 60) (by decide) (by decide) c2
        have hix : ix t = k := by rw [hx]; exact ix_nI (by omega)
        rw [hix, hip] at hQ
        have hf := (hga.2.2 p hp).1
        refine aw_aload_n rfl dX11_strong_41 ?_
        refine aw_getR gX11_10_11 kX rfl (hX.green) dX11_strong_42 ?_
        refine aw_getR gX11_110_2 kG1 rfl (hga.1.2.1) dX11_strong_45 ?_
        refine aw_iload_n rfl dX11_strong_48 ?_
        refine aw_aaloadN (kGp g1) (fun _ => rfl) hxp (by omega) (by decide) (hga.pe (by omega)) dX11_strong_49 ?_
        refine aw_getI gX11_125_4 (kP g1 (i := p) (by omega)) rfl dX11_strong_50 ?_
        rw [hf.1]
        generalize hval : (fun a => decide (v ≤ tow (S.1 (5 + 5 * p + 1)) (goesN (mny S.1) k (upd S.1 (5 + 5 * p + 4) (nI a))))) = ok at hQ
        have hv : ∀ a, ok a = decide (v ≤ tow (S.1 (5 + 5 * p + 1)) (goesN (mny S.1) k (upd S.1 (5 + 5 * p + 4) (nI a)))) := fun a => by rw [← hval]
        generalize hR : fUp ok 20 1 = R at hQ
        have loop : ∀ j i (ν : Mem), i + j = 21 → 1 ≤ i → CI μ0 ν S → R = fUp ok j i → AW Sc mX11_strong 58 [(0, .ref 0), (1, .int x), (2, .int t), (3, .int v), (4, .int (S.1 (5 + 5 * p + 1))), (5, .int (nI i))] [] K0 ν n Q := by
          intro j
          induction j with
          | zero =>
            intro i ν hi h1i hν he
            obtain rfl : i = 21 := by omega
            rw [he] at hQ
            refine aw_iload rfl dX11_strong_58 ?_
            refine aw_bipush (v := 20) (by decide) dX11_strong_60 ?_
            refine aw_icmp_gt 120 rfl dX11_strong_62 (fun _ => ?_) (fun c_ => absurd ((by decide)) c_)
            refine aw_aload_n rfl dX11_strong_120 ?_
            refine aw_ldc (v := (-1000000004)) w_577 dX11_strong_121 ?_
            refine aw_v1 kX11_52 ⟨ble rfl, ble rfl⟩ (rcX) (ble rfl) dX11_strong_123 (e_finding (k := 3) hν hW (by decide) (by decide) (fun μ' h' => ?_))
            refine aw_iret dX11_strong_126 rfl ?_
            exact hQ μ' h'
          | succ j ih =>
            intro i ν hi h1i hν he
            have hX := hν.hX
            refine aw_iload rfl dX11_strong_58 ?_
            refine aw_bipush (v := 20) (by decide) dX11_strong_60 ?_
            refine aw_icmp_gt 120 rfl dX11_strong_62 (fun c_ => absurd c_ (nI_nlt (b := i) (a := 20) (by omega) (by omega))) (fun _ => ?_)
            refine aw_aload_n rfl dX11_strong_65 ?_
            refine aw_getR gX11_16_11 kX rfl (hX.trial) dX11_strong_66 ?_
            refine aw_aload_n rfl dX11_strong_69 ?_
            refine aw_getR gX11_10_11 kX rfl (hX.green) dX11_strong_70 ?_
            refine aw_v1 kX11_170 ⟨ble rfl, ble rfl⟩ (rcG g20) (ble rfl) dX11_strong_73 (c_become g20 g1 (by decide) hX.2.1.2.1 hν.ga hW.1 (fun μ1 F1 h1 => ?_))
            have i1 := hν.tr hW F1
            have hX := i1.hX
            refine aw_aload_n rfl dX11_strong_76 ?_
            refine aw_getR gX11_16_11 kX rfl (hX.trial) dX11_strong_77 ?_
            refine aw_getR gX11_110_2 (kG g20) rfl (h1.1.2.1) dX11_strong_80 ?_
            refine aw_iload_n rfl dX11_strong_83 ?_
            refine aw_aaloadN (kGp g20) (fun _ => rfl) hxp (by omega) (by decide) (h1.pe (by omega)) dX11_strong_84 ?_
            refine aw_iload rfl dX11_strong_85 ?_
            refine aw_putI (pX11_134_4 _) (kP g20 (i := p) (by omega)) rfl rfl rfl dX11_strong_87 ?_
            have h2 := h1.slot (c := 4) (v := nI i) hp (by omega)
            have F2 : Fr 20 μ1 (pI μ1 (20 + 9 + p) 4 (nI i)) := frSlot (by omega)
            generalize pI μ1 (20 + 9 + p) 4 (nI i) = μ2 at h2 F2 ⊢
            have i2 := i1.tr hW F2
            have hX := i2.hX
            have hW2 : WFs (upd S.1 (5 + 5 * p + 4) (nI i)) := WFs_p hW.1 (by decide) (fun hk => WFp_4 (hW.1.2.2.2.2 p hk) h1i (by omega))
            refine aw_aload_n rfl dX11_strong_90 ?_
            refine aw_getR gX11_16_11 kX rfl (hX.trial) dX11_strong_91 ?_
            refine aw_iload_n rfl dX11_strong_94 ?_
            refine aw_v1 kX11_166 ⟨ble rfl, ble rfl⟩ (rcG g20) (ble rfl) dX11_strong_95 (c_go g20 h2 hW2 hx (by omega) (fun μ3 F3 h3 => ?_))
            have i3 := i2.tr hW F3
            have hX := i3.hX
            rw [mny_upd (by omega)] at h3
            refine aw_aload_n rfl dX11_strong_98 ?_
            refine aw_getR gX11_16_11 kX rfl (hX.trial) dX11_strong_99 ?_
            refine aw_iload rfl dX11_strong_102 ?_
            refine aw_v1 kX11_174 ⟨ble rfl, ble rfl⟩ (rcG g20) (ble rfl) dX11_strong_104 (c_towards g20 h3.2.1 ?_)
            refine aw_iload_n rfl dX11_strong_107 ?_
            rw [fUp, hv] at he
            refine aw_icmp_lt 114 rfl dX11_strong_108 (fun c5 => ?_) (fun c5 => ?_)
            · rw [decide_eq_false (Int32.not_le.mpr c5), if_neg (by decide)] at he
              refine aw_iinc rfl (v := 1) (by decide) (ble rfl) dX11_strong_114 ?_
              refine aw_goto 58 rfl dX11_strong_117 ?_
              rw [nI_1]
              exact ih (i + 1) μ3 (by omega) (by omega) i3 he
            · rw [decide_eq_true (Int32.not_lt.mp c5), if_pos rfl] at he
              rw [he] at hQ
              refine aw_iload rfl dX11_strong_111 ?_
              refine aw_iret dX11_strong_113 rfl ?_
              exact hQ μ3 i3
        refine aw_istore (ble rfl) dX11_strong_53 ?_
        refine aw_iconst (v := 1) (by decide) dX11_strong_55 ?_
        refine aw_istore (ble rfl) dX11_strong_56 ?_
        exact loop 20 1 μ (by omega) (by omega) h hR.symm
      · exact bad (by rw [c3, Bool.and_false, Bool.and_false])
theorem e_bears {x t : Int32} (h : CI μ0 μ S) (hW : WF S) (hQ : ∀ μ', CI μ0 μ' (sp_bears x t S).2 → Q (some (.int (sp_bears x t S).1)) K0 μ') : AM Sc mX11_bears [.ref 0, .int x, .int t] K0 μ n Q := by
  refine AM.of rfl (ble rfl) ?_
  have hX := h.hX
  have hga := h.ga
  obtain ⟨h4, hm, -⟩ := hW.1
  unfold sp_bears at hQ
  have bad : (isP S x && in1 t 1 60) = false → AW Sc mX11_bears 21 [(0, .ref 0), (1, .int x), (2, .int t)] [] K0 μ n Q := by
    intro e
    rw [e] at hQ
    refine aw_aload_n rfl dX11_bears_21 ?_
    refine aw_ldc (v := (-1000000001)) w_316 dX11_bears_22 ?_
    refine aw_v1 kX11_52 ⟨ble rfl, ble rfl⟩ (rcX) (ble rfl) dX11_bears_24 (e_finding (k := 0) h hW (by decide) (by decide) (fun μ' h' => ?_))
    refine aw_iret dX11_bears_27 rfl ?_
    exact hQ μ' h'
  refine aw_aload_n rfl dX11_bears_0 ?_
  refine aw_getR gX11_10_11 kX rfl (hX.green) dX11_bears_1 ?_
  refine aw_iload_n rfl dX11_bears_4 ?_
  refine aw_v1 kX11_107 ⟨ble rfl, ble rfl⟩ (rcG g1) (ble rfl) dX11_bears_5 (c_has g1 hga hW.1 ?_)
  refine aw_zeq 21 rfl dX11_bears_8 (fun c => ?_) (fun c => ?_)
  · exact bad (by unfold isP; rw [c]; rfl)
  · refine aw_iload_n rfl dX11_bears_11 ?_
    refine aw_iconst (v := 1) (by decide) dX11_bears_12 ?_
    refine aw_bipush (v := 60) (by decide) dX11_bears_13 ?_
    refine aw_s3 kX11_47 ⟨ble rfl, ble rfl⟩ (ble rfl) dX11_bears_15 (c_isWithin ?_)
    refine aw_zne 28 rfl dX11_bears_18 (fun c2 => ?_) (fun c2 => ?_)
    · have e : (isP S x && in1 t 1 60) = true := by unfold isP; rw [c, c2]; rfl
      rw [e] at hQ
      simp only [if_true] at hQ
      obtain ⟨p, hp, hxp, hip⟩ := per_t h4 hm c
      obtain ⟨k, -, hk, hx⟩ := in1_t (a := 1) (b := 60) (by decide) (by decide) c2
      have hix : ix t = k := by rw [hx]; exact ix_nI (by omega)
      rw [hix, hip] at hQ
      generalize hval : (fun a => decide (goesN (mny S.1) k (upd S.1 (5 + 5 * p + 3) (nI a)) (5 + 5 * p + 2) = 1)) = ok at hQ
      have hv : ∀ a, ok a = decide (goesN (mny S.1) k (upd S.1 (5 + 5 * p + 3) (nI a)) (5 + 5 * p + 2) = 1) := fun a => by rw [← hval]
      generalize hR : fDn ok 100 = R at hQ
      have loop : ∀ j (ν : Mem) (y : Int32), y = nI j - 1 → j ≤ 100 → CI μ0 ν S → R = fDn ok j → AW Sc mX11_bears 31 [(0, .ref 0), (1, .int x), (2, .int t), (3, .int y)] [] K0 ν n Q := by
        intro j
        induction j with
        | zero =>
          intro ν y hy hj hν he
          subst hy
          rw [he] at hQ
          refine aw_iload_n rfl dX11_bears_31 ?_
          refine aw_if_lt 91 rfl dX11_bears_32 (fun _ => ?_) (fun c_ => absurd ((by decide)) c_)
          refine aw_aload_n rfl dX11_bears_91 ?_
          refine aw_ldc (v := (-1000000004)) w_577 dX11_bears_92 ?_
          refine aw_v1 kX11_52 ⟨ble rfl, ble rfl⟩ (rcX) (ble rfl) dX11_bears_94 (e_finding (k := 3) hν hW (by decide) (by decide) (fun μ' h' => ?_))
          refine aw_iret dX11_bears_97 rfl ?_
          exact hQ μ' h'
        | succ j ih =>
          intro ν y hy hj hν he
          rw [nI_pred] at hy
          subst hy
          have hX := hν.hX
          refine aw_iload_n rfl dX11_bears_31 ?_
          refine aw_if_lt 91 rfl dX11_bears_32 (fun c_ => absurd c_ (nI_pos (by omega))) (fun _ => ?_)
          refine aw_aload_n rfl dX11_bears_35 ?_
          refine aw_getR gX11_16_11 kX rfl (hX.trial) dX11_bears_36 ?_
          refine aw_aload_n rfl dX11_bears_39 ?_
          refine aw_getR gX11_10_11 kX rfl (hX.green) dX11_bears_40 ?_
          refine aw_v1 kX11_170 ⟨ble rfl, ble rfl⟩ (rcG g20) (ble rfl) dX11_bears_43 (c_become g20 g1 (by decide) hX.2.1.2.1 hν.ga hW.1 (fun μ1 F1 h1 => ?_))
          have i1 := hν.tr hW F1
          have hX := i1.hX
          refine aw_aload_n rfl dX11_bears_46 ?_
          refine aw_getR gX11_16_11 kX rfl (hX.trial) dX11_bears_47 ?_
          refine aw_getR gX11_110_2 (kG g20) rfl (h1.1.2.1) dX11_bears_50 ?_
          refine aw_iload_n rfl dX11_bears_53 ?_
          refine aw_aaloadN (kGp g20) (fun _ => rfl) hxp (by omega) (by decide) (h1.pe (by omega)) dX11_bears_54 ?_
          refine aw_iload_n rfl dX11_bears_55 ?_
          refine aw_putI (pX11_131_4 _) (kP g20 (i := p) (by omega)) rfl rfl rfl dX11_bears_56 ?_
          have h2 := h1.slot (c := 3) (v := nI j) hp (by omega)
          have F2 : Fr 20 μ1 (pI μ1 (20 + 9 + p) 3 (nI j)) := frSlot (by omega)
          generalize pI μ1 (20 + 9 + p) 3 (nI j) = μ2 at h2 F2 ⊢
          have i2 := i1.tr hW F2
          have hX := i2.hX
          have hW2 : WFs (upd S.1 (5 + 5 * p + 3) (nI j)) := WFs_p hW.1 (by decide) (fun hk => WFp_3 (hW.1.2.2.2.2 p hk) (by omega))
          refine aw_aload_n rfl dX11_bears_59 ?_
          refine aw_getR gX11_16_11 kX rfl (hX.trial) dX11_bears_60 ?_
          refine aw_iload_n rfl dX11_bears_63 ?_
          refine aw_v1 kX11_166 ⟨ble rfl, ble rfl⟩ (rcG g20) (ble rfl) dX11_bears_64 (c_go g20 h2 hW2 hx (by omega) (fun μ3 F3 h3 => ?_))
          have i3 := i2.tr hW F3
          have hX := i3.hX
          rw [mny_upd (by omega)] at h3
          have hf3 := (h3.2.2 p (by rw [mny_goes, mny_upd (by omega)]; exact hp)).1
          refine aw_aload_n rfl dX11_bears_67 ?_
          refine aw_getR gX11_16_11 kX rfl (hX.trial) dX11_bears_68 ?_
          refine aw_getR gX11_110_2 (kG g20) rfl (h3.1.2.1) dX11_bears_71 ?_
          refine aw_iload_n rfl dX11_bears_74 ?_
          refine aw_aaloadN (kGp g20) (fun _ => rfl) hxp (by omega) (by decide) (h3.pe (by omega)) dX11_bears_75 ?_
          refine aw_getI gX11_128_4 (kP g20 (i := p) (by omega)) rfl dX11_bears_76 ?_
          refine aw_iconst (v := 1) (by decide) dX11_bears_79 ?_
          rw [hf3.2.1]
          rw [fDn, hv] at he
          refine aw_icmp_ne 85 rfl dX11_bears_80 (fun c5 => ?_) (fun c5 => ?_)
          · rw [decide_eq_false c5, if_neg (by decide)] at he
            refine aw_iinc rfl (v := (-1)) (by decide) (ble rfl) dX11_bears_85 ?_
            refine aw_goto 31 rfl dX11_bears_88 ?_
            exact ih μ3 _ (Int32.sub_eq_add_neg _ _).symm (by omega) i3 he
          · rw [decide_eq_true c5, if_pos rfl] at he
            rw [he] at hQ
            refine aw_iload_n rfl dX11_bears_83 ?_
            refine aw_iret dX11_bears_84 rfl ?_
            exact hQ μ3 i3
      refine aw_bipush (v := 99) (by decide) dX11_bears_28 ?_
      refine aw_istore_n (ble rfl) dX11_bears_30 ?_
      exact loop 100 μ _ (by decide) (by decide) h hR.symm
    · exact bad (by rw [c2, Bool.and_false])
end Cls18
