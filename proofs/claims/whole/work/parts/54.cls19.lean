/-! THE CLASS, 19: traitor -/
section Cls19
variable {Sc : SCR} {μ μ0 : Mem} {n : Nat × Nat} {Q : PQ} {S : SG}
theorem WFs_sd {s : Nat → Int32} {p : Nat} (h : WFs s) : WFs (upd s (5 + 5 * p + 1) (1 - s (5 + 5 * p + 1))) := by
  refine WFs_p h (by decide) (fun hk => WFp_1 (h.2.2.2.2 p hk) ?_)
  rcases (h.2.2.2.2 p hk).2.1 with e | e
  · rw [e]; exact Or.inr (by decide)
  · rw [e]; exact Or.inl (by decide)
theorem e_traitor {t : Int32} (h : CI μ0 μ S) (hW : WF S) (hQ : ∀ μ', CI μ0 μ' (sp_traitor t S).2 → Q (some (.int (sp_traitor t S).1)) K0 μ') : AM Sc mX11_traitor [.ref 0, .int t] K0 μ n Q := by
  refine AM.of rfl (ble rfl) ?_
  have hX := h.hX
  have hga := h.ga
  obtain ⟨h4, hm, -⟩ := hW.1
  unfold sp_traitor at hQ
  refine aw_iload_n rfl dX11_traitor_0 ?_
  refine aw_iconst (v := 1) (by decide) dX11_traitor_1 ?_
  refine aw_bipush (v := 60) (by decide) dX11_traitor_2 ?_
  refine aw_s3 kX11_47 ⟨ble rfl, ble rfl⟩ (ble rfl) dX11_traitor_4 (c_isWithin ?_)
  refine aw_zne 17 rfl dX11_traitor_7 (fun c => ?_) (fun c => ?_)
  · rw [if_pos c] at hQ
    obtain ⟨k, -, hk, hx⟩ := in1_t (a := 1) (b := 60) (by decide) (by decide) c
    have hix : ix t = k := by rw [hx]; exact ix_nI (by omega)
    rw [hix] at hQ
    have hv : ∀ a, trV S.1 k a = absd (goesN (mny S.1) k (upd S.1 (5 + 5 * a + 1) (1 - S.1 (5 + 5 * a + 1))) 1 - goesN (mny S.1) k S.1 1) := fun _ => rfl
    generalize trV S.1 k = val at hQ hv
    have loop : ∀ j i (ν : Mem), i + j = mny S.1 → CI μ0 ν S → BH (ν.1 58) (bestF (fun _ => true) val i) → AW Sc mX11_traitor 53 [(0, .ref 0), (1, .int t), (2, .int (goesN (mny S.1) k S.1 1)), (3, .int (nI i))] [] K0 ν n Q := by
      intro j
      induction j with
      | zero =>
        intro i ν hi hν hb
        have hX := hν.hX
        refine aw_iload_n rfl dX11_traitor_53 ?_
        refine aw_aload_n rfl dX11_traitor_54 ?_
        refine aw_getR gX11_10_11 kX rfl (hX.green) dX11_traitor_55 ?_
        refine aw_getI gX11_100_2 kG1 rfl dX11_traitor_58 ?_
        rw [hν.ga.sz hW.1]
        refine aw_icmp_ge 135 rfl dX11_traitor_61 (fun _ => ?_) (fun c_ => absurd (nI_le (by omega) (by omega)) c_)
        obtain rfl : i = mny S.1 := by omega
        refine aw_aload_n rfl dX11_traitor_135 ?_
        refine aw_v0 kX11_187 ⟨ble rfl, ble rfl⟩ (rcX) (ble rfl) dX11_traitor_136 (e_bestOrNone hν hW hb (fun μ' h' => ?_))
        refine aw_iret dX11_traitor_139 rfl ?_
        exact hQ μ' h'
      | succ j ih =>
        intro i ν hi hν hb
        have hX := hν.hX
        have hil : i < mny S.1 := by omega
        refine aw_iload_n rfl dX11_traitor_53 ?_
        refine aw_aload_n rfl dX11_traitor_54 ?_
        refine aw_getR gX11_10_11 kX rfl (hX.green) dX11_traitor_55 ?_
        refine aw_getI gX11_100_2 kG1 rfl dX11_traitor_58 ?_
        rw [hν.ga.sz hW.1]
        refine aw_icmp_ge 135 rfl dX11_traitor_61 (fun c_ => absurd c_ (nI_ge (by omega) (by omega))) (fun _ => ?_)
        refine aw_aload_n rfl dX11_traitor_64 ?_
        refine aw_getR gX11_16_11 kX rfl (hX.trial) dX11_traitor_65 ?_
        refine aw_aload_n rfl dX11_traitor_68 ?_
        refine aw_getR gX11_10_11 kX rfl (hX.green) dX11_traitor_69 ?_
        refine aw_v1 kX11_170 ⟨ble rfl, ble rfl⟩ (rcG g20) (ble rfl) dX11_traitor_72 (c_become g20 g1 (by decide) hX.2.1.2.1 hν.ga hW.1 (fun μ1 F1 h1 => ?_))
        have i1 := hν.tr hW F1
        have hX := i1.hX
        have hf1 := (i1.ga.2.2 i hil).1
        refine aw_aload_n rfl dX11_traitor_75 ?_
        refine aw_getR gX11_16_11 kX rfl (hX.trial) dX11_traitor_76 ?_
        refine aw_getR gX11_110_2 (kG g20) rfl (h1.1.2.1) dX11_traitor_79 ?_
        refine aw_iload_n rfl dX11_traitor_82 ?_
        refine aw_aaloadN (kGp g20) (fun _ => rfl) rfl (by omega) (by decide) (h1.pe (by omega)) dX11_traitor_83 ?_
        refine aw_iconst (v := 1) (by decide) dX11_traitor_84 ?_
        refine aw_aload_n rfl dX11_traitor_85 ?_
        refine aw_getR gX11_10_11 kX rfl (hX.green) dX11_traitor_86 ?_
        refine aw_getR gX11_110_2 kG1 rfl (i1.ga.1.2.1) dX11_traitor_89 ?_
        refine aw_iload_n rfl dX11_traitor_92 ?_
        refine aw_aaloadN (kGp g1) (fun _ => rfl) rfl (by omega) (by decide) (i1.ga.pe (by omega)) dX11_traitor_93 ?_
        refine aw_getI gX11_125_4 (kP g1 (i := i) (by omega)) rfl dX11_traitor_94 ?_
        refine aw_isub dX11_traitor_97 ?_
        refine aw_putI (pX11_125_4 _) (kP g20 (i := i) (by omega)) rfl rfl rfl dX11_traitor_98 ?_
        rw [hf1.1]
        have h2 := h1.slot (c := 1) (v := 1 - S.1 (5 + 5 * i + 1)) hil (by omega)
        have F2 : Fr 20 μ1 (pI μ1 (20 + 9 + i) 1 (1 - S.1 (5 + 5 * i + 1))) := frSlot (by omega)
        generalize pI μ1 (20 + 9 + i) 1 (1 - S.1 (5 + 5 * i + 1)) = μ2 at h2 F2 ⊢
        have i2 := i1.tr hW F2
        have hX := i2.hX
        refine aw_aload_n rfl dX11_traitor_101 ?_
        refine aw_getR gX11_16_11 kX rfl (hX.trial) dX11_traitor_102 ?_
        refine aw_iload_n rfl dX11_traitor_105 ?_
        refine aw_v1 kX11_166 ⟨ble rfl, ble rfl⟩ (rcG g20) (ble rfl) dX11_traitor_106 (c_go g20 h2 (WFs_sd hW.1) hx (by omega) (fun μ3 F3 h3 => ?_))
        have i3 := i2.tr hW F3
        have hX := i3.hX
        rw [mny_upd (by omega)] at h3
        have hb3 : BH (μ3.1 58) (bestF (fun _ => true) val i) := by
          rw [((F1.trans F2).trans F3).1 58 (by decide) (by decide)]
          exact hb
        refine aw_aload_n rfl dX11_traitor_109 ?_
        refine aw_getR gX11_25_11 kX rfl (hX.best) dX11_traitor_110 ?_
        refine aw_iload_n rfl dX11_traitor_113 ?_
        refine aw_aload_n rfl dX11_traitor_114 ?_
        refine aw_getR gX11_16_11 kX rfl (hX.trial) dX11_traitor_115 ?_
        refine aw_getI gX11_63_2 (kG g20) rfl dX11_traitor_118 ?_
        refine aw_iload_n rfl dX11_traitor_121 ?_
        refine aw_isub dX11_traitor_122 ?_
        refine aw_s1 kX11_204 ⟨ble rfl, ble rfl⟩ (ble rfl) dX11_traitor_123 (c_abs ?_)
        refine aw_v2 kX11_184 ⟨ble rfl, ble rfl⟩ (rcBest) (ble rfl) dX11_traitor_126 (c_offer hb3 (k := i) rfl (fun f hf4 => ?_))
        refine aw_iinc rfl (v := 1) (by decide) (ble rfl) dX11_traitor_129 ?_
        refine aw_goto 53 rfl dX11_traitor_132 ?_
        rw [nI_1]
        rw [h3.2.1.2.2.1] at hf4
        refine ih (i + 1) _ (by omega) (i3.bst hW f) ?_
        rw [rowI_get, bestF, if_pos rfl, hv]
        exact hf4
    refine aw_aload_n rfl dX11_traitor_17 ?_
    refine aw_getR gX11_16_11 kX rfl (hX.trial) dX11_traitor_18 ?_
    refine aw_aload_n rfl dX11_traitor_21 ?_
    refine aw_getR gX11_10_11 kX rfl (hX.green) dX11_traitor_22 ?_
    refine aw_v1 kX11_170 ⟨ble rfl, ble rfl⟩ (rcG g20) (ble rfl) dX11_traitor_25 (c_become g20 g1 (by decide) hX.2.1.2.1 hga hW.1 (fun μ1 F1 h1 => ?_))
    have i1 := h.tr hW F1
    have hX := i1.hX
    refine aw_aload_n rfl dX11_traitor_28 ?_
    refine aw_getR gX11_16_11 kX rfl (hX.trial) dX11_traitor_29 ?_
    refine aw_iload_n rfl dX11_traitor_32 ?_
    refine aw_v1 kX11_166 ⟨ble rfl, ble rfl⟩ (rcG g20) (ble rfl) dX11_traitor_33 (c_go g20 h1 hW.1 hx (by omega) (fun μ2 F2 h2 => ?_))
    have i2 := i1.tr hW F2
    have hX := i2.hX
    refine aw_aload_n rfl dX11_traitor_36 ?_
    refine aw_getR gX11_16_11 kX rfl (hX.trial) dX11_traitor_37 ?_
    refine aw_getI gX11_63_2 (kG g20) rfl dX11_traitor_40 ?_
    rw [h2.2.1.2.2.1]
    refine aw_istore_n (ble rfl) dX11_traitor_43 ?_
    refine aw_aload_n rfl dX11_traitor_44 ?_
    refine aw_getR gX11_25_11 kX rfl (hX.best) dX11_traitor_45 ?_
    refine aw_v0 kX11_181 ⟨ble rfl, ble rfl⟩ (rcBest) (ble rfl) dX11_traitor_48 (c_clear (fun f hf1 _ => ?_))
    refine aw_iconst (v := 0) (by decide) dX11_traitor_51 ?_
    refine aw_istore_n (ble rfl) dX11_traitor_52 ?_
    exact loop (mny S.1) 0 _ (by omega) (i2.bst hW f) (by rw [rowI_get]; exact hf1)
  · rw [if_neg (by rw [c]; decide)] at hQ
    refine aw_aload_n rfl dX11_traitor_10 ?_
    refine aw_ldc (v := (-1000000001)) w_316 dX11_traitor_11 ?_
    refine aw_v1 kX11_52 ⟨ble rfl, ble rfl⟩ (rcX) (ble rfl) dX11_traitor_13 (e_finding (k := 0) h hW (by decide) (by decide) (fun μ' h' => ?_))
    refine aw_iret dX11_traitor_16 rfl ?_
    exact hQ μ' h'
end Cls19
