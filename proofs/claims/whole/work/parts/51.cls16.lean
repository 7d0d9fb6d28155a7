/-! THE CLASS, 16: spell, kind -/
section Cls16
variable {Sc : SCR} {μ μ0 : Mem} {n : Nat × Nat} {Q : PQ} {S : SG}
theorem e_bestOrNone {o : OB} (h : CI μ0 μ S) (hW : WF S) (hb : BH (μ.1 58) o) (hQ : ∀ μ', CI μ0 μ' (ansB S o).2 → Q (some (.int (ansB S o).1)) K0 μ') : AM Sc mX11_bestOrNone [.ref 0] K0 μ n Q := by
  refine AM.of rfl (ble rfl) ?_
  have hX := h.hX
  obtain ⟨h0, h1⟩ := hb
  refine aw_aload_n rfl dX11_bestOrNone_0 ?_
  refine aw_getR gX11_25_11 kX rfl (hX.best) dX11_bestOrNone_1 ?_
  refine aw_getI gX11_264_0 kBest rfl dX11_bestOrNone_4 ?_
  rw [h0]
  cases o with
  | none =>
    refine aw_if_eq 20 rfl dX11_bestOrNone_7 (fun _ => ?_) (fun c_ => absurd (rfl) c_)
    refine aw_aload_n rfl dX11_bestOrNone_20 ?_
    refine aw_ldc (v := (-1000000004)) w_577 dX11_bestOrNone_21 ?_
    refine aw_v1 kX11_52 ⟨ble rfl, ble rfl⟩ (rcX) (ble rfl) dX11_bestOrNone_23 (e_finding (k := 3) h hW (by decide) (by decide) (fun μ' h' => ?_))
    refine aw_iret dX11_bestOrNone_26 rfl ?_
    exact hQ μ' h'
  | some q =>
    refine aw_if_eq 20 rfl dX11_bestOrNone_7 (fun c_ => absurd c_ ((show ¬ bI true = 0 by decide))) (fun _ => ?_)
    refine aw_aload_n rfl dX11_bestOrNone_10 ?_
    refine aw_getR gX11_25_11 kX rfl (hX.best) dX11_bestOrNone_11 ?_
    refine aw_getI gX11_190_0 kBest rfl dX11_bestOrNone_14 ?_
    refine aw_goto 26 rfl dX11_bestOrNone_17 ?_
    refine aw_iret dX11_bestOrNone_26 rfl ?_
    rw [(h1 q rfl).1]
    exact hQ μ h
theorem WFs_rel {s : Nat → Int32} {a b : Nat} (h : WFs s) : WFs (relS s a b) := by
  have h1 : WFs (upd s (5 + 5 * a + 2) 1) := WFs_on h
  exact WFs_p h1 (by decide) (fun hk => WFp_2 (h1.2.2.2.2 b hk) (Or.inl rfl))
theorem mny_rel {s : Nat → Int32} {a b : Nat} : mny (relS s a b) = mny s := by
  unfold relS
  rw [mny_upd (by omega), mny_upd (by omega)]
theorem e_spell {x t : Int32} (h : CI μ0 μ S) (hW : WF S) (hQ : ∀ μ', CI μ0 μ' (sp_spell x t S).2 → Q (some (.int (sp_spell x t S).1)) K0 μ') : AM Sc mX11_spell [.ref 0, .int x, .int t] K0 μ n Q := by
  refine AM.of rfl (ble rfl) ?_
  have hX := h.hX
  have hga := h.ga
  obtain ⟨h4, hm, -⟩ := hW.1
  unfold sp_spell at hQ
  have bad : (isP S x && in1 t 1 60) = false → AW Sc mX11_spell 21 [(0, .ref 0), (1, .int x), (2, .int t)] [] K0 μ n Q := by
    intro e
    rw [e] at hQ
    refine aw_aload_n rfl dX11_spell_21 ?_
    refine aw_ldc (v := (-1000000001)) w_316 dX11_spell_22 ?_
    refine aw_v1 kX11_52 ⟨ble rfl, ble rfl⟩ (rcX) (ble rfl) dX11_spell_24 (e_finding (k := 0) h hW (by decide) (by decide) (fun μ' h' => ?_))
    refine aw_iret dX11_spell_27 rfl ?_
    exact hQ μ' h'
  refine aw_aload_n rfl dX11_spell_0 ?_
  refine aw_getR gX11_10_11 kX rfl (hX.green) dX11_spell_1 ?_
  refine aw_iload_n rfl dX11_spell_4 ?_
  refine aw_v1 kX11_107 ⟨ble rfl, ble rfl⟩ (rcG g1) (ble rfl) dX11_spell_5 (c_has g1 hga hW.1 ?_)
  refine aw_zeq 21 rfl dX11_spell_8 (fun c => ?_) (fun c => ?_)
  · exact bad (by unfold isP; rw [c]; rfl)
  · refine aw_iload_n rfl dX11_spell_11 ?_
    refine aw_iconst (v := 1) (by decide) dX11_spell_12 ?_
    refine aw_bipush (v := 60) (by decide) dX11_spell_13 ?_
    refine aw_s3 kX11_47 ⟨ble rfl, ble rfl⟩ (ble rfl) dX11_spell_15 (c_isWithin ?_)
    refine aw_zne 28 rfl dX11_spell_18 (fun c2 => ?_) (fun c2 => ?_)
    · have e : (isP S x && in1 t 1 60) = true := by unfold isP; rw [c, c2]; rfl
      rw [e] at hQ
      simp only [if_true] at hQ
      obtain ⟨p, hp, hxp, hip⟩ := per_t h4 hm c
      obtain ⟨k, -, hk, hx⟩ := in1_t (a := 1) (b := 60) (by decide) (by decide) c2
      have hix : ix t = k := by rw [hx]; exact ix_nI (by omega)
      rw [hix, hip] at hQ
      have hf := (hga.2.2 p hp).1
      refine aw_aload_n rfl dX11_spell_28 ?_
      refine aw_getR gX11_10_11 kX rfl (hX.green) dX11_spell_29 ?_
      refine aw_getR gX11_110_2 kG1 rfl (hga.1.2.1) dX11_spell_32 ?_
      refine aw_iload_n rfl dX11_spell_35 ?_
      refine aw_aaloadN (kGp g1) (fun _ => rfl) hxp (by omega) (by decide) (hga.pe (by omega)) dX11_spell_36 ?_
      refine aw_astore_n (ble rfl) dX11_spell_37 ?_
      refine aw_aload_n rfl dX11_spell_38 ?_
      refine aw_getI gX11_128_4 (kP g1 (i := p) (by omega)) rfl dX11_spell_39 ?_
      rw [hf.2.1]
      refine aw_if_ne 52 rfl dX11_spell_42 (fun c3 => ?_) (fun c3 => ?_)
      · rw [if_neg c3] at hQ
        have loop : ∀ j i (ν : Mem), i + j = mny S.1 → CI μ0 ν S → BH (ν.1 58) (bestF (fun k => mayR S.1 k p) (fun a => tow (S.1 (5 + 5 * p + 1)) (goesN (mny S.1) k (relS S.1 a p))) i) → AW Sc mX11_spell 62 [(0, .ref 0), (1, .int x), (2, .int t), (3, .ref (1 + 9 + p)), (4, .int (nI i))] [] K0 ν n Q := by
          intro j
          induction j with
          | zero =>
            intro i ν hi hν hb
            have hX := hν.hX
            refine aw_iload rfl dX11_spell_62 ?_
            refine aw_aload_n rfl dX11_spell_64 ?_
            refine aw_getR gX11_10_11 kX rfl (hX.green) dX11_spell_65 ?_
            refine aw_getI gX11_100_2 kG1 rfl dX11_spell_68 ?_
            rw [hν.ga.sz hW.1]
            refine aw_icmp_ge 142 rfl dX11_spell_71 (fun _ => ?_) (fun c_ => absurd (nI_le (by omega) (by omega)) c_)
            obtain rfl : i = mny S.1 := by omega
            refine aw_aload_n rfl dX11_spell_142 ?_
            refine aw_v0 kX11_187 ⟨ble rfl, ble rfl⟩ (rcX) (ble rfl) dX11_spell_143 (e_bestOrNone hν hW hb (fun μ' h' => ?_))
            refine aw_iret dX11_spell_146 rfl ?_
            exact hQ μ' h'
          | succ j ih =>
            intro i ν hi hν hb
            have hX := hν.hX
            have hil : i < mny S.1 := by omega
            have next : ∀ ν, CI μ0 ν S → BH (ν.1 58) (bestF (fun k => mayR S.1 k p) (fun a => tow (S.1 (5 + 5 * p + 1)) (goesN (mny S.1) k (relS S.1 a p))) (i + 1)) → AW Sc mX11_spell 136 [(0, .ref 0), (1, .int x), (2, .int t), (3, .ref (1 + 9 + p)), (4, .int (nI i))] [] K0 ν n Q := by
              intro ν hν hb
              refine aw_iinc rfl (v := 1) (by decide) (ble rfl) dX11_spell_136 ?_
              refine aw_goto 62 rfl dX11_spell_139 ?_
              rw [nI_1]
              exact ih (i + 1) ν (by omega) hν hb
            refine aw_iload rfl dX11_spell_62 ?_
            refine aw_aload_n rfl dX11_spell_64 ?_
            refine aw_getR gX11_10_11 kX rfl (hX.green) dX11_spell_65 ?_
            refine aw_getI gX11_100_2 kG1 rfl dX11_spell_68 ?_
            rw [hν.ga.sz hW.1]
            refine aw_icmp_ge 142 rfl dX11_spell_71 (fun c_ => absurd c_ (nI_ge (by omega) (by omega))) (fun _ => ?_)
            refine aw_aload_n rfl dX11_spell_74 ?_
            refine aw_getR gX11_10_11 kX rfl (hX.green) dX11_spell_75 ?_
            refine aw_iload rfl dX11_spell_78 ?_
            refine aw_iload_n rfl dX11_spell_80 ?_
            refine aw_v2 kX11_157 ⟨ble rfl, ble rfl⟩ (rcG g1) (ble rfl) dX11_spell_81 (c_canSwap g1 hν.ga hW.1 (a := i) rfl hxp hil hp ?_)
            rw [bestF] at next
            refine aw_zeq 136 rfl dX11_spell_84 (fun c4 => ?_) (fun c4 => ?_)
            · rw [c4, if_neg (by decide)] at next
              exact next ν hν hb
            · rw [c4, if_pos rfl] at next
              refine aw_aload_n rfl dX11_spell_87 ?_
              refine aw_getR gX11_16_11 kX rfl (hX.trial) dX11_spell_88 ?_
              refine aw_aload_n rfl dX11_spell_91 ?_
              refine aw_getR gX11_10_11 kX rfl (hX.green) dX11_spell_92 ?_
              refine aw_v1 kX11_170 ⟨ble rfl, ble rfl⟩ (rcG g20) (ble rfl) dX11_spell_95 (c_become g20 g1 (by decide) hX.2.1.2.1 hν.ga hW.1 (fun μ1 F1 h1 => ?_))
              have i1 := hν.tr hW F1
              have hX := i1.hX
              refine aw_aload_n rfl dX11_spell_98 ?_
              refine aw_getR gX11_16_11 kX rfl (hX.trial) dX11_spell_99 ?_
              refine aw_iload rfl dX11_spell_102 ?_
              refine aw_iload_n rfl dX11_spell_104 ?_
              refine aw_v2 kX11_162 ⟨ble rfl, ble rfl⟩ (rcG g20) (ble rfl) dX11_spell_105 (c_swap g20 h1 hW.1 (a := i) rfl hxp hil hp c4 (fun μ2 F2 h2 => ?_))
              have i2 := i1.tr hW F2
              have hX := i2.hX
              refine aw_aload_n rfl dX11_spell_108 ?_
              refine aw_getR gX11_16_11 kX rfl (hX.trial) dX11_spell_109 ?_
              refine aw_iload_n rfl dX11_spell_112 ?_
              refine aw_v1 kX11_166 ⟨ble rfl, ble rfl⟩ (rcG g20) (ble rfl) dX11_spell_113 (c_go g20 h2 (WFs_rel hW.1) hx (by omega) (fun μ3 F3 h3 => ?_))
              have i3 := i2.tr hW F3
              have hX := i3.hX
              rw [mny_rel] at h3
              have hb3 : BH (μ3.1 58) (bestF (fun k => mayR S.1 k p) (fun a => tow (S.1 (5 + 5 * p + 1)) (goesN (mny S.1) k (relS S.1 a p))) i) := by
                rw [((F1.trans F2).trans F3).1 58 (by decide) (by decide)]
                exact hb
              have hf3 := (i3.ga.2.2 p hp).1
              refine aw_aload_n rfl dX11_spell_116 ?_
              refine aw_getR gX11_25_11 kX rfl (hX.best) dX11_spell_117 ?_
              refine aw_iload rfl dX11_spell_120 ?_
              refine aw_aload_n rfl dX11_spell_122 ?_
              refine aw_getR gX11_16_11 kX rfl (hX.trial) dX11_spell_123 ?_
              refine aw_aload_n rfl dX11_spell_126 ?_
              refine aw_getI gX11_125_4 (kP g1 (i := p) (by omega)) rfl dX11_spell_127 ?_
              refine aw_v1 kX11_174 ⟨ble rfl, ble rfl⟩ (rcG g20) (ble rfl) dX11_spell_130 (c_towards g20 h3.2.1 ?_)
              refine aw_v2 kX11_184 ⟨ble rfl, ble rfl⟩ (rcBest) (ble rfl) dX11_spell_133 (c_offer hb3 (k := i) rfl (fun f hf4 => ?_))
              refine next _ (i3.bst hW f) ?_
              rw [rowI_get]
              rw [hf3.1] at hf4
              exact hf4
        refine aw_aload_n rfl dX11_spell_52 ?_
        refine aw_getR gX11_25_11 kX rfl (hX.best) dX11_spell_53 ?_
        refine aw_v0 kX11_181 ⟨ble rfl, ble rfl⟩ (rcBest) (ble rfl) dX11_spell_56 (c_clear (fun f hf1 _ => ?_))
        refine aw_iconst (v := 0) (by decide) dX11_spell_59 ?_
        refine aw_istore (ble rfl) dX11_spell_60 ?_
        exact loop (mny S.1) 0 _ (by omega) (h.bst hW f) (by rw [rowI_get]; exact hf1)
      · rw [if_pos c3] at hQ
        refine aw_aload_n rfl dX11_spell_45 ?_
        refine aw_ldc (v := (-1000000005)) w_512 dX11_spell_46 ?_
        refine aw_v1 kX11_52 ⟨ble rfl, ble rfl⟩ (rcX) (ble rfl) dX11_spell_48 (e_finding (k := 4) h hW (by decide) (by decide) (fun μ' h' => ?_))
        refine aw_iret dX11_spell_51 rfl ?_
        exact hQ μ' h'
    · exact bad (by rw [c2, Bool.and_false])
end Cls16
