/-! THE CLASS, 17: kind, week -/
theorem stepB_some (o : OB) (k : Nat) (v : Int32) : ∃ q, stepB o k v = some q := by
  unfold stepB
  cases o with
  | none => exact ⟨_, rfl⟩
  | some q =>
    dsimp only
    split
    · exact ⟨_, rfl⟩
    · exact ⟨_, rfl⟩
theorem bestF_some (val : Nat → Int32) (k : Nat) : ∃ q, bestF (fun _ => true) val (k + 1) = some q := by
  rw [bestF, if_pos rfl]
  exact stepB_some _ _ _
theorem WFp_0 {s : Nat → Int32} {k a : Nat} (h : WFp s k) (ha : a < 6) : WFp (upd s (5 + 5 * k) (nI a)) k := by
  obtain ⟨h0, h1, h2, h3, h4⟩ := h
  unfold WFp
  rw [upd_eq, upd_ne (by omega), upd_ne (by omega), upd_ne (by omega), upd_ne (by omega)]
  exact ⟨⟨a, ha, rfl⟩, h1, h2, h3, h4⟩
theorem WFs_kd {s : Nat → Int32} {k a : Nat} (h : WFs s) (ha : a < 6) : WFs (upd s (5 + 5 * k) (nI a)) := WFs_p (j := 0) h (by decide) (fun hk => WFp_0 (h.2.2.2.2 k hk) ha)
section Cls17
variable {Sc : SCR} {μ μ0 : Mem} {n : Nat × Nat} {Q : PQ} {S : SG}
theorem e_kind {x t : Int32} (h : CI μ0 μ S) (hW : WF S) (hQ : ∀ μ', CI μ0 μ' (sp_kind x t S).2 → Q (some (.int (sp_kind x t S).1)) K0 μ') : AM Sc mX11_kind [.ref 0, .int x, .int t] K0 μ n Q := by
  refine AM.of rfl (ble rfl) ?_
  have hX := h.hX
  have hga := h.ga
  obtain ⟨h4, hm, -⟩ := hW.1
  unfold sp_kind at hQ
  have bad : (isP S x && in1 t 1 60) = false → AW Sc mX11_kind 21 [(0, .ref 0), (1, .int x), (2, .int t)] [] K0 μ n Q := by
    intro e
    rw [e] at hQ
    refine aw_aload_n rfl dX11_kind_21 ?_
    refine aw_ldc (v := (-1000000001)) w_316 dX11_kind_22 ?_
    refine aw_v1 kX11_52 ⟨ble rfl, ble rfl⟩ (rcX) (ble rfl) dX11_kind_24 (e_finding (k := 0) h hW (by decide) (by decide) (fun μ' h' => ?_))
    refine aw_iret dX11_kind_27 rfl ?_
    exact hQ μ' h'
  refine aw_aload_n rfl dX11_kind_0 ?_
  refine aw_getR gX11_10_11 kX rfl (hX.green) dX11_kind_1 ?_
  refine aw_iload_n rfl dX11_kind_4 ?_
  refine aw_v1 kX11_107 ⟨ble rfl, ble rfl⟩ (rcG g1) (ble rfl) dX11_kind_5 (c_has g1 hga hW.1 ?_)
  refine aw_zeq 21 rfl dX11_kind_8 (fun c => ?_) (fun c => ?_)
  · exact bad (by unfold isP; rw [c]; rfl)
  · refine aw_iload_n rfl dX11_kind_11 ?_
    refine aw_iconst (v := 1) (by decide) dX11_kind_12 ?_
    refine aw_bipush (v := 60) (by decide) dX11_kind_13 ?_
    refine aw_s3 kX11_47 ⟨ble rfl, ble rfl⟩ (ble rfl) dX11_kind_15 (c_isWithin ?_)
    refine aw_zne 28 rfl dX11_kind_18 (fun c2 => ?_) (fun c2 => ?_)
    · have e : (isP S x && in1 t 1 60) = true := by unfold isP; rw [c, c2]; rfl
      rw [e] at hQ
      simp only [if_true] at hQ
      obtain ⟨p, hp, hxp, hip⟩ := per_t h4 hm c
      obtain ⟨k, -, hk, hx⟩ := in1_t (a := 1) (b := 60) (by decide) (by decide) c2
      have hix : ix t = k := by rw [hx]; exact ix_nI (by omega)
      rw [hix, hip] at hQ
      have hf := (hga.2.2 p hp).1
      refine aw_aload_n rfl dX11_kind_28 ?_
      refine aw_getR gX11_10_11 kX rfl (hX.green) dX11_kind_29 ?_
      refine aw_getR gX11_110_2 kG1 rfl (hga.1.2.1) dX11_kind_32 ?_
      refine aw_iload_n rfl dX11_kind_35 ?_
      refine aw_aaloadN (kGp g1) (fun _ => rfl) hxp (by omega) (by decide) (hga.pe (by omega)) dX11_kind_36 ?_
      refine aw_getI gX11_125_4 (kP g1 (i := p) (by omega)) rfl dX11_kind_37 ?_
      rw [hf.1]
      generalize hval : (fun a => tow (S.1 (5 + 5 * p + 1)) (goesN (mny S.1) k (upd S.1 (5 + 5 * p) (nI a)))) = val at hQ
      have hv : ∀ a, val a = tow (S.1 (5 + 5 * p + 1)) (goesN (mny S.1) k (upd S.1 (5 + 5 * p) (nI a))) := fun a => by rw [← hval]
      have loop : ∀ j i (ν : Mem), i + j = 6 → CI μ0 ν S → BH (ν.1 58) (bestF (fun _ => true) val i) → AW Sc mX11_kind 51 [(0, .ref 0), (1, .int x), (2, .int t), (3, .int (S.1 (5 + 5 * p + 1))), (4, .int (nI i))] [] K0 ν n Q := by
        intro j
        induction j with
        | zero =>
          intro i ν hi hν hb
          have hX := hν.hX
          obtain rfl : i = 6 := by omega
          obtain ⟨q, hq⟩ := bestF_some val 5
          rw [hq] at hb hQ
          refine aw_iload rfl dX11_kind_51 ?_
          refine aw_bipush (v := 6) (by decide) dX11_kind_53 ?_
          refine aw_icmp_ge 122 rfl dX11_kind_55 (fun _ => ?_) (fun c_ => absurd ((by decide)) c_)
          refine aw_aload_n rfl dX11_kind_122 ?_
          refine aw_getR gX11_25_11 kX rfl (hX.best) dX11_kind_123 ?_
          refine aw_getI gX11_190_0 kBest rfl dX11_kind_126 ?_
          refine aw_iret dX11_kind_129 rfl ?_
          rw [(hb.2 q rfl).1]
          exact hQ ν hν
        | succ j ih =>
          intro i ν hi hν hb
          have hX := hν.hX
          refine aw_iload rfl dX11_kind_51 ?_
          refine aw_bipush (v := 6) (by decide) dX11_kind_53 ?_
          refine aw_icmp_ge 122 rfl dX11_kind_55 (fun c_ => absurd c_ (nI_ge (b := 6) (by omega) (by omega))) (fun _ => ?_)
          refine aw_aload_n rfl dX11_kind_58 ?_
          refine aw_getR gX11_16_11 kX rfl (hX.trial) dX11_kind_59 ?_
          refine aw_aload_n rfl dX11_kind_62 ?_
          refine aw_getR gX11_10_11 kX rfl (hX.green) dX11_kind_63 ?_
          refine aw_v1 kX11_170 ⟨ble rfl, ble rfl⟩ (rcG g20) (ble rfl) dX11_kind_66 (c_become g20 g1 (by decide) hX.2.1.2.1 hν.ga hW.1 (fun μ1 F1 h1 => ?_))
          have i1 := hν.tr hW F1
          have hX := i1.hX
          refine aw_aload_n rfl dX11_kind_69 ?_
          refine aw_getR gX11_16_11 kX rfl (hX.trial) dX11_kind_70 ?_
          refine aw_getR gX11_110_2 (kG g20) rfl (h1.1.2.1) dX11_kind_73 ?_
          refine aw_iload_n rfl dX11_kind_76 ?_
          refine aw_aaloadN (kGp g20) (fun _ => rfl) hxp (by omega) (by decide) (h1.pe (by omega)) dX11_kind_77 ?_
          refine aw_aload_n rfl dX11_kind_78 ?_
          refine aw_getR gX11_16_11 kX rfl (hX.trial) dX11_kind_79 ?_
          refine aw_getR gX11_149_2 (kG g20) rfl (h1.1.1) dX11_kind_82 ?_
          refine aw_iload rfl dX11_kind_85 ?_
          refine aw_aaloadN (kGk g20) (fun _ => rfl) rfl (by omega) (by decide) (h1.1.2.2.1 i (by omega)) dX11_kind_87 ?_
          refine aw_putR (pX11_114_4 _) (kP g20 (i := p) (by omega)) rfl (fun _ => rfl) (fun _ => rfl) dX11_kind_88 ?_
          have h2 := h1.kd (j := 20) (c := i) (k := p) g20 (by omega) (by omega)
          have F2 : Fr 20 μ1 (pR μ1 (20 + 9 + p) 0 (some (20 + 3 + i))) := Fr.kd ⟨by omega, by omega⟩
          generalize pR μ1 (20 + 9 + p) 0 (some (20 + 3 + i)) = μ2 at h2 F2 ⊢
          have i2 := i1.tr hW F2
          have hX := i2.hX
          refine aw_aload_n rfl dX11_kind_91 ?_
          refine aw_getR gX11_16_11 kX rfl (hX.trial) dX11_kind_92 ?_
          refine aw_iload_n rfl dX11_kind_95 ?_
          refine aw_v1 kX11_166 ⟨ble rfl, ble rfl⟩ (rcG g20) (ble rfl) dX11_kind_96 (c_go g20 h2 (WFs_kd hW.1 (by omega)) hx (by omega) (fun μ3 F3 h3 => ?_))
          have i3 := i2.tr hW F3
          have hX := i3.hX
          rw [mny_upd (by omega)] at h3
          have hb3 : BH (μ3.1 58) (bestF (fun _ => true) val i) := by
            rw [((F1.trans F2).trans F3).1 58 (by decide) (by decide)]
            exact hb
          refine aw_aload_n rfl dX11_kind_99 ?_
          refine aw_getR gX11_25_11 kX rfl (hX.best) dX11_kind_100 ?_
          refine aw_iload rfl dX11_kind_103 ?_
          refine aw_aload_n rfl dX11_kind_105 ?_
          refine aw_getR gX11_16_11 kX rfl (hX.trial) dX11_kind_106 ?_
          refine aw_iload_n rfl dX11_kind_109 ?_
          refine aw_v1 kX11_174 ⟨ble rfl, ble rfl⟩ (rcG g20) (ble rfl) dX11_kind_110 (c_towards g20 h3.2.1 ?_)
          refine aw_v2 kX11_184 ⟨ble rfl, ble rfl⟩ (rcBest) (ble rfl) dX11_kind_113 (c_offer hb3 (k := i) rfl (fun f hf4 => ?_))
          refine aw_iinc rfl (v := 1) (by decide) (ble rfl) dX11_kind_116 ?_
          refine aw_goto 51 rfl dX11_kind_119 ?_
          rw [nI_1]
          refine ih (i + 1) _ (by omega) (i3.bst hW f) ?_
          rw [rowI_get, bestF, if_pos rfl, hv]
          exact hf4
      refine aw_istore_n (ble rfl) dX11_kind_40 ?_
      refine aw_aload_n rfl dX11_kind_41 ?_
      refine aw_getR gX11_25_11 kX rfl (hX.best) dX11_kind_42 ?_
      refine aw_v0 kX11_181 ⟨ble rfl, ble rfl⟩ (rcBest) (ble rfl) dX11_kind_45 (c_clear (fun f hf1 _ => ?_))
      refine aw_iconst (v := 0) (by decide) dX11_kind_48 ?_
      refine aw_istore (ble rfl) dX11_kind_49 ?_
      exact loop 6 0 _ (by omega) (h.bst hW f) (by rw [rowI_get]; exact hf1)
    · exact bad (by rw [c2, Bool.and_false])
theorem e_week {d t : Int32} (h : CI μ0 μ S) (hW : WF S) (hQ : ∀ μ', CI μ0 μ' (sp_week d t S).2 → Q (some (.int (sp_week d t S).1)) K0 μ') : AM Sc mX11_week [.ref 0, .int d, .int t] K0 μ n Q := by
  refine AM.of rfl (ble rfl) ?_
  have hX := h.hX
  have hga := h.ga
  unfold sp_week at hQ
  have bad : (in1 d 0 1 && in1 t 1 100) = false → AW Sc mX11_week 17 [(0, .ref 0), (1, .int d), (2, .int t)] [] K0 μ n Q := by
    intro e
    rw [e] at hQ
    refine aw_aload_n rfl dX11_week_17 ?_
    refine aw_ldc (v := (-1000000001)) w_316 dX11_week_18 ?_
    refine aw_v1 kX11_52 ⟨ble rfl, ble rfl⟩ (rcX) (ble rfl) dX11_week_20 (e_finding (k := 0) h hW (by decide) (by decide) (fun μ' h' => ?_))
    refine aw_iret dX11_week_23 rfl ?_
    exact hQ μ' h'
  refine aw_iload_n rfl dX11_week_0 ?_
  refine aw_s1 kX11_93 ⟨ble rfl, ble rfl⟩ (ble rfl) dX11_week_1 (c_isSide ?_)
  refine aw_zeq 17 rfl dX11_week_4 (fun c => ?_) (fun c => ?_)
  · exact bad (by rw [c]; rfl)
  · refine aw_iload_n rfl dX11_week_7 ?_
    refine aw_iconst (v := 1) (by decide) dX11_week_8 ?_
    refine aw_bipush (v := 100) (by decide) dX11_week_9 ?_
    refine aw_s3 kX11_47 ⟨ble rfl, ble rfl⟩ (ble rfl) dX11_week_11 (c_isWithin ?_)
    refine aw_zne 24 rfl dX11_week_14 (fun c2 => ?_) (fun c2 => ?_)
    · rw [c, c2] at hQ
      simp only [Bool.and_self, if_true] at hQ
      obtain ⟨k, -, hk, hx⟩ := in1_t (a := 1) (b := 100) (by decide) (by decide) c2
      have hix : ix t = k := by rw [hx]; exact ix_nI (by omega)
      rw [hix] at hQ
      generalize hval : (fun a => tow d (goesN (mny S.1) k (upd S.1 3 (S.1 3 ^^^ ((1 : Int32) <<< (nI a &&& 31)))))) = val at hQ
      have hv : ∀ a, val a = tow d (goesN (mny S.1) k (upd S.1 3 (S.1 3 ^^^ ((1 : Int32) <<< (nI a &&& 31))))) := fun a => by rw [← hval]
      have loop : ∀ j i (ν : Mem), i + j = 8 → CI μ0 ν S → BH (ν.1 58) (bestF (fun _ => true) val i) → AW Sc mX11_week 33 [(0, .ref 0), (1, .int d), (2, .int t), (3, .int (nI i))] [] K0 ν n Q := by
        intro j
        induction j with
        | zero =>
          intro i ν hi hν hb
          have hX := hν.hX
          obtain rfl : i = 8 := by omega
          obtain ⟨q, hq⟩ := bestF_some val 7
          rw [hq] at hb hQ
          refine aw_iload_n rfl dX11_week_33 ?_
          refine aw_bipush (v := 8) (by decide) dX11_week_34 ?_
          refine aw_icmp_ge 95 rfl dX11_week_36 (fun _ => ?_) (fun c_ => absurd ((by decide)) c_)
          refine aw_aload_n rfl dX11_week_95 ?_
          refine aw_getR gX11_25_11 kX rfl (hX.best) dX11_week_96 ?_
          refine aw_getI gX11_190_0 kBest rfl dX11_week_99 ?_
          refine aw_iret dX11_week_102 rfl ?_
          rw [(hb.2 q rfl).1]
          exact hQ ν hν
        | succ j ih =>
          intro i ν hi hν hb
          have hX := hν.hX
          refine aw_iload_n rfl dX11_week_33 ?_
          refine aw_bipush (v := 8) (by decide) dX11_week_34 ?_
          refine aw_icmp_ge 95 rfl dX11_week_36 (fun c_ => absurd c_ (nI_ge (b := 8) (by omega) (by omega))) (fun _ => ?_)
          refine aw_aload_n rfl dX11_week_39 ?_
          refine aw_getR gX11_16_11 kX rfl (hX.trial) dX11_week_40 ?_
          refine aw_aload_n rfl dX11_week_43 ?_
          refine aw_getR gX11_10_11 kX rfl (hX.green) dX11_week_44 ?_
          refine aw_v1 kX11_170 ⟨ble rfl, ble rfl⟩ (rcG g20) (ble rfl) dX11_week_47 (c_become g20 g1 (by decide) hX.2.1.2.1 hν.ga hW.1 (fun μ1 F1 h1 => ?_))
          have i1 := hν.tr hW F1
          have hX := i1.hX
          refine aw_aload_n rfl dX11_week_50 ?_
          refine aw_getR gX11_16_11 kX rfl (hX.trial) dX11_week_51 ?_
          refine aw_dup rfl dX11_week_54 ?_
          refine aw_getI gX11_60_2 (kG g20) rfl dX11_week_55 ?_
          refine aw_iconst (v := 1) (by decide) dX11_week_58 ?_
          refine aw_iload_n rfl dX11_week_59 ?_
          refine aw_ishl dX11_week_60 ?_
          refine aw_ixor dX11_week_61 ?_
          refine aw_putI (pX11_60_2 _) (kG g20) rfl rfl rfl dX11_week_62 ?_
          rw [h1.2.1.2.1]
          have h2 := h1.hd (c := 1) (j := 3) (v := S.1 3 ^^^ ((1 : Int32) <<< (nI i &&& 31))) (by decide) (by decide)
          have F2 : Fr 20 μ1 (pI μ1 20 1 (S.1 3 ^^^ ((1 : Int32) <<< (nI i &&& 31)))) := Fr.pI
          generalize pI μ1 20 1 (S.1 3 ^^^ ((1 : Int32) <<< (nI i &&& 31))) = μ2 at h2 F2 ⊢
          have i2 := i1.tr hW F2
          have hX := i2.hX
          refine aw_aload_n rfl dX11_week_65 ?_
          refine aw_getR gX11_16_11 kX rfl (hX.trial) dX11_week_66 ?_
          refine aw_iload_n rfl dX11_week_69 ?_
          refine aw_v1 kX11_166 ⟨ble rfl, ble rfl⟩ (rcG g20) (ble rfl) dX11_week_70 (c_go g20 h2 (WFs_3 hW.1) hx (by omega) (fun μ3 F3 h3 => ?_))
          have i3 := i2.tr hW F3
          have hX := i3.hX
          rw [mny_upd (by omega)] at h3
          have hb3 : BH (μ3.1 58) (bestF (fun _ => true) val i) := by
            rw [((F1.trans F2).trans F3).1 58 (by decide) (by decide)]
            exact hb
          refine aw_aload_n rfl dX11_week_73 ?_
          refine aw_getR gX11_25_11 kX rfl (hX.best) dX11_week_74 ?_
          refine aw_iload_n rfl dX11_week_77 ?_
          refine aw_aload_n rfl dX11_week_78 ?_
          refine aw_getR gX11_16_11 kX rfl (hX.trial) dX11_week_79 ?_
          refine aw_iload_n rfl dX11_week_82 ?_
          refine aw_v1 kX11_174 ⟨ble rfl, ble rfl⟩ (rcG g20) (ble rfl) dX11_week_83 (c_towards g20 h3.2.1 ?_)
          refine aw_v2 kX11_184 ⟨ble rfl, ble rfl⟩ (rcBest) (ble rfl) dX11_week_86 (c_offer hb3 (k := i) rfl (fun f hf4 => ?_))
          refine aw_iinc rfl (v := 1) (by decide) (ble rfl) dX11_week_89 ?_
          refine aw_goto 33 rfl dX11_week_92 ?_
          rw [nI_1]
          refine ih (i + 1) _ (by omega) (i3.bst hW f) ?_
          rw [rowI_get, bestF, if_pos rfl, hv]
          exact hf4
      refine aw_aload_n rfl dX11_week_24 ?_
      refine aw_getR gX11_25_11 kX rfl (hX.best) dX11_week_25 ?_
      refine aw_v0 kX11_181 ⟨ble rfl, ble rfl⟩ (rcBest) (ble rfl) dX11_week_28 (c_clear (fun f hf1 _ => ?_))
      refine aw_iconst (v := 0) (by decide) dX11_week_31 ?_
      refine aw_istore_n (ble rfl) dX11_week_32 ?_
      exact loop 8 0 _ (by omega) (h.bst hW f) (by rw [rowI_get]; exact hf1)
    · exact bad (by rw [c2, Bool.and_false])
end Cls17
