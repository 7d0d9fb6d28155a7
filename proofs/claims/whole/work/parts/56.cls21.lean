/-! THE CLASS, 21: copy, lays -/
theorem lay_c {v : Int64} (h : 1 ≤ v ∧ v ≤ 20) : ∃ g : Nat, 1 ≤ g ∧ g ≤ 20 ∧ v.toInt32 = nI g := by
  obtain ⟨h1, h2⟩ := h
  rw [Int64.le_iff_toInt_le] at h1 h2
  have h1 : (1 : Int) ≤ v.toInt := h1
  have h2 : v.toInt ≤ (20 : Int) := h2
  have e : v = nJ v.toInt.toNat := Int64.toInt_inj.mp (by unfold nJ; rw [lg_ofNat_toInt (by omega)]; omega)
  refine ⟨v.toInt.toNat, by omega, by omega, (congrArg Int64.toInt32 e).trans ?_⟩
  rw [← nJ_of (by omega), lg_l2i_i2l]
theorem WFs_lay {s : Nat → Int32} {c : Nat → Int64} (h : WFs s) : ∀ i, WFs (layS s c i).1
  | 0 => h
  | i + 1 => by
    have ih := WFs_lay (c := c) h i
    unfold layS
    split
    · next hc =>
      obtain ⟨g, g1, g2, hg⟩ := lay_c hc
      show WFs (upd (layS s c i).1 (5 + 5 * i + 4) (c i).toInt32)
      rw [hg]
      exact WFs_p ih (by decide) (fun hk => WFp_4 (ih.2.2.2.2 i hk) g1 g2)
    · exact ih
theorem mny_lay {s : Nat → Int32} {c : Nat → Int64} (i : Nat) : mny (layS s c i).1 = mny s := by
  unfold mny
  rw [layS_4]
theorem WF_row {S : SG} {s : Nat → Int32} (hW : WF S) (hs : WFs s) : WF (wS S s) := ⟨hs, hW.2⟩
section Cls21
variable {Sc : SCR} {μ μ0 : Mem} {n : Nat × Nat} {Q : PQ} {S : SG}
theorem e_copy {x a y b t : Int32} (h : CI μ0 μ S) (hW : WF S) (hQ : ∀ μ', CI μ0 μ' (sp_copy x a y b t S).2 → Q (some (.int (sp_copy x a y b t S).1)) K0 μ') : AM Sc mX11_copy [.ref 0, .int x, .int a, .int y, .int b, .int t] K0 μ n Q := by
  refine AM.of rfl (ble rfl) ?_
  have hX := h.hX
  unfold sp_copy at hQ
  have bad : (in1 x 0 3 && in1 y 0 3) = false → AW Sc mX11_copy 14 [(0, .ref 0), (1, .int x), (2, .int a), (3, .int y), (4, .int b), (5, .int t)] [] K0 μ n Q := by
    intro e
    rw [e, if_neg (by decide)] at hQ
    refine aw_aload_n rfl dX11_copy_14 ?_
    refine aw_ldc (v := (-1000000001)) w_316 dX11_copy_15 ?_
    refine aw_v1 kX11_52 ⟨ble rfl, ble rfl⟩ (rcX) (ble rfl) dX11_copy_17 (e_finding (k := 0) h hW (by decide) (by decide) (fun μ' h' => ?_))
    refine aw_iret dX11_copy_20 rfl ?_
    exact hQ μ' h'
  refine aw_iload_n rfl dX11_copy_0 ?_
  refine aw_s1 kX11_216 ⟨ble rfl, ble rfl⟩ (ble rfl) dX11_copy_1 (c_isSheet ?_)
  refine aw_zeq 14 rfl dX11_copy_4 (fun c => ?_) (fun c => ?_)
  · exact bad (by rw [c]; rfl)
  · refine aw_iload_n rfl dX11_copy_7 ?_
    refine aw_s1 kX11_216 ⟨ble rfl, ble rfl⟩ (ble rfl) dX11_copy_8 (c_isSheet ?_)
    refine aw_zne 21 rfl dX11_copy_11 (fun c2 => ?_) (fun c2 => ?_)
    · rw [c, c2, if_pos (by decide)] at hQ
      obtain ⟨k, -, hk, hx⟩ := in1_t (a := 0) (b := 3) (by decide) (by decide) c
      have hix : ix x = k := by rw [hx]; exact ix_nI (by omega)
      obtain ⟨l, -, hl, hy⟩ := in1_t (a := 0) (b := 3) (by decide) (by decide) c2
      have hiy : ix y = l := by rw [hy]; exact ix_nI (by omega)
      have hk4 : k < 4 := by omega
      have hl4 : l < 4 := by omega
      obtain ⟨z1, hz1, hzk⟩ := hW.2.2.2.1 k hk4
      obtain ⟨z2, hz2, hzl⟩ := hW.2.2.2.1 l hl4
      have hzk : gZ S k = nI z1 := hzk
      have hzl : gZ S l = nI z2 := hzl
      have ec : cpOk S x a y b t = ((!decide (a < 0) && (!decide (t < 0) && !decide (nI z1 - t < a))) && (!decide (b < 0) && (!decide (t < 0) && !decide (nI z2 - t < b)))) := by
        unfold cpOk
        rw [hix, hiy, hzk, hzl]
        generalize decide (t < 0) = p1
        generalize decide (a < 0) = p2
        generalize decide (b < 0) = p3
        generalize decide (nI z1 - t < a) = p4
        generalize decide (nI z2 - t < b) = p5
        cases p1 <;> cases p2 <;> cases p3 <;> cases p4 <;> cases p5 <;> rfl
      rw [hix, hiy] at hQ
      have miss : (gW S k = 0 ∨ gW S l = 0) → AW Sc mX11_copy 53 [(0, .ref 0)] [] K0 μ n Q := by
        intro e
        rw [if_pos e] at hQ
        refine aw_aload_n rfl dX11_copy_53 ?_
        refine aw_ldc (v := (-1000000006)) w_799 dX11_copy_54 ?_
        refine aw_v1 kX11_52 ⟨ble rfl, ble rfl⟩ (rcX) (ble rfl) dX11_copy_56 (e_finding (k := 5) h hW (by decide) (by decide) (fun μ' h' => ?_))
        refine aw_iret dX11_copy_59 rfl ?_
        exact hQ μ' h'
      refine aw_aload_n rfl dX11_copy_21 ?_
      refine aw_getR gX11_38_11 kX rfl (hX.sheets) dX11_copy_22 ?_
      refine aw_iload_n rfl dX11_copy_25 ?_
      refine aw_aaloadN kShs (fun _ => rfl) hx hk4 (by decide) (hX.2.2.2.1 k hk4) dX11_copy_26 ?_
      refine aw_astore (ble rfl) dX11_copy_27 ?_
      refine aw_aload_n rfl dX11_copy_29 ?_
      refine aw_getR gX11_38_11 kX rfl (hX.sheets) dX11_copy_30 ?_
      refine aw_iload_n rfl dX11_copy_33 ?_
      refine aw_aaloadN kShs (fun _ => rfl) hy hl4 (by decide) (hX.2.2.2.1 l hl4) dX11_copy_34 ?_
      refine aw_astore (ble rfl) dX11_copy_35 ?_
      refine aw_aload rfl dX11_copy_37 ?_
      refine aw_v0 kX11_224 ⟨ble rfl, ble rfl⟩ (rcSh hk4) (ble rfl) dX11_copy_39 (c_isMissing hk4 ?_)
      rw [h.hw hk4]
      refine aw_zne 53 rfl dX11_copy_42 (fun c3 => ?_) (fun c3 => ?_)
      · refine aw_keep [0] ?_
        exact miss (Or.inl (of_decide_eq_true c3))
      · have c3 := of_decide_eq_false c3
        refine aw_aload rfl dX11_copy_45 ?_
        refine aw_v0 kX11_224 ⟨ble rfl, ble rfl⟩ (rcSh hl4) (ble rfl) dX11_copy_47 (c_isMissing hl4 ?_)
        rw [h.hw hl4]
        refine aw_zeq 60 rfl dX11_copy_50 (fun c4 => ?_) (fun c4 => ?_)
        · have c4 := of_decide_eq_false c4
          rw [if_neg (fun q => q.elim c3 c4)] at hQ
          refine aw_aload rfl dX11_copy_60 ?_
          refine aw_getI gX11_236_6 (kSh hk4) rfl dX11_copy_62 ?_
          refine aw_aload rfl dX11_copy_65 ?_
          refine aw_getI gX11_236_6 (kSh hl4) rfl dX11_copy_67 ?_
          rw [h.hw hk4, h.hw hl4]
          refine aw_icmp_eq 80 rfl dX11_copy_70 (fun c5 => ?_) (fun c5 => ?_)
          · rw [if_pos c5] at hQ
            have no : cpOk S x a y b t = false → AW Sc mX11_copy 103 [(0, .ref 0)] [] K0 μ n Q := by
              intro e
              rw [e, if_neg (by decide)] at hQ
              refine aw_aload_n rfl dX11_copy_103 ?_
              refine aw_ldc (v := (-1000000001)) w_316 dX11_copy_104 ?_
              refine aw_v1 kX11_52 ⟨ble rfl, ble rfl⟩ (rcX) (ble rfl) dX11_copy_106 (e_finding (k := 0) h hW (by decide) (by decide) (fun μ' h' => ?_))
              refine aw_iret dX11_copy_109 rfl ?_
              exact hQ μ' h'
            refine aw_aload rfl dX11_copy_80 ?_
            refine aw_iload_n rfl dX11_copy_82 ?_
            refine aw_iload rfl dX11_copy_83 ?_
            refine aw_v2 kX11_239 ⟨ble rfl, ble rfl⟩ (rcSh hk4) (ble rfl) dX11_copy_85 (c_holds hk4 ((h.hz hk4).trans hzk) hz1 ?_)
            refine aw_zeq 103 rfl dX11_copy_88 (fun c6 => ?_) (fun c6 => ?_)
            · refine aw_keep [0] ?_
              exact no (by rw [ec, c6]; rfl)
            · refine aw_aload rfl dX11_copy_91 ?_
              refine aw_iload rfl dX11_copy_93 ?_
              refine aw_iload rfl dX11_copy_95 ?_
              refine aw_v2 kX11_239 ⟨ble rfl, ble rfl⟩ (rcSh hl4) (ble rfl) dX11_copy_97 (c_holds hl4 ((h.hz hl4).trans hzl) hz2 ?_)
              refine aw_zne 110 rfl dX11_copy_100 (fun c7 => ?_) (fun c7 => ?_)
              · rw [ec, c6, c7, if_pos (by decide)] at hQ
                simp only [Bool.and_eq_true, Bool.not_eq_true', decide_eq_false_iff_not] at c6 c7
                obtain ⟨e2, e1, e4⟩ := c6
                obtain ⟨e3, -, e5⟩ := c7
                obtain ⟨ak, hak, rfl⟩ := nI_of e2
                obtain ⟨bk, hbk, rfl⟩ := nI_of e3
                obtain ⟨tk, rfl, ht1⟩ := sub_nn rfl hz1 e1 e4 hak
                obtain ⟨tk2, htt, ht2⟩ := sub_nn rfl hz2 e1 e5 hbk
                have htk : tk < 2 ^ 31 := by omega
                have : tk = tk2 := by
                  have q := congrArg Int32.toNatClampNeg htt
                  rwa [nI_clamp htk, nI_clamp (by omega)] at q
                subst this
                rw [ix_nI hak, ix_nI hbk, ix_nI htk] at hQ
                refine aw_aload rfl dX11_copy_110 ?_
                refine aw_getR gX11_228_6 (kSh hk4) rfl (hX.2.2.2.2 k hk4) dX11_copy_112 ?_
                refine aw_iload_n rfl dX11_copy_115 ?_
                refine aw_aload rfl dX11_copy_116 ?_
                refine aw_getR gX11_228_6 (kSh hl4) rfl (hX.2.2.2.2 l hl4) dX11_copy_118 ?_
                refine aw_iload rfl dX11_copy_121 ?_
                refine aw_iload rfl dX11_copy_123 ?_
                refine aw_copyJ kX11_242 (kNu hk4) (kNu hl4) e2 e3 e1 (by rw [nI_clamp hak, nI_clamp htk]; omega) (by rw [nI_clamp hbk, nI_clamp htk]; omega) (ble rfl) ⟨ble rfl, ble rfl⟩ dX11_copy_125 ?_
                rw [nI_clamp hak, nI_clamp hbk, nI_clamp htk]
                refine aw_iload rfl dX11_copy_128 ?_
                refine aw_iret dX11_copy_130 rfl ?_
                refine hQ _ (h.cel hl4 (fun j hj => ?_) (fun k2 hk2 hne j hj => ?_))
                · unfold va_cpy
                  by_cases e : bk ≤ j ∧ j < bk + tk
                  · rw [if_pos e, if_pos (by omega), h.hc hk4 (by omega)]
                    congr 1
                    omega
                  · rw [if_neg e, if_neg (by omega)]
                    exact h.hc hl4 hj
                · unfold va_cpy
                  rw [if_neg (by omega)]
              · refine aw_keep [0] ?_
                exact no (by rw [ec, c7, Bool.and_false])
          · rw [if_neg c5] at hQ
            refine aw_aload_n rfl dX11_copy_73 ?_
            refine aw_ldc (v := (-1000000003)) w_502 dX11_copy_74 ?_
            refine aw_v1 kX11_52 ⟨ble rfl, ble rfl⟩ (rcX) (ble rfl) dX11_copy_76 (e_finding (k := 2) h hW (by decide) (by decide) (fun μ' h' => ?_))
            refine aw_iret dX11_copy_79 rfl ?_
            exact hQ μ' h'
        · refine aw_keep [0] ?_
          exact miss (Or.inr (of_decide_eq_true c4))
    · exact bad (by rw [c2, Bool.and_false])
theorem e_lays {x : Int32} (h : CI μ0 μ S) (hW : WF S) (hQ : ∀ μ', CI μ0 μ' (sp_lays x S).2 → Q (some (.int (sp_lays x S).1)) K0 μ') : AM Sc mX11_lays [.ref 0, .int x] K0 μ n Q := by
  refine AM.of rfl (ble rfl) ?_
  have hX := h.hX
  obtain ⟨h4, hm, -⟩ := hW.1
  unfold sp_lays at hQ
  refine aw_iload_n rfl dX11_lays_0 ?_
  refine aw_s1 kX11_216 ⟨ble rfl, ble rfl⟩ (ble rfl) dX11_lays_1 (c_isSheet ?_)
  refine aw_zne 14 rfl dX11_lays_4 (fun c => ?_) (fun c => ?_)
  · obtain ⟨k, -, hk, hx⟩ := in1_t (a := 0) (b := 3) (by decide) (by decide) c
    have hk4 : k < 4 := by omega
    have hix : ix x = k := by rw [hx]; exact ix_nI (by omega)
    have ew : wrS S x = if gW S k = 0 then some 5 else none := by
      unfold wrS
      rw [c, if_pos rfl, hix]
    refine aw_aload_n rfl dX11_lays_14 ?_
    refine aw_getR gX11_38_11 kX rfl (hX.sheets) dX11_lays_15 ?_
    refine aw_iload_n rfl dX11_lays_18 ?_
    refine aw_aaloadN kShs (fun _ => rfl) hx hk4 (by decide) (hX.2.2.2.1 k hk4) dX11_lays_19 ?_
    refine aw_astore_n (ble rfl) dX11_lays_20 ?_
    refine aw_aload_n rfl dX11_lays_21 ?_
    refine aw_v0 kX11_224 ⟨ble rfl, ble rfl⟩ (rcSh hk4) (ble rfl) dX11_lays_22 (c_isMissing hk4 ?_)
    rw [h.hw hk4]
    refine aw_zeq 35 rfl dX11_lays_25 (fun c2 => ?_) (fun c2 => ?_)
    · have c2 := of_decide_eq_false c2
      rw [ew, if_neg c2] at hQ
      simp only [ansW] at hQ
      obtain ⟨z, hz, hzk⟩ := hW.2.2.2.1 k hk4
      have hzk : gZ S k = nI z := hzk
      have hrow : ∀ j, rowC S x j = gC S (40 * k + j) := by intro j; unfold rowC; rw [hix]
      rw [hix, hzk, ix_nI (by omega)] at hQ
      generalize rowC S x = C at hQ hrow
      have loop : ∀ j i (ν : Mem), i + j = min z (mny S.1) → CI μ0 ν (wS S (layS S.1 C i).1) → AW Sc mX11_lays 40 [(0, .ref 0), (1, .int x), (2, .ref (63 + 2 * k)), (3, .int (nI (layS S.1 C i).2)), (4, .int (nI i))] [] K0 ν n Q := by
        intro j
        induction j with
        | zero =>
          intro i ν hi h'
          have hX := h'.hX
          have hi : i = min z (mny S.1) := by omega
          have fin : AW Sc mX11_lays 111 [(0, .ref 0), (1, .int x), (2, .ref (63 + 2 * k)), (3, .int (nI (layS S.1 C i).2)), (4, .int (nI i))] [] K0 ν n Q := by
            refine aw_iload_n rfl dX11_lays_111 ?_
            refine aw_iret dX11_lays_112 rfl ?_
            subst hi
            exact hQ _ h'
          refine aw_iload rfl dX11_lays_40 ?_
          refine aw_aload_n rfl dX11_lays_42 ?_
          refine aw_getI gX11_223_6 (kSh hk4) rfl dX11_lays_43 ?_
          rw [(h'.hz hk4).trans hzk]
          by_cases hc : z ≤ i
          · refine aw_icmp_ge 111 rfl dX11_lays_46 (fun _ => ?_) (fun c_ => absurd (nI_le hc (by omega)) c_)
            exact fin
          · refine aw_icmp_ge 111 rfl dX11_lays_46 (fun c_ => absurd c_ (nI_ge (by omega) (by omega))) (fun _ => ?_)
            refine aw_iload rfl dX11_lays_49 ?_
            refine aw_aload_n rfl dX11_lays_51 ?_
            refine aw_getR gX11_10_11 kX rfl (hX.green) dX11_lays_52 ?_
            refine aw_getI gX11_100_2 kG1 rfl dX11_lays_55 ?_
            rw [h'.ga.2.1.2.2.2.2.trans ((layS_4 _ _ _).trans h4)]
            refine aw_icmp_ge 111 rfl dX11_lays_58 (fun _ => ?_) (fun c_ => absurd (nI_le (by omega) (by omega)) c_)
            exact fin
        | succ j ih =>
          intro i ν hi h'
          have hX := h'.hX
          refine aw_iload rfl dX11_lays_40 ?_
          refine aw_aload_n rfl dX11_lays_42 ?_
          refine aw_getI gX11_223_6 (kSh hk4) rfl dX11_lays_43 ?_
          rw [(h'.hz hk4).trans hzk]
          refine aw_icmp_ge 111 rfl dX11_lays_46 (fun c_ => absurd c_ (nI_ge (by omega) (by omega))) (fun _ => ?_)
          refine aw_iload rfl dX11_lays_49 ?_
          refine aw_aload_n rfl dX11_lays_51 ?_
          refine aw_getR gX11_10_11 kX rfl (hX.green) dX11_lays_52 ?_
          refine aw_getI gX11_100_2 kG1 rfl dX11_lays_55 ?_
          rw [h'.ga.2.1.2.2.2.2.trans ((layS_4 _ _ _).trans h4)]
          refine aw_icmp_ge 111 rfl dX11_lays_58 (fun c_ => absurd c_ (nI_ge (by omega) (by omega))) (fun _ => ?_)
          have ih' := fun ν => ih (i + 1) ν (by omega)
          rw [layS] at ih'
          have e : ν.2.1 (64 + 2 * k) i = C i := (h'.hc hk4 (by omega)).trans (hrow i).symm
          refine aw_aload_n rfl dX11_lays_61 ?_
          refine aw_getR gX11_228_6 (kSh hk4) rfl (hX.2.2.2.2 k hk4) dX11_lays_62 ?_
          refine aw_iload rfl dX11_lays_65 ?_
          refine aw_laloadN (kNu hk4) rfl (by omega) (by decide) dX11_lays_67 ?_
          refine aw_lstore (ble rfl) dX11_lays_68 ?_
          rw [e]
          have skip : ¬ (1 ≤ C i ∧ C i ≤ 20) → AW Sc mX11_lays 105 [(0, .ref 0), (1, .int x), (2, .ref (63 + 2 * k)), (3, .int (nI (layS S.1 C i).2)), (4, .int (nI i)), (5, .long (C i))] [] K0 ν n Q := by
            intro hc
            rw [if_neg hc] at ih'
            refine aw_iinc rfl (v := 1) (by decide) (ble rfl) dX11_lays_105 ?_
            refine aw_goto 40 rfl dX11_lays_108 ?_
            rw [nI_1]
            refine aw_keep [0, 1, 2, 3, 4] ?_
            exact ih' ν h'
          refine aw_lload rfl dX11_lays_70 ?_
          refine aw_lconst (v := 1) (by decide) dX11_lays_72 ?_
          refine aw_lcmp dX11_lays_73 ?_
          refine aw_if_lt 105 rfl dX11_lays_74 (fun c3 => ?_) (fun c3 => ?_)
          · exact skip (fun q => absurd ((lg_cmp_lt _ _).mp c3) (Int64.not_lt.mpr q.1))
          · have c3 : (1 : Int64) ≤ C i := Int64.not_lt.mp (fun q => c3 ((lg_cmp_lt _ _).mpr q))
            refine aw_lload rfl dX11_lays_77 ?_
            refine aw_ldc2 (v := 20) w_819 dX11_lays_79 ?_
            refine aw_lcmp dX11_lays_82 ?_
            refine aw_if_gt 105 rfl dX11_lays_83 (fun c4 => ?_) (fun c4 => ?_)
            · exact skip (fun q => absurd ((lg_cmp_gt _ _).mp c4) (Int64.not_lt.mpr q.2))
            · have c4 : C i ≤ (20 : Int64) := Int64.not_lt.mp (fun q => c4 ((lg_cmp_gt _ _).mpr q))
              rw [if_pos ⟨c3, c4⟩] at ih'
              have hga := h'.ga
              refine aw_aload_n rfl dX11_lays_86 ?_
              refine aw_getR gX11_10_11 kX rfl (hX.green) dX11_lays_87 ?_
              refine aw_getR gX11_110_2 kG1 rfl (hga.1.2.1) dX11_lays_90 ?_
              refine aw_iload rfl dX11_lays_93 ?_
              refine aw_aaloadN (kGp g1) (fun _ => rfl) rfl (by omega) (by decide) (hga.pe (by omega)) dX11_lays_95 ?_
              refine aw_lload rfl dX11_lays_96 ?_
              refine aw_l2i dX11_lays_98 ?_
              refine aw_putI (pX11_134_4 _) (kP g1 (i := i) (by omega)) rfl rfl rfl dX11_lays_99 ?_
              have hWl : WF (wS S (layS S.1 C i).1) := WF_row hW (WFs_lay hW.1 i)
              have h2 := h'.gr hWl (frSlot (g := 1) (k := i) (c := 4) (v := (C i).toInt32) (by omega)) (hga.slot (c := 4) (k := i) (by rw [show mny (wS S (layS S.1 C i).1).1 = mny S.1 from mny_lay i]; omega) (by omega))
              refine aw_iinc rfl (v := 1) (by decide) (ble rfl) dX11_lays_102 ?_
              refine aw_iinc rfl (v := 1) (by decide) (ble rfl) dX11_lays_105 ?_
              refine aw_goto 40 rfl dX11_lays_108 ?_
              rw [nI_1, nI_1]
              refine aw_keep [0, 1, 2, 3, 4] ?_
              exact ih' _ h2
      refine aw_iconst (v := 0) (by decide) dX11_lays_35 ?_
      refine aw_istore_n (ble rfl) dX11_lays_36 ?_
      refine aw_iconst (v := 0) (by decide) dX11_lays_37 ?_
      refine aw_istore (ble rfl) dX11_lays_38 ?_
      exact loop (min z (mny S.1)) 0 μ (by omega) h
    · have c2 := of_decide_eq_true c2
      rw [ew, if_pos c2] at hQ
      simp only [ansW] at hQ
      refine aw_aload_n rfl dX11_lays_28 ?_
      refine aw_ldc (v := (-1000000006)) w_799 dX11_lays_29 ?_
      refine aw_v1 kX11_52 ⟨ble rfl, ble rfl⟩ (rcX) (ble rfl) dX11_lays_31 (e_finding (k := 5) h hW (by decide) (by decide) (fun μ' h' => ?_))
      refine aw_iret dX11_lays_34 rfl ?_
      exact hQ μ' h'
  · have ew : wrS S x = some 0 := by
      unfold wrS
      rw [c, if_neg (by decide)]
    rw [ew] at hQ
    simp only [ansW] at hQ
    refine aw_aload_n rfl dX11_lays_7 ?_
    refine aw_ldc (v := (-1000000001)) w_316 dX11_lays_8 ?_
    refine aw_v1 kX11_52 ⟨ble rfl, ble rfl⟩ (rcX) (ble rfl) dX11_lays_10 (e_finding (k := 0) h hW (by decide) (by decide) (fun μ' h' => ?_))
    refine aw_iret dX11_lays_13 rfl ?_
    exact hQ μ' h'
end Cls21
