/-! THE CLASS, 22: book, read -/
section Cls22
variable {Sc : SCR} {μ μ0 : Mem} {n : Nat × Nat} {Q : PQ} {S : SG}
theorem e_book {x : Int32} (h : CI μ0 μ S) (hW : WF S) (hQ : ∀ μ', CI μ0 μ' (sp_book x S).2 → Q (some (.int (sp_book x S).1)) K0 μ') : AM Sc mX11_book [.ref 0, .int x] K0 μ n Q := by
  refine AM.of rfl (ble rfl) ?_
  have hX := h.hX
  obtain ⟨h4, hm, -⟩ := hW.1
  unfold sp_book at hQ
  refine aw_iload_n rfl dX11_book_0 ?_
  refine aw_s1 kX11_216 ⟨ble rfl, ble rfl⟩ (ble rfl) dX11_book_1 (c_isSheet ?_)
  refine aw_zne 14 rfl dX11_book_4 (fun c => ?_) (fun c => ?_)
  · obtain ⟨k, -, hk, hx⟩ := in1_t (a := 0) (b := 3) (by decide) (by decide) c
    have hk4 : k < 4 := by omega
    have hix : ix x = k := by rw [hx]; exact ix_nI (by omega)
    have ew : wrS S x = if gW S k = 0 then some 5 else none := by
      unfold wrS
      rw [c, if_pos rfl, hix]
    refine aw_aload_n rfl dX11_book_14 ?_
    refine aw_getR gX11_38_11 kX rfl (hX.sheets) dX11_book_15 ?_
    refine aw_iload_n rfl dX11_book_18 ?_
    refine aw_aaloadN kShs (fun _ => rfl) hx hk4 (by decide) (hX.2.2.2.1 k hk4) dX11_book_19 ?_
    refine aw_astore_n (ble rfl) dX11_book_20 ?_
    refine aw_aload_n rfl dX11_book_21 ?_
    refine aw_v0 kX11_224 ⟨ble rfl, ble rfl⟩ (rcSh hk4) (ble rfl) dX11_book_22 (c_isMissing hk4 ?_)
    rw [h.hw hk4]
    refine aw_zeq 35 rfl dX11_book_25 (fun c2 => ?_) (fun c2 => ?_)
    · have c2 := of_decide_eq_false c2
      rw [ew, if_neg c2] at hQ
      simp only [ansW] at hQ
      obtain ⟨z, hz, hzk⟩ := hW.2.2.2.1 k hk4
      have hzk : gZ S k = nI z := hzk
      rw [hix, hzk, ix_nI (by omega)] at hQ
      have loop : ∀ j i (ν : Mem), i + j = z → CI μ0 ν (sC S (booC S (40 * k) (gW S k) i)) → GA ν 20 (goesN (mny S.1) i S.1) → AW Sc mX11_book 48 [(0, .ref 0), (1, .int x), (2, .ref (63 + 2 * k)), (3, .int (nI i))] [] K0 ν n Q := by
        intro j
        induction j with
        | zero =>
          intro i ν hi h' ht
          refine aw_iload_n rfl dX11_book_48 ?_
          refine aw_aload_n rfl dX11_book_49 ?_
          refine aw_getI gX11_223_6 (kSh hk4) rfl dX11_book_50 ?_
          rw [(h'.hz hk4).trans hzk]
          refine aw_icmp_ge 82 rfl dX11_book_53 (fun _ => ?_) (fun c_ => absurd (nI_le (by omega) (by omega)) c_)
          refine aw_aload_n rfl dX11_book_82 ?_
          refine aw_getI gX11_223_6 (kSh hk4) rfl dX11_book_83 ?_
          refine aw_iret dX11_book_86 rfl ?_
          rw [(h'.hz hk4).trans hzk]
          obtain rfl : i = z := by omega
          exact hQ _ h'
        | succ j ih =>
          intro i ν hi h' ht
          have hX := h'.hX
          refine aw_iload_n rfl dX11_book_48 ?_
          refine aw_aload_n rfl dX11_book_49 ?_
          refine aw_getI gX11_223_6 (kSh hk4) rfl dX11_book_50 ?_
          rw [(h'.hz hk4).trans hzk]
          refine aw_icmp_ge 82 rfl dX11_book_53 (fun c_ => absurd c_ (nI_ge (by omega) (by omega))) (fun _ => ?_)
          refine aw_aload_n rfl dX11_book_56 ?_
          refine aw_iload_n rfl dX11_book_57 ?_
          refine aw_aload_n rfl dX11_book_58 ?_
          refine aw_getR gX11_16_11 kX rfl (hX.trial) dX11_book_59 ?_
          refine aw_getI gX11_63_2 (kG g20) rfl dX11_book_62 ?_
          refine aw_i2l dX11_book_65 ?_
          rw [ht.2.1.2.2.1]
          refine aw_v2 kX11_232 ⟨ble rfl, ble rfl⟩ (rcSh hk4) (ble rfl) dX11_book_66 (c_put (k := i) hk4 (hX.2.2.2.2 k hk4) ((h'.hz hk4).trans hzk) hz rfl (by omega) ?_)
          rw [show ν.1 (63 + 2 * k) 0 = gW S k from h'.hw hk4]
          have h2 := h'.cel1 (v := nar (gW S k) (goesN (mny S.1) i S.1 1).toInt64) hk4 (show i < 40 by omega)
          have ht2 : GA (pJ ν (64 + 2 * k) i (nar (gW S k) (goesN (mny S.1) i S.1 1).toInt64)) 20 (goesN (mny S.1) i S.1) := ht
          generalize pJ ν (64 + 2 * k) i (nar (gW S k) (goesN (mny S.1) i S.1 1).toInt64) = ν2 at h2 ht2 ⊢
          have hX := h2.hX
          refine aw_aload_n rfl dX11_book_69 ?_
          refine aw_getR gX11_16_11 kX rfl (hX.trial) dX11_book_70 ?_
          refine aw_v0 kX11_177 ⟨ble rfl, ble rfl⟩ (rcG g20) (ble rfl) dX11_book_73 (c_goDay g20 ht2 (WFs_goes i hW.1) (fun μ3 F3 h3 => ?_))
          have i3 := CI.tr (S := sC (sC S (booC S (40 * k) (gW S k) i)) (vp_updL (gC (sC S (booC S (40 * k) (gW S k) i))) (40 * k + i) (nar (gW S k) (goesN (mny S.1) i S.1 1).toInt64))) hW h2 F3
          rw [mny_goes, ← goesN_succ] at h3
          refine aw_iinc rfl (v := 1) (by decide) (ble rfl) dX11_book_76 ?_
          refine aw_goto 48 rfl dX11_book_79 ?_
          rw [nI_1]
          exact ih (i + 1) μ3 (by omega) i3 h3
      refine aw_aload_n rfl dX11_book_35 ?_
      refine aw_getR gX11_16_11 kX rfl (hX.trial) dX11_book_36 ?_
      refine aw_aload_n rfl dX11_book_39 ?_
      refine aw_getR gX11_10_11 kX rfl (hX.green) dX11_book_40 ?_
      refine aw_v1 kX11_170 ⟨ble rfl, ble rfl⟩ (rcG g20) (ble rfl) dX11_book_43 (c_become g20 g1 (by decide) hX.2.1.2.1 h.ga hW.1 (fun μ1 F1 h1 => ?_))
      refine aw_iconst (v := 0) (by decide) dX11_book_46 ?_
      refine aw_istore_n (ble rfl) dX11_book_47 ?_
      exact loop z 0 μ1 (by omega) (h.tr hW F1) h1
    · have c2 := of_decide_eq_true c2
      rw [ew, if_pos c2] at hQ
      simp only [ansW] at hQ
      refine aw_aload_n rfl dX11_book_28 ?_
      refine aw_ldc (v := (-1000000006)) w_799 dX11_book_29 ?_
      refine aw_v1 kX11_52 ⟨ble rfl, ble rfl⟩ (rcX) (ble rfl) dX11_book_31 (e_finding (k := 5) h hW (by decide) (by decide) (fun μ' h' => ?_))
      refine aw_iret dX11_book_34 rfl ?_
      exact hQ μ' h'
  · have ew : wrS S x = some 0 := by
      unfold wrS
      rw [c, if_neg (by decide)]
    rw [ew] at hQ
    simp only [ansW] at hQ
    refine aw_aload_n rfl dX11_book_7 ?_
    refine aw_ldc (v := (-1000000001)) w_316 dX11_book_8 ?_
    refine aw_v1 kX11_52 ⟨ble rfl, ble rfl⟩ (rcX) (ble rfl) dX11_book_10 (e_finding (k := 0) h hW (by decide) (by decide) (fun μ' h' => ?_))
    refine aw_iret dX11_book_13 rfl ?_
    exact hQ μ' h'
theorem e_read {x y : Int32} (h : CI μ0 μ S) (hW : WF S) (hQ : ∀ μ', CI μ0 μ' (sp_read x y S).2 → Q (some (.int (sp_read x y S).1)) K0 μ') : AM Sc mX11_read [.ref 0, .int x, .int y] K0 μ n Q := by
  refine AM.of rfl (ble rfl) ?_
  have hX := h.hX
  obtain ⟨h4, hm, -⟩ := hW.1
  unfold sp_read at hQ
  refine aw_iload_n rfl dX11_read_0 ?_
  refine aw_s1 kX11_216 ⟨ble rfl, ble rfl⟩ (ble rfl) dX11_read_1 (c_isSheet ?_)
  refine aw_zne 14 rfl dX11_read_4 (fun c => ?_) (fun c => ?_)
  · obtain ⟨k, -, hk, hx⟩ := in1_t (a := 0) (b := 3) (by decide) (by decide) c
    have hk4 : k < 4 := by omega
    have hix : ix x = k := by rw [hx]; exact ix_nI (by omega)
    have ew : wrS S x = if gW S k = 0 then some 5 else none := by
      unfold wrS
      rw [c, if_pos rfl, hix]
    refine aw_aload_n rfl dX11_read_14 ?_
    refine aw_getR gX11_38_11 kX rfl (hX.sheets) dX11_read_15 ?_
    refine aw_iload_n rfl dX11_read_18 ?_
    refine aw_aaloadN kShs (fun _ => rfl) hx hk4 (by decide) (hX.2.2.2.1 k hk4) dX11_read_19 ?_
    refine aw_astore_n (ble rfl) dX11_read_20 ?_
    refine aw_aload_n rfl dX11_read_21 ?_
    refine aw_v0 kX11_224 ⟨ble rfl, ble rfl⟩ (rcSh hk4) (ble rfl) dX11_read_22 (c_isMissing hk4 ?_)
    rw [h.hw hk4]
    refine aw_zeq 35 rfl dX11_read_25 (fun c2 => ?_) (fun c2 => ?_)
    · have c2 := of_decide_eq_false c2
      rw [ew, if_neg c2] at hQ
      simp only [ansW] at hQ
      obtain ⟨z, hz, hzk⟩ := hW.2.2.2.1 k hk4
      have hzk : gZ S k = nI z := hzk
      refine aw_aload_n rfl dX11_read_35 ?_
      refine aw_getR gX11_10_11 kX rfl (hX.green) dX11_read_36 ?_
      refine aw_iload_n rfl dX11_read_39 ?_
      refine aw_v1 kX11_107 ⟨ble rfl, ble rfl⟩ (rcG g1) (ble rfl) dX11_read_40 (c_has g1 h.ga hW.1 ?_)
      refine aw_zne 53 rfl dX11_read_43 (fun c3 => ?_) (fun c3 => ?_)
      · rw [if_pos (show isP S y = true from c3)] at hQ
        obtain ⟨q, hq, hyq, hiy⟩ := per_t h4 hm c3
        rw [hiy] at hQ
        have hP : ∀ kk g, rdP S x q kk g = soF (fun j => gC S (40 * k + j)) (mny S.1) z 0 (upd (upd S.1 (5 + 5 * q) (nI kk)) (5 + 5 * q + 4) (nI g)) := by
          intro kk g
          unfold rdP rowC
          rw [hix, hzk, ix_nI (by omega)]
        generalize rdP S x q = P at hQ hP
        have inner : ∀ kk, kk < 6 → (∀ ν, CI μ0 ν S → AW Sc mX11_read 59 [(0, .ref 0), (1, .int x), (2, .int y), (3, .ref (63 + 2 * k)), (4, .int (nI (cKnd P (kk + 1)))), (5, .int (nI (kk + 1)))] [] K0 ν n Q) → ∀ j g (ν : Mem), g + j = 20 → CI μ0 ν S → AW Sc mX11_read 69 [(0, .ref 0), (1, .int x), (2, .int y), (3, .ref (63 + 2 * k)), (4, .int (nI (cKnd P kk + cStr (P kk) g))), (5, .int (nI kk)), (6, .int (nI (g + 1)))] [] K0 ν n Q := by
          intro kk hkk hout j
          induction j with
          | zero =>
            intro g ν hg h'
            obtain rfl : g = 20 := by omega
            refine aw_iload rfl dX11_read_69 ?_
            refine aw_bipush (v := 20) (by decide) dX11_read_71 ?_
            refine aw_icmp_gt 143 rfl dX11_read_73 (fun _ => ?_) (fun c_ => absurd ((by decide)) c_)
            refine aw_iinc rfl (v := 1) (by decide) (ble rfl) dX11_read_143 ?_
            refine aw_goto 59 rfl dX11_read_146 ?_
            rw [nI_1]
            refine aw_keep [0, 1, 2, 3, 4, 5] ?_
            exact hout ν h'
          | succ j ih =>
            intro g ν hg h'
            have hX := h'.hX
            refine aw_iload rfl dX11_read_69 ?_
            refine aw_bipush (v := 20) (by decide) dX11_read_71 ?_
            refine aw_icmp_gt 143 rfl dX11_read_73 (fun c_ => absurd c_ (nI_nlt (b := g + 1) (a := 20) (by omega) (by omega))) (fun _ => ?_)
            refine aw_aload_n rfl dX11_read_76 ?_
            refine aw_getR gX11_16_11 kX rfl (hX.trial) dX11_read_77 ?_
            refine aw_aload_n rfl dX11_read_80 ?_
            refine aw_getR gX11_10_11 kX rfl (hX.green) dX11_read_81 ?_
            refine aw_v1 kX11_170 ⟨ble rfl, ble rfl⟩ (rcG g20) (ble rfl) dX11_read_84 (c_become g20 g1 (by decide) hX.2.1.2.1 h'.ga hW.1 (fun μ1 F1 h1 => ?_))
            have i1 := h'.tr hW F1
            have hX := i1.hX
            refine aw_aload_n rfl dX11_read_87 ?_
            refine aw_getR gX11_16_11 kX rfl (hX.trial) dX11_read_88 ?_
            refine aw_getR gX11_110_2 (kG g20) rfl (h1.1.2.1) dX11_read_91 ?_
            refine aw_iload_n rfl dX11_read_94 ?_
            refine aw_aaloadN (kGp g20) (fun _ => rfl) hyq (by omega) (by decide) (h1.pe (by omega)) dX11_read_95 ?_
            refine aw_aload_n rfl dX11_read_96 ?_
            refine aw_getR gX11_16_11 kX rfl (hX.trial) dX11_read_97 ?_
            refine aw_getR gX11_149_2 (kG g20) rfl (h1.1.1) dX11_read_100 ?_
            refine aw_iload rfl dX11_read_103 ?_
            refine aw_aaloadN (kGk g20) (fun _ => rfl) rfl hkk (by decide) (h1.1.2.2.1 kk hkk) dX11_read_105 ?_
            refine aw_putR (pX11_114_4 _) (kP g20 (i := q) (by omega)) rfl (fun _ => rfl) (fun _ => rfl) dX11_read_106 ?_
            have h2 := h1.kd (j := 20) (c := kk) (k := q) g20 hkk (by omega)
            have F2 : Fr 20 μ1 (pR μ1 (20 + 9 + q) 0 (some (20 + 3 + kk))) := Fr.kd ⟨by omega, by omega⟩
            generalize pR μ1 (20 + 9 + q) 0 (some (20 + 3 + kk)) = μ2 at h2 F2 ⊢
            have i2 := i1.tr hW F2
            have hX := i2.hX
            refine aw_aload_n rfl dX11_read_109 ?_
            refine aw_getR gX11_16_11 kX rfl (hX.trial) dX11_read_110 ?_
            refine aw_getR gX11_110_2 (kG g20) rfl (h2.1.2.1) dX11_read_113 ?_
            refine aw_iload_n rfl dX11_read_116 ?_
            refine aw_aaloadN (kGp g20) (fun _ => rfl) hyq (by omega) (by decide) (h2.pe (by omega)) dX11_read_117 ?_
            refine aw_iload rfl dX11_read_118 ?_
            refine aw_putI (pX11_134_4 _) (kP g20 (i := q) (by omega)) rfl rfl rfl dX11_read_120 ?_
            have h3 := h2.slot (c := 4) (v := nI (g + 1)) (k := q) (by rw [mny_upd (by omega)]; exact hq) (by omega)
            have F3 : Fr 20 μ2 (pI μ2 (20 + 9 + q) 4 (nI (g + 1))) := frSlot (by omega)
            generalize pI μ2 (20 + 9 + q) 4 (nI (g + 1)) = μ3 at h3 F3 ⊢
            have i3 := i2.tr hW F3
            have hX := i3.hX
            have hWk := WFs_kd (k := q) hW.1 hkk
            refine aw_aload_n rfl dX11_read_123 ?_
            refine aw_getR gX11_16_11 kX rfl (hX.trial) dX11_read_124 ?_
            refine aw_aload_n rfl dX11_read_127 ?_
            refine aw_v1 kX11_250 ⟨ble rfl, ble rfl⟩ (rcG g20) (ble rfl) dX11_read_128 (c_goesAs (c := fun j => gC S (40 * k + j)) g20 h3 (WFs_p hWk (by decide) (fun hk => WFp_4 (hWk.2.2.2.2 q hk) (by omega) (by omega))) hk4 (hX.2.2.2.2 k hk4) ((i3.hz hk4).trans hzk) hz (fun j hj => i3.hc hk4 hj) (fun μ4 F4 => ?_))
            have i4 := i3.tr hW F4
            rw [mny_upd (by omega), mny_upd (by omega), ← hP]
            have ih' := ih (g + 1) μ4 (by omega) i4
            rw [cStr] at ih'
            refine aw_zeq 137 rfl dX11_read_131 (fun c5 => ?_) (fun c5 => ?_)
            · rw [c5, if_neg (by decide)] at ih'
              refine aw_iinc rfl (v := 1) (by decide) (ble rfl) dX11_read_137 ?_
              refine aw_goto 69 rfl dX11_read_140 ?_
              rw [nI_1]
              exact ih'
            · rw [c5, if_pos rfl] at ih'
              refine aw_iinc rfl (v := 1) (by decide) (ble rfl) dX11_read_134 ?_
              refine aw_iinc rfl (v := 1) (by decide) (ble rfl) dX11_read_137 ?_
              refine aw_goto 69 rfl dX11_read_140 ?_
              rw [nI_1, nI_1]
              exact ih'
        have outer : ∀ j kk (ν : Mem), kk + j = 6 → CI μ0 ν S → AW Sc mX11_read 59 [(0, .ref 0), (1, .int x), (2, .int y), (3, .ref (63 + 2 * k)), (4, .int (nI (cKnd P kk))), (5, .int (nI kk))] [] K0 ν n Q := by
          intro j
          induction j with
          | zero =>
            intro kk ν hj h'
            obtain rfl : kk = 6 := by omega
            refine aw_iload rfl dX11_read_59 ?_
            refine aw_bipush (v := 6) (by decide) dX11_read_61 ?_
            refine aw_icmp_ge 149 rfl dX11_read_63 (fun _ => ?_) (fun c_ => absurd ((by decide)) c_)
            refine aw_iload rfl dX11_read_149 ?_
            refine aw_iret dX11_read_151 rfl ?_
            exact hQ _ h'
          | succ j ih =>
            intro kk ν hj h'
            refine aw_iload rfl dX11_read_59 ?_
            refine aw_bipush (v := 6) (by decide) dX11_read_61 ?_
            refine aw_icmp_ge 149 rfl dX11_read_63 (fun c_ => absurd c_ (nI_ge (b := 6) (by omega) (by omega))) (fun _ => ?_)
            refine aw_iconst (v := 1) (by decide) dX11_read_66 ?_
            refine aw_istore (ble rfl) dX11_read_67 ?_
            exact inner kk (by omega) (fun ν h6 => ih (kk + 1) ν (by omega) h6) 20 0 ν (by omega) h'
        refine aw_iconst (v := 0) (by decide) dX11_read_53 ?_
        refine aw_istore (ble rfl) dX11_read_54 ?_
        refine aw_iconst (v := 0) (by decide) dX11_read_56 ?_
        refine aw_istore (ble rfl) dX11_read_57 ?_
        exact outer 6 0 μ (by omega) h
      · rw [if_neg (show ¬ isP S y = true by unfold isP; rw [c3]; decide)] at hQ
        refine aw_aload_n rfl dX11_read_46 ?_
        refine aw_ldc (v := (-1000000001)) w_316 dX11_read_47 ?_
        refine aw_v1 kX11_52 ⟨ble rfl, ble rfl⟩ (rcX) (ble rfl) dX11_read_49 (e_finding (k := 0) h hW (by decide) (by decide) (fun μ' h' => ?_))
        refine aw_iret dX11_read_52 rfl ?_
        exact hQ μ' h'
    · have c2 := of_decide_eq_true c2
      rw [ew, if_pos c2] at hQ
      simp only [ansW] at hQ
      refine aw_aload_n rfl dX11_read_28 ?_
      refine aw_ldc (v := (-1000000006)) w_799 dX11_read_29 ?_
      refine aw_v1 kX11_52 ⟨ble rfl, ble rfl⟩ (rcX) (ble rfl) dX11_read_31 (e_finding (k := 5) h hW (by decide) (by decide) (fun μ' h' => ?_))
      refine aw_iret dX11_read_34 rfl ?_
      exact hQ μ' h'
  · have ew : wrS S x = some 0 := by
      unfold wrS
      rw [c, if_neg (by decide)]
    rw [ew] at hQ
    simp only [ansW] at hQ
    refine aw_aload_n rfl dX11_read_7 ?_
    refine aw_ldc (v := (-1000000001)) w_316 dX11_read_8 ?_
    refine aw_v1 kX11_52 ⟨ble rfl, ble rfl⟩ (rcX) (ble rfl) dX11_read_10 (e_finding (k := 0) h hW (by decide) (by decide) (fun μ' h' => ?_))
    refine aw_iret dX11_read_13 rfl ?_
    exact hQ μ' h'
end Cls22
