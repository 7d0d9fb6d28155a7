/-! THE MODEL'S CALLS, 9: read -/
section Pub9
variable {Sc : SCR} {μ μ0 : Mem} {n : Nat × Nat} {Q : PQ} {S : SG} {s : Nat → Int32}
theorem k_isSo {x : Int32} {k z m : Nat} {t a : Nat → Int32} (h : MJ μ0 μ (wS S t)) (hx : x = nI k) (hk : k < 4) (hz : z ≤ 40) (hzk : gZ S k = nI z) (h4 : t 4 = nI m) (hm : m ≤ 10) (ha : μ.1 74 = a) (hQ : ∀ μ', MJ μ0 μ' (wS S a) → Q (some (.int (bI (soF (fun j => gC S (40 * k + j)) m z 0 t)))) K0 μ') : AM Sc mX12_isSo [.ref 71, .int x] K0 μ n Q := by
  refine AM.of rfl (ble rfl) ?_
  have fin : ∀ (b : Bool) (i : Int32) (ν : Mem) (u : Nat → Int32), MJ μ0 ν (wS S u) → ν.1 74 = a → (soF (fun j => gC S (40 * k + j)) m z 0 t) = b → AW Sc mX12_isSo 52 [(0, .ref 71), (1, .int x), (2, .int (bI b)), (3, .int i)] [] K0 ν n Q := by
    intro b i ν u h' ha' hb
    have hM := h'.hM
    refine aw_aload_n rfl dX12_isSo_52 ?_
    refine aw_v0 kX12_112 ⟨ble rfl, ble rfl⟩ (rcM) (ble rfl) dX12_isSo_53 (k_laysBack (a := a) hM ha' ?_)
    refine aw_iload_n rfl dX12_isSo_56 ?_
    refine aw_zret rfl dX12_isSo_57 rfl ?_
    have := hQ _ (h'.row a)
    rw [hb] at this
    exact this
  have loop : ∀ j i (u : Nat → Int32) (ν : Mem), i + j = z → MJ μ0 ν (wS S u) → ν.1 74 = a → u 4 = nI m → soF (fun j => gC S (40 * k + j)) m z 0 t = soF (fun j => gC S (40 * k + j)) m j i u → AW Sc mX12_isSo 4 [(0, .ref 71), (1, .int x), (2, .int (bI true)), (3, .int (nI i))] [] K0 ν n Q := by
    intro j
    induction j with
    | zero =>
      intro i u ν hi h' ha' hu hb
      have hM := h'.hM
      refine aw_iload_n rfl dX12_isSo_4 ?_
      refine aw_aload_n rfl dX12_isSo_5 ?_
      refine aw_getR gX12_41_12 kM rfl (hM.sizes) dX12_isSo_6 ?_
      refine aw_iload_n rfl dX12_isSo_9 ?_
      refine aw_ialoadN kSizes hx (by omega) (by decide) dX12_isSo_10 ?_
      rw [h'.hz, show (wS S u).2.2.2.2.2.2.2.1 k = nI z from hzk]
      refine aw_icmp_ge 52 rfl dX12_isSo_11 (fun _ => ?_) (fun c_ => absurd (nI_le (by omega) (by omega)) c_)
      exact fin true _ ν u h' ha' hb
    | succ j ih =>
      intro i u ν hi h' ha' hu hb
      have hM := h'.hM
      refine aw_iload_n rfl dX12_isSo_4 ?_
      refine aw_aload_n rfl dX12_isSo_5 ?_
      refine aw_getR gX12_41_12 kM rfl (hM.sizes) dX12_isSo_6 ?_
      refine aw_iload_n rfl dX12_isSo_9 ?_
      refine aw_ialoadN kSizes hx (by omega) (by decide) dX12_isSo_10 ?_
      rw [h'.hz, show (wS S u).2.2.2.2.2.2.2.1 k = nI z from hzk]
      refine aw_icmp_ge 52 rfl dX12_isSo_11 (fun c_ => absurd c_ (nI_ge (by omega) (by omega))) (fun _ => ?_)
      refine aw_iload_n rfl dX12_isSo_14 ?_
      refine aw_if_eq 52 rfl dX12_isSo_15 (fun c_ => absurd c_ ((by decide))) (fun _ => ?_)
      refine aw_aload_n rfl dX12_isSo_18 ?_
      refine aw_iload_n rfl dX12_isSo_19 ?_
      refine aw_iload_n rfl dX12_isSo_20 ?_
      refine aw_v2 kX12_218 ⟨ble rfl, ble rfl⟩ (rcM) (ble rfl) dX12_isSo_21 (k_told h' hx (j := i) rfl hk (by omega) ?_)
      refine aw_aload_n rfl dX12_isSo_24 ?_
      refine aw_getR gX12_9_12 kM rfl (hM.s) dX12_isSo_25 ?_
      refine aw_iconst (v := 1) (by decide) dX12_isSo_28 ?_
      refine aw_ialoadN kS (c := 1) rfl (by decide) (by decide) dX12_isSo_29 ?_
      refine aw_i2l dX12_isSo_30 ?_
      refine aw_lcmp dX12_isSo_31 ?_
      rw [h'.hs]
      rw [soF] at hb
      refine aw_if_ne 39 rfl dX12_isSo_32 (fun c => ?_) (fun c => ?_)
      · have c : ¬ gC S (40 * k + i) = (u 1).toInt64 := fun q => c ((lg_cmp_eq _ _).mpr q)
        rw [if_neg c] at hb
        refine aw_iconst (v := 0) (by decide) dX12_isSo_39 ?_
        refine aw_istore_n (ble rfl) dX12_isSo_40 ?_
        refine aw_aload_n rfl dX12_isSo_41 ?_
        refine aw_iconst (v := 1) (by decide) dX12_isSo_42 ?_
        refine aw_v1 kX12_106 ⟨ble rfl, ble rfl⟩ (rcM) (ble rfl) dX12_isSo_43 (k_goes (m := m) hM h'.hs hu hm (t := 1) rfl (by decide) ?_)
        have h2 := h'.row (goesN m 1 u)
        have hM := h2.hM
        refine aw_iinc rfl (v := 1) (by decide) (ble rfl) dX12_isSo_46 ?_
        refine aw_goto 4 rfl dX12_isSo_49 ?_
        refine aw_iload_n rfl dX12_isSo_4 ?_
        refine aw_aload_n rfl dX12_isSo_5 ?_
        refine aw_getR gX12_41_12 kM rfl (hM.sizes) dX12_isSo_6 ?_
        refine aw_iload_n rfl dX12_isSo_9 ?_
        refine aw_ialoadN kSizes hx (by omega) (by decide) dX12_isSo_10 ?_
        rw [show (rowI ν 72 (goesN m 1 (wS S u).1)).1 82 k = nI z from (congrFun h2.hz k).trans hzk, nI_1]
        have ha2 : (rowI ν 72 (goesN m 1 u)).1 74 = a := by rw [rowI_ne _ _ (by decide)]; exact ha'
        by_cases hc : z ≤ i + 1
        · refine aw_icmp_ge 52 rfl dX12_isSo_11 (fun _ => ?_) (fun c_ => absurd (nI_le (by omega) (by omega)) c_)
          exact fin false _ _ _ h2 ha2 hb
        · refine aw_icmp_ge 52 rfl dX12_isSo_11 (fun c_ => absurd c_ (nI_ge (by omega) (by omega))) (fun _ => ?_)
          refine aw_iload_n rfl dX12_isSo_14 ?_
          refine aw_if_eq 52 rfl dX12_isSo_15 (fun _ => ?_) (fun c_ => absurd ((by decide)) c_)
          exact fin false _ _ _ h2 ha2 hb
      · have c : gC S (40 * k + i) = (u 1).toInt64 := (lg_cmp_eq _ _).mp c
        rw [if_pos c] at hb
        refine aw_iconst (v := 1) (by decide) dX12_isSo_35 ?_
        refine aw_goto 40 rfl dX12_isSo_36 ?_
        refine aw_istore_n (ble rfl) dX12_isSo_40 ?_
        refine aw_aload_n rfl dX12_isSo_41 ?_
        refine aw_iconst (v := 1) (by decide) dX12_isSo_42 ?_
        refine aw_v1 kX12_106 ⟨ble rfl, ble rfl⟩ (rcM) (ble rfl) dX12_isSo_43 (k_goes (m := m) hM h'.hs hu hm (t := 1) rfl (by decide) ?_)
        have h2 := h'.row (goesN m 1 u)
        refine aw_iinc rfl (v := 1) (by decide) (ble rfl) dX12_isSo_46 ?_
        refine aw_goto 4 rfl dX12_isSo_49 ?_
        rw [nI_1]
        refine ih (i + 1) _ _ (by omega) h2 ?_ ?_ hb
        · rw [rowI_ne _ _ (by decide)]; exact ha'
        · rw [goesN_4]; exact hu
  refine aw_iconst (v := 1) (by decide) dX12_isSo_0 ?_
  refine aw_istore_n (ble rfl) dX12_isSo_1 ?_
  refine aw_iconst (v := 0) (by decide) dX12_isSo_2 ?_
  refine aw_istore_n (ble rfl) dX12_isSo_3 ?_
  exact loop z 0 t μ (by omega) h ha h4 rfl
theorem q_read {x y : Int32} (h : MJ μ0 μ S) (hW : WF S) (hQ : ∀ μ', MJ μ0 μ' (sp_read x y S).2 → Q (some (.int (sp_read x y S).1)) K0 μ') : AM Sc mX12_read [.ref 71, .int x, .int y] K0 μ n Q := by
  refine AM.of rfl (ble rfl) ?_
  have hM := h.hM
  have hs := h.hs
  obtain ⟨h4, hm, -⟩ := hW.1
  unfold sp_read at hQ
  refine aw_aload_n rfl dX12_read_0 ?_
  refine aw_iload_n rfl dX12_read_1 ?_
  refine aw_v1 kX12_215 ⟨ble rfl, ble rfl⟩ (rcM) (ble rfl) dX12_read_2 (k_wrongSheet h ?_)
  refine aw_istore_n (ble rfl) dX12_read_5 ?_
  refine aw_iload_n rfl dX12_read_6 ?_
  cases hwr : wrS S x with
  | some k =>
    rw [hwr] at hQ
    have hk := wrS_lt hwr
    refine aw_if_lt 16 rfl dX12_read_7 (fun c_ => absurd c_ (nI_pos (by omega))) (fun _ => ?_)
    refine aw_aload_n rfl dX12_read_10 ?_
    refine aw_iload_n rfl dX12_read_11 ?_
    refine aw_v1 kX12_118 ⟨ble rfl, ble rfl⟩ (rcM) (ble rfl) dX12_read_12 (q_no h rfl hk (fun μ' h' => ?_))
    refine aw_iret dX12_read_15 rfl ?_
    exact hQ μ' h'
  | none =>
    rw [hwr] at hQ
    refine aw_if_lt 16 rfl dX12_read_7 (fun _ => ?_) (fun c_ => absurd ((by decide)) c_)
    obtain ⟨k, hk, hx, hix, -⟩ := wrS_none hwr
    obtain ⟨z, hz, hzk⟩ := hW.2.2.2.1 k hk
    have hzk : gZ S k = nI z := hzk
    refine aw_aload_n rfl dX12_read_16 ?_
    refine aw_iload_n rfl dX12_read_17 ?_
    refine aw_v1 kX12_134 ⟨ble rfl, ble rfl⟩ (rcM) (ble rfl) dX12_read_18 (g_isPerson h ?_)
    simp only [ansW] at hQ
    refine aw_zne 30 rfl dX12_read_21 (fun c => ?_) (fun c => ?_)
    · rw [if_pos c] at hQ
      obtain ⟨q, hq, hyq, hiy⟩ := per_t h4 hm c
      rw [hiy] at hQ
      have hP : ∀ kk g, rdP S x q kk g = soF (fun j => gC S (40 * k + j)) (mny S.1) z 0 (upd (upd S.1 (5 + 5 * q) (nI kk)) (5 + 5 * q + 4) (nI g)) := by
        intro kk g
        unfold rdP rowC
        rw [hix, hzk, ix_nI (by omega)]
      generalize rdP S x q = P at hQ hP
      have inner : ∀ kk, kk < 6 → (∀ ν g, MJ μ0 ν S → AW Sc mX12_read 36 [(0, .ref 71), (1, .int x), (2, .int y), (3, .int (-1)), (4, .int (nI (cKnd P (kk + 1)))), (5, .int (nI (kk + 1))), (6, .int g)] [] K0 ν n Q) → ∀ j g (ν : Mem), g + j = 20 → MJ μ0 ν S → AW Sc mX12_read 46 [(0, .ref 71), (1, .int x), (2, .int y), (3, .int (-1)), (4, .int (nI (cKnd P kk + cStr (P kk) g))), (5, .int (nI kk)), (6, .int (nI (g + 1)))] [] K0 ν n Q := by
        intro kk hkk hout j
        induction j with
        | zero =>
          intro g ν hg h'
          obtain rfl : g = 20 := by omega
          refine aw_iload rfl dX12_read_46 ?_
          refine aw_bipush (v := 20) (by decide) dX12_read_48 ?_
          refine aw_icmp_gt 97 rfl dX12_read_50 (fun _ => ?_) (fun c_ => absurd ((by decide)) c_)
          refine aw_iinc rfl (v := 1) (by decide) (ble rfl) dX12_read_97 ?_
          refine aw_goto 36 rfl dX12_read_100 ?_
          rw [nI_1]
          exact hout ν _ h'
        | succ j ih =>
          intro g ν hg h'
          have hM := h'.hM
          refine aw_iload rfl dX12_read_46 ?_
          refine aw_bipush (v := 20) (by decide) dX12_read_48 ?_
          refine aw_icmp_gt 97 rfl dX12_read_50 (fun c_ => absurd c_ (nI_nlt (b := g + 1) (a := 20) (by omega) (by omega))) (fun _ => ?_)
          refine aw_aload_n rfl dX12_read_53 ?_
          refine aw_v0 kX12_145 ⟨ble rfl, ble rfl⟩ (rcM) (ble rfl) dX12_read_54 (k_setsAside hM h'.hs ?_)
          have h1 := h'.asd S.1
          refine aw_aload_n rfl dX12_read_57 ?_
          refine aw_iload_n rfl dX12_read_58 ?_
          refine aw_iconst (v := 0) (by decide) dX12_read_59 ?_
          refine aw_iload rfl dX12_read_60 ?_
          refine aw_v3 kX12_88 ⟨ble rfl, ble rfl⟩ (rcM) (ble rfl) dX12_read_62 (g_puts h1.hM h1.hs hyq (j := 0) rfl (by omega) (by decide) ?_)
          have h2 := h1.row (upd S.1 (5 + 5 * q) (nI kk))
          refine aw_aload_n rfl dX12_read_65 ?_
          refine aw_iload_n rfl dX12_read_66 ?_
          refine aw_iconst (v := 4) (by decide) dX12_read_67 ?_
          refine aw_iload rfl dX12_read_68 ?_
          refine aw_v3 kX12_88 ⟨ble rfl, ble rfl⟩ (rcM) (ble rfl) dX12_read_70 (g_puts h2.hM h2.hs hyq (j := 4) rfl (by omega) (by decide) ?_)
          have h3 := h2.row (upd (upd S.1 (5 + 5 * q) (nI kk)) (5 + 5 * q + 4) (nI (g + 1)))
          refine aw_iload rfl dX12_read_73 ?_
          refine aw_aload_n rfl dX12_read_75 ?_
          refine aw_iload_n rfl dX12_read_76 ?_
          refine aw_v1 kX12_228 ⟨ble rfl, ble rfl⟩ (rcM) (ble rfl) dX12_read_77 (k_isSo (S := S) (t := upd (upd S.1 (5 + 5 * q) (nI kk)) (5 + 5 * q + 4) (nI (g + 1))) (m := mny S.1) (a := S.1) h3 hx hk hz hzk ?_ hm ?_ (fun μ' h5 => ?_))
          · rw [upd_ne (by omega), upd_ne (by omega)]; exact h4
          · rw [rowI_ne _ _ (by decide), rowI_ne _ _ (by decide)]; exact rowI_get _ _ _
          rw [← hP]
          have ih' := ih (g + 1) μ' (by omega) h5
          rw [cStr] at ih'
          refine aw_zeq 87 rfl dX12_read_80 (fun c3 => ?_) (fun c3 => ?_)
          · rw [c3, if_neg (by decide)] at ih'
            refine aw_iconst (v := 0) (by decide) dX12_read_87 ?_
            refine aw_iadd dX12_read_88 ?_
            refine aw_istore (ble rfl) dX12_read_89 ?_
            refine aw_iinc rfl (v := 1) (by decide) (ble rfl) dX12_read_91 ?_
            refine aw_goto 46 rfl dX12_read_94 ?_
            rw [nI_1, Int32.add_zero]
            exact ih'
          · rw [c3, if_pos rfl] at ih'
            refine aw_iconst (v := 1) (by decide) dX12_read_83 ?_
            refine aw_goto 88 rfl dX12_read_84 ?_
            refine aw_iadd dX12_read_88 ?_
            refine aw_istore (ble rfl) dX12_read_89 ?_
            refine aw_iinc rfl (v := 1) (by decide) (ble rfl) dX12_read_91 ?_
            refine aw_goto 46 rfl dX12_read_94 ?_
            rw [nI_1, nI_1]
            exact ih'
      have outer : ∀ j kk (ν : Mem) g, kk + j = 6 → MJ μ0 ν S → AW Sc mX12_read 36 [(0, .ref 71), (1, .int x), (2, .int y), (3, .int (-1)), (4, .int (nI (cKnd P kk))), (5, .int (nI kk)), (6, .int g)] [] K0 ν n Q := by
        intro j
        induction j with
        | zero =>
          intro kk ν g hj h'
          obtain rfl : kk = 6 := by omega
          refine aw_iload rfl dX12_read_36 ?_
          refine aw_bipush (v := 6) (by decide) dX12_read_38 ?_
          refine aw_icmp_ge 103 rfl dX12_read_40 (fun _ => ?_) (fun c_ => absurd ((by decide)) c_)
          refine aw_iload rfl dX12_read_103 ?_
          refine aw_iret dX12_read_105 rfl ?_
          exact hQ _ h'
        | succ j ih =>
          intro kk ν g hj h'
          refine aw_iload rfl dX12_read_36 ?_
          refine aw_bipush (v := 6) (by decide) dX12_read_38 ?_
          refine aw_icmp_ge 103 rfl dX12_read_40 (fun c_ => absurd c_ (nI_ge (b := 6) (by omega) (by omega))) (fun _ => ?_)
          refine aw_iconst (v := 1) (by decide) dX12_read_43 ?_
          refine aw_istore (ble rfl) dX12_read_44 ?_
          have := inner kk (by omega) (fun ν g h6 => ih (kk + 1) ν g (by omega) h6) 20 0 ν (by omega) h'
          exact this
      refine aw_iconst (v := 0) (by decide) dX12_read_30 ?_
      refine aw_istore (ble rfl) dX12_read_31 ?_
      refine aw_iconst (v := 0) (by decide) dX12_read_33 ?_
      refine aw_istore (ble rfl) dX12_read_34 ?_
      refine aw_iload rfl dX12_read_36 ?_
      refine aw_bipush (v := 6) (by decide) dX12_read_38 ?_
      refine aw_icmp_ge 103 rfl dX12_read_40 (fun c_ => absurd c_ ((by decide))) (fun _ => ?_)
      refine aw_iconst (v := 1) (by decide) dX12_read_43 ?_
      refine aw_istore (ble rfl) dX12_read_44 ?_
      exact inner 0 (by omega) (fun ν g h6 => outer 5 1 ν g (by omega) h6) 20 0 μ (by omega) h
    · rw [if_neg (by rw [c]; decide)] at hQ
      refine aw_aload_n rfl dX12_read_24 ?_
      refine aw_iconst (v := 0) (by decide) dX12_read_25 ?_
      refine aw_v1 kX12_118 ⟨ble rfl, ble rfl⟩ (rcM) (ble rfl) dX12_read_26 (q_no h rfl (by decide) (fun μ' h' => ?_))
      refine aw_iret dX12_read_29 rfl ?_
      exact hQ μ' h'
end Pub9
