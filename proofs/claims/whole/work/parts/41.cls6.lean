/-! THE CLASS, 6: a green's day -/
theorem lives_ne {s : Nat → Int32} {k j : Nat} (h2 : j ≠ 5 + 5 * k + 2) (h3 : j ≠ 5 + 5 * k + 3) : lives s k j = s j := by
  unfold lives tiredS
  split
  · rw [upd_ne h2, upd_ne h3]
  · rw [upd_ne h3]
theorem livesAll_keep {s : Nat → Int32} {i j : Nat} (hj : j < 5 + 5 * i + 5) : ∀ d, livesAll s (i + 1 + d) j = livesAll s (i + 1) j
  | 0 => rfl
  | d + 1 => by
    rw [← Nat.add_assoc, livesAll, lives_ne (by omega) (by omega), livesAll_keep hj d]
theorem WFp_lives {s : Nat → Int32} {k : Nat} (h : WFp s k) : WFp (lives s k) k := by
  obtain ⟨h0, h1, h2, ⟨t, ht, h3⟩, h4⟩ := h
  obtain ⟨c, hc, hcc⟩ := tires_c s k
  unfold lives
  split
  · refine WFp_2 ?_ (by split; exact Or.inl rfl; exact Or.inr rfl)
    unfold tiredS
    rw [h3, hcc]
    obtain ⟨u, hu, e⟩ := hld_rng t (by omega) c hc
    rw [e]
    exact WFp_3 ⟨h0, h1, h2, ⟨t, ht, h3⟩, h4⟩ hu
  · rw [h3]
    obtain ⟨u, hu, e⟩ := held_rng2 t (by omega)
    rw [e]
    exact WFp_3 ⟨h0, h1, h2, ⟨t, ht, h3⟩, h4⟩ hu
theorem WFs_of {s t : Nat → Int32} {k : Nat} (h : WFs s) (ht : ∀ j, j < 5 + 5 * k + 1 ∨ 5 + 5 * k + 4 < j → t j = s j) (hp : k < mny s → WFp t k) : WFs t := by
  obtain ⟨a, b, c, d, e⟩ := h
  have hm : mny t = mny s := by unfold mny; rw [ht 4 (by omega)]
  unfold WFs
  rw [hm, ht 4 (by omega), ht 1 (by omega), ht 2 (by omega)]
  refine ⟨a, b, c, d, fun q hq => ?_⟩
  by_cases eq : q = k
  · subst eq; exact hp hq
  · obtain ⟨h0, h1, h2, h3, h4⟩ := e q hq
    unfold WFp
    rw [ht _ (by omega), ht _ (by omega), ht _ (by omega), ht _ (by omega), ht _ (by omega)]
    exact ⟨h0, h1, h2, h3, h4⟩
theorem WFs_lives {s : Nat → Int32} {k : Nat} (h : WFs s) : WFs (lives s k) := WFs_of (k := k) h (fun j hj => lives_ne (by omega) (by omega)) (fun hk => WFp_lives (h.2.2.2.2 k hk))
theorem WFs_livesAll {s : Nat → Int32} (h : WFs s) : ∀ k, WFs (livesAll s k)
  | 0 => h
  | k + 1 => WFs_lives (WFs_livesAll h k)
theorem WFs_on {s : Nat → Int32} {b : Nat} (h : WFs s) : WFs (upd s (5 + 5 * b + 2) 1) := WFs_p h (by decide) (fun hk => WFp_2 (h.2.2.2.2 b hk) (Or.inr rfl))
theorem WFs_comes {s : Nat → Int32} {x : Int32} {m : Nat} (h : WFs s) : WFs (comes s x m) := by
  unfold comes
  split
  · exact h
  · split
    · exact h
    · exact WFs_on h
theorem WFs_knot {s : Nat → Int32} {m : Nat} (h : WFs s) : WFs (upd s 1 (knotG m s)) := by
  refine WFs_1 h ?_
  have := held_rng (s 1 + (if sideP s 1 m - sideP s 0 m < 0 then -(if (if sideP s 1 m - sideP s 0 m < 0 then -(sideP s 1 m - sideP s 0 m) - s 2 else sideP s 1 m - sideP s 0 m - s 2) < 0 then 0 else (if sideP s 1 m - sideP s 0 m < 0 then -(sideP s 1 m - sideP s 0 m) - s 2 else sideP s 1 m - sideP s 0 m - s 2)) else (if (if sideP s 1 m - sideP s 0 m < 0 then -(sideP s 1 m - sideP s 0 m) - s 2 else sideP s 1 m - sideP s 0 m - s 2) < 0 then 0 else (if sideP s 1 m - sideP s 0 m < 0 then -(sideP s 1 m - sideP s 0 m) - s 2 else sideP s 1 m - sideP s 0 m - s 2))))
  rw [fa_le, fa_le]
  exact this
theorem WFs_day {s : Nat → Int32} {m : Nat} (h : WFs s) : WFs (dayS m s) := WFs_0 (WFs_comes (WFs_comes (WFs_livesAll (WFs_knot h) m)))
theorem WFs_goes {m : Nat} : ∀ (t : Nat) {s : Nat → Int32}, WFs s → WFs (goesN m t s)
  | 0, _, h => h
  | t + 1, _, h => WFs_goes t (WFs_day h)
theorem bst_side {s : Nat → Int32} {x : Int32} : ∀ {k b : Nat}, bst s x k = some b → s (5 + 5 * b + 1) = x
  | 0, _, h => by cases h
  | k + 1, b, h => by
    unfold bst at h
    split at h
    · next hc =>
      cases hb : bst s x k with
      | none => rw [hb] at h; cases h; exact hc
      | some c =>
        rw [hb] at h
        dsimp only at h
        split at h
        · cases h; exact hc
        · cases h; exact bst_side hb
    · exact bst_side h
theorem hasOn_upd {s : Nat → Int32} {x : Int32} {b : Nat} (hb : ¬ s (5 + 5 * b + 1) = x) : ∀ k, hasOn (upd s (5 + 5 * b + 2) 1) x k = hasOn s x k
  | 0 => rfl
  | k + 1 => by
    rw [hasOn, hasOn, hasOn_upd hb k, upd_ne (by omega)]
    by_cases e : k = b
    · subst e
      rw [decide_eq_false hb, Bool.false_and, Bool.false_and]
    · rw [upd_ne (by omega)]
theorem mny_lives (s : Nat → Int32) (k : Nat) : mny (livesAll s k) = mny s := by unfold mny; rw [livesAll_4]
theorem mny_day (m : Nat) (s : Nat → Int32) : mny (dayS m s) = mny s := by unfold mny; rw [dayS_4]
theorem mny_goes (m t : Nat) (s : Nat → Int32) : mny (goesN m t s) = mny s := by unfold mny; rw [goesN_4]
section Cls6
variable {Sc : SCR} {μ μ0 : Mem} {n : Nat × Nat} {Q : PQ} {s : Nat → Int32} {g q i r ci : Nat} {x y : Int32}
theorem c_goDay (hg : gOk g) (h : GA μ g s) (hW : WFs s) (hQ : ∀ μ', Fr g μ μ' → GA μ' g (dayS (mny s) s) → Q none K0 μ') : AM Sc mX2_goDay [.ref g] K0 μ n Q := by
  refine AM.of rfl (ble rfl) ?_
  have hm := hW.2.1
  have hW1 : WFs (upd s 1 (knotG (mny s) s)) := WFs_knot hW
  have hm1 : mny (upd s 1 (knotG (mny s) s)) = mny s := mny_upd (by decide)
  refine aw_aload_n rfl dX2_goDay_0 ?_
  refine aw_aload_n rfl dX2_goDay_1 ?_
  refine aw_v0 kX2_106 ⟨ble rfl, ble rfl⟩ (rcG hg) (ble rfl) dX2_goDay_2 (c_leadOfChapel hg h hW ?_)
  refine aw_v1 kX2_109 ⟨ble rfl, ble rfl⟩ (rcG hg) (ble rfl) dX2_goDay_5 (c_moveKnot hg h hW rfl (fun μ1 F1 h1 => ?_))
  unfold dayS at hQ
  simp only at hQ
  generalize upd s 1 (knotG (mny s) s) = s1 at hQ hW1 hm1 h1
  generalize hT : livesAll s1 (mny s) = T at hQ
  have hWT : WFs T := by rw [← hT]; exact WFs_livesAll hW1 _
  have hmT : mny T = mny s := by rw [← hT, mny_lives, hm1]
  -- the day's end
  have fin : ∀ (ν : Mem) (t : Nat → Int32), Fr g μ ν → GA ν g t → (t = comes (comes T 0 (mny s)) 1 (mny s)) → ∀ lv, lget lv 0 = some (.ref g) → AW Sc mX2_goDay 93 lv [] K0 ν n Q := by
    intro ν t F hν ht lv hlv
    refine aw_aload_n hlv dX2_goDay_93 ?_
    refine aw_dup rfl dX2_goDay_94 ?_
    refine aw_getI gX2_51_2 (kG hg) rfl dX2_goDay_95 ?_
    refine aw_iconst (v := 1) (by decide) dX2_goDay_98 ?_
    refine aw_iadd dX2_goDay_99 ?_
    refine aw_putI (pX2_51_2 _) (kG hg) rfl rfl rfl dX2_goDay_100 ?_
    refine aw_return dX2_goDay_103 rfl ?_
    obtain ⟨g0, g1, g2, g3, g4⟩ := hν.2.1
    rw [← ht] at hQ
    refine hQ _ (F.trans (Fr.row (f := upd (ν.1 g) 0 (ν.1 g 0 + 1)) (Or.inl rfl))) (hν.head (f := upd (ν.1 g) 0 (ν.1 g 0 + 1)) (fun k hk => upd_ne (by omega)) ⟨?_, ?_, ?_, ?_, ?_⟩)
    · rw [upd_eq, upd_eq, g0]
    · rw [upd_ne (by decide), upd_ne (by decide)]; exact g1
    · rw [upd_ne (by decide), upd_ne (by decide)]; exact g2
    · rw [upd_ne (by decide), upd_ne (by decide)]; exact g3
    · rw [upd_ne (by decide), upd_ne (by decide)]; exact g4
  have second : ∀ (ν : Mem) (t : Nat → Int32) (i : Int32) (bp : Int32), Fr g μ ν → GA ν g t → WFs t → mny t = mny s → t = comes T 0 (mny s) → hasOn t 1 (mny s) = hasOn T 1 (mny s) → AW Sc mX2_goDay 84 [(0, .ref g), (1, .int bp), (2, .int (bI (hasOn T 1 (mny s)))), (3, .int i)] [] K0 ν n Q := by
    intro ν t i bp F hν hWt hmt ht ho
    refine aw_iload_n rfl dX2_goDay_84 ?_
    refine aw_zne 93 rfl dX2_goDay_85 (fun c => ?_) (fun c => ?_)
    · refine fin ν t F hν ?_ _ rfl
      rw [← ht]
      show t = comes t 1 (mny s)
      unfold comes
      rw [ho, c, if_pos rfl]
    · refine aw_aload_n rfl dX2_goDay_88 ?_
      refine aw_iconst (v := 1) (by decide) dX2_goDay_89 ?_
      refine aw_v1 kX2_116 ⟨ble rfl, ble rfl⟩ (rcG hg) (ble rfl) dX2_goDay_90 (c_callOut hg hν hWt (fun μ2 F2 h2 => ?_))
      refine fin μ2 _ (F.trans F2) h2 ?_ _ rfl
      rw [← ht, hmt]
      show _ = comes t 1 (mny s)
      unfold comes
      rw [ho, c, if_neg (by decide)]
      cases bst t 1 (mny s) <;> rfl
  have loop : ∀ j i (ν : Mem), i + j = mny s → Fr g μ ν → GA ν g (livesAll s1 i) → AW Sc mX2_goDay 14 [(0, .ref g), (1, .int (bI (hasOn T 0 i))), (2, .int (bI (hasOn T 1 i))), (3, .int (nI i))] [] K0 ν n Q := by
    intro j
    induction j with
    | zero =>
      intro i ν hi F hν
      have hWi := WFs_livesAll hW1 i
      have hmi : mny (livesAll s1 i) = mny s := by rw [mny_lives, hm1]
      refine aw_iload_n rfl dX2_goDay_14 ?_
      refine aw_aload_n rfl dX2_goDay_15 ?_
      refine aw_getI gX2_57_2 (kG hg) rfl dX2_goDay_16 ?_
      rw [hν.sz hWi, hmi]
      refine aw_icmp_ge 75 rfl dX2_goDay_19 (fun _ => ?_) (fun c_ => absurd (nI_le (by omega) (by omega)) c_)
      obtain rfl : i = mny s := by omega
      rw [hT] at hν
      refine aw_iload_n rfl dX2_goDay_75 ?_
      refine aw_zne 84 rfl dX2_goDay_76 (fun c => ?_) (fun c => ?_)
      · refine second ν T _ _ F hν hWT hmT ?_ rfl
        unfold comes
        rw [c, if_pos rfl]
      · refine aw_aload_n rfl dX2_goDay_79 ?_
        refine aw_iconst (v := 0) (by decide) dX2_goDay_80 ?_
        refine aw_v1 kX2_116 ⟨ble rfl, ble rfl⟩ (rcG hg) (ble rfl) dX2_goDay_81 (c_callOut hg hν hWT (fun μ2 F2 h2 => ?_))
        rw [hmT] at h2
        have ec : comes T 0 (mny s) = (match bst T 0 (mny s) with
          | none => T
          | some b => upd T (5 + 5 * b + 2) 1) := by
          unfold comes
          rw [c, if_neg (by decide)]
          cases bst T 0 (mny s) <;> rfl
        refine second μ2 _ _ _ (F.trans F2) (by rw [ec]; exact h2) (WFs_comes hWT) (by unfold mny; rw [comes_4]; exact hmT) rfl ?_
        rw [ec]
        cases hb : bst T 0 (mny s) with
        | none => rfl
        | some b => exact hasOn_upd (by rw [bst_side hb]; decide) _
    | succ j ih =>
      intro i ν hi F hν
      have hWi := WFs_livesAll hW1 i
      have hmi : mny (livesAll s1 i) = mny s := by rw [mny_lives, hm1]
      refine aw_iload_n rfl dX2_goDay_14 ?_
      refine aw_aload_n rfl dX2_goDay_15 ?_
      refine aw_getI gX2_57_2 (kG hg) rfl dX2_goDay_16 ?_
      rw [hν.sz hWi, hmi]
      refine aw_icmp_ge 75 rfl dX2_goDay_19 (fun c_ => absurd c_ (nI_ge (by omega) (by omega))) (fun _ => ?_)
      obtain ⟨hf, hk⟩ := hν.2.2 i (by omega)
      refine aw_aload_n rfl dX2_goDay_22 ?_
      refine aw_getR gX2_26_2 (kG hg) rfl (hν.1.2.1) dX2_goDay_23 ?_
      refine aw_iload_n rfl dX2_goDay_26 ?_
      refine aw_aaloadN (kGp hg) (fun _ => rfl) rfl (by omega) (by decide) (hν.pe (by omega)) dX2_goDay_27 ?_
      refine aw_astore (ble rfl) dX2_goDay_28 ?_
      refine aw_aload rfl dX2_goDay_30 ?_
      refine aw_aload_n rfl dX2_goDay_32 ?_
      refine aw_v1 kX2_112 ⟨ble rfl, ble rfl⟩ (rcP (kP hg (i := i) (by omega))) (ble rfl) dX2_goDay_33 (c_spendDay hg (i := i) (by omega) rfl hν.2.1 hf hk hWi.2.2.1 (hWi.2.2.2.2 i (by omega)) (fun f hf2 => ?_))
      have hν2 : GA (rowI ν (g + 9 + i) f) g (livesAll s1 (i + 1)) := hν.per (fun k hk => lives_ne (by omega) (by omega)) hf2
      have F2 := F.trans (Fr.row (μ := ν) (f := f) (q := g + 9 + i) (g := g) (Or.inr (by omega)))
      have tT : ∀ c, c < 5 → T (5 + 5 * i + c) = livesAll s1 (i + 1) (5 + 5 * i + c) := by
        intro c hc
        rw [← hT, show mny s = i + 1 + j by omega]
        exact livesAll_keep (by omega) j
      have hWn := WFs_livesAll hW1 (i + 1)
      obtain ⟨w0, w1, w2, w3, w4⟩ := hWn.2.2.2.2 i (by rw [mny_lives, hm1]; omega)
      have hfn : FP ((rowI ν (g + 9 + i) f).1 (g + 9 + i)) (livesAll s1 (i + 1)) i := by rw [rowI_get]; exact hf2
      have o1 : (rowI ν (g + 9 + i) f).1 (g + 9 + i) 1 = T (5 + 5 * i + 1) := by rw [tT 1 (by decide)]; exact hfn.1
      have o2 : (rowI ν (g + 9 + i) f).1 (g + 9 + i) 2 = T (5 + 5 * i + 2) := by rw [tT 2 (by decide)]; exact hfn.2.1
      rw [← tT 1 (by decide)] at w1
      have ih' := ih (i + 1) _ (by omega) F2 hν2
      rw [hasOn, hasOn] at ih'
      generalize rowI ν (g + 9 + i) f = ν2 at ih' o1 o2 ⊢
      refine aw_aload rfl dX2_goDay_36 ?_
      refine aw_getI gX2_79_4 (kP hg (i := i) (by omega)) rfl dX2_goDay_38 ?_
      refine aw_iconst (v := 1) (by decide) dX2_goDay_41 ?_
      rw [o2]
      refine aw_icmp_ne 58 rfl dX2_goDay_42 (fun c => ?_) (fun c => ?_)
      · rw [decide_eq_false c, Bool.and_false, Bool.or_false, Bool.and_false, Bool.or_false] at ih'
        refine aw_aload rfl dX2_goDay_58 ?_
        refine aw_getI gX2_79_4 (kP hg (i := i) (by omega)) rfl dX2_goDay_60 ?_
        refine aw_iconst (v := 1) (by decide) dX2_goDay_63 ?_
        rw [o2]
        refine aw_icmp_ne 69 rfl dX2_goDay_64 (fun _ => ?_) (fun c_ => absurd c_ (c))
        refine aw_iinc rfl (v := 1) (by decide) (ble rfl) dX2_goDay_69 ?_
        refine aw_goto 14 rfl dX2_goDay_72 ?_
        rw [nI_1]
        refine aw_keep [0, 1, 2, 3] ?_
        exact ih'
      · rw [decide_eq_true c, Bool.and_true, Bool.and_true] at ih'
        refine aw_aload rfl dX2_goDay_45 ?_
        refine aw_getI gX2_76_4 (kP hg (i := i) (by omega)) rfl dX2_goDay_47 ?_
        rw [o1]
        refine aw_if_ne 58 rfl dX2_goDay_50 (fun c2 => ?_) (fun c2 => ?_)
        · have c3 := w1.resolve_left c2
          rw [decide_eq_false c2, decide_eq_true c3, Bool.or_false, Bool.or_true] at ih'
          refine aw_aload rfl dX2_goDay_58 ?_
          refine aw_getI gX2_79_4 (kP hg (i := i) (by omega)) rfl dX2_goDay_60 ?_
          refine aw_iconst (v := 1) (by decide) dX2_goDay_63 ?_
          rw [o2]
          refine aw_icmp_ne 69 rfl dX2_goDay_64 (fun c_ => absurd (c) c_) (fun _ => ?_)
          refine aw_iconst (v := 1) (by decide) dX2_goDay_67 ?_
          refine aw_istore_n (ble rfl) dX2_goDay_68 ?_
          refine aw_iinc rfl (v := 1) (by decide) (ble rfl) dX2_goDay_69 ?_
          refine aw_goto 14 rfl dX2_goDay_72 ?_
          rw [nI_1]
          refine aw_keep [0, 1, 2, 3] ?_
          exact ih'
        · rw [decide_eq_true c2, decide_eq_false (by rw [c2]; decide), Bool.or_false, Bool.or_true] at ih'
          refine aw_iconst (v := 1) (by decide) dX2_goDay_53 ?_
          refine aw_istore_n (ble rfl) dX2_goDay_54 ?_
          refine aw_goto 69 rfl dX2_goDay_55 ?_
          refine aw_iinc rfl (v := 1) (by decide) (ble rfl) dX2_goDay_69 ?_
          refine aw_goto 14 rfl dX2_goDay_72 ?_
          rw [nI_1]
          refine aw_keep [0, 1, 2, 3] ?_
          exact ih'
  refine aw_iconst (v := 0) (by decide) dX2_goDay_8 ?_
  refine aw_istore_n (ble rfl) dX2_goDay_9 ?_
  refine aw_iconst (v := 0) (by decide) dX2_goDay_10 ?_
  refine aw_istore_n (ble rfl) dX2_goDay_11 ?_
  refine aw_iconst (v := 0) (by decide) dX2_goDay_12 ?_
  refine aw_istore_n (ble rfl) dX2_goDay_13 ?_
  exact loop (mny s) 0 μ1 (by omega) F1 h1
theorem c_go {t : Nat} (hg : gOk g) (h : GA μ g s) (hW : WFs s) (hx : x = nI t) (ht : t < 1000) (hQ : ∀ μ', Fr g μ μ' → GA μ' g (goesN (mny s) t s) → Q none K0 μ') : AM Sc mX2_go [.ref g, .int x] K0 μ n Q := by
  refine AM.of rfl (ble rfl) ?_
  subst hx
  have loop : ∀ j i (ν : Mem), i + j = t → Fr g μ ν → GA ν g (goesN (mny s) i s) → AW Sc mX2_go 2 [(0, .ref g), (1, .int (nI t)), (2, .int (nI i))] [] K0 ν n Q := by
    intro j
    induction j with
    | zero =>
      intro i ν hi F hν
      refine aw_iload_n rfl dX2_go_2 ?_
      refine aw_iload_n rfl dX2_go_3 ?_
      refine aw_icmp_ge 17 rfl dX2_go_4 (fun _ => ?_) (fun c_ => absurd (nI_le (by omega) (by omega)) c_)
      obtain rfl : i = t := by omega
      refine aw_return dX2_go_17 rfl ?_
      exact hQ ν F hν
    | succ j ih =>
      intro i ν hi F hν
      refine aw_iload_n rfl dX2_go_2 ?_
      refine aw_iload_n rfl dX2_go_3 ?_
      refine aw_icmp_ge 17 rfl dX2_go_4 (fun c_ => absurd c_ (nI_ge (by omega) (by omega))) (fun _ => ?_)
      refine aw_aload_n rfl dX2_go_7 ?_
      refine aw_v0 kX2_103 ⟨ble rfl, ble rfl⟩ (rcG hg) (ble rfl) dX2_go_8 (c_goDay hg hν (WFs_goes i hW) (fun μ2 F2 h2 => ?_))
      refine aw_iinc rfl (v := 1) (by decide) (ble rfl) dX2_go_11 ?_
      refine aw_goto 2 rfl dX2_go_14 ?_
      rw [nI_1]
      refine ih (i + 1) μ2 (by omega) (F.trans F2) ?_
      rw [goesN_succ]
      rw [mny_goes] at h2
      exact h2
  refine aw_iconst (v := 0) (by decide) dX2_go_0 ?_
  refine aw_istore_n (ble rfl) dX2_go_1 ?_
  exact loop t 0 μ (by omega) (Fr.refl _ _) h
end Cls6
