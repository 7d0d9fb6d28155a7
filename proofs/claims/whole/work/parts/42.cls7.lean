/-! THE CLASS, 7: a green becomes another; swaps, one more person, a sheet held against the days -/
theorem pI_rowI (μ : Mem) (q k : Nat) (f : Nat → Int32) (v : Int32) : pI (rowI μ q f) q k v = rowI μ q (upd f k v) := by
  show rowI (rowI μ q f) q (upd ((rowI μ q f).1 q) k v) = _
  rw [rowI_get, rowI_rowI]
theorem pI_4 (M : Mem) (q : Nat) (a b c d : Int32) : pI (pI (pI (pI M q 1 a) q 2 b) q 3 c) q 4 d = rowI M q (upd (upd (upd (upd (M.1 q) 1 a) 2 b) 3 c) 4 d) := by
  rw [show pI M q 1 a = rowI M q (upd (M.1 q) 1 a) from rfl, pI_rowI, pI_rowI, pI_rowI]
theorem pI_5 (M : Mem) (q : Nat) (z a b c d : Int32) : pI (pI (pI (pI (pI M q 0 z) q 1 a) q 2 b) q 3 c) q 4 d = rowI M q (upd (upd (upd (upd (upd (M.1 q) 0 z) 1 a) 2 b) 3 c) 4 d) := by
  rw [show pI M q 0 z = rowI M q (upd (M.1 q) 0 z) from rfl, pI_rowI, pI_rowI, pI_rowI, pI_rowI]
theorem pR_ne (μ : Mem) {q p : Nat} (k : Nat) (v : Option Nat) (h : p ≠ q) : (pR μ q k v).2.2 p = μ.2.2 p := va_up_ne _ _ h
theorem pR_get (μ : Mem) (q k : Nat) (v : Option Nat) : (pR μ q k v).2.2 q k = v := by simp [pR, va_up]
section Cls7
variable {Sc : SCR} {μ μ0 : Mem} {n : Nat × Nat} {Q : PQ} {s : Nat → Int32} {g o q p i r ci : Nat} {x y : Int32}
theorem c_pbecome (hq : K0[q]? = some (.inl 4)) (hp : K0[p]? = some (.inl 4)) (hne : p ≠ q) (hr : μ.2.2 p 0 = some r) (hQ : ∀ f, f 1 = μ.1 p 1 → f 2 = μ.1 p 2 → f 3 = μ.1 p 3 → f 4 = μ.1 p 4 → Q none K0 (rowI (pR μ q 0 (some r)) q f)) : AM Sc mX4_become [.ref q, .ref p] K0 μ n Q := by
  refine AM.of rfl (ble rfl) ?_
  refine aw_aload_n rfl dX4_become_0 ?_
  refine aw_aload_n rfl dX4_become_1 ?_
  refine aw_getR gX4_9_4 hp rfl (hr) dX4_become_2 ?_
  refine aw_putR (pX4_9_4 _) hq rfl (fun _ => rfl) (fun _ => rfl) dX4_become_5 ?_
  refine aw_aload_n rfl dX4_become_8 ?_
  refine aw_aload_n rfl dX4_become_9 ?_
  refine aw_getI gX4_15_4 hp rfl dX4_become_10 ?_
  refine aw_putI (pX4_15_4 _) hq rfl rfl rfl dX4_become_13 ?_
  refine aw_aload_n rfl dX4_become_16 ?_
  refine aw_aload_n rfl dX4_become_17 ?_
  refine aw_getI gX4_19_4 hp rfl dX4_become_18 ?_
  refine aw_putI (pX4_19_4 _) hq rfl rfl rfl dX4_become_21 ?_
  refine aw_aload_n rfl dX4_become_24 ?_
  refine aw_aload_n rfl dX4_become_25 ?_
  refine aw_getI gX4_22_4 hp rfl dX4_become_26 ?_
  refine aw_putI (pX4_22_4 _) hq rfl rfl rfl dX4_become_29 ?_
  refine aw_aload_n rfl dX4_become_32 ?_
  refine aw_aload_n rfl dX4_become_33 ?_
  refine aw_getI gX4_25_4 hp rfl dX4_become_34 ?_
  refine aw_putI (pX4_25_4 _) hq rfl rfl rfl dX4_become_37 ?_
  refine aw_return dX4_become_40 rfl ?_
  simp only [pI_ne _ _ _ hne]
  rw [pI_4]
  refine hQ _ ?_ ?_ ?_ ?_
  · rw [upd_ne (by decide), upd_ne (by decide), upd_ne (by decide), upd_eq]; rfl
  · rw [upd_ne (by decide), upd_ne (by decide), upd_eq]; rfl
  · rw [upd_ne (by decide), upd_eq]; rfl
  · rw [upd_eq]; rfl
theorem Fr.kind {g q : Nat} {μ : Mem} {k : Nat} {v : Option Nat} {f : Nat → Int32} (h : g + 9 ≤ q ∧ q < g + 19) : Fr g μ (rowI (pR μ q k v) q f) := ⟨fun p a b => rowI_ne _ _ (by rintro rfl; exact b h), rfl, fun p b => pR_ne _ _ _ (by rintro rfl; exact b h)⟩
theorem GS.fr {g : Nat} {μ μ' : Mem} (h : GS μ.2.2 g) (F : Fr g μ μ') : GS μ'.2.2 g := by
  obtain ⟨h1, h2, h3, h4⟩ := h
  refine ⟨?_, ?_, fun k hk => ?_, fun i hi => ?_⟩
  · rw [F.2.2 g (by omega)]; exact h1
  · rw [F.2.2 g (by omega)]; exact h2
  · rw [F.2.2 (g + 1) (by omega)]; exact h3 k hk
  · rw [F.2.2 (g + 2) (by omega)]; exact h4 i hi
/-- another green stays as it is -/
theorem GA.fr {g o : Nat} {μ μ' : Mem} {t : Nat → Int32} (hg : gOk g) (ho : gOk o) (hne : o ≠ g) (ht : mny t ≤ 10) (h : GA μ o t) (F : Fr g μ μ') : GA μ' o t := by
  have far : ∀ d, d < 19 → ¬ (g + 9 ≤ o + d ∧ o + d < g + 19) := by
    intro d hd
    rcases hg with rfl | rfl | rfl <;> rcases ho with rfl | rfl | rfl <;> omega
  have far2 : ∀ d, d < 19 → o + d ≠ g := by
    intro d hd
    rcases hg with rfl | rfl | rfl <;> rcases ho with rfl | rfl | rfl <;> omega
  obtain ⟨⟨h1, h2, h3, h4⟩, h5, h6⟩ := h
  refine ⟨⟨?_, ?_, fun k hk => ?_, fun i hi => ?_⟩, ?_, fun k hk => ?_⟩
  · rw [F.2.2 o (far 0 (by decide))]; exact h1
  · rw [F.2.2 o (far 0 (by decide))]; exact h2
  · rw [F.2.2 (o + 1) (far 1 (by decide))]; exact h3 k hk
  · rw [F.2.2 (o + 2) (far 2 (by decide))]; exact h4 i hi
  · unfold GH
    rw [F.1 o hne (far 0 (by decide))]
    exact h5
  · obtain ⟨a, b⟩ := h6 k hk
    rw [F.1 (o + 9 + k) (by rw [Nat.add_assoc]; exact far2 _ (by omega)) (by rw [Nat.add_assoc]; exact far _ (by omega))]
    refine ⟨a, ?_⟩
    unfold KR
    rw [F.2.2 (o + 9 + k) (by rw [Nat.add_assoc]; exact far _ (by omega))]
    exact b
theorem c_become (hg : gOk g) (ho : gOk o) (hne : o ≠ g) (hS : GS μ.2.2 g) (h : GA μ o s) (hW : WFs s) (hQ : ∀ μ', Fr g μ μ' → GA μ' g s → Q none K0 μ') : AM Sc mX2_become [.ref g, .ref o] K0 μ n Q := by
  refine AM.of rfl (ble rfl) ?_
  have hm := hW.2.1
  have far : ∀ d, d < 19 → ∀ e, e < 10 → o + d ≠ g + 9 + e := by
    intro d hd e he
    rcases hg with rfl | rfl | rfl <;> rcases ho with rfl | rfl | rfl <;> omega
  have loop : ∀ j i (ν : Mem), i + j = mny s → Fr g μ ν → GH ν g s → (∀ k, k < i → FP (ν.1 (g + 9 + k)) s k ∧ KR ν.2.2 (g + 9 + k) s k) → AW Sc mX2_become 42 [(0, .ref g), (1, .ref o), (2, .int (nI i))] [] K0 ν n Q := by
    intro j
    induction j with
    | zero =>
      intro i ν hi F hG hP
      refine aw_iload_n rfl dX2_become_42 ?_
      refine aw_aload_n rfl dX2_become_43 ?_
      refine aw_getI gX2_57_2 (kG hg) rfl dX2_become_44 ?_
      rw [hG.2.2.2.2, hW.1]
      refine aw_icmp_ge 71 rfl dX2_become_47 (fun _ => ?_) (fun c_ => absurd (nI_le (by omega) (by omega)) c_)
      refine aw_return dX2_become_71 rfl ?_
      exact hQ ν F ⟨hS.fr F, hG, fun k hk => hP k (by omega)⟩
    | succ j ih =>
      intro i ν hi F hG hP
      have hS' := hS.fr F
      have hO := GA.fr hg ho hne hm h F
      refine aw_iload_n rfl dX2_become_42 ?_
      refine aw_aload_n rfl dX2_become_43 ?_
      refine aw_getI gX2_57_2 (kG hg) rfl dX2_become_44 ?_
      rw [hG.2.2.2.2, hW.1]
      refine aw_icmp_ge 71 rfl dX2_become_47 (fun c_ => absurd c_ (nI_ge (by omega) (by omega))) (fun _ => ?_)
      obtain ⟨hf, jj, k, hj, hk6, hsk, hrk⟩ := hO.2.2 i (by omega)
      refine aw_aload_n rfl dX2_become_50 ?_
      refine aw_getR gX2_26_2 (kG hg) rfl (hS'.2.1) dX2_become_51 ?_
      refine aw_iload_n rfl dX2_become_54 ?_
      refine aw_aaloadN (kGp hg) (fun _ => rfl) rfl (by omega) (by decide) (hS'.2.2.2 i (by omega)) dX2_become_55 ?_
      refine aw_aload_n rfl dX2_become_56 ?_
      refine aw_getR gX2_26_2 (kG ho) rfl (hO.1.2.1) dX2_become_57 ?_
      refine aw_iload_n rfl dX2_become_60 ?_
      refine aw_aaloadN (kGp ho) (fun _ => rfl) rfl (by omega) (by decide) (hO.pe (by omega)) dX2_become_61 ?_
      refine aw_v1 kX2_60 ⟨ble rfl, ble rfl⟩ (rcP (kP hg (i := i) (by omega))) (ble rfl) dX2_become_62 (c_pbecome (kP hg (i := i) (by omega)) (kP ho (i := i) (by omega)) (by rw [Nat.add_assoc]; exact far _ (by omega) _ (by omega)) hrk (fun f f1 f2 f3 f4 => ?_))
      refine aw_iinc rfl (v := 1) (by decide) (ble rfl) dX2_become_65 ?_
      refine aw_goto 42 rfl dX2_become_68 ?_
      rw [nI_1]
      refine ih (i + 1) _ (by omega) (F.trans (Fr.kind ⟨by omega, by omega⟩)) ?_ (fun t ht => ?_)
      · unfold GH
        rw [rowI_ne _ _ (by omega)]
        exact hG
      · by_cases e : t = i
        · subst e
          refine ⟨?_, jj, k, hj, hk6, hsk, pR_get _ _ _ _⟩
          rw [rowI_get]
          exact ⟨f1.trans hf.1, f2.trans hf.2.1, f3.trans hf.2.2.1, f4.trans hf.2.2.2⟩
        · obtain ⟨a, b⟩ := hP t (by omega)
          rw [rowI_ne _ _ (by omega)]
          refine ⟨a, ?_⟩
          unfold KR
          rw [show (rowI (pR ν (g + 9 + i) 0 (some (jj + 3 + k))) (g + 9 + i) f).2.2 (g + 9 + t) = ν.2.2 (g + 9 + t) from pR_ne _ _ _ (by omega)]
          exact b
  obtain ⟨g0, g1, g2, g3, g4⟩ := h.2.1
  refine aw_aload_n rfl dX2_become_0 ?_
  refine aw_aload_n rfl dX2_become_1 ?_
  refine aw_getI gX2_51_2 (kG ho) rfl dX2_become_2 ?_
  refine aw_putI (pX2_51_2 _) (kG hg) rfl rfl rfl dX2_become_5 ?_
  refine aw_aload_n rfl dX2_become_8 ?_
  refine aw_aload_n rfl dX2_become_9 ?_
  refine aw_getI gX2_9_2 (kG ho) rfl dX2_become_10 ?_
  refine aw_putI (pX2_9_2 _) (kG hg) rfl rfl rfl dX2_become_13 ?_
  refine aw_aload_n rfl dX2_become_16 ?_
  refine aw_aload_n rfl dX2_become_17 ?_
  refine aw_getI gX2_54_2 (kG ho) rfl dX2_become_18 ?_
  refine aw_putI (pX2_54_2 _) (kG hg) rfl rfl rfl dX2_become_21 ?_
  refine aw_aload_n rfl dX2_become_24 ?_
  refine aw_aload_n rfl dX2_become_25 ?_
  refine aw_getI gX2_15_2 (kG ho) rfl dX2_become_26 ?_
  refine aw_putI (pX2_15_2 _) (kG hg) rfl rfl rfl dX2_become_29 ?_
  refine aw_aload_n rfl dX2_become_32 ?_
  refine aw_aload_n rfl dX2_become_33 ?_
  refine aw_getI gX2_57_2 (kG ho) rfl dX2_become_34 ?_
  refine aw_putI (pX2_57_2 _) (kG hg) rfl rfl rfl dX2_become_37 ?_
  refine aw_iconst (v := 0) (by decide) dX2_become_40 ?_
  refine aw_istore_n (ble rfl) dX2_become_41 ?_
  simp only [pI_ne _ _ _ hne]
  rw [pI_5, g0, g1, g2, g3, g4]
  refine loop (mny s) 0 _ (by omega) (Fr.row (Or.inl rfl)) ?_ (fun k hk => absurd hk (by omega))
  unfold GH
  rw [rowI_get]
  refine ⟨?_, ?_, ?_, ?_, ?_⟩
  · rw [upd_ne (by decide), upd_ne (by decide), upd_ne (by decide), upd_ne (by decide), upd_eq]
  · rw [upd_ne (by decide), upd_ne (by decide), upd_ne (by decide), upd_eq]
  · rw [upd_ne (by decide), upd_ne (by decide), upd_eq]
  · rw [upd_ne (by decide), upd_eq]
  · rw [upd_eq]
theorem has_in {m k : Nat} (h4 : s 4 = nI m) (hm : m ≤ 10) (hk : k < m) : in1 (nI k) 0 (s 4 - 1) = true := by
  rw [has_t h4 hm, decide_eq_true (nI_pos (by omega)), decide_eq_true (nI_lt hk (by omega))]
  rfl
theorem c_canSwap {a b : Nat} (hg : gOk g) (h : GA μ g s) (hW : WFs s) (hx : x = nI a) (hy : y = nI b) (ha : a < mny s) (hb : b < mny s) (hQ : Q (some (.int (bI (mayR s a b)))) K0 μ) : AM Sc mX2_canSwap [.ref g, .int x, .int y] K0 μ n Q := by
  subst hx hy
  refine AM.of rfl (ble rfl) ?_
  have hm := hW.2.1
  obtain ⟨a1, a2, -, -⟩ := (h.2.2 a ha).1
  obtain ⟨b1, b2, -, -⟩ := (h.2.2 b hb).1
  refine aw_aload_n rfl dX2_canSwap_0 ?_
  refine aw_iload_n rfl dX2_canSwap_1 ?_
  refine aw_v1 kX2_96 ⟨ble rfl, ble rfl⟩ (rcG hg) (ble rfl) dX2_canSwap_2 (c_has hg h hW ?_)
  rw [has_in hW.1 hm ha]
  refine aw_if_eq 16 rfl dX2_canSwap_5 (fun c_ => absurd c_ ((by decide))) (fun _ => ?_)
  refine aw_aload_n rfl dX2_canSwap_8 ?_
  refine aw_iload_n rfl dX2_canSwap_9 ?_
  refine aw_v1 kX2_96 ⟨ble rfl, ble rfl⟩ (rcG hg) (ble rfl) dX2_canSwap_10 (c_has hg h hW ?_)
  rw [has_in hW.1 hm hb]
  refine aw_if_ne 18 rfl dX2_canSwap_13 (fun _ => ?_) (fun c_ => absurd c_ ((by decide)))
  refine aw_aload_n rfl dX2_canSwap_18 ?_
  refine aw_getR gX2_26_2 (kG hg) rfl (h.1.2.1) dX2_canSwap_19 ?_
  refine aw_iload_n rfl dX2_canSwap_22 ?_
  refine aw_aaloadN (kGp hg) (fun _ => rfl) rfl (by omega) (by decide) (h.pe (by omega)) dX2_canSwap_23 ?_
  refine aw_astore_n (ble rfl) dX2_canSwap_24 ?_
  refine aw_aload_n rfl dX2_canSwap_25 ?_
  refine aw_getR gX2_26_2 (kG hg) rfl (h.1.2.1) dX2_canSwap_26 ?_
  refine aw_iload_n rfl dX2_canSwap_29 ?_
  refine aw_aaloadN (kGp hg) (fun _ => rfl) rfl (by omega) (by decide) (h.pe (by omega)) dX2_canSwap_30 ?_
  refine aw_astore (ble rfl) dX2_canSwap_31 ?_
  unfold mayR at hQ
  have no : (decide (s (5 + 5 * a + 2) = 0) && (decide (s (5 + 5 * b + 2) = 1) && decide (s (5 + 5 * a + 1) = s (5 + 5 * b + 1)))) = false → AW Sc mX2_canSwap 65 [(0, .ref g)] [] K0 μ n Q := by
    intro e
    rw [e] at hQ
    refine aw_iconst (v := 0) (by decide) dX2_canSwap_65 ?_
    exact aw_zret (b := false) rfl dX2_canSwap_66 rfl hQ
  refine aw_aload_n rfl dX2_canSwap_33 ?_
  refine aw_getI gX2_79_4 (kP hg (i := a) (by omega)) rfl dX2_canSwap_34 ?_
  rw [a2]
  refine aw_if_ne 65 rfl dX2_canSwap_37 (fun c => ?_) (fun c => ?_)
  · refine aw_keep [0] ?_
    exact no (by rw [decide_eq_false c]; rfl)
  · refine aw_aload rfl dX2_canSwap_40 ?_
    refine aw_getI gX2_79_4 (kP hg (i := b) (by omega)) rfl dX2_canSwap_42 ?_
    refine aw_iconst (v := 1) (by decide) dX2_canSwap_45 ?_
    rw [b2]
    refine aw_icmp_ne 65 rfl dX2_canSwap_46 (fun c2 => ?_) (fun c2 => ?_)
    · refine aw_keep [0] ?_
      exact no (by rw [decide_eq_false c2, Bool.false_and, Bool.and_false])
    · refine aw_aload_n rfl dX2_canSwap_49 ?_
      refine aw_getI gX2_76_4 (kP hg (i := a) (by omega)) rfl dX2_canSwap_50 ?_
      refine aw_aload rfl dX2_canSwap_53 ?_
      refine aw_getI gX2_76_4 (kP hg (i := b) (by omega)) rfl dX2_canSwap_55 ?_
      rw [a1, b1]
      refine aw_icmp_ne 65 rfl dX2_canSwap_58 (fun c3 => ?_) (fun c3 => ?_)
      · refine aw_keep [0] ?_
        exact no (by rw [decide_eq_false c3, Bool.and_false, Bool.and_false])
      · rw [decide_eq_true c, decide_eq_true c2, decide_eq_true c3] at hQ
        refine aw_iconst (v := 1) (by decide) dX2_canSwap_61 ?_
        refine aw_goto 66 rfl dX2_canSwap_62 ?_
        exact aw_zret (b := true) rfl dX2_canSwap_66 rfl hQ
/-- one slot of a person: on -/
theorem GA.on {k : Nat} {v : Int32} (h : GA μ g s) (hk : k < mny s) : GA (pI μ (g + 9 + k) 2 v) g (upd s (5 + 5 * k + 2) v) := by
  obtain ⟨f1, f2, f3, f4⟩ := (h.2.2 k hk).1
  refine h.per (f := upd (μ.1 (g + 9 + k)) 2 v) (fun j hj => upd_ne (by omega)) ⟨?_, ?_, ?_, ?_⟩
  · rw [upd_ne (by decide), upd_ne (by omega)]; exact f1
  · rw [upd_eq, upd_eq]
  · rw [upd_ne (by decide), upd_ne (by omega)]; exact f3
  · rw [upd_ne (by decide), upd_ne (by omega)]; exact f4
theorem c_swap {a b : Nat} (hg : gOk g) (h : GA μ g s) (hW : WFs s) (hx : x = nI a) (hy : y = nI b) (ha : a < mny s) (hb : b < mny s) (hr : mayR s a b = true) (hQ : ∀ μ', Fr g μ μ' → GA μ' g (relS s a b) → Q none K0 μ') : AM Sc mX2_swap [.ref g, .int x, .int y] K0 μ n Q := by
  refine AM.of rfl (ble rfl) ?_
  have hm := hW.2.1
  refine aw_aload_n rfl dX2_swap_0 ?_
  refine aw_iload_n rfl dX2_swap_1 ?_
  refine aw_iload_n rfl dX2_swap_2 ?_
  refine aw_v2 kX2_99 ⟨ble rfl, ble rfl⟩ (rcG hg) (ble rfl) dX2_swap_3 (c_canSwap hg h hW hx hy ha hb ?_)
  rw [hr]
  refine aw_if_eq 29 rfl dX2_swap_6 (fun c_ => absurd c_ ((by decide))) (fun _ => ?_)
  refine aw_aload_n rfl dX2_swap_9 ?_
  refine aw_getR gX2_26_2 (kG hg) rfl (h.1.2.1) dX2_swap_10 ?_
  refine aw_iload_n rfl dX2_swap_13 ?_
  refine aw_aaloadN (kGp hg) (fun _ => rfl) hx (by omega) (by decide) (h.pe (by omega)) dX2_swap_14 ?_
  refine aw_iconst (v := 1) (by decide) dX2_swap_15 ?_
  refine aw_putI (pX2_79_4 _) (kP hg (i := a) (by omega)) rfl rfl rfl dX2_swap_16 ?_
  have h2 := h.on (v := 1) ha
  have F2 : Fr g μ (pI μ (g + 9 + a) 2 1) := Fr.row (f := upd (μ.1 (g + 9 + a)) 2 1) (Or.inr (by omega))
  generalize pI μ (g + 9 + a) 2 1 = ν at h2 F2 ⊢
  refine aw_aload_n rfl dX2_swap_19 ?_
  refine aw_getR gX2_26_2 (kG hg) rfl (h2.1.2.1) dX2_swap_20 ?_
  refine aw_iload_n rfl dX2_swap_23 ?_
  refine aw_aaloadN (kGp hg) (fun _ => rfl) hy (by omega) (by decide) (h2.pe (by omega)) dX2_swap_24 ?_
  refine aw_iconst (v := 0) (by decide) dX2_swap_25 ?_
  refine aw_putI (pX2_79_4 _) (kP hg (i := b) (by omega)) rfl rfl rfl dX2_swap_26 ?_
  have h3 := h2.on (v := 0) (k := b) (by rw [mny_upd (by omega)]; exact hb)
  refine aw_return dX2_swap_29 rfl ?_
  exact hQ _ (F2.trans (Fr.row (f := upd (ν.1 (g + 9 + b)) 2 0) (Or.inr (by omega)))) h3
theorem c_isWithin {v a b : Int32} (hQ : Q (some (.int (bI (in1 v a b)))) K0 μ) : AM Sc mX11_isWithin [.int v, .int a, .int b] K0 μ n Q := by
  refine AM.of rfl (ble rfl) ?_
  unfold in1 at hQ
  have no : (decide (a ≤ v) && decide (v ≤ b)) = false → AW Sc mX11_isWithin 14 [(0, .int v), (1, .int a), (2, .int b)] [] K0 μ n Q := by
    intro e
    rw [e] at hQ
    refine aw_iconst (v := 0) (by decide) dX11_isWithin_14 ?_
    exact aw_zret (b := false) rfl dX11_isWithin_15 rfl hQ
  refine aw_iload_n rfl dX11_isWithin_0 ?_
  refine aw_iload_n rfl dX11_isWithin_1 ?_
  refine aw_icmp_lt 14 rfl dX11_isWithin_2 (fun c => ?_) (fun c => ?_)
  · exact no (by rw [decide_eq_false (Int32.not_le.mpr c)]; rfl)
  · refine aw_iload_n rfl dX11_isWithin_5 ?_
    refine aw_iload_n rfl dX11_isWithin_6 ?_
    refine aw_icmp_gt 14 rfl dX11_isWithin_7 (fun c2 => ?_) (fun c2 => ?_)
    · exact no (by rw [decide_eq_false (Int32.not_le.mpr c2), Bool.and_false])
    · rw [decide_eq_true (Int32.not_lt.mp c), decide_eq_true (Int32.not_lt.mp c2)] at hQ
      refine aw_iconst (v := 1) (by decide) dX11_isWithin_10 ?_
      refine aw_goto 15 rfl dX11_isWithin_11 ?_
      exact aw_zret (b := true) rfl dX11_isWithin_15 rfl hQ
theorem c_isKind {v : Int32} (hQ : Q (some (.int (bI (in1 v 0 5)))) K0 μ) : AM Sc mX11_isKind [.int v] K0 μ n Q := by
  refine AM.of rfl (ble rfl) ?_
  refine aw_iload_n rfl dX11_isKind_0 ?_
  refine aw_iconst (v := 0) (by decide) dX11_isKind_1 ?_
  refine aw_iconst (v := 5) (by decide) dX11_isKind_2 ?_
  refine aw_s3 kX11_47 ⟨ble rfl, ble rfl⟩ (ble rfl) dX11_isKind_3 (c_isWithin ?_)
  exact aw_zret rfl dX11_isKind_6 rfl hQ
theorem c_isSheet {v : Int32} (hQ : Q (some (.int (bI (in1 v 0 3)))) K0 μ) : AM Sc mX11_isSheet [.int v] K0 μ n Q := by
  refine AM.of rfl (ble rfl) ?_
  refine aw_iload_n rfl dX11_isSheet_0 ?_
  refine aw_iconst (v := 0) (by decide) dX11_isSheet_1 ?_
  refine aw_iconst (v := 3) (by decide) dX11_isSheet_2 ?_
  refine aw_s3 kX11_47 ⟨ble rfl, ble rfl⟩ (ble rfl) dX11_isSheet_3 (c_isWithin ?_)
  exact aw_zret rfl dX11_isSheet_6 rfl hQ
theorem in1_01 (v : Int32) : in1 v 0 1 = (decide (v = 0) || decide (v = 1)) := by
  unfold in1
  rw [← Bool.decide_and, ← Bool.decide_or]
  refine decide_eq_decide.mpr ?_
  rw [fa_le, fa_le, fa_eq, fa_eq]
  show (0 : Int) ≤ _ ∧ _ ≤ (1 : Int) ↔ _ = (0 : Int) ∨ _ = (1 : Int)
  omega
theorem c_isSide {v : Int32} (hQ : Q (some (.int (bI (in1 v 0 1)))) K0 μ) : AM Sc mX11_isSide [.int v] K0 μ n Q := by
  refine AM.of rfl (ble rfl) ?_
  rw [in1_01] at hQ
  have yes : (decide (v = 0) || decide (v = 1)) = true → AW Sc mX11_isSide 9 [(0, .int v)] [] K0 μ n Q := by
    intro e
    rw [e] at hQ
    refine aw_iconst (v := 1) (by decide) dX11_isSide_9 ?_
    refine aw_goto 14 rfl dX11_isSide_10 ?_
    exact aw_zret (b := true) rfl dX11_isSide_14 rfl hQ
  refine aw_iload_n rfl dX11_isSide_0 ?_
  refine aw_if_eq 9 rfl dX11_isSide_1 (fun c => ?_) (fun c => ?_)
  · exact yes (by rw [decide_eq_true c]; rfl)
  · refine aw_iload_n rfl dX11_isSide_4 ?_
    refine aw_iconst (v := 1) (by decide) dX11_isSide_5 ?_
    refine aw_icmp_ne 13 rfl dX11_isSide_6 (fun c2 => ?_) (fun c2 => ?_)
    · rw [decide_eq_false c, decide_eq_false c2] at hQ
      refine aw_iconst (v := 0) (by decide) dX11_isSide_13 ?_
      exact aw_zret (b := false) rfl dX11_isSide_14 rfl hQ
    · exact yes (by rw [decide_eq_true c2, Bool.or_true])
end Cls7
