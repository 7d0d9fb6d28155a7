/-! THE CLASS, 3: a person's day -/
def KR (r : Nat → Nat → Option Nat) (q : Nat) (s : Nat → Int32) (i : Nat) : Prop := ∃ j k, gOk j ∧ k < 6 ∧ s (5 + 5 * i) = nI k ∧ r q 0 = some (j + 3 + k)
theorem tires_c (s : Nat → Int32) (i : Nat) : ∃ c : Nat, c < 8 ∧ tires s i = nI c := by
  unfold tires
  split
  · exact ⟨3, by decide, rfl⟩
  split
  · split
    · exact ⟨7, by decide, rfl⟩
    · exact ⟨4, by decide, rfl⟩
  split
  · exact ⟨2, by decide, rfl⟩
  split
  · split
    · exact ⟨0, by decide, rfl⟩
    · exact ⟨3, by decide, rfl⟩
  split
  · split
    · exact ⟨5, by decide, rfl⟩
    · exact ⟨2, by decide, rfl⟩
  exact ⟨4, by decide, rfl⟩
theorem held_dn : ∀ k : Nat, k < 100 → held (nI k - 10) 0 99 = if nI k ≤ 10 then 0 else nI k - 10 := by decide +kernel
theorem held_up : ∀ k : Nat, k < 100 → ∀ c : Nat, c < 8 → held (nI k + nI c) 0 99 = if (99 : Int32) ≤ nI k + nI c then 99 else nI k + nI c := by decide +kernel
theorem hld_rng : ∀ k : Nat, k < 100 → ∀ c : Nat, c < 8 → ∃ t : Nat, t ≤ 99 ∧ held (nI k + nI c) 0 99 = nI t := by
  intro k hk c hc
  have h : ∀ k : Nat, k < 100 → ∀ c : Nat, c < 8 → held (nI k + nI c) 0 99 = nI (min 99 (k + c)) := by decide +kernel
  exact ⟨_, by omega, h k hk c hc⟩
theorem held_rng2 : ∀ k : Nat, k < 100 → ∃ t : Nat, t ≤ 99 ∧ held (nI k - 10) 0 99 = nI t := by
  intro k hk
  have h : ∀ k : Nat, k < 100 → held (nI k - 10) 0 99 = nI (k - 10) := by decide +kernel
  exact ⟨_, by omega, h k hk⟩
section Cls3
variable {Sc : SCR} {μ μ0 : Mem} {n : Nat × Nat} {Q : PQ} {s : Nat → Int32} {g q i r ci : Nat} {x : Int32}
def FP (f : Nat → Int32) (s : Nat → Int32) (i : Nat) : Prop := f 1 = s (5 + 5 * i + 1) ∧ f 2 = s (5 + 5 * i + 2) ∧ f 3 = s (5 + 5 * i + 3) ∧ f 4 = s (5 + 5 * i + 4)
theorem gP_ne (hg : gOk g) (hi : i < 10) : g ≠ g + 9 + i := by omega
theorem c_spendDay (hg : gOk g) (hi : i < 10) (hq : q = g + 9 + i) (hG : GH μ g s) (h : FP (μ.1 q) s i) (hk : KR μ.2.2 q s i) (hn : -9999 ≤ s 1 ∧ s 1 ≤ 9999) (hp : WFp s i) (hQ : ∀ f, FP f (lives s i) i → Q none K0 (rowI μ q f)) : AM Sc mX4_spendDay [.ref q, .ref g] K0 μ n Q := by
  refine AM.of rfl (ble rfl) ?_
  have hq4 : K0[q]? = some (.inl 4) := by rw [hq]; exact kP hg hi
  obtain ⟨h1, h2, h3, h4⟩ := h
  obtain ⟨p0, p1, p2, ⟨t, ht, htt⟩, p4⟩ := hp
  unfold lives at hQ
  refine aw_aload_n rfl dX4_spendDay_0 ?_
  refine aw_getI gX4_19_4 hq4 rfl dX4_spendDay_1 ?_
  rw [h2]
  refine aw_if_ne 32 rfl dX4_spendDay_4 (fun c => ?_) (fun c => ?_)
  · have c1 : s (5 + 5 * i + 2) = 1 := p2.resolve_left c
    rw [if_pos c1] at hQ
    obtain ⟨j, k, hj, hk6, hsk, hrk⟩ := hk
    obtain ⟨cc, hcc, htc⟩ := tires_c s i
    refine aw_aload_n rfl dX4_spendDay_32 ?_
    refine aw_getI gX4_22_4 hq4 rfl dX4_spendDay_33 ?_
    refine aw_aload_n rfl dX4_spendDay_36 ?_
    refine aw_getR gX4_9_4 hq4 rfl (hrk) dX4_spendDay_37 ?_
    refine aw_aload_n rfl dX4_spendDay_40 ?_
    refine v_tireP hj hk6 hg hG hsk rfl ⟨⟨ble rfl, ble rfl⟩, ⟨ble rfl, ble rfl⟩, ⟨ble rfl, ble rfl⟩, ⟨ble rfl, ble rfl⟩, ⟨ble rfl, ble rfl⟩, ⟨ble rfl, ble rfl⟩⟩ (ble rfl) dX4_spendDay_41 ?_
    rw [h3]
    have hh := held_up t (by omega) cc hcc
    rw [← htt, ← htc] at hh
    have hv : tiredS s i (5 + 5 * i + 3) = held (s (5 + 5 * i + 3) + tires s i) 0 99 := upd_eq
    have fin : ∀ y : Int32, y = held (s (5 + 5 * i + 3) + tires s i) 0 99 → ∀ x : Int32, AW Sc mX4_spendDay 59 [(0, .ref q), (1, .ref g), (2, .int x)] [.int y, .ref q] K0 μ n Q := by
      intro y hy x
      refine aw_putI (pX4_22_4 _) hq4 rfl rfl rfl dX4_spendDay_59 ?_
      have e1 : (pI μ q 3 y).1 q = upd (μ.1 q) 3 y := pI_row _ _ _ _
      have fp : FP ((pI μ q 3 y).1 q) (tiredS s i) i := by
        rw [e1]
        refine ⟨?_, ?_, ?_, ?_⟩
        · rw [upd_ne (by decide), h1]; exact (upd_ne (by omega)).symm
        · rw [upd_ne (by decide), h2]; exact (upd_ne (by omega)).symm
        · rw [upd_eq, hy, hv]
        · rw [upd_ne (by decide), h4]; exact (upd_ne (by omega)).symm
      have hG2 : GH (pI μ q 3 y) g (tiredS s i) := by
        have e : (pI μ q 3 y).1 g = μ.1 g := pI_ne _ _ _ (by omega)
        unfold GH
        rw [e]
        unfold tiredS
        rw [upd_ne (by omega), upd_ne (by omega), upd_ne (by omega), upd_ne (by omega), upd_ne (by omega)]
        exact hG
      have hsk2 : tiredS s i (5 + 5 * i) = nI k := (upd_ne (by omega)).trans hsk
      have hn2 : -9999 ≤ tiredS s i 1 ∧ tiredS s i 1 ≤ 9999 := by
        rw [show tiredS s i 1 = s 1 from upd_ne (by omega)]; exact hn
      have hd2 : tiredS s i (5 + 5 * i + 1) = 0 ∨ tiredS s i (5 + 5 * i + 1) = 1 := by
        rw [show tiredS s i (5 + 5 * i + 1) = s (5 + 5 * i + 1) from upd_ne (by omega)]; exact p1
      have e0 : pI μ q 3 y = rowI μ q (upd (μ.1 q) 3 y) := rfl
      refine aw_aload_n rfl dX4_spendDay_62 ?_
      refine aw_getR gX4_9_4 hq4 rfl (hrk) dX4_spendDay_63 ?_
      refine aw_aload_n rfl dX4_spendDay_66 ?_
      refine aw_aload_n rfl dX4_spendDay_67 ?_
      refine v_letsP hj hk6 hn2 hd2 hg hG2 hq4 fp hsk2 rfl ⟨⟨ble rfl, ble rfl⟩, ⟨ble rfl, ble rfl⟩, ⟨ble rfl, ble rfl⟩, ⟨ble rfl, ble rfl⟩, ⟨ble rfl, ble rfl⟩, ⟨ble rfl, ble rfl⟩⟩ (ble rfl) dX4_spendDay_68 ?_
      obtain ⟨q1, q2, q3, q4⟩ := fp
      rw [e1] at q1 q2 q3 q4
      refine aw_zeq 79 rfl dX4_spendDay_71 (fun c5 => ?_) (fun c5 => ?_)
      · rw [c5, if_neg (by decide)] at hQ
        refine aw_return dX4_spendDay_79 rfl ?_
        rw [e0]
        exact hQ _ ⟨q1.trans (upd_ne (by omega)).symm, (upd_ne (by decide)).trans (h2.trans (c1.trans upd_eq.symm)), q3.trans (upd_ne (by omega)).symm, q4.trans (upd_ne (by omega)).symm⟩
      · rw [c5, if_pos rfl] at hQ
        refine aw_aload_n rfl dX4_spendDay_74 ?_
        refine aw_iconst (v := 0) (by decide) dX4_spendDay_75 ?_
        refine aw_putI (pX4_19_4 _) hq4 rfl rfl rfl dX4_spendDay_76 ?_
        refine aw_return dX4_spendDay_79 rfl ?_
        have e2 : pI (pI μ q 3 y) q 2 0 = rowI μ q (upd (upd (μ.1 q) 3 y) 2 0) := by
          show rowI (rowI μ q (upd (μ.1 q) 3 y)) q (upd ((rowI μ q (upd (μ.1 q) 3 y)).1 q) 2 0) = _
          rw [rowI_get, rowI_rowI]
        rw [e2]
        exact hQ _ ⟨(upd_ne (by decide)).trans (q1.trans (upd_ne (by omega)).symm), upd_eq.trans upd_eq.symm, (upd_ne (by decide)).trans (q3.trans (upd_ne (by omega)).symm), (upd_ne (by decide)).trans (q4.trans (upd_ne (by omega)).symm)⟩
    refine aw_iadd dX4_spendDay_44 ?_
    refine aw_istore_n (ble rfl) dX4_spendDay_45 ?_
    refine aw_aload_n rfl dX4_spendDay_46 ?_
    refine aw_iload_n rfl dX4_spendDay_47 ?_
    refine aw_bipush (v := 99) (by decide) dX4_spendDay_48 ?_
    refine aw_icmp_ge 57 rfl dX4_spendDay_50 (fun c6 => ?_) (fun c6 => ?_)
    · refine aw_bipush (v := 99) (by decide) dX4_spendDay_57 ?_
      exact fin _ (by rw [hh, if_pos c6]) _
    · refine aw_iload_n rfl dX4_spendDay_53 ?_
      refine aw_goto 59 rfl dX4_spendDay_54 ?_
      exact fin _ (by rw [hh, if_neg c6]) _
  · rw [if_neg (by rw [c]; decide)] at hQ
    have hh := held_dn t (by omega)
    rw [← htt] at hh
    have fin : ∀ y : Int32, y = held (s (5 + 5 * i + 3) - 10) 0 99 → AW Sc mX4_spendDay 28 [(0, .ref q), (1, .ref g)] [.int y, .ref q] K0 μ n Q := by
      intro y hy
      refine aw_putI (pX4_22_4 _) hq4 rfl rfl rfl dX4_spendDay_28 ?_
      refine aw_return dX4_spendDay_31 rfl ?_
      refine hQ (upd (μ.1 q) 3 y) ⟨?_, ?_, ?_, ?_⟩
      · rw [upd_ne (by decide), upd_ne (by omega), h1]
      · rw [upd_ne (by decide), upd_ne (by omega), h2]
      · rw [upd_eq, upd_eq, hy]
      · rw [upd_ne (by decide), upd_ne (by omega), h4]
    refine aw_aload_n rfl dX4_spendDay_7 ?_
    refine aw_aload_n rfl dX4_spendDay_8 ?_
    refine aw_getI gX4_22_4 hq4 rfl dX4_spendDay_9 ?_
    refine aw_bipush (v := 10) (by decide) dX4_spendDay_12 ?_
    rw [h3]
    refine aw_icmp_le 27 rfl dX4_spendDay_14 (fun c6 => ?_) (fun c6 => ?_)
    · refine aw_iconst (v := 0) (by decide) dX4_spendDay_27 ?_
      exact fin _ (by rw [hh, if_pos c6])
    · refine aw_aload_n rfl dX4_spendDay_17 ?_
      refine aw_getI gX4_22_4 hq4 rfl dX4_spendDay_18 ?_
      refine aw_bipush (v := 10) (by decide) dX4_spendDay_21 ?_
      refine aw_isub dX4_spendDay_23 ?_
      refine aw_goto 28 rfl dX4_spendDay_24 ?_
      rw [h3]
      exact fin _ (by rw [hh, if_neg c6])
end Cls3
