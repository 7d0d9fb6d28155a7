/-! THE CONSTRUCTORS, 2: the class -/
section CtorX
variable {Sc : SCR} {K : List kd} {μ μ' ν ν' : Mem} {n : Nat × Nat} {Q : PQ} {q i a : Nat} {P : Nat → Prop}
theorem i_best (hQ : Q none K μ) : AM Sc mX0_init [.ref q] K μ n Q := by
  refine AM.of rfl (ble rfl) ?_
  refine aw_aload_n rfl dX0_init_0 ?_
  refine aw_objInit kX0_1 (ble rfl) ⟨ble rfl, ble rfl⟩ dX0_init_1 ?_
  refine aw_return dX0_init_4 rfl ?_
  exact hQ
theorem i_tape (hQ : Q none (Kp 61) (pR (p0 μ 60) 59 0 (some 60))) : AM Sc mX9_init [.ref 59] (Kp 60) μ (1, 120) Q := by
  refine AM.of rfl (ble rfl) ?_
  refine aw_aload_n rfl dX9_init_0 ?_
  refine aw_objInit kX9_3 (ble rfl) ⟨ble rfl, ble rfl⟩ dX9_init_1 ?_
  refine aw_aload_n rfl dX9_init_4 ?_
  refine aw_bipush (v := 120) (by decide) dX9_init_5 ?_
  refine aw_newIP (m := 60) (N := 120) (0, 0) rfl (by decide) rfl ⟨ble rfl, ble rfl⟩ dX9_init_7 ?_
  refine aw_putR pX9_9_9i (kp kTp (by decide)) rfl (fun _ => rfl) (fun _ => rfl) dX9_init_9 ?_
  refine aw_return dX9_init_12 rfl ?_
  exact hQ
theorem i_sheet (hi : i < 4) (hQ : Q none (Kp (65 + 2 * i)) (pR (p0 μ (64 + 2 * i)) (63 + 2 * i) 2 (some (64 + 2 * i)))) : AM Sc mX6_init [.ref (63 + 2 * i)] (Kp (64 + 2 * i)) μ (1, 40) Q := by
  refine AM.of rfl (ble rfl) ?_
  refine aw_aload_n rfl dX6_init_0 ?_
  refine aw_objInit kX6_3 (ble rfl) ⟨ble rfl, ble rfl⟩ dX6_init_1 ?_
  refine aw_aload_n rfl dX6_init_4 ?_
  refine aw_bipush (v := 40) (by decide) dX6_init_5 ?_
  refine aw_newJP (m := 64 + 2 * i) (N := 40) (0, 0) rfl (by decide) (kNu hi) ⟨ble rfl, ble rfl⟩ dX6_init_7 ?_
  refine aw_putR pX6_9_6i (kp (kSh hi) (by omega)) rfl (fun _ => rfl) (fun _ => rfl) dX6_init_9 ?_
  refine aw_return dX6_init_12 rfl ?_
  rw [show 64 + 2 * i + 1 = 65 + 2 * i by omega]
  exact hQ
def C0 (a : Nat) (ν : Mem) : Prop := ν.1 0 = (fun _ => 0) ∧ (1 ≤ a → ν.2.2 0 0 = some 1 ∧ GI ν 1) ∧ (2 ≤ a → ν.2.2 0 1 = some 20 ∧ GI ν 20) ∧ (3 ≤ a → ν.2.2 0 2 = some 39 ∧ GI ν 39) ∧ (4 ≤ a → ν.2.2 0 4 = some 58) ∧ (5 ≤ a → ν.2.2 0 5 = some 59 ∧ ν.2.2 59 0 = some 60 ∧ ν.1 59 1 = 0 ∧ ∀ k, ν.1 60 k = 0) ∧ (6 ≤ a → ν.2.2 0 6 = some 61) ∧ (7 ≤ a → ν.2.2 0 7 = some 62 ∧ ∀ k, ν.1 62 k = 0)
theorem C0.sm (h : C0 a ν) (hs : Sm P ν ν') (hp0 : P 0) (h1 : 1 ≤ a → ∀ q, 1 ≤ q → q < 20 → P q) (h2 : 2 ≤ a → ∀ q, 20 ≤ q → q < 39 → P q) (h3 : 3 ≤ a → ∀ q, 39 ≤ q → q < 58 → P q) (h5 : 5 ≤ a → P 59 ∧ P 60) (h7 : 7 ≤ a → P 62) : C0 a ν' := by
  obtain ⟨z, b1, b2, b3, b4, b5, b6, b7⟩ := h
  have e0 := hs 0 hp0
  unfold C0
  rw [e0.1, e0.2.2]
  refine ⟨z, fun ha => ⟨(b1 ha).1, (b1 ha).2.sm hs (fun q q1 q2 => h1 ha q q1 q2)⟩, fun ha => ⟨(b2 ha).1, (b2 ha).2.sm hs (fun q q1 q2 => h2 ha q q1 q2)⟩, fun ha => ⟨(b3 ha).1, (b3 ha).2.sm hs (fun q q1 q2 => h3 ha q q1 q2)⟩, b4, fun ha => ?_, b6, fun ha => ?_⟩
  · rw [(hs 59 (h5 ha).1).1, (hs 59 (h5 ha).1).2.2, (hs 60 (h5 ha).2).1]; exact b5 ha
  · rw [(hs 62 (h7 ha)).1]; exact b7 ha
/-- a field of the object itself -/
theorem C0.fld {c : Nat} {r : Option Nat} (h : C0 a ν) (h1 : 1 ≤ a → c ≠ 0) (h2 : 2 ≤ a → c ≠ 1) (h3 : 3 ≤ a → c ≠ 2) (h4 : 4 ≤ a → c ≠ 4) (h5 : 5 ≤ a → c ≠ 5) (h6 : 6 ≤ a → c ≠ 6) (h7 : 7 ≤ a → c ≠ 7) : C0 a (pR ν 0 c r) := by
  have hs : Sm (fun q => q ≠ 0) ν (pR ν 0 c r) := sm_pR (fun h => h rfl)
  obtain ⟨z, b1, b2, b3, b4, b5, b6, b7⟩ := h
  refine ⟨z, fun ha => ⟨?_, (b1 ha).2.sm hs (fun q q1 q2 => by show q ≠ 0; omega)⟩, fun ha => ⟨?_, (b2 ha).2.sm hs (fun q q1 q2 => by show q ≠ 0; omega)⟩, fun ha => ⟨?_, (b3 ha).2.sm hs (fun q q1 q2 => by show q ≠ 0; omega)⟩, fun ha => ?_, fun ha => ⟨?_, ?_⟩, fun ha => ?_, fun ha => ⟨?_, (b7 ha).2⟩⟩
  · rw [pR_at _ _ _ (fun e => h1 ha e.symm)]; exact (b1 ha).1
  · rw [pR_at _ _ _ (fun e => h2 ha e.symm)]; exact (b2 ha).1
  · rw [pR_at _ _ _ (fun e => h3 ha e.symm)]; exact (b3 ha).1
  · rw [pR_at _ _ _ (fun e => h4 ha e.symm)]; exact b4 ha
  · rw [pR_at _ _ _ (fun e => h5 ha e.symm)]; exact (b5 ha).1
  · rw [(hs 59 (by decide)).2.2]; exact (b5 ha).2
  · rw [pR_at _ _ _ (fun e => h6 ha e.symm)]; exact b6 ha
  · rw [pR_at _ _ _ (fun e => h7 ha e.symm)]; exact (b7 ha).1
def C2 (i : Nat) (ν : Mem) : Prop := C0 7 ν ∧ ∀ k, k < i → (ν.2.2 61 k = some (63 + 2 * k) ∧ ν.2.2 (63 + 2 * k) 2 = some (64 + 2 * k)) ∧ (ν.1 (63 + 2 * k) 0 = 0 ∧ ν.1 (63 + 2 * k) 1 = 0) ∧ ∀ j, ν.2.1 (64 + 2 * k) j = 0
theorem C2.step (h : C2 i ν) (hi : i < 4) : C2 (i + 1) (pR (pR (p0 (p0 ν (63 + 2 * i)) (64 + 2 * i)) (63 + 2 * i) 2 (some (64 + 2 * i))) 61 i (some (63 + 2 * i))) := by
  have hs1 : Sm (fun q => q < 63 + 2 * i) ν (pR (p0 (p0 ν (63 + 2 * i)) (64 + 2 * i)) (63 + 2 * i) 2 (some (64 + 2 * i))) := ((sm_p0 (by omega)).trans (sm_p0 (by omega))).trans (sm_pR (by omega))
  have r1 : (pR (p0 (p0 ν (63 + 2 * i)) (64 + 2 * i)) (63 + 2 * i) 2 (some (64 + 2 * i))).2.2 (63 + 2 * i) 2 = some (64 + 2 * i) := pR_get _ _ _ _
  have r2 : (pR (p0 (p0 ν (63 + 2 * i)) (64 + 2 * i)) (63 + 2 * i) 2 (some (64 + 2 * i))).1 (63 + 2 * i) = fun _ => 0 := by
    show (p0 (p0 ν (63 + 2 * i)) (64 + 2 * i)).1 (63 + 2 * i) = _
    rw [(sm_p0 (P := fun q => q ≠ 64 + 2 * i) (fun h => h rfl) (63 + 2 * i) (by show 63 + 2 * i ≠ 64 + 2 * i; omega)).1]
    exact p0_1 _ _
  have r3 : (pR (p0 (p0 ν (63 + 2 * i)) (64 + 2 * i)) (63 + 2 * i) 2 (some (64 + 2 * i))).2.1 (64 + 2 * i) = fun _ => 0 := p0_2 _ _
  generalize pR (p0 (p0 ν (63 + 2 * i)) (64 + 2 * i)) (63 + 2 * i) 2 (some (64 + 2 * i)) = β at hs1 r1 r2 r3 ⊢
  have hs2 : Sm (fun q => q ≠ 61) β (pR β 61 i (some (63 + 2 * i))) := sm_pR (fun h => h rfl)
  obtain ⟨b, d⟩ := h
  refine ⟨?_, fun k hk => ?_⟩
  · refine (b.sm hs1 (by show 0 < _; omega) (fun _ q _ _ => by show q < _; omega) (fun _ q _ _ => by show q < _; omega) (fun _ q _ _ => by show q < _; omega) (fun _ => ⟨by show 59 < _; omega, by show 60 < _; omega⟩) (fun _ => by show 62 < _; omega)).sm hs2 (by decide) (fun _ q _ _ => by show q ≠ _; omega) (fun _ q _ _ => by show q ≠ _; omega) (fun _ q _ _ => by show q ≠ _; omega) (fun _ => ⟨by decide, by decide⟩) (fun _ => by decide)
  · rw [(hs2 (63 + 2 * k) (by show 63 + 2 * k ≠ 61; omega)).2.2, (hs2 (63 + 2 * k) (by show 63 + 2 * k ≠ 61; omega)).1, (hs2 (64 + 2 * k) (by show 64 + 2 * k ≠ 61; omega)).2.1]
    by_cases e : k = i
    · subst e
      refine ⟨⟨pR_get _ _ _ _, r1⟩, ?_, fun j => ?_⟩
      · rw [r2]; exact ⟨rfl, rfl⟩
      · rw [r3]
    · rw [pR_at _ _ _ e, (hs1 61 (by show 61 < _; omega)).2.2, (hs1 (63 + 2 * k) (by show 63 + 2 * k < _; omega)).2.2, (hs1 (63 + 2 * k) (by show 63 + 2 * k < _; omega)).1, (hs1 (64 + 2 * k) (by show 64 + 2 * k < _; omega)).2.1]
      exact d k (by omega)
def CB (μ : Mem) : Prop := XR μ.2.2 ∧ (∀ j k, gOk j → k < 6 → μ.1 (j + 3 + k) 0 = nI k) ∧ GA μ 1 s0 ∧ μ.1 0 3 = 0 ∧ (∀ k, k < 7 → μ.1 62 k = 0) ∧ μ.1 59 1 = 0 ∧ (∀ k, k < 120 → μ.1 60 k = 0) ∧ (∀ i, i < 4 → μ.1 (63 + 2 * i) 0 = 0 ∧ μ.1 (63 + 2 * i) 1 = 0) ∧ ∀ i, i < 4 → ∀ j, j < 40 → μ.2.1 (64 + 2 * i) j = 0
theorem C2.cb (h : C2 4 ν) : CB ν := by
  obtain ⟨⟨z, b1, b2, b3, b4, b5, b6, b7⟩, d⟩ := h
  have b1 := b1 (by decide)
  have b2 := b2 (by decide)
  have b3 := b3 (by decide)
  have b4 := b4 (by decide)
  have b5 := b5 (by decide)
  have b6 := b6 (by decide)
  have b7 := b7 (by decide)
  refine ⟨⟨⟨b1.1, b2.1, b3.1, b4, b5.1, b6, b7.1⟩, ⟨b1.2.1, b2.2.1, b3.2.1⟩, b5.2.1, fun i hi => (d i hi).1.1, fun i hi => (d i hi).1.2⟩, fun j k hj hk => ?_, ⟨b1.2.1, b1.2.2.2, fun i hi => absurd hi (Nat.not_lt_zero i)⟩, by rw [z], fun k _ => b7.2 k, b5.2.2.1, fun k _ => b5.2.2.2 k, fun i hi => (d i hi).2.1, fun i hi j _ => (d i hi).2.2 j⟩
  rcases hj with rfl | rfl | rfl
  · exact b1.2.2.1 k hk
  · exact b2.2.2.1 k hk
  · exact b3.2.2.1 k hk
theorem i_class (h0 : μ.1 0 = fun _ => 0) (hQ : ∀ μ', CB μ' → Q none (Kp 71) μ') : AM Sc mX11_init [.ref 0] (Kp 1) μ (70, 549) Q := by
  refine AM.of rfl (ble rfl) ?_
  have c0 : C0 0 μ := ⟨h0, fun h => absurd h (by decide), fun h => absurd h (by decide), fun h => absurd h (by decide), fun h => absurd h (by decide), fun h => absurd h (by decide), fun h => absurd h (by decide), fun h => absurd h (by decide)⟩
  refine aw_aload_n rfl dX11_init_0 ?_
  refine aw_objInit kX11_1 (ble rfl) ⟨ble rfl, ble rfl⟩ dX11_init_1 ?_
  refine aw_aload_n rfl dX11_init_4 ?_
  refine aw_newP (m := 1) (69, 542) nX11_7 rfl ⟨ble rfl, ble rfl⟩ dX11_init_5 ?_
  refine aw_dup rfl dX11_init_8 ?_
  refine aw_i0 (18, 72) (51, 470) kX11_9 ⟨ble rfl, ble rfl⟩ (ble rfl) ⟨ble rfl, ble rfl⟩ dX11_init_9 (i_green g1 (p0_1 _ _) (fun μ1 A1 G1 => ?_))
  refine aw_putR pX11_10_11i (kp kX (by decide)) rfl (fun _ => rfl) (fun _ => rfl) dX11_init_12 ?_
  refine aw_aload_n rfl dX11_init_15 ?_
  have c1 : C0 1 (pR μ1 0 0 (some 1)) := by
    have e := ((c0.sm (sm_p0 (P := fun q => q < 1) (a := 1) (by decide)) (by decide) (fun h => absurd h (by decide)) (fun h => absurd h (by decide)) (fun h => absurd h (by decide)) (fun h => absurd h (by decide)) (fun h => absurd h (by decide))).sm A1 (by decide) (fun h => absurd h (by decide)) (fun h => absurd h (by decide)) (fun h => absurd h (by decide)) (fun h => absurd h (by decide)) (fun h => absurd h (by decide)))
    exact ⟨e.1, fun _ => ⟨pR_get _ _ _ _, G1.sm (sm_pR (P := fun q => q ≠ 0) (fun h => h rfl)) (fun q q1 _ => by show q ≠ 0; omega)⟩, fun h => absurd h (by decide), fun h => absurd h (by decide), fun h => absurd h (by decide), fun h => absurd h (by decide), fun h => absurd h (by decide), fun h => absurd h (by decide)⟩
  generalize pR μ1 0 0 (some 1) = ν1 at c1 ⊢
  refine aw_newP (m := 20) (50, 463) nX11_7 rfl ⟨ble rfl, ble rfl⟩ dX11_init_16 ?_
  refine aw_dup rfl dX11_init_19 ?_
  refine aw_i0 (18, 72) (32, 391) kX11_9 ⟨ble rfl, ble rfl⟩ (ble rfl) ⟨ble rfl, ble rfl⟩ dX11_init_20 (i_green g20 (p0_1 _ _) (fun μ2 A2 G2 => ?_))
  refine aw_putR pX11_16_11i (kp kX (by decide)) rfl (fun _ => rfl) (fun _ => rfl) dX11_init_23 ?_
  refine aw_aload_n rfl dX11_init_26 ?_
  have c2 : C0 2 (pR μ2 0 1 (some 20)) := by
    have e := ((c1.sm (sm_p0 (P := fun q => q < 20) (a := 20) (by decide)) (by decide) (fun _ q _ h => h) (fun h => absurd h (by decide)) (fun h => absurd h (by decide)) (fun h => absurd h (by decide)) (fun h => absurd h (by decide))).sm A2 (by decide) (fun _ q _ h => h) (fun h => absurd h (by decide)) (fun h => absurd h (by decide)) (fun h => absurd h (by decide)) (fun h => absurd h (by decide)))
    have e := e.fld (c := 1) (r := some 20) (by decide) (by decide) (by decide) (by decide) (by decide) (by decide) (by decide)
    exact ⟨e.1, fun _ => e.2.1 (by decide), fun _ => ⟨pR_get _ _ _ _, G2.sm (sm_pR (P := fun q => q ≠ 0) (fun h => h rfl)) (fun q q1 _ => by show q ≠ 0; omega)⟩, fun h => absurd h (by decide), fun h => absurd h (by decide), fun h => absurd h (by decide), fun h => absurd h (by decide), fun h => absurd h (by decide)⟩
  generalize pR μ2 0 1 (some 20) = ν2 at c2 ⊢
  refine aw_newP (m := 39) (31, 384) nX11_7 rfl ⟨ble rfl, ble rfl⟩ dX11_init_27 ?_
  refine aw_dup rfl dX11_init_30 ?_
  refine aw_i0 (18, 72) (13, 312) kX11_9 ⟨ble rfl, ble rfl⟩ (ble rfl) ⟨ble rfl, ble rfl⟩ dX11_init_31 (i_green g39 (p0_1 _ _) (fun μ3 A3 G3 => ?_))
  refine aw_putR pX11_19_11i (kp kX (by decide)) rfl (fun _ => rfl) (fun _ => rfl) dX11_init_34 ?_
  refine aw_aload_n rfl dX11_init_37 ?_
  have c3 : C0 3 (pR μ3 0 2 (some 39)) := by
    have e := ((c2.sm (sm_p0 (P := fun q => q < 39) (a := 39) (by decide)) (by decide) (fun _ q _ h => by show q < 39; omega) (fun _ q _ h => h) (fun h => absurd h (by decide)) (fun h => absurd h (by decide)) (fun h => absurd h (by decide))).sm A3 (by decide) (fun _ q _ h => by show q < 39; omega) (fun _ q _ h => h) (fun h => absurd h (by decide)) (fun h => absurd h (by decide)) (fun h => absurd h (by decide)))
    have e := e.fld (c := 2) (r := some 39) (by decide) (by decide) (by decide) (by decide) (by decide) (by decide) (by decide)
    exact ⟨e.1, fun _ => e.2.1 (by decide), fun _ => e.2.2.1 (by decide), fun _ => ⟨pR_get _ _ _ _, G3.sm (sm_pR (P := fun q => q ≠ 0) (fun h => h rfl)) (fun q q1 _ => by show q ≠ 0; omega)⟩, fun h => absurd h (by decide), fun h => absurd h (by decide), fun h => absurd h (by decide), fun h => absurd h (by decide)⟩
  generalize pR μ3 0 2 (some 39) = ν3 at c3 ⊢
  refine aw_newP (m := 58) (12, 309) nX11_22 rfl ⟨ble rfl, ble rfl⟩ dX11_init_38 ?_
  refine aw_dup rfl dX11_init_41 ?_
  refine aw_in0 (0, 0) (12, 309) kX11_24 ⟨ble rfl, ble rfl⟩ (ble rfl) ⟨ble rfl, ble rfl⟩ dX11_init_42 (i_best ?_)
  refine aw_putR pX11_25_11i (kp kX (by decide)) rfl (fun _ => rfl) (fun _ => rfl) dX11_init_45 ?_
  refine aw_aload_n rfl dX11_init_48 ?_
  have c4 : C0 4 (pR (p0 ν3 58) 0 4 (some 58)) := by
    have e := c3.sm (sm_p0 (P := fun q => q < 58) (a := 58) (by decide)) (by decide) (fun _ q _ h => by show q < 58; omega) (fun _ q _ h => by show q < 58; omega) (fun _ q _ h => h) (fun h => absurd h (by decide)) (fun h => absurd h (by decide))
    have e := e.fld (c := 4) (r := some 58) (by decide) (by decide) (by decide) (by decide) (by decide) (by decide) (by decide)
    exact ⟨e.1, fun _ => e.2.1 (by decide), fun _ => e.2.2.1 (by decide), fun _ => e.2.2.2.1 (by decide), fun _ => pR_get _ _ _ _, fun h => absurd h (by decide), fun h => absurd h (by decide), fun h => absurd h (by decide)⟩
  generalize pR (p0 ν3 58) 0 4 (some 58) = ν4 at c4 ⊢
  refine aw_newP (m := 59) (11, 303) nX11_29 rfl ⟨ble rfl, ble rfl⟩ dX11_init_49 ?_
  refine aw_dup rfl dX11_init_52 ?_
  refine aw_in0 (1, 120) (10, 183) kX11_31 ⟨ble rfl, ble rfl⟩ (ble rfl) ⟨ble rfl, ble rfl⟩ dX11_init_53 (i_tape ?_)
  refine aw_putR pX11_32_11i (kp kX (by decide)) rfl (fun _ => rfl) (fun _ => rfl) dX11_init_56 ?_
  refine aw_aload_n rfl dX11_init_59 ?_
  have c5 : C0 5 (pR (pR (p0 (p0 ν4 59) 60) 59 0 (some 60)) 0 5 (some 59)) := by
    have e := c4.sm (((sm_p0 (P := fun q => q < 59) (a := 59) (by decide)).trans (sm_p0 (a := 60) (by decide))).trans (sm_pR (a := 59) (k := 0) (v := some 60) (by decide))) (by decide) (fun _ q _ h => by show q < 59; omega) (fun _ q _ h => by show q < 59; omega) (fun _ q _ h => by show q < 59; omega) (fun h => absurd h (by decide)) (fun h => absurd h (by decide))
    have e := e.fld (c := 5) (r := some 59) (by decide) (by decide) (by decide) (by decide) (by decide) (by decide) (by decide)
    refine ⟨e.1, fun _ => e.2.1 (by decide), fun _ => e.2.2.1 (by decide), fun _ => e.2.2.2.1 (by decide), fun _ => e.2.2.2.2.1 (by decide), fun _ => ⟨pR_get _ _ _ _, ?_, ?_, fun k => ?_⟩, fun h => absurd h (by decide), fun h => absurd h (by decide)⟩
    · rw [pR_ne _ _ _ (by decide)]; exact pR_get _ _ _ _
    · show (p0 (p0 ν4 59) 60).1 59 1 = 0
      rw [(sm_p0 (P := fun q => q ≠ 60) (fun h => h rfl) 59 (by decide)).1, p0_1]
    · show (p0 (p0 ν4 59) 60).1 60 k = 0
      rw [p0_1]
  generalize pR (pR (p0 (p0 ν4 59) 60) 59 0 (some 60)) 0 5 (some 59) = ν5 at c5 ⊢
  refine aw_iconst (v := 4) (by decide) dX11_init_60 ?_
  refine aw_newQP (m := 61) (t := 2) (9, 179) w_261 (by decide) (fun _ => rfl) rfl (by decide) rfl ⟨ble rfl, ble rfl⟩ dX11_init_61 ?_
  refine aw_putR pX11_38_11i (kp kX (by decide)) rfl (fun _ => rfl) (fun _ => rfl) dX11_init_64 ?_
  refine aw_aload_n rfl dX11_init_67 ?_
  have c6 : C0 6 (pR (p0 ν5 61) 0 6 (some 61)) := by
    have e := c5.sm (sm_p0 (P := fun q => q < 61) (a := 61) (by decide)) (by decide) (fun _ q _ h => by show q < 61; omega) (fun _ q _ h => by show q < 61; omega) (fun _ q _ h => by show q < 61; omega) (fun _ => ⟨by decide, by decide⟩) (fun h => absurd h (by decide))
    have e := e.fld (c := 6) (r := some 61) (by decide) (by decide) (by decide) (by decide) (by decide) (by decide) (by decide)
    exact ⟨e.1, fun _ => e.2.1 (by decide), fun _ => e.2.2.1 (by decide), fun _ => e.2.2.2.1 (by decide), fun _ => e.2.2.2.2.1 (by decide), fun _ => e.2.2.2.2.2.1 (by decide), fun _ => pR_get _ _ _ _, fun h => absurd h (by decide)⟩
  generalize pR (p0 ν5 61) 0 6 (some 61) = ν6 at c6 ⊢
  refine aw_bipush (v := 7) (by decide) dX11_init_68 ?_
  refine aw_newIP (m := 62) (N := 7) (8, 172) rfl (by decide) rfl ⟨ble rfl, ble rfl⟩ dX11_init_70 ?_
  refine aw_putR pX11_42_11i (kp kX (by decide)) rfl (fun _ => rfl) (fun _ => rfl) dX11_init_72 ?_
  have c7 : C0 7 (pR (p0 ν6 62) 0 7 (some 62)) := by
    have e := c6.sm (sm_p0 (P := fun q => q < 62) (a := 62) (by decide)) (by decide) (fun _ q _ h => by show q < 62; omega) (fun _ q _ h => by show q < 62; omega) (fun _ q _ h => by show q < 62; omega) (fun _ => ⟨by decide, by decide⟩) (fun h => absurd h (by decide))
    have e := e.fld (c := 7) (r := some 62) (by decide) (by decide) (by decide) (by decide) (by decide) (by decide) (by decide)
    refine ⟨e.1, fun _ => e.2.1 (by decide), fun _ => e.2.2.1 (by decide), fun _ => e.2.2.2.1 (by decide), fun _ => e.2.2.2.2.1 (by decide), fun _ => e.2.2.2.2.2.1 (by decide), fun _ => e.2.2.2.2.2.2.1 (by decide), fun _ => ⟨pR_get _ _ _ _, fun k => ?_⟩⟩
    show (p0 ν6 62).1 62 k = 0
    rw [p0_1]
  generalize pR (p0 ν6 62) 0 7 (some 62) = ν7 at c7 ⊢
  have loop : ∀ j i (ν : Mem), i + j = 4 → C2 i ν → AW Sc mX11_init 77 [(0, .ref 0), (1, .int (nI i))] [] (Kp (63 + 2 * i)) ν (2 * j, 43 * j) Q := by
    intro j
    induction j with
    | zero =>
      intro i ν hi J
      obtain rfl : i = 4 := by omega
      refine aw_iload_n rfl dX11_init_77 ?_
      refine aw_iconst (v := 4) (by decide) dX11_init_78 ?_
      refine aw_icmp_ge 101 rfl dX11_init_79 (fun _ => ?_) (fun c_ => absurd ((by decide)) c_)
      refine aw_return dX11_init_101 rfl ?_
      exact hQ ν J.cb
    | succ j ih =>
      intro i ν hi J
      have hi4 : i < 4 := by omega
      refine aw_iload_n rfl dX11_init_77 ?_
      refine aw_iconst (v := 4) (by decide) dX11_init_78 ?_
      refine aw_icmp_ge 101 rfl dX11_init_79 (fun c_ => absurd c_ (nI_ge (b := 4) (by omega) (by omega))) (fun _ => ?_)
      refine aw_aload_n rfl dX11_init_82 ?_
      refine aw_getR gX11_38_11 (kp kX (by omega)) rfl (J.1.2.2.2.2.2.2.1 (by decide)) dX11_init_83 ?_
      refine aw_iload_n rfl dX11_init_86 ?_
      refine aw_newP (m := 63 + 2 * i) (1 + 2 * j, 40 + 43 * j) nX11_36 (kSh hi4) ⟨by show 1 + 2 * j + 1 ≤ 2 * (j + 1); omega, by show 40 + 43 * j + 3 ≤ 43 * (j + 1); omega⟩ dX11_init_87 ?_
      refine aw_dup rfl dX11_init_90 ?_
      rw [show 63 + 2 * i + 1 = 64 + 2 * i by omega]
      refine aw_in0 (1, 40) (2 * j, 43 * j) kX11_46 ⟨ble rfl, ble rfl⟩ (ble rfl) ⟨by show 1 + 2 * j ≤ 1 + 2 * j; omega, by show 40 + 43 * j ≤ 40 + 43 * j; omega⟩ dX11_init_91 (i_sheet hi4 ?_)
      refine aw_aastoreN (t := 2) (c := i) (kp kShs (by omega)) (fun _ => rfl) rfl hi4 (by decide) (kp (kSh hi4) (by omega)) rfl (Or.inl rfl) dX11_init_94 ?_
      refine aw_iinc rfl (v := 1) (by decide) (ble rfl) dX11_init_95 ?_
      refine aw_goto 77 rfl dX11_init_98 ?_
      rw [nI_1, show 65 + 2 * i = 63 + 2 * (i + 1) by omega]
      exact ih (i + 1) _ (by omega) (J.step hi4)
  refine aw_iconst (v := 0) (by decide) dX11_init_75 ?_
  refine aw_istore_n (ble rfl) dX11_init_76 ?_
  exact loop 4 0 ν7 (by omega) ⟨c7, fun k hk => absurd hk (by omega)⟩
theorem CB.sm (h : CB ν) (hs : Sm (fun q => q < 71) ν ν') : CB ν' := by
  obtain ⟨⟨x1, ⟨x2, x3, x4⟩, x5, x6, x7⟩, b, ⟨c1, c2, c3⟩, d, e, f, g, k, l⟩ := h
  have H := fun q (hq : q < 71) => hs q hq
  refine ⟨?_, fun j k hj hk => ?_, ⟨?_, ?_, fun i hi => absurd hi (Nat.not_lt_zero i)⟩, ?_, fun k hk => ?_, ?_, fun k hk => ?_, fun i hi => ?_, fun i hi j hj => ?_⟩
  · unfold XR GS at *
    rw [(H 0 (by omega)).2.2, (H 1 (by omega)).2.2, (H (1 + 1) (by omega)).2.2, (H (1 + 2) (by omega)).2.2, (H 20 (by omega)).2.2, (H (20 + 1) (by omega)).2.2, (H (20 + 2) (by omega)).2.2, (H 39 (by omega)).2.2, (H (39 + 1) (by omega)).2.2, (H (39 + 2) (by omega)).2.2, (H 59 (by omega)).2.2, (H 61 (by omega)).2.2]
    exact ⟨x1, ⟨x2, x3, x4⟩, x5, x6, fun i hi => by rw [(H (63 + 2 * i) (by omega)).2.2]; exact x7 i hi⟩
  · rw [(H (j + 3 + k) (by rcases hj with rfl | rfl | rfl <;> omega)).1]; exact b j k hj hk
  · unfold GS at *
    rw [(H 1 (by omega)).2.2, (H (1 + 1) (by omega)).2.2, (H (1 + 2) (by omega)).2.2]; exact c1
  · unfold GH at *
    rw [(H 1 (by omega)).1]; exact c2
  · rw [(H 0 (by omega)).1]; exact d
  · rw [(H 62 (by omega)).1]; exact e k hk
  · rw [(H 59 (by omega)).1]; exact f
  · rw [(H 60 (by omega)).1]; exact g k hk
  · rw [(H (63 + 2 * i) (by omega)).1]; exact k i hi
  · rw [(H (64 + 2 * i) (by omega)).2.1]; exact l i hi j hj
end CtorX
