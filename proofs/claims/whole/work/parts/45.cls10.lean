/-! THE CLASS, 10: the object holds S; findings, slack, harvest, knot, now -/
def XR (r : Nat → Nat → Option Nat) : Prop := (r 0 0 = some 1 ∧ r 0 1 = some 20 ∧ r 0 2 = some 39 ∧ r 0 4 = some 58 ∧ r 0 5 = some 59 ∧ r 0 6 = some 61 ∧ r 0 7 = some 62) ∧ (GS r 1 ∧ GS r 20 ∧ GS r 39) ∧ r 59 0 = some 60 ∧ (∀ i, i < 4 → r 61 i = some (63 + 2 * i)) ∧ ∀ i, i < 4 → r (63 + 2 * i) 2 = some (64 + 2 * i)
section XRs
variable {r : Nat → Nat → Option Nat}
theorem XR.green (h : XR r) : r 0 0 = some 1 := h.1.1
theorem XR.trial (h : XR r) : r 0 1 = some 20 := h.1.2.1
theorem XR.kept (h : XR r) : r 0 2 = some 39 := h.1.2.2.1
theorem XR.best (h : XR r) : r 0 4 = some 58 := h.1.2.2.2.1
theorem XR.tape (h : XR r) : r 0 5 = some 59 := h.1.2.2.2.2.1
theorem XR.sheets (h : XR r) : r 0 6 = some 61 := h.1.2.2.2.2.2.1
theorem XR.found (h : XR r) : r 0 7 = some 62 := h.1.2.2.2.2.2.2
end XRs
theorem g1 : gOk 1 := Or.inl rfl
theorem g20 : gOk 20 := Or.inr (Or.inl rfl)
theorem g39 : gOk 39 := Or.inr (Or.inr rfl)
theorem kG1 : K0[1]? = some (.inl 2) := rfl
theorem kFnd : K0[62]? = some (.inr (0, 7)) := rfl
theorem kTp : K0[59]? = some (.inl 9) := rfl
theorem kBy : K0[60]? = some (.inr (0, 120)) := rfl
theorem kShs : K0[61]? = some (.inr (5, 4)) := rfl
theorem XR.fr {g : Nat} {μ μ' : Mem} (hg : gOk g) (h : XR μ.2.2) (F : Fr g μ μ') : XR μ'.2.2 := by
  have e : ∀ q, (q < 10 ∨ (q = 20 ∨ q = 21 ∨ q = 22) ∨ (q = 39 ∨ q = 40 ∨ q = 41) ∨ 58 ≤ q) → μ'.2.2 q = μ.2.2 q := by
    intro q hq
    refine F.2.2 q ?_
    rcases hg with rfl | rfl | rfl <;> omega
  obtain ⟨a, ⟨b1, b2, b3⟩, c, d, f⟩ := h
  unfold XR GS at *
  rw [e 0 (by omega), e 1 (by omega), e (1 + 1) (by omega), e (1 + 2) (by omega), e 20 (by omega), e (20 + 1) (by omega), e (20 + 2) (by omega), e 39 (by omega), e (39 + 1) (by omega), e (39 + 2) (by omega), e 59 (by omega), e 61 (by omega)]
  exact ⟨a, ⟨b1, b2, b3⟩, c, d, fun i hi => by rw [e _ (by omega)]; exact f i hi⟩
/-- the class holds S, and nothing of the model's has changed since μ0 -/
def CI (μ0 μ : Mem) (S : SG) : Prop := (∀ q, 71 ≤ q → μ.1 q = μ0.1 q ∧ μ.2.1 q = μ0.2.1 q ∧ μ.2.2 q = μ0.2.2 q) ∧ XR μ.2.2 ∧ (∀ j k, gOk j → k < 6 → μ.1 (j + 3 + k) 0 = nI k) ∧ GA μ 1 S.1 ∧ (S.2.2.1 = true → GA μ 39 S.2.2.2.1) ∧ μ.1 0 3 = bI S.2.2.1 ∧ (∀ k, k < 7 → μ.1 62 k = S.2.1 k) ∧ μ.1 59 1 = nI S.2.2.2.2.2.1 ∧ (∀ k, k < 120 → μ.1 60 k = S.2.2.2.2.1 k) ∧ (∀ i, i < 4 → μ.1 (63 + 2 * i) 0 = gW S i ∧ μ.1 (63 + 2 * i) 1 = gZ S i) ∧ ∀ i, i < 4 → ∀ j, j < 40 → μ.2.1 (64 + 2 * i) j = gC S (40 * i + j)
section CIs
variable {μ0 μ μ' : Mem} {S : SG}
theorem CI.hX (h : CI μ0 μ S) : XR μ.2.2 := h.2.1
theorem CI.ga (h : CI μ0 μ S) : GA μ 1 S.1 := h.2.2.2.1
/-- green g changes: all else stays -/
theorem CI.frs {g : Nat} (hg : gOk g) (h : CI μ0 μ S) (F : Fr g μ μ') {s' : Nat → Int32} {kp : Nat → Int32} (h1 : GA μ' 1 s') (h39 : S.2.2.1 = true → GA μ' 39 kp) : CI μ0 μ' (s', S.2.1, S.2.2.1, kp, S.2.2.2.2) := by
  obtain ⟨a, b, c, d, e, f, t1, t2, t3, t4, t5⟩ := h
  have eI : ∀ q, (q = 0 ∨ 58 ≤ q) → μ'.1 q = μ.1 q := by
    intro q hq
    refine F.1 q ?_ ?_ <;> rcases hg with rfl | rfl | rfl <;> omega
  have eR : ∀ q, 58 ≤ q → μ'.2.2 q = μ.2.2 q := by
    intro q hq
    refine F.2.2 q ?_
    rcases hg with rfl | rfl | rfl <;> omega
  refine ⟨fun q hq => ?_, b.fr hg F, fun j k hj hk => ?_, h1, h39, ?_, fun k hk => ?_, ?_, fun k hk => ?_, fun i hi => ?_, fun i hi j hj => ?_⟩
  · rw [eI q (by omega), eR q (by omega), F.2.1]; exact a q hq
  · rw [F.1 (j + 3 + k) (by rcases hg with rfl | rfl | rfl <;> rcases hj with rfl | rfl | rfl <;> omega) (by rcases hg with rfl | rfl | rfl <;> rcases hj with rfl | rfl | rfl <;> omega)]
    exact c j k hj hk
  · rw [eI 0 (by omega)]; exact f
  · rw [eI 62 (by omega)]; exact t1 k hk
  · rw [eI 59 (by omega)]; exact t2
  · rw [eI 60 (by omega)]; exact t3 k hk
  · rw [eI _ (by omega)]; exact t4 i hi
  · rw [F.2.1]; exact t5 i hi j hj
/-- the trial green changes -/
theorem CI.tr (hW : WF S) (h : CI μ0 μ S) (F : Fr 20 μ μ') : CI μ0 μ' S := h.frs g20 F (GA.fr g20 g1 (by decide) hW.1.2.1 h.ga F) (fun e => GA.fr g20 g39 (by decide) (hW.2.1 e).2.1 (h.2.2.2.2.1 e) F)
/-- the green itself changes -/
theorem CI.gr (hW : WF S) (h : CI μ0 μ S) (F : Fr 1 μ μ') {s' : Nat → Int32} (h1 : GA μ' 1 s') : CI μ0 μ' (wS S s') := h.frs g1 F h1 (fun e => GA.fr g1 g39 (by decide) (hW.2.1 e).2.1 (h.2.2.2.2.1 e) F)
/-- a row of ints that belongs to no green, 58 or 62 -/
theorem GA.rowO {g q : Nat} {s f : Nat → Int32} (hg : gOk g) (hm : mny s ≤ 10) (hq : 58 ≤ q ∨ q = 0) (h : GA μ g s) : GA (rowI μ q f) g s := by
  obtain ⟨h1, h2, h3⟩ := h
  have hgg : g ≤ 39 ∧ 1 ≤ g := by rcases hg with rfl | rfl | rfl <;> omega
  refine ⟨h1, ?_, fun k hk => ?_⟩
  · unfold GH
    rw [rowI_ne _ _ (by omega)]
    exact h2
  · obtain ⟨a, b⟩ := h3 k hk
    rw [rowI_ne _ _ (by omega)]
    exact ⟨a, b⟩
theorem CI.bst (hW : WF S) (h : CI μ0 μ S) (f : Nat → Int32) : CI μ0 (rowI μ 58 f) S := by
  obtain ⟨a, b, c, d, e, f', t1, t2, t3, t4, t5⟩ := h
  refine ⟨fun q hq => ?_, b, fun j k hj hk => ?_, d.rowO g1 hW.1.2.1 (by omega), fun e' => (e e').rowO g39 (hW.2.1 e').2.1 (by omega), ?_, fun k hk => ?_, ?_, fun k hk => ?_, fun i hi => ?_, t5⟩
  · rw [rowI_ne _ _ (by omega)]; exact a q hq
  · rw [rowI_ne _ _ (by rcases hj with rfl | rfl | rfl <;> omega)]; exact c j k hj hk
  · rw [rowI_ne _ _ (by omega)]; exact f'
  · rw [rowI_ne _ _ (by omega)]; exact t1 k hk
  · rw [rowI_ne _ _ (by omega)]; exact t2
  · rw [rowI_ne _ _ (by omega)]; exact t3 k hk
  · rw [rowI_ne _ _ (by omega)]; exact t4 i hi
theorem CI.fnd (hW : WF S) (h : CI μ0 μ S) {k : Nat} (hk : k < 7) : CI μ0 (pI μ 62 k (μ.1 62 k + 1)) (fnd S k).2 := by
  obtain ⟨a, b, c, d, e, f', t1, t2, t3, t4, t5⟩ := h
  show CI μ0 (rowI μ 62 (upd (μ.1 62) k (μ.1 62 k + 1))) _
  refine ⟨fun q hq => ?_, b, fun j k hj hk => ?_, d.rowO g1 hW.1.2.1 (by omega), fun e' => (e e').rowO g39 (hW.2.1 e').2.1 (by omega), ?_, fun j hj => ?_, ?_, fun k hk => ?_, fun i hi => ?_, t5⟩
  · rw [rowI_ne _ _ (by omega)]; exact a q hq
  · rw [rowI_ne _ _ (by rcases hj with rfl | rfl | rfl <;> omega)]; exact c j k hj hk
  · rw [rowI_ne _ _ (by omega)]; exact f'
  · rw [rowI_get]
    show upd (μ.1 62) k (μ.1 62 k + 1) j = upd S.2.1 k (S.2.1 k + 1) j
    by_cases e : j = k
    · subst e; rw [upd_eq, upd_eq, t1 j hj]
    · rw [upd_ne e, upd_ne e, t1 j hj]
  · rw [rowI_ne _ _ (by omega)]; exact t2
  · rw [rowI_ne _ _ (by omega)]; exact t3 k hk
  · rw [rowI_ne _ _ (by omega)]; exact t4 i hi
end CIs
section Cls10
variable {Sc : SCR} {μ μ0 : Mem} {n : Nat × Nat} {Q : PQ} {S : SG}
theorem e_finding {k : Nat} {x : Int32} (h : CI μ0 μ S) (hW : WF S) (hx : x = -1000000001 - nI k) (hk : k < 7) (hQ : ∀ μ', CI μ0 μ' (fnd S k).2 → Q (some (.int (fnd S k).1)) K0 μ') : AM Sc mX11_finding [.ref 0, .int x] K0 μ n Q := by
  subst hx
  refine AM.of rfl (ble rfl) ?_
  have hX := h.hX
  have e : ∀ k : Nat, k < 7 → (-1000000001 : Int32) - (-1000000001 - nI k) = nI k := by decide
  refine aw_ldc (v := (-1000000001)) w_316 dX11_finding_0 ?_
  refine aw_iload_n rfl dX11_finding_2 ?_
  refine aw_isub dX11_finding_3 ?_
  refine aw_istore_n (ble rfl) dX11_finding_4 ?_
  refine aw_iload_n rfl dX11_finding_5 ?_
  rw [e k hk]
  refine aw_if_lt 25 rfl dX11_finding_6 (fun c_ => absurd c_ (nI_pos (by omega))) (fun _ => ?_)
  refine aw_iload_n rfl dX11_finding_9 ?_
  refine aw_bipush (v := 7) (by decide) dX11_finding_10 ?_
  refine aw_icmp_ge 25 rfl dX11_finding_12 (fun c_ => absurd c_ (nI_ge (b := 7) (by omega) (by omega))) (fun _ => ?_)
  refine aw_aload_n rfl dX11_finding_15 ?_
  refine aw_getR gX11_42_11 kX rfl (hX.found) dX11_finding_16 ?_
  refine aw_iload_n rfl dX11_finding_19 ?_
  refine aw_dup2 rfl rfl dX11_finding_20 ?_
  refine aw_ialoadN kFnd rfl hk (by decide) dX11_finding_21 ?_
  refine aw_iconst (v := 1) (by decide) dX11_finding_22 ?_
  refine aw_iadd dX11_finding_23 ?_
  refine aw_iastoreN kFnd rfl hk (by decide) dX11_finding_24 ?_
  refine aw_iload_n rfl dX11_finding_25 ?_
  refine aw_iret dX11_finding_26 rfl ?_
  exact hQ _ (h.fnd hW hk)
theorem GA.hd {g c j : Nat} {s : Nat → Int32} {v : Int32} (h : GA μ g s) (hj : j < 4) (hc : (c = 0 ∧ j = 0) ∨ (c = 1 ∧ j = 3) ∨ (c = 2 ∧ j = 1) ∨ (c = 3 ∧ j = 2)) : GA (pI μ g c v) g (upd s j v) := by
  obtain ⟨g0, g1, g2, g3, g4⟩ := h.2.1
  refine h.head (f := upd (μ.1 g) c v) (fun k hk => upd_ne (by omega)) ?_
  rcases hc with ⟨rfl, rfl⟩ | ⟨rfl, rfl⟩ | ⟨rfl, rfl⟩ | ⟨rfl, rfl⟩
  all_goals simp only [upd, if_true, if_false, Nat.reduceEqDiff, reduceIte, g0, g1, g2, g3, g4, and_self]
theorem Fr.pI {g c : Nat} {v : Int32} : Fr g μ (pI μ g c v) := Fr.row (f := upd (μ.1 g) c v) (Or.inl rfl)
theorem e_slack {v : Int32} (h : CI μ0 μ S) (hW : WF S) (hQ : ∀ μ', CI μ0 μ' (sp_slack v S).2 → Q (some (.int (sp_slack v S).1)) K0 μ') : AM Sc mX11_slack [.ref 0, .int v] K0 μ n Q := by
  refine AM.of rfl (ble rfl) ?_
  have hX := h.hX
  unfold sp_slack at hQ
  refine aw_iload_n rfl dX11_slack_0 ?_
  refine aw_iconst (v := 0) (by decide) dX11_slack_1 ?_
  refine aw_bipush (v := 99) (by decide) dX11_slack_2 ?_
  refine aw_s3 kX11_47 ⟨ble rfl, ble rfl⟩ (ble rfl) dX11_slack_4 (c_isWithin ?_)
  refine aw_zne 17 rfl dX11_slack_7 (fun c => ?_) (fun c => ?_)
  · rw [if_pos c] at hQ
    refine aw_aload_n rfl dX11_slack_17 ?_
    refine aw_getR gX11_10_11 kX rfl (hX.green) dX11_slack_18 ?_
    refine aw_getI gX11_56_2 kG1 rfl dX11_slack_21 ?_
    refine aw_istore_n (ble rfl) dX11_slack_24 ?_
    refine aw_aload_n rfl dX11_slack_25 ?_
    refine aw_getR gX11_10_11 kX rfl (hX.green) dX11_slack_26 ?_
    refine aw_iload_n rfl dX11_slack_29 ?_
    refine aw_putI (pX11_56_2 _) kG1 rfl rfl rfl dX11_slack_30 ?_
    refine aw_iload_n rfl dX11_slack_33 ?_
    refine aw_iret dX11_slack_34 rfl ?_
    rw [h.ga.2.1.2.2.2.1]
    exact hQ _ (h.gr hW Fr.pI (h.ga.hd (j := 2) (by decide) (by decide)))
  · rw [if_neg (by rw [c]; decide)] at hQ
    refine aw_aload_n rfl dX11_slack_10 ?_
    refine aw_ldc (v := (-1000000001)) w_316 dX11_slack_11 ?_
    refine aw_v1 kX11_52 ⟨ble rfl, ble rfl⟩ (rcX) (ble rfl) dX11_slack_13 (e_finding (k := 0) h hW (by decide) (by decide) (fun μ' h' => ?_))
    refine aw_iret dX11_slack_16 rfl ?_
    exact hQ μ' h'
theorem e_harvest {v : Int32} (h : CI μ0 μ S) (hW : WF S) (hQ : ∀ μ', CI μ0 μ' (sp_harvest v S).2 → Q (some (.int (sp_harvest v S).1)) K0 μ') : AM Sc mX11_harvest [.ref 0, .int v] K0 μ n Q := by
  refine AM.of rfl (ble rfl) ?_
  have hX := h.hX
  unfold sp_harvest at hQ
  refine aw_iload_n rfl dX11_harvest_0 ?_
  refine aw_iconst (v := 0) (by decide) dX11_harvest_1 ?_
  refine aw_sipush (v := 255) (by decide) dX11_harvest_2 ?_
  refine aw_s3 kX11_47 ⟨ble rfl, ble rfl⟩ (ble rfl) dX11_harvest_5 (c_isWithin ?_)
  refine aw_zne 18 rfl dX11_harvest_8 (fun c => ?_) (fun c => ?_)
  · rw [if_pos c] at hQ
    refine aw_aload_n rfl dX11_harvest_18 ?_
    refine aw_getR gX11_10_11 kX rfl (hX.green) dX11_harvest_19 ?_
    refine aw_getI gX11_60_2 kG1 rfl dX11_harvest_22 ?_
    refine aw_istore_n (ble rfl) dX11_harvest_25 ?_
    refine aw_aload_n rfl dX11_harvest_26 ?_
    refine aw_getR gX11_10_11 kX rfl (hX.green) dX11_harvest_27 ?_
    refine aw_iload_n rfl dX11_harvest_30 ?_
    refine aw_putI (pX11_60_2 _) kG1 rfl rfl rfl dX11_harvest_31 ?_
    refine aw_iload_n rfl dX11_harvest_34 ?_
    refine aw_iret dX11_harvest_35 rfl ?_
    rw [h.ga.2.1.2.1]
    exact hQ _ (h.gr hW Fr.pI (h.ga.hd (j := 3) (by decide) (by decide)))
  · rw [if_neg (by rw [c]; decide)] at hQ
    refine aw_aload_n rfl dX11_harvest_11 ?_
    refine aw_ldc (v := (-1000000001)) w_316 dX11_harvest_12 ?_
    refine aw_v1 kX11_52 ⟨ble rfl, ble rfl⟩ (rcX) (ble rfl) dX11_harvest_14 (e_finding (k := 0) h hW (by decide) (by decide) (fun μ' h' => ?_))
    refine aw_iret dX11_harvest_17 rfl ?_
    exact hQ μ' h'
theorem e_knot {v : Int32} (h : CI μ0 μ S) (hW : WF S) (hQ : ∀ μ', CI μ0 μ' (sp_knot v S).2 → Q (some (.int (sp_knot v S).1)) K0 μ') : AM Sc mX11_knot [.ref 0, .int v] K0 μ n Q := by
  refine AM.of rfl (ble rfl) ?_
  have hX := h.hX
  unfold sp_knot at hQ
  refine aw_iload_n rfl dX11_knot_0 ?_
  refine aw_sipush (v := (-9999)) (by decide) dX11_knot_1 ?_
  refine aw_sipush (v := 9999) (by decide) dX11_knot_4 ?_
  refine aw_s3 kX11_47 ⟨ble rfl, ble rfl⟩ (ble rfl) dX11_knot_7 (c_isWithin ?_)
  refine aw_zne 20 rfl dX11_knot_10 (fun c => ?_) (fun c => ?_)
  · rw [if_pos c] at hQ
    refine aw_aload_n rfl dX11_knot_20 ?_
    refine aw_getR gX11_10_11 kX rfl (hX.green) dX11_knot_21 ?_
    refine aw_getI gX11_63_2 kG1 rfl dX11_knot_24 ?_
    refine aw_istore_n (ble rfl) dX11_knot_27 ?_
    refine aw_aload_n rfl dX11_knot_28 ?_
    refine aw_getR gX11_10_11 kX rfl (hX.green) dX11_knot_29 ?_
    refine aw_iload_n rfl dX11_knot_32 ?_
    refine aw_putI (pX11_63_2 _) kG1 rfl rfl rfl dX11_knot_33 ?_
    refine aw_iload_n rfl dX11_knot_36 ?_
    refine aw_iret dX11_knot_37 rfl ?_
    rw [h.ga.2.1.2.2.1]
    exact hQ _ (h.gr hW Fr.pI (h.ga.hd (j := 1) (by decide) (by decide)))
  · rw [if_neg (by rw [c]; decide)] at hQ
    refine aw_aload_n rfl dX11_knot_13 ?_
    refine aw_ldc (v := (-1000000001)) w_316 dX11_knot_14 ?_
    refine aw_v1 kX11_52 ⟨ble rfl, ble rfl⟩ (rcX) (ble rfl) dX11_knot_16 (e_finding (k := 0) h hW (by decide) (by decide) (fun μ' h' => ?_))
    refine aw_iret dX11_knot_19 rfl ?_
    exact hQ μ' h'
end Cls10
