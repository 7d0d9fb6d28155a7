/-! THE MODEL'S CALLS, 3: on and on -/
def fday (p : (Nat → Int32) → Bool) (m : Nat) : Nat → (Nat → Int32) → Nat
  | 0, _ => 0
  | j + 1, s => if p s then 0 else fday p m j (dayS m s) + 1
theorem fday_le (p : (Nat → Int32) → Bool) (m : Nat) : ∀ (j : Nat) (s : Nat → Int32), fday p m j s ≤ j
  | 0, _ => Nat.le_refl _
  | j + 1, s => by
    unfold fday
    split
    · omega
    · have := fday_le p m j (dayS m s)
      omega
def sp_on (t w : Int32) (S : SG) : Int32 × SG := if in1 t 0 400 && in1 w 0 1 then (if w = 0 then goesN (mny S.1) (ix t) S.1 1 else ropeS (goesN (mny S.1) (ix t) S.1) (mny S.1), S) else fnd S 0
def sp_then (x t w : Int32) (S : SG) : Int32 × SG := if isP S x && (in1 t 0 400 && in1 w 0 1) then (goesN (mny S.1) (ix t) S.1 (5 + 5 * ix x + (if w = 0 then 2 else 3)), S) else fnd S 0
def ansD (S : SG) (k : Nat) : Int32 × SG := if k ≤ 400 then (nI k, S) else fnd S 3
def sp_wins (d v : Int32) (S : SG) : Int32 × SG := if in1 d 0 1 && in1 v 1 9999 then ansD S (fday (fun s => decide (v ≤ tow d s)) (mny S.1) 401 S.1) else fnd S 0
def sp_off (x : Int32) (S : SG) : Int32 × SG := if isP S x then ansD S (fday (fun s => decide (¬ s (5 + 5 * ix x + 2) = 1)) (mny S.1) 401 S.1) else fnd S 0
def sp_turns (S : SG) : Int32 × SG := ansD S (fday (fun s => decide (¬ aheadN s = aheadN S.1)) (mny S.1) 401 S.1)
theorem rowI_same {μ : Mem} {q : Nat} {f : Nat → Int32} (h : μ.1 q = f) : rowI μ q f = μ := by
  rw [← h]
  exact rowI_self μ q
section Pub3
variable {Sc : SCR} {μ μ0 : Mem} {n : Nat × Nat} {Q : PQ} {S : SG} {s : Nat → Int32}
theorem q_on {t w : Int32} (h : MJ μ0 μ S) (hW : WF S) (hQ : ∀ μ', MJ μ0 μ' (sp_on t w S).2 → Q (some (.int (sp_on t w S).1)) K0 μ') : AM Sc mX12_on [.ref 71, .int t, .int w] K0 μ n Q := by
  refine AM.of rfl (ble rfl) ?_
  have hs := h.hs
  have hM := h.hM
  obtain ⟨h4, hm, -⟩ := hW.1
  unfold sp_on at hQ
  have bad : (in1 t 0 400 && in1 w 0 1) = false → AW Sc mX12_on 20 [(0, .ref 71), (1, .int t), (2, .int w)] [] K0 μ n Q := by
    intro e
    rw [e] at hQ
    refine aw_aload_n rfl dX12_on_20 ?_
    refine aw_iconst (v := 0) (by decide) dX12_on_21 ?_
    refine aw_v1 kX12_118 ⟨ble rfl, ble rfl⟩ (rcM) (ble rfl) dX12_on_22 (q_no h rfl (by decide) (fun μ' h' => ?_))
    refine aw_iret dX12_on_25 rfl ?_
    exact hQ μ' h'
  refine aw_iload_n rfl dX12_on_0 ?_
  refine aw_iconst (v := 0) (by decide) dX12_on_1 ?_
  refine aw_sipush (v := 400) (by decide) dX12_on_2 ?_
  refine aw_s3 kX12_52 ⟨ble rfl, ble rfl⟩ (ble rfl) dX12_on_5 (k_in1 ?_)
  refine aw_zeq 20 rfl dX12_on_8 (fun c => ?_) (fun c => ?_)
  · exact bad (by rw [c]; rfl)
  · refine aw_iload_n rfl dX12_on_11 ?_
    refine aw_iconst (v := 0) (by decide) dX12_on_12 ?_
    refine aw_iconst (v := 1) (by decide) dX12_on_13 ?_
    refine aw_s3 kX12_52 ⟨ble rfl, ble rfl⟩ (ble rfl) dX12_on_14 (k_in1 ?_)
    refine aw_zne 26 rfl dX12_on_17 (fun c2 => ?_) (fun c2 => ?_)
    · rw [c, c2] at hQ
      obtain ⟨k, -, hk, hx⟩ := in1_t (a := 0) (b := 400) (by decide) (by decide) c
      have hix : ix t = k := by rw [hx]; exact ix_nI (by omega)
      rw [hix] at hQ
      simp only [Bool.and_self, if_true] at hQ
      refine aw_aload_n rfl dX12_on_26 ?_
      refine aw_v0 kX12_145 ⟨ble rfl, ble rfl⟩ (rcM) (ble rfl) dX12_on_27 (k_setsAside hM hs ?_)
      refine aw_aload_n rfl dX12_on_30 ?_
      refine aw_iload_n rfl dX12_on_31 ?_
      refine aw_v1 kX12_106 ⟨ble rfl, ble rfl⟩ (rcM) (ble rfl) dX12_on_32 (k_goes hM (by rw [rowI_ne _ _ (by decide)]; exact hs) h4 hm hx (by omega) ?_)
      have fin : ∀ y : Int32, (if w = 0 then goesN (mny S.1) k S.1 1 else ropeS (goesN (mny S.1) k S.1) (mny S.1)) = y → AW Sc mX12_on 52 [(0, .ref 71), (1, .int t), (2, .int w)] [.int y] K0 (rowI (rowI μ 74 S.1) 72 (goesN (mny S.1) k S.1)) n Q := by
        intro y hy
        rw [hy] at hQ
        refine aw_istore_n (ble rfl) dX12_on_52 ?_
        refine aw_aload_n rfl dX12_on_53 ?_
        refine aw_v0 kX12_112 ⟨ble rfl, ble rfl⟩ (rcM) (ble rfl) dX12_on_54 (k_laysBack (a := S.1) hM (by rw [rowI_ne _ _ (by decide), rowI_get]) ?_)
        rw [rowI_rowI]
        refine aw_iload_n rfl dX12_on_57 ?_
        refine aw_iret dX12_on_58 rfl ?_
        exact hQ _ ((h.asd _).row' rfl)
      refine aw_iload_n rfl dX12_on_35 ?_
      refine aw_if_ne 48 rfl dX12_on_36 (fun c3 => ?_) (fun c3 => ?_)
      · refine aw_aload_n rfl dX12_on_48 ?_
        refine aw_v0 kX12_124 ⟨ble rfl, ble rfl⟩ (rcM) (ble rfl) dX12_on_49 (k_onRope hM (rowI_get _ _ _) (by rw [goesN_4]; exact h4) hm ?_)
        exact fin _ (if_neg c3)
      · refine aw_aload_n rfl dX12_on_39 ?_
        refine aw_getR gX12_9_12 kM rfl (hM.s) dX12_on_40 ?_
        refine aw_iconst (v := 1) (by decide) dX12_on_43 ?_
        refine aw_ialoadN kS (c := 1) rfl (by decide) (by decide) dX12_on_44 ?_
        refine aw_goto 52 rfl dX12_on_45 ?_
        rw [rowI_get]
        exact fin _ (if_pos c3)
    · exact bad (by rw [c2, Bool.and_false])
theorem q_then {x t w : Int32} (h : MJ μ0 μ S) (hW : WF S) (hQ : ∀ μ', MJ μ0 μ' (sp_then x t w S).2 → Q (some (.int (sp_then x t w S).1)) K0 μ') : AM Sc mX12_then [.ref 71, .int x, .int t, .int w] K0 μ n Q := by
  refine AM.of rfl (ble rfl) ?_
  have hs := h.hs
  have hM := h.hM
  obtain ⟨h4, hm, -⟩ := hW.1
  unfold sp_then at hQ
  have bad : (isP S x && (in1 t 0 400 && in1 w 0 1)) = false → AW Sc mX12_then 28 [(0, .ref 71), (1, .int x), (2, .int t), (3, .int w)] [] K0 μ n Q := by
    intro e
    rw [e] at hQ
    refine aw_aload_n rfl dX12_then_28 ?_
    refine aw_iconst (v := 0) (by decide) dX12_then_29 ?_
    refine aw_v1 kX12_118 ⟨ble rfl, ble rfl⟩ (rcM) (ble rfl) dX12_then_30 (q_no h rfl (by decide) (fun μ' h' => ?_))
    refine aw_iret dX12_then_33 rfl ?_
    exact hQ μ' h'
  refine aw_aload_n rfl dX12_then_0 ?_
  refine aw_iload_n rfl dX12_then_1 ?_
  refine aw_v1 kX12_134 ⟨ble rfl, ble rfl⟩ (rcM) (ble rfl) dX12_then_2 (g_isPerson h ?_)
  refine aw_zeq 28 rfl dX12_then_5 (fun c0 => ?_) (fun c0 => ?_)
  · exact bad (by rw [c0]; rfl)
  · refine aw_iload_n rfl dX12_then_8 ?_
    refine aw_iconst (v := 0) (by decide) dX12_then_9 ?_
    refine aw_sipush (v := 400) (by decide) dX12_then_10 ?_
    refine aw_s3 kX12_52 ⟨ble rfl, ble rfl⟩ (ble rfl) dX12_then_13 (k_in1 ?_)
    refine aw_zeq 28 rfl dX12_then_16 (fun c => ?_) (fun c => ?_)
    · exact bad (by rw [c, Bool.false_and, Bool.and_false])
    · refine aw_iload_n rfl dX12_then_19 ?_
      refine aw_iconst (v := 0) (by decide) dX12_then_20 ?_
      refine aw_iconst (v := 1) (by decide) dX12_then_21 ?_
      refine aw_s3 kX12_52 ⟨ble rfl, ble rfl⟩ (ble rfl) dX12_then_22 (k_in1 ?_)
      refine aw_zne 34 rfl dX12_then_25 (fun c2 => ?_) (fun c2 => ?_)
      · rw [c0, c, c2] at hQ
        obtain ⟨k, -, hk, hx⟩ := in1_t (a := 0) (b := 400) (by decide) (by decide) c
        obtain ⟨q, hq, hxq, hiq⟩ := per_t h4 hm c0
        have hix : ix t = k := by rw [hx]; exact ix_nI (by omega)
        rw [hix, hiq] at hQ
        simp only [Bool.and_self, if_true] at hQ
        refine aw_aload_n rfl dX12_then_34 ?_
        refine aw_v0 kX12_145 ⟨ble rfl, ble rfl⟩ (rcM) (ble rfl) dX12_then_35 (k_setsAside hM hs ?_)
        refine aw_aload_n rfl dX12_then_38 ?_
        refine aw_iload_n rfl dX12_then_39 ?_
        refine aw_v1 kX12_106 ⟨ble rfl, ble rfl⟩ (rcM) (ble rfl) dX12_then_40 (k_goes hM (by rw [rowI_ne _ _ (by decide)]; exact hs) h4 hm hx (by omega) ?_)
        have fin : ∀ (y : Int32) (j : Nat), y = nI j → (if w = 0 then 2 else 3) = j → j < 5 → AW Sc mX12_then 54 [(0, .ref 71), (1, .int x), (2, .int t), (3, .int w)] [.int y, .int x, .ref 71] K0 (rowI (rowI μ 74 S.1) 72 (goesN (mny S.1) k S.1)) n Q := by
          intro y j hy hj hj5
          rw [hj] at hQ
          refine aw_v2 kX12_60 ⟨ble rfl, ble rfl⟩ (rcM) (ble rfl) dX12_then_54 (g_get hM (rowI_get _ _ _) hxq hy (by omega) hj5 ?_)
          refine aw_istore (ble rfl) dX12_then_57 ?_
          refine aw_aload_n rfl dX12_then_59 ?_
          refine aw_v0 kX12_112 ⟨ble rfl, ble rfl⟩ (rcM) (ble rfl) dX12_then_60 (k_laysBack (a := S.1) hM (by rw [rowI_ne _ _ (by decide), rowI_get]) ?_)
          rw [rowI_rowI]
          refine aw_iload rfl dX12_then_63 ?_
          refine aw_iret dX12_then_65 rfl ?_
          exact hQ _ ((h.asd _).row' rfl)
        refine aw_aload_n rfl dX12_then_43 ?_
        refine aw_iload_n rfl dX12_then_44 ?_
        refine aw_iload_n rfl dX12_then_45 ?_
        refine aw_if_ne 53 rfl dX12_then_46 (fun c3 => ?_) (fun c3 => ?_)
        · refine aw_iconst (v := 3) (by decide) dX12_then_53 ?_
          exact fin _ 3 rfl (if_neg c3) (by decide)
        · refine aw_iconst (v := 2) (by decide) dX12_then_49 ?_
          refine aw_goto 54 rfl dX12_then_50 ?_
          exact fin _ 2 rfl (if_pos c3) (by decide)
      · exact bad (by rw [c2, Bool.and_false, Bool.and_false])
theorem q_wins {d v : Int32} (h : MJ μ0 μ S) (hW : WF S) (hQ : ∀ μ', MJ μ0 μ' (sp_wins d v S).2 → Q (some (.int (sp_wins d v S).1)) K0 μ') : AM Sc mX12_wins [.ref 71, .int d, .int v] K0 μ n Q := by
  refine AM.of rfl (ble rfl) ?_
  have hs := h.hs
  have hM := h.hM
  obtain ⟨h4, hm, -⟩ := hW.1
  unfold sp_wins at hQ
  have bad : (in1 d 0 1 && in1 v 1 9999) = false → AW Sc mX12_wins 18 [(0, .ref 71), (1, .int d), (2, .int v)] [] K0 μ n Q := by
    intro e
    rw [e] at hQ
    refine aw_aload_n rfl dX12_wins_18 ?_
    refine aw_iconst (v := 0) (by decide) dX12_wins_19 ?_
    refine aw_v1 kX12_118 ⟨ble rfl, ble rfl⟩ (rcM) (ble rfl) dX12_wins_20 (q_no h rfl (by decide) (fun μ' h' => ?_))
    refine aw_iret dX12_wins_23 rfl ?_
    exact hQ μ' h'
  refine aw_iload_n rfl dX12_wins_0 ?_
  refine aw_s1 kX12_127 ⟨ble rfl, ble rfl⟩ (ble rfl) dX12_wins_1 (k_isSide ?_)
  refine aw_zeq 18 rfl dX12_wins_4 (fun c => ?_) (fun c => ?_)
  · exact bad (by rw [c]; rfl)
  · refine aw_iload_n rfl dX12_wins_7 ?_
    refine aw_iconst (v := 1) (by decide) dX12_wins_8 ?_
    refine aw_sipush (v := 9999) (by decide) dX12_wins_9 ?_
    refine aw_s3 kX12_52 ⟨ble rfl, ble rfl⟩ (ble rfl) dX12_wins_12 (k_in1 ?_)
    refine aw_zne 24 rfl dX12_wins_15 (fun c2 => ?_) (fun c2 => ?_)
    · rw [c, c2] at hQ
      simp only [Bool.and_self, if_true] at hQ
      refine aw_aload_n rfl dX12_wins_24 ?_
      refine aw_v0 kX12_145 ⟨ble rfl, ble rfl⟩ (rcM) (ble rfl) dX12_wins_25 (k_setsAside hM hs ?_)
      generalize hT : fday _ (mny S.1) 401 S.1 = T at hQ
      have fin : ∀ (i : Nat) (s' : Nat → Int32), T = i → i ≤ 401 → AW Sc mX12_wins 57 [(0, .ref 71), (1, .int d), (2, .int v), (3, .int (nI i))] [] K0 (rowI (rowI μ 74 S.1) 72 s') n Q := by
        intro i s' hi hi2
        rw [hi] at hQ
        unfold ansD at hQ
        refine aw_aload_n rfl dX12_wins_57 ?_
        refine aw_v0 kX12_112 ⟨ble rfl, ble rfl⟩ (rcM) (ble rfl) dX12_wins_58 (k_laysBack (a := S.1) hM (by rw [rowI_ne _ _ (by decide), rowI_get]) ?_)
        refine aw_iload_n rfl dX12_wins_61 ?_
        refine aw_sipush (v := 400) (by decide) dX12_wins_62 ?_
        rw [rowI_rowI]
        have h' := (h.asd S.1).row' (s := S.1) rfl
        refine aw_icmp_le 76 rfl dX12_wins_65 (fun c3 => ?_) (fun c3 => ?_)
        · rw [if_pos ((nI_leI (by omega) (by decide)).mp c3)] at hQ
          refine aw_iload_n rfl dX12_wins_76 ?_
          refine aw_iret dX12_wins_77 rfl ?_
          exact hQ _ h'
        · rw [if_neg (fun q => c3 (nI_le q (by decide)))] at hQ
          refine aw_aload_n rfl dX12_wins_68 ?_
          refine aw_iconst (v := 3) (by decide) dX12_wins_69 ?_
          refine aw_v1 kX12_118 ⟨ble rfl, ble rfl⟩ (rcM) (ble rfl) dX12_wins_70 (q_no h' (k := 3) rfl (by decide) (fun μ' h' => ?_))
          refine aw_goto 77 rfl dX12_wins_73 ?_
          refine aw_iret dX12_wins_77 rfl ?_
          exact hQ μ' h'
      have loop : ∀ j i, i + j = 401 → T = i + fday (fun s => decide (v ≤ tow d s)) (mny S.1) j (goesN (mny S.1) i S.1) → AW Sc mX12_wins 30 [(0, .ref 71), (1, .int d), (2, .int v), (3, .int (nI i))] [] K0 (rowI (rowI μ 74 S.1) 72 (goesN (mny S.1) i S.1)) n Q := by
        intro j
        induction j with
        | zero =>
          intro i hi hf
          refine aw_iload_n rfl dX12_wins_30 ?_
          refine aw_sipush (v := 400) (by decide) dX12_wins_31 ?_
          refine aw_icmp_gt 57 rfl dX12_wins_34 (fun _ => ?_) (fun c_ => absurd (nI_lt (a := 400) (by omega) (by omega)) c_)
          exact fin i _ hf (by omega)
        | succ j ih =>
          intro i hi hf
          refine aw_iload_n rfl dX12_wins_30 ?_
          refine aw_sipush (v := 400) (by decide) dX12_wins_31 ?_
          refine aw_icmp_gt 57 rfl dX12_wins_34 (fun c_ => absurd c_ (nI_nlt (b := i) (a := 400) (by omega) (by omega))) (fun _ => ?_)
          refine aw_aload_n rfl dX12_wins_37 ?_
          refine aw_iload_n rfl dX12_wins_38 ?_
          refine aw_v1 kX12_109 ⟨ble rfl, ble rfl⟩ (rcM) (ble rfl) dX12_wins_39 (k_towards hM (rowI_get _ _ _) ?_)
          refine aw_iload_n rfl dX12_wins_42 ?_
          rw [fday] at hf
          refine aw_icmp_ge 57 rfl dX12_wins_43 (fun c3 => ?_) (fun c3 => ?_)
          · have c3 : v ≤ tow d (goesN (mny S.1) i S.1) := c3
            rw [decide_eq_true c3, if_pos rfl] at hf
            exact fin i _ hf (by omega)
          · have c3 : ¬ v ≤ tow d (goesN (mny S.1) i S.1) := c3
            rw [decide_eq_false c3, if_neg (by decide)] at hf
            refine aw_aload_n rfl dX12_wins_46 ?_
            refine aw_iconst (v := 1) (by decide) dX12_wins_47 ?_
            refine aw_v1 kX12_106 ⟨ble rfl, ble rfl⟩ (rcM) (ble rfl) dX12_wins_48 (k_goes hM (rowI_get _ _ _) (by rw [goesN_4]; exact h4) hm (t := 1) rfl (by decide) ?_)
            rw [rowI_rowI]
            refine aw_iinc rfl (v := 1) (by decide) (ble rfl) dX12_wins_51 ?_
            refine aw_goto 30 rfl dX12_wins_54 ?_
            rw [nI_1]
            have := ih (i + 1) (by omega) (by rw [goesN_succ]; omega)
            rw [goesN_succ] at this
            exact this
      refine aw_iconst (v := 0) (by decide) dX12_wins_28 ?_
      refine aw_istore_n (ble rfl) dX12_wins_29 ?_
      have := loop 401 0 rfl (by rw [Nat.zero_add]; exact hT.symm)
      rw [goesN, rowI_same (by rw [rowI_ne _ _ (by decide)]; exact hs)] at this
      exact this
    · exact bad (by rw [c2, Bool.and_false])
theorem q_off {x : Int32} (h : MJ μ0 μ S) (hW : WF S) (hQ : ∀ μ', MJ μ0 μ' (sp_off x S).2 → Q (some (.int (sp_off x S).1)) K0 μ') : AM Sc mX12_off [.ref 71, .int x] K0 μ n Q := by
  refine AM.of rfl (ble rfl) ?_
  have hs := h.hs
  have hM := h.hM
  obtain ⟨h4, hm, -⟩ := hW.1
  unfold sp_off at hQ
  refine aw_aload_n rfl dX12_off_0 ?_
  refine aw_iload_n rfl dX12_off_1 ?_
  refine aw_v1 kX12_134 ⟨ble rfl, ble rfl⟩ (rcM) (ble rfl) dX12_off_2 (g_isPerson h ?_)
  refine aw_zne 14 rfl dX12_off_5 (fun c => ?_) (fun c => ?_)
  · rw [c] at hQ
    obtain ⟨q, hq, hxq, hiq⟩ := per_t h4 hm c
    rw [hiq] at hQ
    simp only [if_true] at hQ
    refine aw_aload_n rfl dX12_off_14 ?_
    refine aw_v0 kX12_145 ⟨ble rfl, ble rfl⟩ (rcM) (ble rfl) dX12_off_15 (k_setsAside hM hs ?_)
    generalize hT : fday _ (mny S.1) 401 S.1 = T at hQ
    have fin : ∀ (i : Nat) (s' : Nat → Int32), T = i → i ≤ 401 → AW Sc mX12_off 48 [(0, .ref 71), (1, .int x), (2, .int (nI i))] [] K0 (rowI (rowI μ 74 S.1) 72 s') n Q := by
      intro i s' hi hi2
      rw [hi] at hQ
      unfold ansD at hQ
      refine aw_aload_n rfl dX12_off_48 ?_
      refine aw_v0 kX12_112 ⟨ble rfl, ble rfl⟩ (rcM) (ble rfl) dX12_off_49 (k_laysBack (a := S.1) hM (by rw [rowI_ne _ _ (by decide), rowI_get]) ?_)
      refine aw_iload_n rfl dX12_off_52 ?_
      refine aw_sipush (v := 400) (by decide) dX12_off_53 ?_
      rw [rowI_rowI]
      have h' := (h.asd S.1).row' (s := S.1) rfl
      refine aw_icmp_le 67 rfl dX12_off_56 (fun c3 => ?_) (fun c3 => ?_)
      · rw [if_pos ((nI_leI (by omega) (by decide)).mp c3)] at hQ
        refine aw_iload_n rfl dX12_off_67 ?_
        refine aw_iret dX12_off_68 rfl ?_
        exact hQ _ h'
      · rw [if_neg (fun q => c3 (nI_le q (by decide)))] at hQ
        refine aw_aload_n rfl dX12_off_59 ?_
        refine aw_iconst (v := 3) (by decide) dX12_off_60 ?_
        refine aw_v1 kX12_118 ⟨ble rfl, ble rfl⟩ (rcM) (ble rfl) dX12_off_61 (q_no h' (k := 3) rfl (by decide) (fun μ' h' => ?_))
        refine aw_goto 68 rfl dX12_off_64 ?_
        refine aw_iret dX12_off_68 rfl ?_
        exact hQ μ' h'
    have loop : ∀ j i, i + j = 401 → T = i + fday (fun s => decide (¬ s (5 + 5 * q + 2) = 1)) (mny S.1) j (goesN (mny S.1) i S.1) → AW Sc mX12_off 20 [(0, .ref 71), (1, .int x), (2, .int (nI i))] [] K0 (rowI (rowI μ 74 S.1) 72 (goesN (mny S.1) i S.1)) n Q := by
      intro j
      induction j with
      | zero =>
        intro i hi hf
        refine aw_iload_n rfl dX12_off_20 ?_
        refine aw_sipush (v := 400) (by decide) dX12_off_21 ?_
        refine aw_icmp_gt 48 rfl dX12_off_24 (fun _ => ?_) (fun c_ => absurd (nI_lt (a := 400) (by omega) (by omega)) c_)
        exact fin i _ hf (by omega)
      | succ j ih =>
        intro i hi hf
        refine aw_iload_n rfl dX12_off_20 ?_
        refine aw_sipush (v := 400) (by decide) dX12_off_21 ?_
        refine aw_icmp_gt 48 rfl dX12_off_24 (fun c_ => absurd c_ (nI_nlt (b := i) (a := 400) (by omega) (by omega))) (fun _ => ?_)
        refine aw_aload_n rfl dX12_off_27 ?_
        refine aw_iload_n rfl dX12_off_28 ?_
        refine aw_iconst (v := 2) (by decide) dX12_off_29 ?_
        refine aw_v2 kX12_60 ⟨ble rfl, ble rfl⟩ (rcM) (ble rfl) dX12_off_30 (g_get hM (rowI_get _ _ _) hxq (j := 2) rfl (by omega) (by decide) ?_)
        refine aw_iconst (v := 1) (by decide) dX12_off_33 ?_
        rw [fday] at hf
        refine aw_icmp_ne 48 rfl dX12_off_34 (fun c3 => ?_) (fun c3 => ?_)
        · rw [decide_eq_true c3, if_pos rfl] at hf
          exact fin i _ hf (by omega)
        · rw [decide_eq_false (fun z => z c3), if_neg (by decide)] at hf
          refine aw_aload_n rfl dX12_off_37 ?_
          refine aw_iconst (v := 1) (by decide) dX12_off_38 ?_
          refine aw_v1 kX12_106 ⟨ble rfl, ble rfl⟩ (rcM) (ble rfl) dX12_off_39 (k_goes hM (rowI_get _ _ _) (by rw [goesN_4]; exact h4) hm (t := 1) rfl (by decide) ?_)
          rw [rowI_rowI]
          refine aw_iinc rfl (v := 1) (by decide) (ble rfl) dX12_off_42 ?_
          refine aw_goto 20 rfl dX12_off_45 ?_
          rw [nI_1]
          have := ih (i + 1) (by omega) (by rw [goesN_succ]; omega)
          rw [goesN_succ] at this
          exact this
    refine aw_iconst (v := 0) (by decide) dX12_off_18 ?_
    refine aw_istore_n (ble rfl) dX12_off_19 ?_
    have := loop 401 0 rfl (by rw [Nat.zero_add]; exact hT.symm)
    rw [goesN, rowI_same (by rw [rowI_ne _ _ (by decide)]; exact hs)] at this
    exact this
  · rw [c] at hQ
    refine aw_aload_n rfl dX12_off_8 ?_
    refine aw_iconst (v := 0) (by decide) dX12_off_9 ?_
    refine aw_v1 kX12_118 ⟨ble rfl, ble rfl⟩ (rcM) (ble rfl) dX12_off_10 (q_no h rfl (by decide) (fun μ' h' => ?_))
    refine aw_iret dX12_off_13 rfl ?_
    exact hQ μ' h'
theorem q_turns (h : MJ μ0 μ S) (hW : WF S) (hQ : ∀ μ', MJ μ0 μ' (sp_turns S).2 → Q (some (.int (sp_turns S).1)) K0 μ') : AM Sc mX12_turns [.ref 71] K0 μ n Q := by
  refine AM.of rfl (ble rfl) ?_
  have hs := h.hs
  have hM := h.hM
  obtain ⟨h4, hm, -⟩ := hW.1
  unfold sp_turns at hQ
  refine aw_aload_n rfl dX12_turns_0 ?_
  refine aw_v0 kX12_145 ⟨ble rfl, ble rfl⟩ (rcM) (ble rfl) dX12_turns_1 (k_setsAside hM hs ?_)
  refine aw_aload_n rfl dX12_turns_4 ?_
  refine aw_v0 kX12_71 ⟨ble rfl, ble rfl⟩ (rcM) (ble rfl) dX12_turns_5 (k_aheadNow (s := S.1) hM (by rw [rowI_ne _ _ (by decide)]; exact hs) ?_)
  refine aw_istore_n (ble rfl) dX12_turns_8 ?_
  generalize hT : fday _ (mny S.1) 401 S.1 = T at hQ
  have fin : ∀ (i : Nat) (s' : Nat → Int32), T = i → i ≤ 401 → AW Sc mX12_turns 37 [(0, .ref 71), (1, .int (aheadN S.1)), (2, .int (nI i))] [] K0 (rowI (rowI μ 74 S.1) 72 s') n Q := by
    intro i s' hi hi2
    rw [hi] at hQ
    unfold ansD at hQ
    refine aw_aload_n rfl dX12_turns_37 ?_
    refine aw_v0 kX12_112 ⟨ble rfl, ble rfl⟩ (rcM) (ble rfl) dX12_turns_38 (k_laysBack (a := S.1) hM (by rw [rowI_ne _ _ (by decide), rowI_get]) ?_)
    refine aw_iload_n rfl dX12_turns_41 ?_
    refine aw_sipush (v := 400) (by decide) dX12_turns_42 ?_
    rw [rowI_rowI]
    have h' := (h.asd S.1).row' (s := S.1) rfl
    refine aw_icmp_le 56 rfl dX12_turns_45 (fun c3 => ?_) (fun c3 => ?_)
    · rw [if_pos ((nI_leI (by omega) (by decide)).mp c3)] at hQ
      refine aw_iload_n rfl dX12_turns_56 ?_
      refine aw_iret dX12_turns_57 rfl ?_
      exact hQ _ h'
    · rw [if_neg (fun q => c3 (nI_le q (by decide)))] at hQ
      refine aw_aload_n rfl dX12_turns_48 ?_
      refine aw_iconst (v := 3) (by decide) dX12_turns_49 ?_
      refine aw_v1 kX12_118 ⟨ble rfl, ble rfl⟩ (rcM) (ble rfl) dX12_turns_50 (q_no h' (k := 3) rfl (by decide) (fun μ' h' => ?_))
      refine aw_goto 57 rfl dX12_turns_53 ?_
      refine aw_iret dX12_turns_57 rfl ?_
      exact hQ μ' h'
  have loop : ∀ j i, i + j = 401 → T = i + fday (fun s => decide (¬ aheadN s = aheadN S.1)) (mny S.1) j (goesN (mny S.1) i S.1) → AW Sc mX12_turns 11 [(0, .ref 71), (1, .int (aheadN S.1)), (2, .int (nI i))] [] K0 (rowI (rowI μ 74 S.1) 72 (goesN (mny S.1) i S.1)) n Q := by
    intro j
    induction j with
    | zero =>
      intro i hi hf
      refine aw_iload_n rfl dX12_turns_11 ?_
      refine aw_sipush (v := 400) (by decide) dX12_turns_12 ?_
      refine aw_icmp_gt 37 rfl dX12_turns_15 (fun _ => ?_) (fun c_ => absurd (nI_lt (a := 400) (by omega) (by omega)) c_)
      exact fin i _ hf (by omega)
    | succ j ih =>
      intro i hi hf
      refine aw_iload_n rfl dX12_turns_11 ?_
      refine aw_sipush (v := 400) (by decide) dX12_turns_12 ?_
      refine aw_icmp_gt 37 rfl dX12_turns_15 (fun c_ => absurd c_ (nI_nlt (b := i) (a := 400) (by omega) (by omega))) (fun _ => ?_)
      refine aw_aload_n rfl dX12_turns_18 ?_
      refine aw_v0 kX12_71 ⟨ble rfl, ble rfl⟩ (rcM) (ble rfl) dX12_turns_19 (k_aheadNow hM (rowI_get _ _ _) ?_)
      refine aw_iload_n rfl dX12_turns_22 ?_
      rw [fday] at hf
      refine aw_icmp_ne 37 rfl dX12_turns_23 (fun c3 => ?_) (fun c3 => ?_)
      · rw [decide_eq_true c3, if_pos rfl] at hf
        exact fin i _ hf (by omega)
      · rw [decide_eq_false (fun z => z c3), if_neg (by decide)] at hf
        refine aw_aload_n rfl dX12_turns_26 ?_
        refine aw_iconst (v := 1) (by decide) dX12_turns_27 ?_
        refine aw_v1 kX12_106 ⟨ble rfl, ble rfl⟩ (rcM) (ble rfl) dX12_turns_28 (k_goes hM (rowI_get _ _ _) (by rw [goesN_4]; exact h4) hm (t := 1) rfl (by decide) ?_)
        rw [rowI_rowI]
        refine aw_iinc rfl (v := 1) (by decide) (ble rfl) dX12_turns_31 ?_
        refine aw_goto 11 rfl dX12_turns_34 ?_
        rw [nI_1]
        have := ih (i + 1) (by omega) (by rw [goesN_succ]; omega)
        rw [goesN_succ] at this
        exact this
  refine aw_iconst (v := 0) (by decide) dX12_turns_9 ?_
  refine aw_istore_n (ble rfl) dX12_turns_10 ?_
  have := loop 401 0 rfl (by rw [Nat.zero_add]; exact hT.symm)
  rw [goesN, rowI_same (by rw [rowI_ne _ _ (by decide)]; exact hs)] at this
  exact this
end Pub3
