/-! THE TEXT, 5: weeks, the knot, items, green -/
section Text5
variable {Sc : SCR} {μ μ0 ν : Mem} {n : Nat × Nat} {Q : PQ} {S : SG} {s a : Nat → Int32} {p : Nat}
theorem k_readsWeek {is : Bool} {x : Int32} (g : TP μ0 S a μ p) (hN : S.2.2.2.2.2.1 ≤ 120) (hp : p ≤ S.2.2.2.2.2.1) (hx : x = bI is) (hQ : ∀ ν, TP μ0 (wS S (rdWk S.2.2.2.2.1 S.2.2.2.2.2.1 is p S.1).2.2) a ν (rdWk S.2.2.2.2.1 S.2.2.2.2.2.1 is p S.1).2.1 → Q (some (.int (bI (rdWk S.2.2.2.2.1 S.2.2.2.2.2.1 is p S.1).1))) K0 ν) : AM Sc mX12_readsWeek [.ref 71, .int x] K0 μ n Q := by
  subst hx
  refine AM.of rfl (ble rfl) ?_
  refine aw_aload_n rfl dX12_readsWeek_0 ?_
  refine aw_iconst (v := 0) (by decide) dX12_readsWeek_1 ?_
  refine aw_bipush (v := 7) (by decide) dX12_readsWeek_2 ?_
  refine aw_v2 kX12_196 ⟨ble rfl, ble rfl⟩ (rcM) (ble rfl) dX12_readsWeek_4 (k_takesNumber (x := 0) (y := 7) g hN hp rfl rfl (by decide) (fun ν g => ?_))
  unfold ptk at g
  unfold rdWk at hQ
  have htl := fun v => @tkN_le S.2.2.2.2.1 S.2.2.2.2.2.1 p 0 7 v
  generalize tkN S.2.2.2.2.1 S.2.2.2.2.2.1 p 0 7 = o at g hQ htl
  have hM := g.mj.hM
  refine aw_istore_n (ble rfl) dX12_readsWeek_7 ?_
  refine aw_iload_n rfl dX12_readsWeek_8 ?_
  cases o with
  | none =>
    refine aw_if_lt 47 rfl dX12_readsWeek_9 (fun _ => ?_) (fun c_ => absurd ((by decide)) c_)
    refine aw_iload_n rfl dX12_readsWeek_47 ?_
    refine aw_if_lt 55 rfl dX12_readsWeek_48 (fun _ => ?_) (fun c_ => absurd ((by decide)) c_)
    refine aw_iconst (v := 0) (by decide) dX12_readsWeek_55 ?_
    exact aw_zret (b := false) rfl dX12_readsWeek_56 rfl (hQ ν g)
  | some v =>
    have := htl v rfl
    refine aw_if_lt 47 rfl dX12_readsWeek_9 (fun c_ => absurd c_ (nI_pos (by omega))) (fun _ => ?_)
    have fin : ∀ y : Int32, y = (if is then S.1 3 ||| 1 <<< (nI v &&& 31) else S.1 3 &&& (1 <<< (nI v &&& 31) ^^^ -1)) → AW Sc mX12_readsWeek 46 [(0, .ref 71), (1, .int (bI is)), (2, .int (nI v))] [.int y, .int 3, .ref 72] K0 ν n Q := by
      intro y hy
      refine aw_iastoreN kS (c := 3) rfl (by decide) (by decide) dX12_readsWeek_46 ?_
      refine aw_iload_n rfl dX12_readsWeek_47 ?_
      refine aw_if_lt 55 rfl dX12_readsWeek_48 (fun c_ => absurd c_ (nI_pos (by omega))) (fun _ => ?_)
      refine aw_iconst (v := 1) (by decide) dX12_readsWeek_51 ?_
      refine aw_goto 56 rfl dX12_readsWeek_52 ?_
      refine aw_zret (b := true) rfl dX12_readsWeek_56 rfl (hQ _ ?_)
      have g2 := g.row (upd (ν.1 72) 3 y)
      rw [g.mj.hs, hy] at g2
      have e : pI ν 72 3 y = rowI ν 72 (upd S.1 3 (if is then S.1 3 ||| 1 <<< (nI v &&& 31) else S.1 3 &&& (1 <<< (nI v &&& 31) ^^^ -1))) := by
        rw [← hy, ← g.mj.hs]; rfl
      rw [e]
      exact g2
    refine aw_aload_n rfl dX12_readsWeek_12 ?_
    refine aw_getR gX12_9_12 kM rfl (hM.s) dX12_readsWeek_13 ?_
    refine aw_iconst (v := 3) (by decide) dX12_readsWeek_16 ?_
    refine aw_iload_n rfl dX12_readsWeek_17 ?_
    refine aw_zeq 34 rfl dX12_readsWeek_18 (fun c => ?_) (fun c => ?_)
    · rw [c, if_neg (by decide)] at fin
      rw [c]
      refine aw_aload_n rfl dX12_readsWeek_34 ?_
      refine aw_getR gX12_9_12 kM rfl (hM.s) dX12_readsWeek_35 ?_
      refine aw_iconst (v := 3) (by decide) dX12_readsWeek_38 ?_
      refine aw_ialoadN kS (c := 3) rfl (by decide) (by decide) dX12_readsWeek_39 ?_
      refine aw_iconst (v := 1) (by decide) dX12_readsWeek_40 ?_
      refine aw_iload_n rfl dX12_readsWeek_41 ?_
      refine aw_ishl dX12_readsWeek_42 ?_
      refine aw_iconst (v := (-1)) (by decide) dX12_readsWeek_43 ?_
      refine aw_ixor dX12_readsWeek_44 ?_
      refine aw_iand dX12_readsWeek_45 ?_
      rw [g.mj.hs]
      exact fin _ rfl
    · rw [c, if_pos rfl] at fin
      rw [c]
      refine aw_aload_n rfl dX12_readsWeek_21 ?_
      refine aw_getR gX12_9_12 kM rfl (hM.s) dX12_readsWeek_22 ?_
      refine aw_iconst (v := 3) (by decide) dX12_readsWeek_25 ?_
      refine aw_ialoadN kS (c := 3) rfl (by decide) (by decide) dX12_readsWeek_26 ?_
      refine aw_iconst (v := 1) (by decide) dX12_readsWeek_27 ?_
      refine aw_iload_n rfl dX12_readsWeek_28 ?_
      refine aw_ishl dX12_readsWeek_29 ?_
      refine aw_ior dX12_readsWeek_30 ?_
      refine aw_goto 46 rfl dX12_readsWeek_31 ?_
      rw [g.mj.hs]
      exact fin _ rfl
theorem k_readsKnot (g : TP μ0 S a μ p) (hN : S.2.2.2.2.2.1 ≤ 120) (hp : p ≤ S.2.2.2.2.2.1) (hQ : ∀ ν, TP μ0 (wS S (rdKn S.2.2.2.2.1 S.2.2.2.2.2.1 p S.1).2.2) a ν (rdKn S.2.2.2.2.1 S.2.2.2.2.2.1 p S.1).2.1 → Q (some (.int (bI (rdKn S.2.2.2.2.1 S.2.2.2.2.2.1 p S.1).1))) K0 ν) : AM Sc mX12_readsKnot [.ref 71] K0 μ n Q := by
  refine AM.of rfl (ble rfl) ?_
  have hM := g.mj.hM
  unfold rdKn at hQ
  have le : ∀ {q}, q ≤ S.2.2.2.2.2.1 → enp S.2.2.2.2.1 S.2.2.2.2.2.1 q ≤ S.2.2.2.2.2.1 := fun h => (enp_le h).2
  refine aw_aload_n rfl dX12_readsKnot_0 ?_
  refine aw_aload_n rfl dX12_readsKnot_1 ?_
  refine aw_getR gX12_29_12 kM rfl (hM.sides) dX12_readsKnot_2 ?_
  refine aw_v1 kX12_192 ⟨ble rfl, ble rfl⟩ (rcM) (ble rfl) dX12_readsKnot_5 (k_sid g ?_)
  refine aw_istore_n (ble rfl) dX12_readsKnot_8 ?_
  refine aw_iload_n rfl dX12_readsKnot_9 ?_
  have hsl : ∀ j, sidW (runp S.2.2.2.2.1 S.2.2.2.2.2.1 p) = some j → j < 2 := fun j hj => sidW_lt hj
  generalize sidW (runp S.2.2.2.2.1 S.2.2.2.2.2.1 p) = o at hQ hsl
  cases o with
  | none =>
    refine aw_if_ge 15 rfl dX12_readsKnot_10 (fun c_ => absurd c_ ((by decide))) (fun _ => ?_)
    refine aw_iconst (v := 0) (by decide) dX12_readsKnot_13 ?_
    exact aw_zret (b := false) rfl dX12_readsKnot_14 rfl (hQ μ g)
  | some sd =>
    have hsd := hsl sd rfl
    refine aw_if_ge 15 rfl dX12_readsKnot_10 (fun _ => ?_) (fun c_ => absurd (nI_le (a := 0) (by omega) (by omega)) c_)
    refine aw_aload_n rfl dX12_readsKnot_15 ?_
    refine aw_v0 kX12_189 ⟨ble rfl, ble rfl⟩ (rcM) (ble rfl) dX12_readsKnot_16 (k_nextToken g hN (le hp) (fun ν g => ?_))
    have g : TP μ0 S a ν (enp S.2.2.2.2.1 S.2.2.2.2.2.1 p) := g
    refine aw_aload_n rfl dX12_readsKnot_19 ?_
    refine aw_iconst (v := 0) (by decide) dX12_readsKnot_20 ?_
    refine aw_sipush (v := 9999) (by decide) dX12_readsKnot_21 ?_
    refine aw_v2 kX12_196 ⟨ble rfl, ble rfl⟩ (rcM) (ble rfl) dX12_readsKnot_24 (k_takesNumber (x := 0) (y := 9999) g hN (le hp) rfl rfl (by decide) (fun ν g => ?_))
    unfold ptk at g
    have htl := fun v => @tkN_le S.2.2.2.2.1 S.2.2.2.2.2.1 (enp S.2.2.2.2.1 S.2.2.2.2.2.1 p) 0 9999 v
    simp only at hQ
    generalize tkN S.2.2.2.2.1 S.2.2.2.2.2.1 (enp S.2.2.2.2.1 S.2.2.2.2.2.1 p) 0 9999 = o at g hQ htl
    have hM := g.mj.hM
    refine aw_istore_n (ble rfl) dX12_readsKnot_27 ?_
    refine aw_aload_n rfl dX12_readsKnot_28 ?_
    refine aw_getR gX12_9_12 kM rfl (hM.s) dX12_readsKnot_29 ?_
    refine aw_iconst (v := 1) (by decide) dX12_readsKnot_32 ?_
    refine aw_iload_n rfl dX12_readsKnot_33 ?_
    cases o with
    | none =>
      refine aw_if_ge 46 rfl dX12_readsKnot_34 (fun c_ => absurd c_ ((by decide))) (fun _ => ?_)
      refine aw_aload_n rfl dX12_readsKnot_37 ?_
      refine aw_getR gX12_9_12 kM rfl (hM.s) dX12_readsKnot_38 ?_
      refine aw_iconst (v := 1) (by decide) dX12_readsKnot_41 ?_
      refine aw_ialoadN kS (c := 1) rfl (by decide) (by decide) dX12_readsKnot_42 ?_
      refine aw_goto 56 rfl dX12_readsKnot_43 ?_
      refine aw_iastoreN kS (c := 1) rfl (by decide) (by decide) dX12_readsKnot_56 ?_
      refine aw_iload_n rfl dX12_readsKnot_57 ?_
      refine aw_if_lt 65 rfl dX12_readsKnot_58 (fun _ => ?_) (fun c_ => absurd ((by decide)) c_)
      refine aw_iconst (v := 0) (by decide) dX12_readsKnot_65 ?_
      refine aw_zret (b := false) rfl dX12_readsKnot_66 rfl (hQ _ ?_)
      have g2 := g.row S.1
      have e : pI ν 72 1 (ν.1 72 1) = rowI ν 72 S.1 := by
        rw [← g.mj.hs]
        show rowI ν 72 (upd (ν.1 72) 1 (ν.1 72 1)) = _
        congr 1
        funext j
        by_cases hj : j = 1
        · rw [hj]; exact upd_eq
        · exact upd_ne hj
      rw [e]
      exact g2
    | some v =>
      have := htl v rfl
      refine aw_if_ge 46 rfl dX12_readsKnot_34 (fun _ => ?_) (fun c_ => absurd (nI_le (a := 0) (by omega) (by omega)) c_)
      have fin : ∀ y : Int32, y = (if sd = 0 then -nI v else nI v) → AW Sc mX12_readsKnot 56 [(0, .ref 71), (1, .int (nI sd)), (2, .int (nI v))] [.int y, .int 1, .ref 72] K0 ν n Q := by
        intro y hy
        refine aw_iastoreN kS (c := 1) rfl (by decide) (by decide) dX12_readsKnot_56 ?_
        refine aw_iload_n rfl dX12_readsKnot_57 ?_
        refine aw_if_lt 65 rfl dX12_readsKnot_58 (fun c_ => absurd c_ (nI_pos (by omega))) (fun _ => ?_)
        refine aw_iconst (v := 1) (by decide) dX12_readsKnot_61 ?_
        refine aw_goto 66 rfl dX12_readsKnot_62 ?_
        refine aw_zret (b := true) rfl dX12_readsKnot_66 rfl (hQ _ ?_)
        have g2 := g.row (upd S.1 1 (if sd = 0 then -nI v else nI v))
        have e : pI ν 72 1 y = rowI ν 72 (upd S.1 1 (if sd = 0 then -nI v else nI v)) := by
          rw [← hy, ← g.mj.hs]; rfl
        rw [e]
        exact g2
      refine aw_iload_n rfl dX12_readsKnot_46 ?_
      by_cases hc : sd = 0
      · subst hc
        refine aw_if_ne 55 rfl dX12_readsKnot_47 (fun c_ => absurd (rfl) c_) (fun _ => ?_)
        refine aw_iload_n rfl dX12_readsKnot_50 ?_
        refine aw_ineg dX12_readsKnot_51 ?_
        refine aw_goto 56 rfl dX12_readsKnot_52 ?_
        exact fin _ rfl
      · obtain rfl : sd = 1 := by omega
        refine aw_if_ne 55 rfl dX12_readsKnot_47 (fun _ => ?_) (fun c_ => absurd c_ ((by decide)))
        refine aw_iload_n rfl dX12_readsKnot_55 ?_
        exact fin _ rfl
theorem k_readsItem (g : TP μ0 S a μ p) (hN : S.2.2.2.2.2.1 ≤ 120) (hp : p ≤ S.2.2.2.2.2.1) (h4 : S.1 4 = nI (mny S.1)) (hm : mny S.1 ≤ 10) (hQ : ∀ ν, TP μ0 (wS S (rdItem S.2.2.2.2.1 S.2.2.2.2.2.1 p S.1).2.2) a ν (rdItem S.2.2.2.2.1 S.2.2.2.2.2.1 p S.1).2.1 → Q (some (.int (bI (rdItem S.2.2.2.2.1 S.2.2.2.2.2.1 p S.1).1))) K0 ν) : AM Sc mX12_readsItem [.ref 71] K0 μ n Q := by
  refine AM.of rfl (ble rfl) ?_
  have hM := g.mj.hM
  unfold rdItem at hQ
  have le : ∀ {q}, q ≤ S.2.2.2.2.2.1 → enp S.2.2.2.2.1 S.2.2.2.2.2.1 q ≤ S.2.2.2.2.2.1 := fun h => (enp_le h).2
  refine aw_aload_n rfl dX12_readsItem_0 ?_
  refine aw_aload_n rfl dX12_readsItem_1 ?_
  refine aw_getR gX12_25_12 kM rfl (hM.letters) dX12_readsItem_2 ?_
  refine aw_v1 kX12_192 ⟨ble rfl, ble rfl⟩ (rcM) (ble rfl) dX12_readsItem_5 (k_knd g ?_)
  refine aw_istore_n (ble rfl) dX12_readsItem_8 ?_
  refine aw_iload_n rfl dX12_readsItem_9 ?_
  have hkl : ∀ j, kndW (runp S.2.2.2.2.1 S.2.2.2.2.2.1 p) = some j → j < 6 := fun j hj => kndW_lt hj
  generalize kndW (runp S.2.2.2.2.1 S.2.2.2.2.2.1 p) = o at hQ hkl
  cases o with
  | some kd =>
    have hkd := hkl kd rfl
    refine aw_if_lt 19 rfl dX12_readsItem_10 (fun c_ => absurd c_ (nI_pos (by omega))) (fun _ => ?_)
    refine aw_aload_n rfl dX12_readsItem_13 ?_
    refine aw_iload_n rfl dX12_readsItem_14 ?_
    refine aw_v1 kX12_199 ⟨ble rfl, ble rfl⟩ (rcM) (ble rfl) dX12_readsItem_15 (k_readsPerson g hN hp h4 hm (kd := kd) rfl (fun ν g => ?_))
    exact aw_zret rfl dX12_readsItem_18 rfl (hQ _ g)
  | none =>
    refine aw_if_lt 19 rfl dX12_readsItem_10 (fun _ => ?_) (fun c_ => absurd ((by decide)) c_)
    refine aw_aload_n rfl dX12_readsItem_19 ?_
    refine aw_aload_n rfl dX12_readsItem_20 ?_
    refine aw_getR gX12_35_12 kM rfl (hM.others) dX12_readsItem_21 ?_
    refine aw_v1 kX12_192 ⟨ble rfl, ble rfl⟩ (rcM) (ble rfl) dX12_readsItem_24 (k_oth g ?_)
    refine aw_istore_n (ble rfl) dX12_readsItem_27 ?_
    refine aw_iload_n rfl dX12_readsItem_28 ?_
    have hol : ∀ j, othW (runp S.2.2.2.2.1 S.2.2.2.2.2.1 p) = some j → j < 4 := fun j hj => othW_lt hj
    simp only at hQ
    generalize othW (runp S.2.2.2.2.1 S.2.2.2.2.2.1 p) = o at hQ hol
    cases o with
    | none =>
      refine aw_if_ge 34 rfl dX12_readsItem_29 (fun c_ => absurd c_ ((by decide))) (fun _ => ?_)
      refine aw_iconst (v := 0) (by decide) dX12_readsItem_32 ?_
      exact aw_zret (b := false) rfl dX12_readsItem_33 rfl (hQ _ g)
    | some w =>
      have hw := hol w rfl
      simp only at hQ
      refine aw_if_ge 34 rfl dX12_readsItem_29 (fun _ => ?_) (fun c_ => absurd (nI_le (a := 0) (by omega) (by omega)) c_)
      refine aw_aload_n rfl dX12_readsItem_34 ?_
      refine aw_v0 kX12_189 ⟨ble rfl, ble rfl⟩ (rcM) (ble rfl) dX12_readsItem_35 (k_nextToken g hN (le hp) (fun ν g => ?_))
      have g : TP μ0 S a ν (enp S.2.2.2.2.1 S.2.2.2.2.2.1 p) := g
      have hp := le hp
      generalize enp S.2.2.2.2.1 S.2.2.2.2.2.1 p = p at g hp hQ
      refine aw_iload_n rfl dX12_readsItem_38 ?_
      refine aw_iconst (v := 2) (by decide) dX12_readsItem_39 ?_
      by_cases h2 : w < 2
      · simp only [if_pos h2] at hQ
        refine aw_icmp_ge 58 rfl dX12_readsItem_40 (fun c_ => absurd c_ (nI_ge (b := 2) (by omega) (by omega))) (fun _ => ?_)
        refine aw_aload_n rfl dX12_readsItem_43 ?_
        refine aw_iload_n rfl dX12_readsItem_44 ?_
        refine aw_iconst (v := 1) (by decide) dX12_readsItem_45 ?_
        by_cases h1 : w = 1
        · subst h1
          refine aw_icmp_ne 53 rfl dX12_readsItem_46 (fun c_ => absurd (rfl) c_) (fun _ => ?_)
          refine aw_iconst (v := 1) (by decide) dX12_readsItem_49 ?_
          refine aw_goto 54 rfl dX12_readsItem_50 ?_
          refine aw_v1 kX12_202 ⟨ble rfl, ble rfl⟩ (rcM) (ble rfl) dX12_readsItem_54 (k_readsWeek (is := true) g hN hp rfl (fun ν g => ?_))
          exact aw_zret rfl dX12_readsItem_57 rfl (hQ _ g)
        · obtain rfl : w = 0 := by omega
          refine aw_icmp_ne 53 rfl dX12_readsItem_46 (fun _ => ?_) (fun c_ => absurd c_ ((by decide)))
          refine aw_iconst (v := 0) (by decide) dX12_readsItem_53 ?_
          refine aw_v1 kX12_202 ⟨ble rfl, ble rfl⟩ (rcM) (ble rfl) dX12_readsItem_54 (k_readsWeek (is := false) g hN hp rfl (fun ν g => ?_))
          exact aw_zret rfl dX12_readsItem_57 rfl (hQ _ g)
      · simp only [if_neg h2] at hQ
        refine aw_icmp_ge 58 rfl dX12_readsItem_40 (fun _ => ?_) (fun c_ => absurd (nI_le (a := 2) (by omega) (by omega)) c_)
        refine aw_iload_n rfl dX12_readsItem_58 ?_
        refine aw_iconst (v := 2) (by decide) dX12_readsItem_59 ?_
        by_cases h3 : w = 2
        · subst h3
          refine aw_icmp_ne 68 rfl dX12_readsItem_60 (fun c_ => absurd (rfl) c_) (fun _ => ?_)
          refine aw_aload_n rfl dX12_readsItem_63 ?_
          refine aw_v0 kX12_206 ⟨ble rfl, ble rfl⟩ (rcM) (ble rfl) dX12_readsItem_64 (k_readsKnot g hN hp (fun ν g => ?_))
          exact aw_zret rfl dX12_readsItem_67 rfl (hQ _ g)
        · obtain rfl : w = 3 := by omega
          refine aw_icmp_ne 68 rfl dX12_readsItem_60 (fun _ => ?_) (fun c_ => absurd c_ ((by decide)))
          have hQ : ∀ ν, TP μ0 (wS S (rdSl S.2.2.2.2.1 S.2.2.2.2.2.1 p S.1).2.2) a ν (rdSl S.2.2.2.2.1 S.2.2.2.2.2.1 p S.1).2.1 → Q (some (.int (bI (rdSl S.2.2.2.2.1 S.2.2.2.2.2.1 p S.1).1))) K0 ν := hQ
          unfold rdSl at hQ
          refine aw_aload_n rfl dX12_readsItem_68 ?_
          refine aw_iconst (v := 0) (by decide) dX12_readsItem_69 ?_
          refine aw_bipush (v := 99) (by decide) dX12_readsItem_70 ?_
          refine aw_v2 kX12_196 ⟨ble rfl, ble rfl⟩ (rcM) (ble rfl) dX12_readsItem_72 (k_takesNumber (x := 0) (y := 99) g hN hp rfl rfl (by decide) (fun ν g => ?_))
          unfold ptk at g
          have htl := fun v => @tkN_le S.2.2.2.2.1 S.2.2.2.2.2.1 p 0 99 v
          generalize tkN S.2.2.2.2.1 S.2.2.2.2.2.1 p 0 99 = o at g hQ htl
          have hM := g.mj.hM
          refine aw_istore_n (ble rfl) dX12_readsItem_75 ?_
          refine aw_aload_n rfl dX12_readsItem_76 ?_
          refine aw_getR gX12_9_12 kM rfl (hM.s) dX12_readsItem_77 ?_
          refine aw_iconst (v := 2) (by decide) dX12_readsItem_80 ?_
          refine aw_iload_n rfl dX12_readsItem_81 ?_
          cases o with
          | none =>
            refine aw_if_ge 94 rfl dX12_readsItem_82 (fun c_ => absurd c_ ((by decide))) (fun _ => ?_)
            refine aw_aload_n rfl dX12_readsItem_85 ?_
            refine aw_getR gX12_9_12 kM rfl (hM.s) dX12_readsItem_86 ?_
            refine aw_iconst (v := 2) (by decide) dX12_readsItem_89 ?_
            refine aw_ialoadN kS (c := 2) rfl (by decide) (by decide) dX12_readsItem_90 ?_
            refine aw_goto 95 rfl dX12_readsItem_91 ?_
            refine aw_iastoreN kS (c := 2) rfl (by decide) (by decide) dX12_readsItem_95 ?_
            refine aw_iload_n rfl dX12_readsItem_96 ?_
            refine aw_if_lt 104 rfl dX12_readsItem_97 (fun _ => ?_) (fun c_ => absurd ((by decide)) c_)
            refine aw_iconst (v := 0) (by decide) dX12_readsItem_104 ?_
            refine aw_zret (b := false) rfl dX12_readsItem_105 rfl (hQ _ ?_)
            have g2 := g.row S.1
            have e : pI ν 72 2 (ν.1 72 2) = rowI ν 72 S.1 := by
              rw [← g.mj.hs]
              show rowI ν 72 (upd (ν.1 72) 2 (ν.1 72 2)) = _
              congr 1
              funext j
              by_cases hj : j = 2
              · rw [hj]; exact upd_eq
              · exact upd_ne hj
            rw [e]
            exact g2
          | some v =>
            have := htl v rfl
            refine aw_if_ge 94 rfl dX12_readsItem_82 (fun _ => ?_) (fun c_ => absurd (nI_le (a := 0) (by omega) (by omega)) c_)
            refine aw_iload_n rfl dX12_readsItem_94 ?_
            refine aw_iastoreN kS (c := 2) rfl (by decide) (by decide) dX12_readsItem_95 ?_
            refine aw_iload_n rfl dX12_readsItem_96 ?_
            refine aw_if_lt 104 rfl dX12_readsItem_97 (fun c_ => absurd c_ (nI_pos (by omega))) (fun _ => ?_)
            refine aw_iconst (v := 1) (by decide) dX12_readsItem_100 ?_
            refine aw_goto 105 rfl dX12_readsItem_101 ?_
            refine aw_zret (b := true) rfl dX12_readsItem_105 rfl (hQ _ ?_)
            have g2 := g.row (upd S.1 2 (nI v))
            have e : pI ν 72 2 (nI v) = rowI ν 72 (upd S.1 2 (nI v)) := by
              rw [← g.mj.hs]; rfl
            exact e ▸ g2
end Text5
