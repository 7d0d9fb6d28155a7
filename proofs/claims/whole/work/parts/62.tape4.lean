/-! THE TAPE OF THE CLASS, 4: persons, items -/
theorem morW_0 (r : List Int32) : morW r = some 0 ↔ r = wdTired := by
  unfold morW
  by_cases h0 : r = wdTired
  · rw [if_pos h0]; exact ⟨fun _ => h0, fun _ => rfl⟩
  · rw [if_neg h0]
    refine ⟨fun z => ?_, fun z => absurd z h0⟩
    split at z
    · exact absurd z (by decide)
    · split at z <;> exact absurd z (by decide)
theorem morW_1 (r : List Int32) : morW r = some 1 ↔ r = wdStrong := by
  unfold morW
  by_cases h1 : r = wdStrong
  · rw [h1]; decide
  · refine ⟨fun z => ?_, fun z => absurd z h1⟩
    split at z
    · exact absurd z (by decide)
    · split at z <;> exact absurd z (by decide)
theorem morW_2 (r : List Int32) : morW r = some 2 ↔ r = wdOn := by
  unfold morW
  by_cases h1 : r = wdOn
  · rw [h1]; decide
  · refine ⟨fun z => ?_, fun z => absurd z h1⟩
    split at z
    · exact absurd z (by decide)
    · split at z
      · exact absurd z (by decide)
      · exact absurd z (by decide)
section Tp4
variable {Sc : SCR} {μ μ0 ν : Mem} {n : Nat × Nat} {Q : PQ} {S : SG} {s : Nat → Int32} {i p : Nat} {so st en tk : Int32}
theorem c_takePerson {kd : Nat} {x : Int32} (g : TQ μ0 S s μ p tk) (hp : p ≤ S.2.2.2.2.2.1) (hx : x = nI kd) (hkd : kd < 6) (hQ : ∀ ν tk, TQ μ0 S (rdPer S.2.2.2.2.1 S.2.2.2.2.2.1 kd p s).2.2 ν (rdPer S.2.2.2.2.1 S.2.2.2.2.2.1 kd p s).2.1 tk → Q (some (.int (bI (rdPer S.2.2.2.2.1 S.2.2.2.2.2.1 kd p s).1))) K0 ν) : AM Sc mX9_takePerson [.ref 59, .ref 20, .int x] K0 μ n Q := by
  refine AM.of rfl (ble rfl) ?_
  generalize hR : rdPer S.2.2.2.2.1 S.2.2.2.2.2.1 kd p s = R at hQ
  have ret : ∀ (c : Bool) (p' : Nat) (s' : Nat → Int32) (ν : Mem) (tk : Int32), (c, p', s') = R → TQ μ0 S s' ν p' tk → Q (some (.int (bI c))) K0 ν := by
    intro c p' s' ν tk e g'
    subst e
    exact hQ ν tk g'
  unfold rdPer at hR
  have le : ∀ {q}, q ≤ S.2.2.2.2.2.1 → enp S.2.2.2.2.1 S.2.2.2.2.2.1 q ≤ S.2.2.2.2.2.1 := fun h => (enp_le h).2
  have hws := g.ws
  refine aw_aload_n rfl dX9_takePerson_0 ?_
  refine aw_v0 kX9_64 ⟨ble rfl, ble rfl⟩ (rcG g20) (ble rfl) dX9_takePerson_1 (c_isFull g20 g.ga hws ?_)
  refine aw_zeq 9 rfl dX9_takePerson_4 (fun c => ?_) (fun c => ?_)
  · have c := of_decide_eq_false c
    rw [if_neg c] at hR
    have hm9 : mny s < 10 := by
      have : mny s ≠ 10 := by
        intro z
        have h4 := hws.1
        rw [z] at h4
        exact c h4
      have := hws.2.1
      omega
    refine aw_aload_n rfl dX9_takePerson_9 ?_
    refine aw_v0 kX9_22 ⟨ble rfl, ble rfl⟩ (rcTp) (ble rfl) dX9_takePerson_10 (c_lookAtNext g (le hp) (fun ν1 g1 => ?_))
    refine aw_aload_n rfl dX9_takePerson_13 ?_
    refine aw_v0 kX9_70 ⟨ble rfl, ble rfl⟩ (rcTp) (ble rfl) dX9_takePerson_14 (c_takeSide g1 (le hp) (fun ν2 g2 => ?_))
    unfold psd at g2
    have hsl : ∀ j, sidW (runp S.2.2.2.2.1 S.2.2.2.2.2.1 (enp S.2.2.2.2.1 S.2.2.2.2.2.1 p)) = some j → j < 2 := fun j hj => sidW_lt hj
    generalize sidW (runp S.2.2.2.2.1 S.2.2.2.2.2.1 (enp S.2.2.2.2.1 S.2.2.2.2.2.1 p)) = o at hR hsl g2
    refine aw_istore_n (ble rfl) dX9_takePerson_17 ?_
    refine aw_iload_n rfl dX9_takePerson_18 ?_
    cases o with
    | none =>
      refine aw_if_ge 24 rfl dX9_takePerson_19 (fun c_ => absurd c_ ((by decide))) (fun _ => ?_)
      refine aw_iconst (v := 0) (by decide) dX9_takePerson_22 ?_
      exact aw_zret (b := false) rfl dX9_takePerson_23 rfl (ret _ _ _ _ _ hR g2)
    | some sd =>
      have hsd := hsl sd rfl
      have hR : rdP1 S.2.2.2.2.1 S.2.2.2.2.2.1 (mny s) (enp S.2.2.2.2.1 S.2.2.2.2.2.1 (enp S.2.2.2.2.1 S.2.2.2.2.2.1 p)) (addS s (mny s) (nI kd) (nI sd)) = R := hR
      have g2 : TQ μ0 S s ν2 (enp S.2.2.2.2.1 S.2.2.2.2.2.1 (enp S.2.2.2.2.1 S.2.2.2.2.2.1 p)) tk := g2
      have hp2 := le (le hp)
      generalize enp S.2.2.2.2.1 S.2.2.2.2.2.1 (enp S.2.2.2.2.1 S.2.2.2.2.2.1 p) = p2 at g2 hR hp2
      refine aw_if_ge 24 rfl dX9_takePerson_19 (fun _ => ?_) (fun c_ => absurd (nI_pos' (by omega)) c_)
      have hga := g2.ga
      refine aw_aload_n rfl dX9_takePerson_24 ?_
      refine aw_getR gX9_73_2 kG20 rfl (hga.1.2.1) dX9_takePerson_25 ?_
      refine aw_aload_n rfl dX9_takePerson_28 ?_
      refine aw_getI gX9_77_2 kG20 rfl dX9_takePerson_29 ?_
      refine aw_aaloadN (kGp g20) (fun _ => rfl) (hga.sz hws) hm9 (by decide) (hga.pe hm9) dX9_takePerson_32 ?_
      refine aw_astore (ble rfl) dX9_takePerson_33 ?_
      refine aw_aload_n rfl dX9_takePerson_35 ?_
      refine aw_iload_n rfl dX9_takePerson_36 ?_
      refine aw_iload_n rfl dX9_takePerson_37 ?_
      refine aw_v2 kX9_78 ⟨ble rfl, ble rfl⟩ (rcG g20) (ble rfl) dX9_takePerson_38 (c_addOne g20 hga hws hm9 hx hkd (fun ν3 F3 h3 => ?_))
      rw [hx] at h3
      have g3 := TT.fr g2 F3 h3 (WFs_add hws hm9 hkd hsd)
      have hm3 : mny s < mny (addS s (mny s) (nI kd) (nI sd)) := by rw [mny_add hm9]; omega
      have g3 : TQ μ0 S (addS s (mny s) (nI kd) (nI sd)) ν3 p2 tk := g3
      generalize addS s (mny s) (nI kd) (nI sd) = t0 at g3 hR hm3
      have yes : ∀ (p' : Nat) (s' : Nat → Int32) (ν : Mem) (tk : Int32) lv, (true, p', s') = R → TQ μ0 S s' ν p' tk → AW Sc mX9_takePerson 116 lv [] K0 ν n Q := by
        intro p' s' ν tk lv e g'
        refine aw_iconst (v := 1) (by decide) dX9_takePerson_116 ?_
        exact aw_zret (b := true) rfl dX9_takePerson_117 rfl (ret _ _ _ _ _ e g')
      have st3 : ∀ (q : Nat) (t : Nat → Int32) (ν : Mem) (tk : Int32), q ≤ S.2.2.2.2.2.1 → mny s < mny t → TQ μ0 S t ν q tk → rdP3 S.2.2.2.2.1 S.2.2.2.2.2.1 (mny s) q t = R → AW Sc mX9_takePerson 101 [(0, .ref 59), (4, .ref (20 + 9 + mny s))] [] K0 ν n Q := by
        intro q t ν tk hq hmt g e
        unfold rdP3 at e
        refine aw_aload_n rfl dX9_takePerson_101 ?_
        refine aw_ldcS 10 (by decide) rfl rfl dX9_takePerson_102 ?_
        refine aw_v1 kX9_45 ⟨ble rfl, ble rfl⟩ (rcTp) (ble rfl) dX9_takePerson_104 (c_takeWord (i := 10) (by decide) g hq (fun ν2 g2 => ?_))
        refine aw_zeq 116 rfl dX9_takePerson_107 (fun d => ?_) (fun d => ?_)
        · have d : ¬ runp S.2.2.2.2.1 S.2.2.2.2.2.1 q = wdOn := of_decide_eq_false d
          rw [if_neg (fun z => d ((morW_2 _).mp z))] at e
          rw [show (wdS 10) = wdOn from rfl, if_neg d] at g2
          exact yes _ _ ν2 tk _ e g2
        · have d : runp S.2.2.2.2.1 S.2.2.2.2.2.1 q = wdOn := of_decide_eq_true d
          rw [if_pos ((morW_2 _).mpr d)] at e
          rw [show (wdS 10) = wdOn from rfl, if_pos d] at g2
          refine aw_aload rfl dX9_takePerson_110 ?_
          refine aw_iconst (v := 1) (by decide) dX9_takePerson_112 ?_
          refine aw_putI (pX9_101_4 _) (kP g20 (i := mny s) hm9) rfl rfl rfl dX9_takePerson_113 ?_
          exact yes _ _ _ tk _ e (TT.fr g2 (frSlot (by omega)) (g2.ga.slot (c := 2) hmt (by omega)) (WFs_p g2.ws (by decide) (fun hk => WFp_2 (g2.ws.2.2.2.2 _ hk) (Or.inr rfl))))
      have st2 : ∀ (q : Nat) (t : Nat → Int32) (ν : Mem) (tk : Int32), q ≤ S.2.2.2.2.2.1 → mny s < mny t → TQ μ0 S t ν q tk → rdP2 S.2.2.2.2.1 S.2.2.2.2.2.1 (mny s) q t = R → AW Sc mX9_takePerson 71 [(0, .ref 59), (4, .ref (20 + 9 + mny s))] [] K0 ν n Q := by
        intro q t ν tk hq hmt g e
        unfold rdP2 at e
        refine aw_aload_n rfl dX9_takePerson_71 ?_
        refine aw_ldcS 9 (by decide) rfl rfl dX9_takePerson_72 ?_
        refine aw_v1 kX9_45 ⟨ble rfl, ble rfl⟩ (rcTp) (ble rfl) dX9_takePerson_74 (c_takeWord (i := 9) (by decide) g hq (fun ν2 g2 => ?_))
        refine aw_zeq 101 rfl dX9_takePerson_77 (fun d => ?_) (fun d => ?_)
        · have d : ¬ runp S.2.2.2.2.1 S.2.2.2.2.2.1 q = wdTired := of_decide_eq_false d
          rw [if_neg (fun z => d ((morW_0 _).mp z))] at e
          rw [show (wdS 9) = wdTired from rfl, if_neg d] at g2
          exact st3 q t ν2 tk hq hmt g2 e
        · have d : runp S.2.2.2.2.1 S.2.2.2.2.2.1 q = wdTired := of_decide_eq_true d
          rw [if_pos ((morW_0 _).mpr d)] at e
          rw [show (wdS 9) = wdTired from rfl, if_pos d] at g2
          refine aw_aload_n rfl dX9_takePerson_80 ?_
          refine aw_iconst (v := 0) (by decide) dX9_takePerson_81 ?_
          refine aw_bipush (v := 99) (by decide) dX9_takePerson_82 ?_
          refine aw_v2 kX9_84 ⟨ble rfl, ble rfl⟩ (rcTp) (ble rfl) dX9_takePerson_84 (c_takeNumber (x := 0) (y := 99) g2 (le hq) rfl rfl (by decide) (fun ν3 tk3 g3 ht => ?_))
          unfold ptk at g3
          have htl := fun v => @tkN_le S.2.2.2.2.1 S.2.2.2.2.2.1 (enp S.2.2.2.2.1 S.2.2.2.2.2.1 q) 0 99 v
          generalize tkN S.2.2.2.2.1 S.2.2.2.2.2.1 (enp S.2.2.2.2.1 S.2.2.2.2.2.1 q) 0 99 = o at e g3 htl ht
          cases o with
          | none =>
            refine aw_if_ne 92 rfl dX9_takePerson_87 (fun c_ => absurd (rfl) c_) (fun _ => ?_)
            refine aw_iconst (v := 0) (by decide) dX9_takePerson_90 ?_
            exact aw_zret (b := false) rfl dX9_takePerson_91 rfl (ret _ _ _ _ _ e g3)
          | some v =>
            have hv := htl v rfl
            have ev : tk3 = nI v := ht v rfl
            refine aw_if_ne 92 rfl dX9_takePerson_87 (fun _ => ?_) (fun c_ => absurd c_ ((show ¬ bI true = 0 by decide)))
            refine aw_aload rfl dX9_takePerson_92 ?_
            refine aw_aload_n rfl dX9_takePerson_94 ?_
            refine aw_getI gX9_88_9 kTp rfl dX9_takePerson_95 ?_
            rw [g3.h5, ev]
            refine aw_putI (pX9_97_4 _) (kP g20 (i := mny s) hm9) rfl rfl rfl dX9_takePerson_98 ?_
            exact st3 _ _ _ tk3 (le (le hq)) (by rw [mny_upd (by omega)]; exact hmt) (TT.fr g3 (frSlot (by omega)) (g3.ga.slot (c := 3) hmt (by omega)) (WFs_p g3.ws (by decide) (fun hk => WFp_3 (g3.ws.2.2.2.2 _ hk) hv.2))) e
      have st1 : ∀ (q : Nat) (t : Nat → Int32) (ν : Mem) (tk : Int32), q ≤ S.2.2.2.2.2.1 → mny s < mny t → TQ μ0 S t ν q tk → rdP1 S.2.2.2.2.1 S.2.2.2.2.2.1 (mny s) q t = R → AW Sc mX9_takePerson 41 [(0, .ref 59), (4, .ref (20 + 9 + mny s))] [] K0 ν n Q := by
        intro q t ν tk hq hmt g e
        unfold rdP1 at e
        refine aw_aload_n rfl dX9_takePerson_41 ?_
        refine aw_ldcS 8 (by decide) rfl rfl dX9_takePerson_42 ?_
        refine aw_v1 kX9_45 ⟨ble rfl, ble rfl⟩ (rcTp) (ble rfl) dX9_takePerson_44 (c_takeWord (i := 8) (by decide) g hq (fun ν2 g2 => ?_))
        refine aw_zeq 71 rfl dX9_takePerson_47 (fun d => ?_) (fun d => ?_)
        · have d : ¬ runp S.2.2.2.2.1 S.2.2.2.2.2.1 q = wdStrong := of_decide_eq_false d
          rw [if_neg (fun z => d ((morW_1 _).mp z))] at e
          rw [show (wdS 8) = wdStrong from rfl, if_neg d] at g2
          exact st2 q t ν2 tk hq hmt g2 e
        · have d : runp S.2.2.2.2.1 S.2.2.2.2.2.1 q = wdStrong := of_decide_eq_true d
          rw [if_pos ((morW_1 _).mpr d)] at e
          rw [show (wdS 8) = wdStrong from rfl, if_pos d] at g2
          refine aw_aload_n rfl dX9_takePerson_50 ?_
          refine aw_iconst (v := 1) (by decide) dX9_takePerson_51 ?_
          refine aw_bipush (v := 20) (by decide) dX9_takePerson_52 ?_
          refine aw_v2 kX9_84 ⟨ble rfl, ble rfl⟩ (rcTp) (ble rfl) dX9_takePerson_54 (c_takeNumber (x := 1) (y := 20) g2 (le hq) rfl rfl (by decide) (fun ν3 tk3 g3 ht => ?_))
          unfold ptk at g3
          have htl := fun v => @tkN_le S.2.2.2.2.1 S.2.2.2.2.2.1 (enp S.2.2.2.2.1 S.2.2.2.2.2.1 q) 1 20 v
          generalize tkN S.2.2.2.2.1 S.2.2.2.2.2.1 (enp S.2.2.2.2.1 S.2.2.2.2.2.1 q) 1 20 = o at e g3 htl ht
          cases o with
          | none =>
            refine aw_if_ne 62 rfl dX9_takePerson_57 (fun c_ => absurd (rfl) c_) (fun _ => ?_)
            refine aw_iconst (v := 0) (by decide) dX9_takePerson_60 ?_
            exact aw_zret (b := false) rfl dX9_takePerson_61 rfl (ret _ _ _ _ _ e g3)
          | some v =>
            have hv := htl v rfl
            have ev : tk3 = nI v := ht v rfl
            refine aw_if_ne 62 rfl dX9_takePerson_57 (fun _ => ?_) (fun c_ => absurd c_ ((show ¬ bI true = 0 by decide)))
            refine aw_aload rfl dX9_takePerson_62 ?_
            refine aw_aload_n rfl dX9_takePerson_64 ?_
            refine aw_getI gX9_88_9 kTp rfl dX9_takePerson_65 ?_
            rw [g3.h5, ev]
            refine aw_putI (pX9_91_4 _) (kP g20 (i := mny s) hm9) rfl rfl rfl dX9_takePerson_68 ?_
            exact st2 _ _ _ tk3 (le (le hq)) (by rw [mny_upd (by omega)]; exact hmt) (TT.fr g3 (frSlot (by omega)) (g3.ga.slot (c := 4) hmt (by omega)) (WFs_p g3.ws (by decide) (fun hk => WFp_4 (g3.ws.2.2.2.2 _ hk) hv.1 hv.2))) e
      refine aw_keep [0, 4] ?_
      exact st1 p2 t0 ν3 tk hp2 hm3 g3 hR
  · have c := of_decide_eq_true c
    rw [if_pos c] at hR
    refine aw_iconst (v := 0) (by decide) dX9_takePerson_7 ?_
    exact aw_zret (b := false) rfl dX9_takePerson_8 rfl (ret _ _ _ _ _ hR g)
theorem c_takeItem (g : TQ μ0 S s μ p tk) (hp : p ≤ S.2.2.2.2.2.1) (hQ : ∀ ν tk, TQ μ0 S (rdItem S.2.2.2.2.1 S.2.2.2.2.2.1 p s).2.2 ν (rdItem S.2.2.2.2.1 S.2.2.2.2.2.1 p s).2.1 tk → Q (some (.int (bI (rdItem S.2.2.2.2.1 S.2.2.2.2.2.1 p s).1))) K0 ν) : AM Sc mX9_takeItem [.ref 59, .ref 20] K0 μ n Q := by
  refine AM.of rfl (ble rfl) ?_
  have hel := (enp_le (b := S.2.2.2.2.1) hp).2
  unfold rdItem at hQ
  refine aw_aload_n rfl dX9_takeItem_0 ?_
  refine aw_v0 kX9_35 ⟨ble rfl, ble rfl⟩ (rcTp) (ble rfl) dX9_takeItem_1 (c_kindNamed g hp ?_)
  refine aw_istore_n (ble rfl) dX9_takeItem_4 ?_
  refine aw_iload_n rfl dX9_takeItem_5 ?_
  cases hk : kndW (runp S.2.2.2.2.1 S.2.2.2.2.2.1 p) with
  | some kd =>
    have hkd := kndW_lt hk
    rw [hk] at hQ
    refine aw_if_lt 16 rfl dX9_takeItem_6 (fun c_ => absurd c_ (nI_pos (by omega))) (fun _ => ?_)
    refine aw_aload_n rfl dX9_takeItem_9 ?_
    refine aw_aload_n rfl dX9_takeItem_10 ?_
    refine aw_iload_n rfl dX9_takeItem_11 ?_
    refine aw_v2 kX9_39 ⟨ble rfl, ble rfl⟩ (rcTp) (ble rfl) dX9_takeItem_12 (c_takePerson g hp (kd := kd) rfl hkd (fun ν tk g => ?_))
    exact aw_zret rfl dX9_takeItem_15 rfl (hQ _ _ g)
  | none =>
    rw [hk] at hQ
    simp only at hQ
    refine aw_if_lt 16 rfl dX9_takeItem_6 (fun _ => ?_) (fun c_ => absurd ((by decide)) c_)
    refine aw_aload_n rfl dX9_takeItem_16 ?_
    refine aw_ldcS 11 (by decide) rfl rfl dX9_takeItem_17 ?_
    refine aw_v1 kX9_45 ⟨ble rfl, ble rfl⟩ (rcTp) (ble rfl) dX9_takeItem_19 (c_takeWord (i := 11) (by decide) g hp (fun ν1 g1 => ?_))
    rw [show (wdS 11) = wdHarvest from rfl] at g1 ⊢
    refine aw_zeq 32 rfl dX9_takeItem_22 (fun d1 => ?_) (fun d1 => ?_)
    · have d1 : ¬ runp S.2.2.2.2.1 S.2.2.2.2.2.1 p = wdHarvest := of_decide_eq_false d1
      rw [if_neg d1] at g1
      refine aw_aload_n rfl dX9_takeItem_32 ?_
      refine aw_ldcS 12 (by decide) rfl rfl dX9_takeItem_33 ?_
      refine aw_v1 kX9_45 ⟨ble rfl, ble rfl⟩ (rcTp) (ble rfl) dX9_takeItem_35 (c_takeWord (i := 12) (by decide) g1 hp (fun ν2 g2 => ?_))
      rw [show (wdS 12) = wdPlain from rfl] at g2 ⊢
      refine aw_zeq 48 rfl dX9_takeItem_38 (fun d2 => ?_) (fun d2 => ?_)
      · have d2 : ¬ runp S.2.2.2.2.1 S.2.2.2.2.2.1 p = wdPlain := of_decide_eq_false d2
        rw [if_neg d2] at g2
        refine aw_aload_n rfl dX9_takeItem_48 ?_
        refine aw_ldcS 13 (by decide) rfl rfl dX9_takeItem_49 ?_
        refine aw_v1 kX9_45 ⟨ble rfl, ble rfl⟩ (rcTp) (ble rfl) dX9_takeItem_51 (c_takeWord (i := 13) (by decide) g2 hp (fun ν3 g3 => ?_))
        rw [show (wdS 13) = wdKnot from rfl] at g3 ⊢
        refine aw_zeq 63 rfl dX9_takeItem_54 (fun d3 => ?_) (fun d3 => ?_)
        · have d3 : ¬ runp S.2.2.2.2.1 S.2.2.2.2.2.1 p = wdKnot := of_decide_eq_false d3
          rw [if_neg d3] at g3
          refine aw_aload_n rfl dX9_takeItem_63 ?_
          refine aw_ldcS 14 (by decide) rfl rfl dX9_takeItem_64 ?_
          refine aw_v1 kX9_45 ⟨ble rfl, ble rfl⟩ (rcTp) (ble rfl) dX9_takeItem_66 (c_takeWord (i := 14) (by decide) g3 hp (fun ν4 g4 => ?_))
          rw [show (wdS 14) = wdSlack from rfl] at g4 ⊢
          refine aw_zeq 84 rfl dX9_takeItem_69 (fun d4 => ?_) (fun d4 => ?_)
          · have d4 : ¬ runp S.2.2.2.2.1 S.2.2.2.2.2.1 p = wdSlack := of_decide_eq_false d4
            rw [if_neg d4] at g4
            have e : othW (runp S.2.2.2.2.1 S.2.2.2.2.2.1 p) = none := by
              unfold othW
              rw [if_neg d2, if_neg d1, if_neg d3, if_neg d4]
            rw [e] at hQ
            refine aw_iconst (v := 0) (by decide) dX9_takeItem_84 ?_
            exact aw_zret (b := false) rfl dX9_takeItem_85 rfl (hQ ν4 tk g4)
          · have d4 : runp S.2.2.2.2.1 S.2.2.2.2.2.1 p = wdSlack := of_decide_eq_true d4
            rw [if_pos d4] at g4
            have e : othW (runp S.2.2.2.2.1 S.2.2.2.2.2.1 p) = some 3 := by rw [d4]; decide
            rw [e] at hQ
            have hQ : ∀ ν tk, TQ μ0 S (rdSl S.2.2.2.2.1 S.2.2.2.2.2.1 (enp S.2.2.2.2.1 S.2.2.2.2.2.1 p) s).2.2 ν (rdSl S.2.2.2.2.1 S.2.2.2.2.2.1 (enp S.2.2.2.2.1 S.2.2.2.2.2.1 p) s).2.1 tk → Q (some (.int (bI (rdSl S.2.2.2.2.1 S.2.2.2.2.2.1 (enp S.2.2.2.2.1 S.2.2.2.2.2.1 p) s).1))) K0 ν := hQ
            refine aw_aload_n rfl dX9_takeItem_72 ?_
            refine aw_aload_n rfl dX9_takeItem_73 ?_
            refine aw_v1 kX9_61 ⟨ble rfl, ble rfl⟩ (rcTp) (ble rfl) dX9_takeItem_74 (c_takeSlack g4 hel (fun ν5 tk5 g5 => ?_))
            have hq := hQ ν5 tk5 g5
            refine aw_zeq 84 rfl dX9_takeItem_77 (fun d5 => ?_) (fun d5 => ?_)
            · rw [d5] at hq
              refine aw_iconst (v := 0) (by decide) dX9_takeItem_84 ?_
              exact aw_zret (b := false) rfl dX9_takeItem_85 rfl hq
            · rw [d5] at hq
              refine aw_iconst (v := 1) (by decide) dX9_takeItem_80 ?_
              refine aw_goto 85 rfl dX9_takeItem_81 ?_
              exact aw_zret (b := true) rfl dX9_takeItem_85 rfl hq
        · have d3 : runp S.2.2.2.2.1 S.2.2.2.2.2.1 p = wdKnot := of_decide_eq_true d3
          rw [if_pos d3] at g3
          have e : othW (runp S.2.2.2.2.1 S.2.2.2.2.2.1 p) = some 2 := by rw [d3]; decide
          rw [e] at hQ
          refine aw_aload_n rfl dX9_takeItem_57 ?_
          refine aw_aload_n rfl dX9_takeItem_58 ?_
          refine aw_v1 kX9_56 ⟨ble rfl, ble rfl⟩ (rcTp) (ble rfl) dX9_takeItem_59 (c_takeKnot g3 hel (fun ν5 tk5 g5 => ?_))
          exact aw_zret rfl dX9_takeItem_62 rfl (hQ ν5 tk5 g5)
      · have d2 : runp S.2.2.2.2.1 S.2.2.2.2.2.1 p = wdPlain := of_decide_eq_true d2
        rw [if_pos d2] at g2
        have e : othW (runp S.2.2.2.2.1 S.2.2.2.2.2.1 p) = some 0 := by rw [d2]; decide
        rw [e] at hQ
        refine aw_aload_n rfl dX9_takeItem_41 ?_
        refine aw_aload_n rfl dX9_takeItem_42 ?_
        refine aw_iconst (v := 0) (by decide) dX9_takeItem_43 ?_
        refine aw_v2 kX9_49 ⟨ble rfl, ble rfl⟩ (rcTp) (ble rfl) dX9_takeItem_44 (c_takeWeek (is := false) g2 hel rfl (fun ν5 tk5 g5 => ?_))
        exact aw_zret rfl dX9_takeItem_47 rfl (hQ ν5 tk5 g5)
    · have d1 : runp S.2.2.2.2.1 S.2.2.2.2.2.1 p = wdHarvest := of_decide_eq_true d1
      rw [if_pos d1] at g1
      have e : othW (runp S.2.2.2.2.1 S.2.2.2.2.2.1 p) = some 1 := by rw [d1]; decide
      rw [e] at hQ
      refine aw_aload_n rfl dX9_takeItem_25 ?_
      refine aw_aload_n rfl dX9_takeItem_26 ?_
      refine aw_iconst (v := 1) (by decide) dX9_takeItem_27 ?_
      refine aw_v2 kX9_49 ⟨ble rfl, ble rfl⟩ (rcTp) (ble rfl) dX9_takeItem_28 (c_takeWeek (is := true) g1 hel rfl (fun ν5 tk5 g5 => ?_))
      exact aw_zret rfl dX9_takeItem_31 rfl (hQ ν5 tk5 g5)
end Tp4
