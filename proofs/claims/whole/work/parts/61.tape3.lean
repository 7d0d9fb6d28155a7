/-! THE TAPE OF THE CLASS, 3: numbers, weeks, the knot, slack -/
theorem nI_sub {a b : Nat} (h : b ≤ a) : nI a - nI b = nI (a - b) := by
  have e : nI a = nI (a - b) + nI b := by rw [nI_add, Nat.sub_add_cancel h]
  rw [e, Int32.add_sub_cancel]
theorem or_set (h m : Int32) : (h &&& (m ^^^ -1)) ||| m = h ||| m := by
  have e1 : (-1 : Int32).toBitVec = BitVec.allOnes 32 := by decide
  apply Int32.toBitVec_inj.1
  show (h.toBitVec &&& (m.toBitVec ^^^ (-1 : Int32).toBitVec)) ||| m.toBitVec = h.toBitVec ||| m.toBitVec
  rw [e1]
  apply BitVec.eq_of_getLsbD_eq
  intro i hi
  simp only [BitVec.getLsbD_or, BitVec.getLsbD_and, BitVec.getLsbD_xor, BitVec.getLsbD_allOnes, hi, decide_true, Bool.xor_true]
  generalize h.toBitVec.getLsbD i = p
  generalize m.toBitVec.getLsbD i = q
  cases p <;> cases q <;> rfl
theorem shl_0 : ∀ v : Nat, v < 8 → (0 : Int32) <<< (nI v &&& 31) = 0 := by decide
section Tp3
variable {Sc : SCR} {μ μ0 ν : Mem} {n : Nat × Nat} {Q : PQ} {S : SG} {s : Nat → Int32} {i p : Nat} {so st en tk : Int32}
theorem c_takeNumber {x y : Nat} {x' y' : Int32} (g : TQ μ0 S s μ p tk) (hp : p ≤ S.2.2.2.2.2.1) (hx : x' = nI x) (hy : y' = nI y) (hxy : x ≤ 9999 ∧ y ≤ 9999) (hQ : ∀ ν tk, TQ μ0 S s ν (ptk S.2.2.2.2.1 S.2.2.2.2.2.1 p x y) tk → (∀ v, tkN S.2.2.2.2.1 S.2.2.2.2.2.1 p x y = some v → tk = nI v) → Q (some (.int (bI (tkN S.2.2.2.2.1 S.2.2.2.2.2.1 p x y).isSome))) K0 ν) : AM Sc mX9_takeNumber [.ref 59, .int x', .int y'] K0 μ n Q := by
  subst hx hy
  refine AM.of rfl (ble rfl) ?_
  have hel := enp_le (b := S.2.2.2.2.1) hp
  have hN := g.hN
  have h4 := tkp_le S.2.2.2.2.1 S.2.2.2.2.2.1 p
  unfold ptk at hQ
  generalize hT : tkN S.2.2.2.2.1 S.2.2.2.2.2.1 p x y = o at hQ
  unfold tkN at hT
  refine aw_aload_n rfl dX9_takeNumber_0 ?_
  refine aw_getI gX9_29_9 kTp rfl dX9_takeNumber_1 ?_
  refine aw_iconst (v := 2) (by decide) dX9_takeNumber_4 ?_
  rw [g.h2]
  by_cases c : tkp S.2.2.2.2.1 S.2.2.2.2.2.1 p = 2
  · have hd := tkp_dig c
    have hV : vlp S.2.2.2.2.1 S.2.2.2.2.2.1 p = nvf S.2.2.2.2.1 (skp S.2.2.2.2.1 S.2.2.2.2.2.1 p) (enp S.2.2.2.2.1 S.2.2.2.2.2.1 p - skp S.2.2.2.2.1 S.2.2.2.2.2.1 p) := by
      unfold vlp
      rw [if_neg (by rw [c]; decide), if_pos c]
    have hVl := vlp_le2 c
    rw [c]
    refine aw_icmp_eq 10 rfl dX9_takeNumber_5 (fun _ => ?_) (fun c_ => absurd (rfl) c_)
    have no : ¬ (x ≤ vlp S.2.2.2.2.1 S.2.2.2.2.2.1 p ∧ vlp S.2.2.2.2.1 S.2.2.2.2.2.1 p ≤ y) → ∀ lv, AW Sc mX9_takeNumber 73 lv [] K0 μ n Q := by
      intro e lv
      rw [if_neg (fun z => e z.2)] at hT
      subst hT
      refine aw_iconst (v := 0) (by decide) dX9_takeNumber_73 ?_
      exact aw_zret (b := false) rfl dX9_takeNumber_74 rfl (hQ μ tk g (fun v hv => by cases hv))
    have fin : ∀ q : Int32, AW Sc mX9_takeNumber 63 [(0, .ref 59), (1, .int (nI x)), (2, .int (nI y)), (3, .int (nI (vlp S.2.2.2.2.1 S.2.2.2.2.2.1 p))), (4, .int q)] [] K0 μ n Q := by
      intro q
      refine aw_iload_n rfl dX9_takeNumber_63 ?_
      refine aw_iload_n rfl dX9_takeNumber_64 ?_
      refine aw_icmp_lt 73 rfl dX9_takeNumber_65 (fun c2 => ?_) (fun c2 => ?_)
      · exact no (fun z => nI_nlt z.1 (by omega) c2) _
      · refine aw_iload_n rfl dX9_takeNumber_68 ?_
        refine aw_iload_n rfl dX9_takeNumber_69 ?_
        refine aw_icmp_le 75 rfl dX9_takeNumber_70 (fun c3 => ?_) (fun c3 => ?_)
        · have hb : x ≤ vlp S.2.2.2.2.1 S.2.2.2.2.2.1 p ∧ vlp S.2.2.2.2.1 S.2.2.2.2.2.1 p ≤ y := by
            rw [fa_lt, nI_toInt (by omega), nI_toInt (by omega)] at c2
            rw [fa_le, nI_toInt (by omega), nI_toInt (by omega)] at c3
            omega
          rw [if_pos ⟨c, hb⟩] at hT
          subst hT
          refine aw_aload_n rfl dX9_takeNumber_75 ?_
          refine aw_iload_n rfl dX9_takeNumber_76 ?_
          refine aw_putI (pX9_88_9 _) kTp rfl rfl rfl dX9_takeNumber_77 ?_
          have g := TT.u5 g (nI (vlp S.2.2.2.2.1 S.2.2.2.2.2.1 p))
          generalize pI μ 59 5 (nI (vlp S.2.2.2.2.1 S.2.2.2.2.2.1 p)) = μ1 at g ⊢
          refine aw_aload_n rfl dX9_takeNumber_80 ?_
          refine aw_v0 kX9_22 ⟨ble rfl, ble rfl⟩ (rcTp) (ble rfl) dX9_takeNumber_81 (c_lookAtNext g hel.2 (fun ν g => ?_))
          refine aw_iconst (v := 1) (by decide) dX9_takeNumber_84 ?_
          exact aw_zret (b := true) rfl dX9_takeNumber_85 rfl (hQ ν _ g (fun v hv => by cases hv; rfl))
        · exact no (fun z => c3 (nI_le z.2 (by omega))) _
    rw [hV] at fin
    have hb : ∀ k, k < 120 → μ.1 60 k = S.2.2.2.2.1 k := fun k hk => g.hb hk
    have h3 := g.h3
    have h4 := g.h4
    have hr := g.hr
    generalize S.2.2.2.2.1 = b at *
    generalize S.2.2.2.2.2.1 = N at *
    generalize skp b N p = st at *
    generalize enp b N p = en at *
    have loop : ∀ j k, st + k + j = en → AW Sc mX9_takeNumber 18 [(0, .ref 59), (1, .int (nI x)), (2, .int (nI y)), (3, .int (nI (nvf b st k))), (4, .int (nI (st + k)))] [] K0 μ n Q := by
      intro j
      induction j with
      | zero =>
        intro k hk
        refine aw_iload rfl dX9_takeNumber_18 ?_
        refine aw_aload_n rfl dX9_takeNumber_20 ?_
        refine aw_getI gX9_19_9 kTp rfl dX9_takeNumber_21 ?_
        rw [h4]
        refine aw_icmp_ge 63 rfl dX9_takeNumber_24 (fun _ => ?_) (fun c_ => absurd (nI_le (by omega) (by omega)) c_)
        obtain rfl : k = en - st := by omega
        exact fin _
      | succ j ih =>
        intro k hk
        refine aw_iload rfl dX9_takeNumber_18 ?_
        refine aw_aload_n rfl dX9_takeNumber_20 ?_
        refine aw_getI gX9_19_9 kTp rfl dX9_takeNumber_21 ?_
        rw [h4]
        refine aw_icmp_ge 63 rfl dX9_takeNumber_24 (fun c_ => absurd c_ (nI_ge (by omega) (by omega))) (fun _ => ?_)
        refine aw_iload rfl dX9_takeNumber_27 ?_
        refine aw_bipush (v := 120) (by decide) dX9_takeNumber_29 ?_
        refine aw_icmp_ge 63 rfl dX9_takeNumber_31 (fun c_ => absurd c_ (nI_ge (b := 120) (by omega) (by omega))) (fun _ => ?_)
        refine aw_iload_n rfl dX9_takeNumber_34 ?_
        refine aw_sipush (v := 9999) (by decide) dX9_takeNumber_35 ?_
        have ih' := ih (k + 1) (by omega)
        have hle := nvf_le (b := b) (st := st) (i := k) (fun q h1 h2 => hd q h1 (by omega))
        have hstp : nvf b st (k + 1) = stp 10 48 9999 (nvf b st k) (b (st + k)) := rfl
        unfold stp at hstp
        rw [hstp, ← Nat.add_assoc] at ih'
        refine aw_icmp_gt 57 rfl dX9_takeNumber_38 (fun c5 => ?_) (fun c5 => ?_)
        · rw [if_pos (nI_ltD (a := 9999) (by decide) (by omega) c5)] at ih'
          refine aw_iinc rfl (v := 1) (by decide) (ble rfl) dX9_takeNumber_57 ?_
          refine aw_goto 18 rfl dX9_takeNumber_60 ?_
          rw [nI_1]
          exact ih'
        · have c5 : ¬ 9999 < nvf b st k := fun z => c5 (nI_lt (a := 9999) z (by omega))
          obtain ⟨t, t1, t2, ht⟩ := dgt_t (hd (st + k) (by omega) (by omega))
          rw [if_neg c5, ht, ix_nI (by omega), ← Nat.add_sub_assoc t1, ← nI_sub (by omega), ← nI_add, ← pk_mul] at ih'
          refine aw_bipush (v := 10) (by decide) dX9_takeNumber_41 ?_
          refine aw_iload_n rfl dX9_takeNumber_43 ?_
          refine aw_imul dX9_takeNumber_44 ?_
          refine aw_aload_n rfl dX9_takeNumber_45 ?_
          refine aw_getR gX9_9_9 kTp rfl (hr) dX9_takeNumber_46 ?_
          refine aw_iload rfl dX9_takeNumber_49 ?_
          refine aw_ialoadN kBy rfl (by omega) (by decide) dX9_takeNumber_51 ?_
          refine aw_iadd dX9_takeNumber_52 ?_
          refine aw_bipush (v := 48) (by decide) dX9_takeNumber_53 ?_
          refine aw_isub dX9_takeNumber_55 ?_
          refine aw_istore_n (ble rfl) dX9_takeNumber_56 ?_
          rw [hb (st + k) (by omega), ht]
          refine aw_iinc rfl (v := 1) (by decide) (ble rfl) dX9_takeNumber_57 ?_
          refine aw_goto 18 rfl dX9_takeNumber_60 ?_
          rw [nI_1]
          exact ih'
    refine aw_iconst (v := 0) (by decide) dX9_takeNumber_10 ?_
    refine aw_istore_n (ble rfl) dX9_takeNumber_11 ?_
    refine aw_aload_n rfl dX9_takeNumber_12 ?_
    refine aw_getI gX9_32_9 kTp rfl dX9_takeNumber_13 ?_
    refine aw_istore (ble rfl) dX9_takeNumber_16 ?_
    rw [h3]
    exact loop (en - st) 0 (by omega)
  · refine aw_icmp_eq 10 rfl dX9_takeNumber_5 (fun c_ => absurd c_ ((fun z => c (by have := congrArg ix z; rw [ix_nI (by omega)] at this; exact this)))) (fun _ => ?_)
    rw [if_neg (fun z => c z.1)] at hT
    subst hT
    refine aw_iconst (v := 0) (by decide) dX9_takeNumber_8 ?_
    exact aw_zret (b := false) rfl dX9_takeNumber_9 rfl (hQ μ tk g (fun v hv => by cases hv))
theorem kG20 : K0[20]? = some (.inl 2) := rfl
theorem c_takeWeek {is : Bool} {x : Int32} (g : TQ μ0 S s μ p tk) (hp : p ≤ S.2.2.2.2.2.1) (hx : x = bI is) (hQ : ∀ ν tk, TQ μ0 S (rdWk S.2.2.2.2.1 S.2.2.2.2.2.1 is p s).2.2 ν (rdWk S.2.2.2.2.1 S.2.2.2.2.2.1 is p s).2.1 tk → Q (some (.int (bI (rdWk S.2.2.2.2.1 S.2.2.2.2.2.1 is p s).1))) K0 ν) : AM Sc mX9_takeWeek [.ref 59, .ref 20, .int x] K0 μ n Q := by
  subst hx
  refine AM.of rfl (ble rfl) ?_
  refine aw_aload_n rfl dX9_takeWeek_0 ?_
  refine aw_iconst (v := 0) (by decide) dX9_takeWeek_1 ?_
  refine aw_bipush (v := 7) (by decide) dX9_takeWeek_2 ?_
  refine aw_v2 kX9_84 ⟨ble rfl, ble rfl⟩ (rcTp) (ble rfl) dX9_takeWeek_4 (c_takeNumber (x := 0) (y := 7) g hp rfl rfl (by decide) (fun ν tk g ht => ?_))
  unfold ptk at g
  unfold rdWk at hQ
  have htl := fun v => @tkN_le S.2.2.2.2.1 S.2.2.2.2.2.1 p 0 7 v
  generalize tkN S.2.2.2.2.1 S.2.2.2.2.2.1 p 0 7 = o at g hQ htl ht
  cases o with
  | none =>
    refine aw_if_ne 12 rfl dX9_takeWeek_7 (fun c_ => absurd (rfl) c_) (fun _ => ?_)
    refine aw_iconst (v := 0) (by decide) dX9_takeWeek_10 ?_
    exact aw_zret (b := false) rfl dX9_takeWeek_11 rfl (hQ ν tk g)
  | some v =>
    have hv := htl v rfl
    refine aw_if_ne 12 rfl dX9_takeWeek_7 (fun _ => ?_) (fun c_ => absurd c_ ((show ¬ bI true = 0 by decide)))
    have e : tk = nI v := ht v rfl
    refine aw_aload_n rfl dX9_takeWeek_12 ?_
    refine aw_aload_n rfl dX9_takeWeek_13 ?_
    refine aw_getI gX9_103_2 kG20 rfl dX9_takeWeek_14 ?_
    refine aw_iconst (v := 1) (by decide) dX9_takeWeek_17 ?_
    refine aw_aload_n rfl dX9_takeWeek_18 ?_
    refine aw_getI gX9_88_9 kTp rfl dX9_takeWeek_19 ?_
    refine aw_ishl dX9_takeWeek_22 ?_
    refine aw_iconst (v := (-1)) (by decide) dX9_takeWeek_23 ?_
    refine aw_ixor dX9_takeWeek_24 ?_
    refine aw_iand dX9_takeWeek_25 ?_
    refine aw_iload_n rfl dX9_takeWeek_26 ?_
    refine aw_aload_n rfl dX9_takeWeek_27 ?_
    refine aw_getI gX9_88_9 kTp rfl dX9_takeWeek_28 ?_
    refine aw_ishl dX9_takeWeek_31 ?_
    refine aw_ior dX9_takeWeek_32 ?_
    rw [g.h5, g.ga.2.1.2.1, e]
    have ev : ((s 3 &&& ((1 : Int32) <<< (nI v &&& 31) ^^^ -1)) ||| bI is <<< (nI v &&& 31)) = (if is then s 3 ||| (1 : Int32) <<< (nI v &&& 31) else s 3 &&& ((1 : Int32) <<< (nI v &&& 31) ^^^ -1)) := by
      cases is with
      | true => exact or_set _ _
      | false =>
        rw [show bI false = 0 from rfl, shl_0 v (by omega), Int32.or_zero]
        rfl
    rw [ev]
    refine aw_putI (pX9_103_2 _) kG20 rfl rfl rfl dX9_takeWeek_33 ?_
    refine aw_iconst (v := 1) (by decide) dX9_takeWeek_36 ?_
    exact aw_zret (b := true) rfl dX9_takeWeek_37 rfl (hQ _ tk (TT.fr g Fr.pI (g.ga.hd (j := 3) (by decide) (by decide)) (WFs_3 g.ws)))
theorem c_takeSlack (g : TQ μ0 S s μ p tk) (hp : p ≤ S.2.2.2.2.2.1) (hQ : ∀ ν tk, TQ μ0 S (rdSl S.2.2.2.2.1 S.2.2.2.2.2.1 p s).2.2 ν (rdSl S.2.2.2.2.1 S.2.2.2.2.2.1 p s).2.1 tk → Q (some (.int (bI (rdSl S.2.2.2.2.1 S.2.2.2.2.2.1 p s).1))) K0 ν) : AM Sc mX9_takeSlack [.ref 59, .ref 20] K0 μ n Q := by
  refine AM.of rfl (ble rfl) ?_
  refine aw_aload_n rfl dX9_takeSlack_0 ?_
  refine aw_iconst (v := 0) (by decide) dX9_takeSlack_1 ?_
  refine aw_bipush (v := 99) (by decide) dX9_takeSlack_2 ?_
  refine aw_v2 kX9_84 ⟨ble rfl, ble rfl⟩ (rcTp) (ble rfl) dX9_takeSlack_4 (c_takeNumber (x := 0) (y := 99) g hp rfl rfl (by decide) (fun ν tk g ht => ?_))
  unfold ptk at g
  unfold rdSl at hQ
  have htl := fun v => @tkN_le S.2.2.2.2.1 S.2.2.2.2.2.1 p 0 99 v
  generalize tkN S.2.2.2.2.1 S.2.2.2.2.2.1 p 0 99 = o at g hQ htl ht
  cases o with
  | none =>
    refine aw_if_ne 12 rfl dX9_takeSlack_7 (fun c_ => absurd (rfl) c_) (fun _ => ?_)
    refine aw_iconst (v := 0) (by decide) dX9_takeSlack_10 ?_
    exact aw_zret (b := false) rfl dX9_takeSlack_11 rfl (hQ ν tk g)
  | some v =>
    have hv := htl v rfl
    refine aw_if_ne 12 rfl dX9_takeSlack_7 (fun _ => ?_) (fun c_ => absurd c_ ((show ¬ bI true = 0 by decide)))
    have e : tk = nI v := ht v rfl
    refine aw_aload_n rfl dX9_takeSlack_12 ?_
    refine aw_aload_n rfl dX9_takeSlack_13 ?_
    refine aw_getI gX9_88_9 kTp rfl dX9_takeSlack_14 ?_
    rw [g.h5, e]
    refine aw_putI (pX9_107_2 _) kG20 rfl rfl rfl dX9_takeSlack_17 ?_
    refine aw_iconst (v := 1) (by decide) dX9_takeSlack_20 ?_
    exact aw_zret (b := true) rfl dX9_takeSlack_21 rfl (hQ _ tk (TT.fr g Fr.pI (g.ga.hd (j := 2) (by decide) (by decide)) (WFs_2 g.ws hv.2)))
theorem kn_rng {v : Nat} (hv : v ≤ 9999) : ((-9999 : Int32) ≤ -nI v ∧ -nI v ≤ 9999) ∧ ((-9999 : Int32) ≤ nI v ∧ nI v ≤ 9999) := by
  rw [fa_le, fa_le, fa_le, fa_le, fb_negI (x := nI v) (by rw [nI_toInt (by omega)]; omega), nI_toInt (n := v) (by omega)]
  show ((-9999 : Int) ≤ _ ∧ _ ≤ (9999 : Int)) ∧ ((-9999 : Int) ≤ _ ∧ _ ≤ (9999 : Int))
  omega
theorem c_takeKnot (g : TQ μ0 S s μ p tk) (hp : p ≤ S.2.2.2.2.2.1) (hQ : ∀ ν tk, TQ μ0 S (rdKn S.2.2.2.2.1 S.2.2.2.2.2.1 p s).2.2 ν (rdKn S.2.2.2.2.1 S.2.2.2.2.2.1 p s).2.1 tk → Q (some (.int (bI (rdKn S.2.2.2.2.1 S.2.2.2.2.2.1 p s).1))) K0 ν) : AM Sc mX9_takeKnot [.ref 59, .ref 20] K0 μ n Q := by
  refine AM.of rfl (ble rfl) ?_
  have hel := enp_le (b := S.2.2.2.2.1) hp
  refine aw_aload_n rfl dX9_takeKnot_0 ?_
  refine aw_v0 kX9_70 ⟨ble rfl, ble rfl⟩ (rcTp) (ble rfl) dX9_takeKnot_1 (c_takeSide g hp (fun ν g => ?_))
  unfold psd at g
  unfold rdKn at hQ
  have hsl : ∀ j, sidW (runp S.2.2.2.2.1 S.2.2.2.2.2.1 p) = some j → j < 2 := fun j hj => sidW_lt hj
  generalize sidW (runp S.2.2.2.2.1 S.2.2.2.2.2.1 p) = o at hQ hsl g
  refine aw_istore_n (ble rfl) dX9_takeKnot_4 ?_
  refine aw_iload_n rfl dX9_takeKnot_5 ?_
  cases o with
  | none =>
    refine aw_if_lt 20 rfl dX9_takeKnot_6 (fun _ => ?_) (fun c_ => absurd ((by decide)) c_)
    refine aw_iconst (v := 0) (by decide) dX9_takeKnot_20 ?_
    exact aw_zret (b := false) rfl dX9_takeKnot_21 rfl (hQ ν tk g)
  | some sd =>
    have hsd := hsl sd rfl
    have g : TQ μ0 S s ν (enp S.2.2.2.2.1 S.2.2.2.2.2.1 p) tk := g
    simp only at hQ
    refine aw_if_lt 20 rfl dX9_takeKnot_6 (fun c_ => absurd c_ (nI_pos (by omega))) (fun _ => ?_)
    refine aw_aload_n rfl dX9_takeKnot_9 ?_
    refine aw_iconst (v := 0) (by decide) dX9_takeKnot_10 ?_
    refine aw_sipush (v := 9999) (by decide) dX9_takeKnot_11 ?_
    refine aw_v2 kX9_84 ⟨ble rfl, ble rfl⟩ (rcTp) (ble rfl) dX9_takeKnot_14 (c_takeNumber (x := 0) (y := 9999) g hel.2 rfl rfl (by decide) (fun ν2 tk2 g2 ht => ?_))
    unfold ptk at g2
    have htl := fun v => @tkN_le S.2.2.2.2.1 S.2.2.2.2.2.1 (enp S.2.2.2.2.1 S.2.2.2.2.2.1 p) 0 9999 v
    generalize tkN S.2.2.2.2.1 S.2.2.2.2.2.1 (enp S.2.2.2.2.1 S.2.2.2.2.2.1 p) 0 9999 = o at g2 hQ htl ht
    cases o with
    | none =>
      refine aw_if_ne 22 rfl dX9_takeKnot_17 (fun c_ => absurd (rfl) c_) (fun _ => ?_)
      refine aw_iconst (v := 0) (by decide) dX9_takeKnot_20 ?_
      exact aw_zret (b := false) rfl dX9_takeKnot_21 rfl (hQ ν2 tk2 g2)
    | some v =>
      have hv := htl v rfl
      have e : tk2 = nI v := ht v rfl
      have hkr := kn_rng hv.2
      refine aw_if_ne 22 rfl dX9_takeKnot_17 (fun _ => ?_) (fun c_ => absurd c_ ((show ¬ bI true = 0 by decide)))
      refine aw_aload_n rfl dX9_takeKnot_22 ?_
      refine aw_iload_n rfl dX9_takeKnot_23 ?_
      refine aw_iconst (v := 1) (by decide) dX9_takeKnot_24 ?_
      by_cases hc : sd = 0
      · subst hc
        refine aw_icmp_ne 35 rfl dX9_takeKnot_25 (fun _ => ?_) (fun c_ => absurd c_ ((by decide)))
        refine aw_aload_n rfl dX9_takeKnot_35 ?_
        refine aw_getI gX9_88_9 kTp rfl dX9_takeKnot_36 ?_
        refine aw_ineg dX9_takeKnot_39 ?_
        rw [g2.h5, e]
        refine aw_putI (pX9_105_2 _) kG20 rfl rfl rfl dX9_takeKnot_40 ?_
        refine aw_iconst (v := 1) (by decide) dX9_takeKnot_43 ?_
        exact aw_zret (b := true) rfl dX9_takeKnot_44 rfl (hQ _ tk2 (TT.fr g2 Fr.pI (g2.ga.hd (j := 1) (by decide) (by decide)) (WFs_1 g2.ws hkr.1)))
      · obtain rfl : sd = 1 := by omega
        refine aw_icmp_ne 35 rfl dX9_takeKnot_25 (fun c_ => absurd (rfl) c_) (fun _ => ?_)
        refine aw_aload_n rfl dX9_takeKnot_28 ?_
        refine aw_getI gX9_88_9 kTp rfl dX9_takeKnot_29 ?_
        refine aw_goto 40 rfl dX9_takeKnot_32 ?_
        rw [g2.h5, e]
        refine aw_putI (pX9_105_2 _) kG20 rfl rfl rfl dX9_takeKnot_40 ?_
        refine aw_iconst (v := 1) (by decide) dX9_takeKnot_43 ?_
        exact aw_zret (b := true) rfl dX9_takeKnot_44 rfl (hQ _ tk2 (TT.fr g2 Fr.pI (g2.ga.hd (j := 1) (by decide) (by decide)) (WFs_1 g2.ws hkr.2)))
end Tp3
