/-! THE TAPE OF THE CLASS, 2: the next token, words -/
section Tp2
variable {Sc : SCR} {μ μ0 ν : Mem} {n : Nat × Nat} {Q : PQ} {S : SG} {s : Nat → Int32} {i p : Nat} {so st en tk : Int32}
theorem c_lookAtNext (f : TT μ0 S s μ so st (nI p) tk) (hp : p ≤ S.2.2.2.2.2.1) (hQ : ∀ ν, TQ μ0 S s ν p tk → Q none K0 ν) : AM Sc mX9_lookAtNext [.ref 59] K0 μ n Q := by
  refine AM.of rfl (ble rfl) ?_
  have hN := f.hN
  unfold TQ at hQ
  generalize eb : S.2.2.2.2.1 = b at hQ
  generalize eN : S.2.2.2.2.2.1 = N at hQ hN hp
  have hsk := rn_le (fun c => decide (c = 32)) b (N - p) p
  have esk : skp b N p = rn (fun c => decide (c = 32)) b (N - p) p := rfl
  rw [← esk] at hsk
  -- behind the spaces
  have mid : ∀ ν s0 e0, TT μ0 S s ν s0 (nI (skp b N p)) e0 tk → AW Sc mX9_lookAtNext 46 [(0, .ref 59)] [] K0 ν n Q := by
    intro ν s0 e0 g
    refine aw_aload_n rfl dX9_lookAtNext_46 ?_
    refine aw_aload_n rfl dX9_lookAtNext_47 ?_
    refine aw_getI gX9_32_9 kTp rfl dX9_lookAtNext_48 ?_
    refine aw_putI (pX9_19_9 _) kTp rfl rfl rfl dX9_lookAtNext_51 ?_
    rw [g.h3]
    have g := g.u4 (nI (skp b N p))
    generalize pI ν 59 4 (nI (skp b N p)) = ν at g ⊢
    refine aw_aload_n rfl dX9_lookAtNext_54 ?_
    refine aw_getI gX9_32_9 kTp rfl dX9_lookAtNext_55 ?_
    refine aw_aload_n rfl dX9_lookAtNext_58 ?_
    refine aw_getI gX9_15_9 kTp rfl dX9_lookAtNext_59 ?_
    rw [g.h3, g.hn, eN]
    by_cases hc : N ≤ skp b N p
    · have e1 : tkp b N p = 0 := by unfold tkp; rw [if_pos hc]
      have e2 : enp b N p = skp b N p := by unfold enp; rw [if_pos hc]
      rw [e1, e2] at hQ
      refine aw_icmp_lt 71 rfl dX9_lookAtNext_62 (fun c_ => absurd c_ (nI_nlt hc (by omega))) (fun _ => ?_)
      refine aw_aload_n rfl dX9_lookAtNext_65 ?_
      refine aw_iconst (v := 0) (by decide) dX9_lookAtNext_66 ?_
      refine aw_putI (pX9_29_9 _) kTp rfl rfl rfl dX9_lookAtNext_67 ?_
      refine aw_return dX9_lookAtNext_70 rfl ?_
      exact hQ _ (g.u2 0)
    · refine aw_icmp_lt 71 rfl dX9_lookAtNext_62 (fun _ => ?_) (fun c_ => absurd (nI_lt (by omega) (by omega)) c_)
      refine aw_aload_n rfl dX9_lookAtNext_71 ?_
      refine aw_aload_n rfl dX9_lookAtNext_72 ?_
      refine aw_getR gX9_9_9 kTp rfl (g.hr) dX9_lookAtNext_73 ?_
      refine aw_aload_n rfl dX9_lookAtNext_76 ?_
      refine aw_getI gX9_32_9 kTp rfl dX9_lookAtNext_77 ?_
      refine aw_ialoadN kBy g.h3 (by omega) (by decide) dX9_lookAtNext_80 ?_
      refine aw_s1 kX9_137 ⟨ble rfl, ble rfl⟩ (ble rfl) dX9_lookAtNext_81 (c_sortOf ?_)
      rw [g.hb (by omega), eb]
      have e1 : tkp b N p = srt (b (skp b N p)) := by unfold tkp; rw [if_neg hc]
      rw [e1] at hQ
      refine aw_putI (pX9_29_9 _) kTp rfl rfl rfl dX9_lookAtNext_84 ?_
      have g := g.u2 (nI (srt (b (skp b N p))))
      generalize pI ν 59 2 (nI (srt (b (skp b N p)))) = ν at g ⊢
      refine aw_aload_n rfl dX9_lookAtNext_87 ?_
      refine aw_dup rfl dX9_lookAtNext_88 ?_
      refine aw_getI gX9_19_9 kTp rfl dX9_lookAtNext_89 ?_
      refine aw_iconst (v := 1) (by decide) dX9_lookAtNext_92 ?_
      refine aw_iadd dX9_lookAtNext_93 ?_
      refine aw_putI (pX9_19_9 _) kTp rfl rfl rfl dX9_lookAtNext_94 ?_
      rw [g.h4, nI_1]
      have g := g.u4 (nI (skp b N p + 1))
      generalize pI ν 59 4 (nI (skp b N p + 1)) = ν at g ⊢
      have hs4 := srt_le (b (skp b N p))
      have fin : ∀ ν, TT μ0 S s ν (nI (srt (b (skp b N p)))) (nI (skp b N p)) (nI (enp b N p)) tk → AW Sc mX9_lookAtNext 156 [(0, .ref 59)] [] K0 ν n Q := by
        intro ν g
        refine aw_return dX9_lookAtNext_156 rfl ?_
        exact hQ ν g
      have run : ∀ P : Int32 → Bool, (∀ c, srt c = srt (b (skp b N p)) ↔ P c = true) → enp b N p = rn P b (N - skp b N p) (skp b N p) → ∀ ν, TT μ0 S s ν (nI (srt (b (skp b N p)))) (nI (skp b N p)) (nI (skp b N p + 1)) tk → AW Sc mX9_lookAtNext 113 [(0, .ref 59)] [] K0 ν n Q := by
        intro P hP e2
        have loop : ∀ j e (ν : Mem), e + j = N → enp b N p = rn P b j e → TT μ0 S s ν (nI (srt (b (skp b N p)))) (nI (skp b N p)) (nI e) tk → AW Sc mX9_lookAtNext 113 [(0, .ref 59)] [] K0 ν n Q := by
          intro j
          induction j with
          | zero =>
            intro e ν he hen g
            refine aw_aload_n rfl dX9_lookAtNext_113 ?_
            refine aw_getI gX9_19_9 kTp rfl dX9_lookAtNext_114 ?_
            refine aw_aload_n rfl dX9_lookAtNext_117 ?_
            refine aw_getI gX9_15_9 kTp rfl dX9_lookAtNext_118 ?_
            rw [g.h4, g.hn, eN]
            refine aw_icmp_ge 156 rfl dX9_lookAtNext_121 (fun _ => ?_) (fun c_ => absurd (nI_le (by omega) (by omega)) c_)
            have hen : enp b N p = e := hen
            rw [hen] at fin
            exact fin ν g
          | succ j ih =>
            intro e ν he hen g
            refine aw_aload_n rfl dX9_lookAtNext_113 ?_
            refine aw_getI gX9_19_9 kTp rfl dX9_lookAtNext_114 ?_
            refine aw_aload_n rfl dX9_lookAtNext_117 ?_
            refine aw_getI gX9_15_9 kTp rfl dX9_lookAtNext_118 ?_
            rw [g.h4, g.hn, eN]
            refine aw_icmp_ge 156 rfl dX9_lookAtNext_121 (fun c_ => absurd c_ (nI_ge (by omega) (by omega))) (fun _ => ?_)
            refine aw_aload_n rfl dX9_lookAtNext_124 ?_
            refine aw_getR gX9_9_9 kTp rfl (g.hr) dX9_lookAtNext_125 ?_
            refine aw_aload_n rfl dX9_lookAtNext_128 ?_
            refine aw_getI gX9_19_9 kTp rfl dX9_lookAtNext_129 ?_
            refine aw_ialoadN kBy g.h4 (by omega) (by decide) dX9_lookAtNext_132 ?_
            refine aw_s1 kX9_137 ⟨ble rfl, ble rfl⟩ (ble rfl) dX9_lookAtNext_133 (c_sortOf ?_)
            refine aw_aload_n rfl dX9_lookAtNext_136 ?_
            refine aw_getI gX9_29_9 kTp rfl dX9_lookAtNext_137 ?_
            rw [g.hb (by omega), eb, g.h2]
            have he4 := srt_le (b e)
            rw [rn] at hen
            by_cases hc2 : P (b e) = true
            · rw [if_pos hc2] at hen
              refine aw_icmp_ne 156 rfl dX9_lookAtNext_140 (fun c_ => absurd ((by rw [(hP (b e)).mpr hc2])) c_) (fun _ => ?_)
              refine aw_aload_n rfl dX9_lookAtNext_143 ?_
              refine aw_dup rfl dX9_lookAtNext_144 ?_
              refine aw_getI gX9_19_9 kTp rfl dX9_lookAtNext_145 ?_
              refine aw_iconst (v := 1) (by decide) dX9_lookAtNext_148 ?_
              refine aw_iadd dX9_lookAtNext_149 ?_
              refine aw_putI (pX9_19_9 _) kTp rfl rfl rfl dX9_lookAtNext_150 ?_
              refine aw_goto 113 rfl dX9_lookAtNext_153 ?_
              rw [g.h4, nI_1]
              exact ih (e + 1) _ (by omega) hen (g.u4 (nI (e + 1)))
            · rw [if_neg hc2] at hen
              rw [hen] at fin
              refine aw_icmp_ne 156 rfl dX9_lookAtNext_140 (fun _ => ?_) (fun c_ => absurd c_ ((fun z => hc2 ((hP (b e)).mp (by have := congrArg ix z; rw [ix_nI (by omega), ix_nI (by omega)] at this; exact this)))))
              exact fin ν g
        intro ν g
        have hst : P (b (skp b N p)) = true := (hP _).mp rfl
        refine loop (N - skp b N p - 1) (skp b N p + 1) ν (by omega) ?_ g
        rw [e2, show N - skp b N p = (N - skp b N p - 1) + 1 by omega, rn, if_pos hst, Nat.add_sub_cancel]
      refine aw_aload_n rfl dX9_lookAtNext_97 ?_
      refine aw_getI gX9_29_9 kTp rfl dX9_lookAtNext_98 ?_
      refine aw_iconst (v := 1) (by decide) dX9_lookAtNext_101 ?_
      rw [g.h2]
      by_cases h1 : srt (b (skp b N p)) = 1
      · have hl := (srt_1 _).mp h1
        rw [h1]
        refine aw_icmp_eq 113 rfl dX9_lookAtNext_102 (fun _ => ?_) (fun c_ => absurd (rfl) c_)
        exact run ltr (fun c => by rw [h1]; exact srt_1 c) (by unfold enp; rw [if_neg hc, if_pos hl]) ν g
      · have hl : ¬ ltr (b (skp b N p)) = true := fun z => h1 ((srt_1 _).mpr z)
        refine aw_icmp_eq 113 rfl dX9_lookAtNext_102 (fun c_ => absurd c_ ((fun z => h1 (by have := congrArg ix z; rw [ix_nI (by omega)] at this; exact this)))) (fun _ => ?_)
        refine aw_aload_n rfl dX9_lookAtNext_105 ?_
        refine aw_getI gX9_29_9 kTp rfl dX9_lookAtNext_106 ?_
        refine aw_iconst (v := 2) (by decide) dX9_lookAtNext_109 ?_
        rw [g.h2]
        by_cases h2 : srt (b (skp b N p)) = 2
        · have hd := (srt_2 _).mp h2
          rw [h2]
          refine aw_icmp_ne 156 rfl dX9_lookAtNext_110 (fun c_ => absurd (rfl) c_) (fun _ => ?_)
          exact run dgt (fun c => by rw [h2]; exact srt_2 c) (by unfold enp; rw [if_neg hc, if_neg hl, if_pos hd]) ν g
        · have hd : ¬ dgt (b (skp b N p)) = true := fun z => h2 ((srt_2 _).mpr z)
          refine aw_icmp_ne 156 rfl dX9_lookAtNext_110 (fun _ => ?_) (fun c_ => absurd c_ ((fun z => h2 (by have := congrArg ix z; rw [ix_nI (by omega)] at this; exact this))))
          refine fin ν ?_
          rw [show enp b N p = skp b N p + 1 by unfold enp; rw [if_neg hc, if_neg hl, if_neg hd]]
          exact g
  have loop : ∀ j q (ν : Mem) s0 e0, q + j = N → skp b N p = rn (fun c => decide (c = 32)) b j q → TT μ0 S s ν s0 (nI q) e0 tk → AW Sc mX9_lookAtNext 8 [(0, .ref 59)] [] K0 ν n Q := by
    intro j
    induction j with
    | zero =>
      intro q ν s0 e0 hq he g
      refine aw_aload_n rfl dX9_lookAtNext_8 ?_
      refine aw_getI gX9_32_9 kTp rfl dX9_lookAtNext_9 ?_
      refine aw_aload_n rfl dX9_lookAtNext_12 ?_
      refine aw_getI gX9_15_9 kTp rfl dX9_lookAtNext_13 ?_
      rw [g.h3, g.hn, eN]
      refine aw_icmp_ge 46 rfl dX9_lookAtNext_16 (fun _ => ?_) (fun c_ => absurd (nI_le (by omega) (by omega)) c_)
      exact mid ν s0 e0 (by rw [he]; exact g)
    | succ j ih =>
      intro q ν s0 e0 hq he g
      refine aw_aload_n rfl dX9_lookAtNext_8 ?_
      refine aw_getI gX9_32_9 kTp rfl dX9_lookAtNext_9 ?_
      refine aw_aload_n rfl dX9_lookAtNext_12 ?_
      refine aw_getI gX9_15_9 kTp rfl dX9_lookAtNext_13 ?_
      rw [g.h3, g.hn, eN]
      refine aw_icmp_ge 46 rfl dX9_lookAtNext_16 (fun c_ => absurd c_ (nI_ge (by omega) (by omega))) (fun _ => ?_)
      refine aw_aload_n rfl dX9_lookAtNext_19 ?_
      refine aw_getR gX9_9_9 kTp rfl (g.hr) dX9_lookAtNext_20 ?_
      refine aw_aload_n rfl dX9_lookAtNext_23 ?_
      refine aw_getI gX9_32_9 kTp rfl dX9_lookAtNext_24 ?_
      refine aw_ialoadN kBy g.h3 (by omega) (by decide) dX9_lookAtNext_27 ?_
      refine aw_bipush (v := 32) (by decide) dX9_lookAtNext_28 ?_
      rw [g.hb (by omega), eb]
      rw [rn] at he
      refine aw_icmp_ne 46 rfl dX9_lookAtNext_30 (fun c1 => ?_) (fun c1 => ?_)
      · rw [if_neg (by simpa using c1)] at he
        exact mid ν s0 e0 (by rw [he]; exact g)
      · rw [if_pos (by simpa using c1)] at he
        refine aw_aload_n rfl dX9_lookAtNext_33 ?_
        refine aw_dup rfl dX9_lookAtNext_34 ?_
        refine aw_getI gX9_32_9 kTp rfl dX9_lookAtNext_35 ?_
        refine aw_iconst (v := 1) (by decide) dX9_lookAtNext_38 ?_
        refine aw_iadd dX9_lookAtNext_39 ?_
        refine aw_putI (pX9_32_9 _) kTp rfl rfl rfl dX9_lookAtNext_40 ?_
        refine aw_goto 8 rfl dX9_lookAtNext_43 ?_
        rw [g.h3, nI_1]
        exact ih (q + 1) _ s0 e0 (by omega) he (g.u3 _)
  refine aw_aload_n rfl dX9_lookAtNext_0 ?_
  refine aw_aload_n rfl dX9_lookAtNext_1 ?_
  refine aw_getI gX9_19_9 kTp rfl dX9_lookAtNext_2 ?_
  refine aw_putI (pX9_32_9 _) kTp rfl rfl rfl dX9_lookAtNext_5 ?_
  rw [f.h4]
  exact loop (N - p) p _ so (nI p) (by omega) rfl (f.u3 _)
/-- word number i of the String constants -/
def wdS (i : Nat) : List Int32 := sByt.getD i []
theorem runp_ne {b : Nat → Int32} {N q : Nat} {w : List Int32} (hl : 1 ≤ w.length) (h : ¬ tkp b N q = 1) : ¬ runp b N q = w := by
  unfold runp
  rw [if_neg h]
  intro z
  rw [← z] at hl
  exact absurd hl (by decide)
theorem runp_len {b : Nat → Int32} {N q : Nat} (h : tkp b N q = 1) : (runp b N q).length = enp b N q - skp b N q := by
  unfold runp
  rw [if_pos h]
  simp
theorem runp_at {b : Nat → Int32} {N q k : Nat} (h : tkp b N q = 1) (hk : k < enp b N q - skp b N q) : (runp b N q)[k]? = some (b (skp b N q + k)) := by
  unfold runp
  rw [if_pos h, List.getElem?_map, List.getElem?_range hk]
  rfl
theorem c_isWord (hi : i < 15) (g : TQ μ0 S s μ p tk) (hp : p ≤ S.2.2.2.2.2.1) (hQ : Q (some (.int (bI (decide (runp S.2.2.2.2.1 S.2.2.2.2.2.1 p = wdS i))))) K0 μ) : AM Sc mX9_isWord [.ref 59, .ref (400 + i)] K0 μ n Q := by
  refine AM.of rfl (ble rfl) ?_
  have hN := g.hN
  unfold TQ at g
  have hel := enp_le (b := S.2.2.2.2.1) hp
  obtain ⟨hL8, hL1, hLl⟩ := len_8 i hi
  have hwl : (wdS i).length = sLen.getD i 0 := hLl
  have h4 := tkp_le S.2.2.2.2.1 S.2.2.2.2.2.1 p
  have rne := runp_ne (b := S.2.2.2.2.1) (N := S.2.2.2.2.2.1) (q := p) (w := wdS i) (by omega)
  have rln := runp_len (b := S.2.2.2.2.1) (N := S.2.2.2.2.2.1) (q := p)
  have rat := fun k => @runp_at S.2.2.2.2.1 S.2.2.2.2.2.1 p k
  generalize eb : S.2.2.2.2.1 = b at *
  generalize eN : S.2.2.2.2.2.1 = N at *
  generalize runp b N p = r at *
  generalize tkp b N p = T at *
  generalize skp b N p = st at *
  generalize enp b N p = en at *
  have no : ¬ r = wdS i → AW Sc mX9_isWord 24 [(0, .ref 59), (1, .ref (400 + i))] [] K0 μ n Q := by
    intro e
    rw [decide_eq_false e] at hQ
    refine aw_iconst (v := 0) (by decide) dX9_isWord_24 ?_
    exact aw_zret (b := false) rfl dX9_isWord_25 rfl hQ
  refine aw_aload_n rfl dX9_isWord_0 ?_
  refine aw_getI gX9_29_9 kTp rfl dX9_isWord_1 ?_
  refine aw_iconst (v := 1) (by decide) dX9_isWord_4 ?_
  rw [g.h2]
  by_cases hT : T = 1
  · subst hT
    have rln := rln rfl
    refine aw_icmp_ne 24 rfl dX9_isWord_5 (fun c_ => absurd (rfl) c_) (fun _ => ?_)
    have esub : nI en - nI st = nI (en - st) := by
      rw [fa_eq, fb_subI (by rw [nI_toInt (by omega), nI_toInt (by omega)]; omega) (by rw [nI_toInt (by omega), nI_toInt (by omega)]; omega), nI_toInt (by omega), nI_toInt (by omega), nI_toInt (by omega)]
      omega
    refine aw_aload_n rfl dX9_isWord_8 ?_
    refine aw_getI gX9_19_9 kTp rfl dX9_isWord_9 ?_
    refine aw_aload_n rfl dX9_isWord_12 ?_
    refine aw_getI gX9_32_9 kTp rfl dX9_isWord_13 ?_
    refine aw_isub dX9_isWord_16 ?_
    refine aw_aload_n rfl dX9_isWord_17 ?_
    refine aw_v0 kX9_128 ⟨ble rfl, ble rfl⟩ (rcStr hi) (ble rfl) dX9_isWord_18 (j_length hi ?_)
    rw [g.h4, g.h3, esub]
    by_cases hlen : en - st = sLen.getD i 0
    · rw [hlen]
      refine aw_icmp_eq 26 rfl dX9_isWord_21 (fun _ => ?_) (fun c_ => absurd (rfl) c_)
      have loop : ∀ j k, k + j = sLen.getD i 0 → (∀ q, q < k → b (st + q) = (wdS i).getD q 0) → AW Sc mX9_isWord 28 [(0, .ref 59), (1, .ref (400 + i)), (2, .int (nI k))] [] K0 μ n Q := by
        intro j
        induction j with
        | zero =>
          intro k hk hw
          refine aw_iload_n rfl dX9_isWord_28 ?_
          refine aw_aload_n rfl dX9_isWord_29 ?_
          refine aw_v0 kX9_128 ⟨ble rfl, ble rfl⟩ (rcStr hi) (ble rfl) dX9_isWord_30 (j_length hi ?_)
          refine aw_icmp_ge 74 rfl dX9_isWord_33 (fun _ => ?_) (fun c_ => absurd (nI_le (by omega) (by omega)) c_)
          have e : r = wdS i := by
            refine List.ext_getElem? (fun q => ?_)
            by_cases hq : q < en - st
            · have hq2 : q < (wdS i).length := by omega
              rw [rat q rfl hq, hw q (by omega), List.getElem?_eq_getElem hq2, List.getD_eq_getElem?_getD, List.getElem?_eq_getElem hq2]
              rfl
            · rw [List.getElem?_eq_none (by omega), List.getElem?_eq_none (by omega)]
          rw [decide_eq_true e] at hQ
          refine aw_iconst (v := 1) (by decide) dX9_isWord_74 ?_
          exact aw_zret (b := true) rfl dX9_isWord_75 rfl hQ
        | succ j ih =>
          intro k hk hw
          refine aw_iload_n rfl dX9_isWord_28 ?_
          refine aw_aload_n rfl dX9_isWord_29 ?_
          refine aw_v0 kX9_128 ⟨ble rfl, ble rfl⟩ (rcStr hi) (ble rfl) dX9_isWord_30 (j_length hi ?_)
          refine aw_icmp_ge 74 rfl dX9_isWord_33 (fun c_ => absurd c_ (nI_ge (by omega) (by omega))) (fun _ => ?_)
          refine aw_aload_n rfl dX9_isWord_36 ?_
          refine aw_getI gX9_32_9 kTp rfl dX9_isWord_37 ?_
          refine aw_iload_n rfl dX9_isWord_40 ?_
          refine aw_iadd dX9_isWord_41 ?_
          refine aw_bipush (v := 120) (by decide) dX9_isWord_42 ?_
          rw [g.h3, nI_add]
          refine aw_icmp_ge 74 rfl dX9_isWord_44 (fun c_ => absurd c_ (nI_ge (b := 120) (by omega) (by omega))) (fun _ => ?_)
          refine aw_aload_n rfl dX9_isWord_47 ?_
          refine aw_getR gX9_9_9 kTp rfl (g.hr) dX9_isWord_48 ?_
          refine aw_aload_n rfl dX9_isWord_51 ?_
          refine aw_getI gX9_32_9 kTp rfl dX9_isWord_52 ?_
          refine aw_iload_n rfl dX9_isWord_55 ?_
          refine aw_iadd dX9_isWord_56 ?_
          refine aw_ialoadN kBy (c := st + k) (by rw [g.h3, nI_add]) (by omega) (by decide) dX9_isWord_57 ?_
          refine aw_aload_n rfl dX9_isWord_58 ?_
          refine aw_iload_n rfl dX9_isWord_59 ?_
          refine aw_v1 kX9_133 ⟨ble rfl, ble rfl⟩ (rcStr hi) (ble rfl) dX9_isWord_60 (j_char hi (c := k) rfl (by omega) ?_)
          rw [g.hb (by omega), eb]
          refine aw_icmp_eq 68 rfl dX9_isWord_63 (fun c => ?_) (fun c => ?_)
          · refine aw_iinc rfl (v := 1) (by decide) (ble rfl) dX9_isWord_68 ?_
            refine aw_goto 28 rfl dX9_isWord_71 ?_
            rw [nI_1]
            refine ih (k + 1) (by omega) (fun q hq => ?_)
            by_cases e : q = k
            · rw [e]; exact c
            · exact hw q (by omega)
          · have e : ¬ r = wdS i := by
              intro z
              have h1 := rat k rfl (by omega)
              rw [z] at h1
              refine c ?_
              show b (st + k) = (wdS i).getD k 0
              rw [List.getD_eq_getElem?_getD, h1]
              rfl
            rw [decide_eq_false e] at hQ
            refine aw_iconst (v := 0) (by decide) dX9_isWord_66 ?_
            exact aw_zret (b := false) rfl dX9_isWord_67 rfl hQ
      refine aw_iconst (v := 0) (by decide) dX9_isWord_26 ?_
      refine aw_istore_n (ble rfl) dX9_isWord_27 ?_
      exact loop (sLen.getD i 0) 0 (by omega) (fun q hq => absurd hq (by omega))
    · refine aw_icmp_eq 26 rfl dX9_isWord_21 (fun c_ => absurd c_ ((fun z => hlen (by have := congrArg ix z; rw [ix_nI (by omega), ix_nI (by omega)] at this; exact this)))) (fun _ => ?_)
      exact no (fun z => hlen (by rw [z] at rln; omega))
  · refine aw_icmp_ne 24 rfl dX9_isWord_5 (fun _ => ?_) (fun c_ => absurd c_ ((fun z => hT (by have := congrArg ix z; rw [ix_nI (by omega)] at this; exact this))))
    exact no (rne hT)
theorem c_takeWord (hi : i < 15) (g : TQ μ0 S s μ p tk) (hp : p ≤ S.2.2.2.2.2.1) (hQ : ∀ ν, TQ μ0 S s ν (if runp S.2.2.2.2.1 S.2.2.2.2.2.1 p = wdS i then enp S.2.2.2.2.1 S.2.2.2.2.2.1 p else p) tk → Q (some (.int (bI (decide (runp S.2.2.2.2.1 S.2.2.2.2.2.1 p = wdS i))))) K0 ν) : AM Sc mX9_takeWord [.ref 59, .ref (400 + i)] K0 μ n Q := by
  refine AM.of rfl (ble rfl) ?_
  have hel := enp_le (b := S.2.2.2.2.1) hp
  refine aw_aload_n rfl dX9_takeWord_0 ?_
  refine aw_aload_n rfl dX9_takeWord_1 ?_
  refine aw_v1 kX9_111 ⟨ble rfl, ble rfl⟩ (rcTp) (ble rfl) dX9_takeWord_2 (c_isWord hi g hp ?_)
  refine aw_zne 10 rfl dX9_takeWord_5 (fun c => ?_) (fun c => ?_)
  · rw [if_pos (of_decide_eq_true c), c] at hQ
    refine aw_aload_n rfl dX9_takeWord_10 ?_
    refine aw_v0 kX9_22 ⟨ble rfl, ble rfl⟩ (rcTp) (ble rfl) dX9_takeWord_11 (c_lookAtNext g hel.2 (fun ν g => ?_))
    refine aw_iconst (v := 1) (by decide) dX9_takeWord_14 ?_
    exact aw_zret (b := true) rfl dX9_takeWord_15 rfl (hQ ν g)
  · rw [if_neg (of_decide_eq_false c), c] at hQ
    refine aw_iconst (v := 0) (by decide) dX9_takeWord_8 ?_
    exact aw_zret (b := false) rfl dX9_takeWord_9 rfl (hQ μ g)
theorem c_kindNamed (g : TQ μ0 S s μ p tk) (hp : p ≤ S.2.2.2.2.2.1) (hQ : Q (some (.int (oTx (kndW (runp S.2.2.2.2.1 S.2.2.2.2.2.1 p))))) K0 μ) : AM Sc mX9_kindNamed [.ref 59] K0 μ n Q := by
  refine AM.of rfl (ble rfl) ?_
  unfold kndW at hQ
  refine aw_aload_n rfl dX9_kindNamed_0 ?_
  refine aw_ldcS 0 (by decide) rfl rfl dX9_kindNamed_1 ?_
  refine aw_v1 kX9_111 ⟨ble rfl, ble rfl⟩ (rcTp) (ble rfl) dX9_kindNamed_3 (c_isWord (i := 0) (by decide) g hp ?_)
  refine aw_zeq 11 rfl dX9_kindNamed_6 (fun c0 => ?_) (fun c0 => ?_)
  · rw [if_neg (show ¬ _ = wdMan from of_decide_eq_false c0)] at hQ
    refine aw_aload_n rfl dX9_kindNamed_11 ?_
    refine aw_ldcS 1 (by decide) rfl rfl dX9_kindNamed_12 ?_
    refine aw_v1 kX9_111 ⟨ble rfl, ble rfl⟩ (rcTp) (ble rfl) dX9_kindNamed_14 (c_isWord (i := 1) (by decide) g hp ?_)
    refine aw_zeq 22 rfl dX9_kindNamed_17 (fun c1 => ?_) (fun c1 => ?_)
    · rw [if_neg (show ¬ _ = wdSon from of_decide_eq_false c1)] at hQ
      refine aw_aload_n rfl dX9_kindNamed_22 ?_
      refine aw_ldcS 2 (by decide) rfl rfl dX9_kindNamed_23 ?_
      refine aw_v1 kX9_111 ⟨ble rfl, ble rfl⟩ (rcTp) (ble rfl) dX9_kindNamed_25 (c_isWord (i := 2) (by decide) g hp ?_)
      refine aw_zeq 33 rfl dX9_kindNamed_28 (fun c2 => ?_) (fun c2 => ?_)
      · rw [if_neg (show ¬ _ = wdDrinker from of_decide_eq_false c2)] at hQ
        refine aw_aload_n rfl dX9_kindNamed_33 ?_
        refine aw_ldcS 3 (by decide) rfl rfl dX9_kindNamed_34 ?_
        refine aw_v1 kX9_111 ⟨ble rfl, ble rfl⟩ (rcTp) (ble rfl) dX9_kindNamed_36 (c_isWord (i := 3) (by decide) g hp ?_)
        refine aw_zeq 44 rfl dX9_kindNamed_39 (fun c3 => ?_) (fun c3 => ?_)
        · rw [if_neg (show ¬ _ = wdWoman from of_decide_eq_false c3)] at hQ
          refine aw_aload_n rfl dX9_kindNamed_44 ?_
          refine aw_ldcS 4 (by decide) rfl rfl dX9_kindNamed_45 ?_
          refine aw_v1 kX9_111 ⟨ble rfl, ble rfl⟩ (rcTp) (ble rfl) dX9_kindNamed_47 (c_isWord (i := 4) (by decide) g hp ?_)
          refine aw_zeq 55 rfl dX9_kindNamed_50 (fun c4 => ?_) (fun c4 => ?_)
          · rw [if_neg (show ¬ _ = wdPreacher from of_decide_eq_false c4)] at hQ
            refine aw_aload_n rfl dX9_kindNamed_55 ?_
            refine aw_ldcS 5 (by decide) rfl rfl dX9_kindNamed_56 ?_
            refine aw_v1 kX9_111 ⟨ble rfl, ble rfl⟩ (rcTp) (ble rfl) dX9_kindNamed_58 (c_isWord (i := 5) (by decide) g hp ?_)
            refine aw_zeq 68 rfl dX9_kindNamed_61 (fun c5 => ?_) (fun c5 => ?_)
            · rw [if_neg (show ¬ _ = wdStranger from of_decide_eq_false c5)] at hQ
              refine aw_iconst (v := (-1)) (by decide) dX9_kindNamed_68 ?_
              refine aw_iret dX9_kindNamed_69 rfl ?_
              exact hQ
            · rw [if_pos (show _ = wdStranger from of_decide_eq_true c5)] at hQ
              refine aw_iconst (v := 5) (by decide) dX9_kindNamed_64 ?_
              refine aw_goto 69 rfl dX9_kindNamed_65 ?_
              refine aw_iret dX9_kindNamed_69 rfl ?_
              exact hQ
          · rw [if_pos (show _ = wdPreacher from of_decide_eq_true c4)] at hQ
            refine aw_iconst (v := 4) (by decide) dX9_kindNamed_53 ?_
            refine aw_iret dX9_kindNamed_54 rfl ?_
            exact hQ
        · rw [if_pos (show _ = wdWoman from of_decide_eq_true c3)] at hQ
          refine aw_iconst (v := 3) (by decide) dX9_kindNamed_42 ?_
          refine aw_iret dX9_kindNamed_43 rfl ?_
          exact hQ
      · rw [if_pos (show _ = wdDrinker from of_decide_eq_true c2)] at hQ
        refine aw_iconst (v := 2) (by decide) dX9_kindNamed_31 ?_
        refine aw_iret dX9_kindNamed_32 rfl ?_
        exact hQ
    · rw [if_pos (show _ = wdSon from of_decide_eq_true c1)] at hQ
      refine aw_iconst (v := 1) (by decide) dX9_kindNamed_20 ?_
      refine aw_iret dX9_kindNamed_21 rfl ?_
      exact hQ
  · rw [if_pos (show _ = wdMan from of_decide_eq_true c0)] at hQ
    refine aw_iconst (v := 0) (by decide) dX9_kindNamed_9 ?_
    refine aw_iret dX9_kindNamed_10 rfl ?_
    exact hQ
def psd (b : Nat → Int32) (N p : Nat) : Nat := match sidW (runp b N p) with
  | some _ => enp b N p
  | none => p
theorem c_takeSide (g : TQ μ0 S s μ p tk) (hp : p ≤ S.2.2.2.2.2.1) (hQ : ∀ ν, TQ μ0 S s ν (psd S.2.2.2.2.1 S.2.2.2.2.2.1 p) tk → Q (some (.int (oTx (sidW (runp S.2.2.2.2.1 S.2.2.2.2.2.1 p))))) K0 ν) : AM Sc mX9_takeSide [.ref 59] K0 μ n Q := by
  refine AM.of rfl (ble rfl) ?_
  have hel := enp_le (b := S.2.2.2.2.1) hp
  unfold psd sidW at hQ
  refine aw_iconst (v := (-1)) (by decide) dX9_takeSide_0 ?_
  refine aw_istore_n (ble rfl) dX9_takeSide_1 ?_
  refine aw_aload_n rfl dX9_takeSide_2 ?_
  refine aw_ldcS 6 (by decide) rfl rfl dX9_takeSide_3 ?_
  refine aw_v1 kX9_111 ⟨ble rfl, ble rfl⟩ (rcTp) (ble rfl) dX9_takeSide_5 (c_isWord (i := 6) (by decide) g hp ?_)
  refine aw_zeq 16 rfl dX9_takeSide_8 (fun c0 => ?_) (fun c0 => ?_)
  · rw [if_neg (show ¬ _ = wdPub from of_decide_eq_false c0)] at hQ
    refine aw_aload_n rfl dX9_takeSide_16 ?_
    refine aw_ldcS 7 (by decide) rfl rfl dX9_takeSide_17 ?_
    refine aw_v1 kX9_111 ⟨ble rfl, ble rfl⟩ (rcTp) (ble rfl) dX9_takeSide_19 (c_isWord (i := 7) (by decide) g hp ?_)
    refine aw_zeq 27 rfl dX9_takeSide_22 (fun c1 => ?_) (fun c1 => ?_)
    · rw [if_neg (show ¬ _ = wdChapel from of_decide_eq_false c1)] at hQ
      refine aw_iload_n rfl dX9_takeSide_27 ?_
      refine aw_if_lt 35 rfl dX9_takeSide_28 (fun _ => ?_) (fun c_ => absurd ((by decide)) c_)
      refine aw_iload_n rfl dX9_takeSide_35 ?_
      refine aw_iret dX9_takeSide_36 rfl ?_
      exact hQ μ g
    · rw [if_pos (show _ = wdChapel from of_decide_eq_true c1)] at hQ
      refine aw_iconst (v := 1) (by decide) dX9_takeSide_25 ?_
      refine aw_istore_n (ble rfl) dX9_takeSide_26 ?_
      refine aw_iload_n rfl dX9_takeSide_27 ?_
      refine aw_if_lt 35 rfl dX9_takeSide_28 (fun c_ => absurd c_ ((by decide))) (fun _ => ?_)
      refine aw_aload_n rfl dX9_takeSide_31 ?_
      refine aw_v0 kX9_22 ⟨ble rfl, ble rfl⟩ (rcTp) (ble rfl) dX9_takeSide_32 (c_lookAtNext g hel.2 (fun ν g => ?_))
      refine aw_iload_n rfl dX9_takeSide_35 ?_
      refine aw_iret dX9_takeSide_36 rfl ?_
      exact hQ ν g
  · rw [if_pos (show _ = wdPub from of_decide_eq_true c0)] at hQ
    refine aw_iconst (v := 0) (by decide) dX9_takeSide_11 ?_
    refine aw_istore_n (ble rfl) dX9_takeSide_12 ?_
    refine aw_goto 27 rfl dX9_takeSide_13 ?_
    refine aw_iload_n rfl dX9_takeSide_27 ?_
    refine aw_if_lt 35 rfl dX9_takeSide_28 (fun c_ => absurd c_ ((by decide))) (fun _ => ?_)
    refine aw_aload_n rfl dX9_takeSide_31 ?_
    refine aw_v0 kX9_22 ⟨ble rfl, ble rfl⟩ (rcTp) (ble rfl) dX9_takeSide_32 (c_lookAtNext g hel.2 (fun ν g => ?_))
    refine aw_iload_n rfl dX9_takeSide_35 ?_
    refine aw_iret dX9_takeSide_36 rfl ?_
    exact hQ ν g
end Tp2
