/-! THE TEXT, 2: words and numbers -/
theorem skp_le {b : Nat → Int32} {N p : Nat} (hp : p ≤ N) : p ≤ skp b N p ∧ skp b N p ≤ N := by
  have := rn_le (fun c => decide (c = 32)) b (N - p) p
  unfold skp
  omega
theorem enp_le {b : Nat → Int32} {N p : Nat} (hp : p ≤ N) : skp b N p ≤ enp b N p ∧ enp b N p ≤ N := by
  have h := skp_le (b := b) hp
  have h1 := rn_le ltr b (N - skp b N p) (skp b N p)
  have h2 := rn_le dgt b (N - skp b N p) (skp b N p)
  unfold enp
  split
  · omega
  · split
    · omega
    · split <;> omega
theorem tkp_1 {b : Nat → Int32} {N p : Nat} (h : tkp b N p = 1) : ¬ N ≤ skp b N p ∧ ltr (b (skp b N p)) = true ∧ enp b N p = rn ltr b (N - skp b N p) (skp b N p) := by
  unfold tkp srt at h
  split at h
  · cases h
  · next hc =>
    split at h
    · next hl => exact ⟨hc, hl, by unfold enp; rw [if_neg hc, if_pos hl]⟩
    · split at h
      · cases h
      · split at h <;> cases h
theorem tkp_2 {b : Nat → Int32} {N p : Nat} (h : tkp b N p = 2) : ¬ N ≤ skp b N p ∧ dgt (b (skp b N p)) = true ∧ enp b N p = rn dgt b (N - skp b N p) (skp b N p) := by
  unfold tkp srt at h
  split at h
  · cases h
  · next hc =>
    split at h
    · cases h
    · next hl =>
      split at h
      · next hd => exact ⟨hc, hd, by unfold enp; rw [if_neg hc, if_neg hl, if_pos hd]⟩
      · split at h <;> cases h
theorem tkp_let {b : Nat → Int32} {N p : Nat} (h : tkp b N p = 1) : ∀ k, skp b N p ≤ k → k < skp b N p + (enp b N p - skp b N p) → ltr (b k) = true := by
  intro k h1 h2
  obtain ⟨-, -, e⟩ := tkp_1 h
  exact rn_in ltr b _ _ k h1 (by rw [← e]; omega)
theorem tkp_dig {b : Nat → Int32} {N p : Nat} (h : tkp b N p = 2) : ∀ k, skp b N p ≤ k → k < skp b N p + (enp b N p - skp b N p) → dgt (b k) = true := by
  intro k h1 h2
  obtain ⟨-, -, e⟩ := tkp_2 h
  exact rn_in dgt b _ _ k h1 (by rw [← e]; omega)
theorem vlp_le (b : Nat → Int32) (N p : Nat) : vlp b N p ≤ 270000000000000 := by
  unfold vlp
  split
  · next h => exact wvf_le (tkp_let h)
  · split
    · next h => have := nvf_le (tkp_dig h); omega
    · exact Nat.zero_le _
theorem vlp_le2 {b : Nat → Int32} {N p : Nat} (h : tkp b N p = 2) : vlp b N p ≤ 100000 := by
  unfold vlp
  rw [if_neg (by rw [h]; decide), if_pos h]
  exact nvf_le (tkp_dig h)
theorem tkp_le (b : Nat → Int32) (N p : Nat) : tkp b N p ≤ 4 := by
  unfold tkp srt
  split
  · decide
  · split
    · decide
    · split
      · decide
      · split <;> decide
theorem mtk_le (b : Nat → Int32) (N p : Nat) : mtk b N p ≤ 4 := by
  have := tkp_le b N p
  unfold mtk
  split <;> omega
theorem mtk_ne {b : Nat → Int32} {N p k : Nat} (hk : k ≠ 2) (h4 : k ≠ 4) : mtk b N p = k ↔ tkp b N p = k := by
  unfold mtk
  split
  · omega
  · exact Iff.rfl
def codeF (f : Nat → Int32) (o : Nat) : Nat → Nat
  | 0 => 0
  | k + 1 => if f (o + k) = 32 then codeF f o k else 27 * codeF f o k + (ix (f (o + k)) - 96)
theorem codeF_le {f : Nat → Int32} {o : Nat} : ∀ {k : Nat}, (∀ j, j < k → f (o + j) = 32 ∨ ltr (f (o + j)) = true) → codeF f o k + 1 ≤ 27 ^ k
  | 0, _ => Nat.le_refl _
  | k + 1, h => by
    have h1 := codeF_le (f := f) (o := o) (k := k) (fun j hj => h j (by omega))
    have h2 : 27 ^ (k + 1) = 27 * 27 ^ k := by rw [Nat.pow_succ, Nat.mul_comm]
    unfold codeF
    split
    · omega
    · next hc =>
      obtain ⟨t, ht1, ht2, ht⟩ := ltr_t ((h k (by omega)).resolve_left hc)
      rw [ht, ix_nI (by omega)]
      omega
def lastW (f : Nat → Int32) (V : Nat) : Nat → Option Nat
  | 0 => none
  | w + 1 => if codeF f (8 * w) 8 = V then some w else lastW f V w
def oTx (o : Option Nat) : Int32 := match o with
  | some k => nI k
  | none => -1
section Text2
variable {Sc : SCR} {μ μ0 ν : Mem} {n : Nat × Nat} {Q : PQ} {S : SG} {s a : Nat → Int32} {tok st en : Int32} {v : Int64}
theorem k_wordOf {q m p : Nat} {f : Nat → Int32} (g : TP μ0 S a μ p) (hq : K0[q]? = some (.inr (2, 8 * m))) (hf : μ.1 q = f) (hm : m ≤ 6) (hd : nI (8 * m) / 8 = nI m) (hl : ∀ k, k < 8 * m → f k = 32 ∨ ltr (f k) = true) (hQ : Q (some (.int (oTx (if tkp S.2.2.2.2.1 S.2.2.2.2.2.1 p = 1 then lastW f (vlp S.2.2.2.2.1 S.2.2.2.2.2.1 p) m else none)))) K0 μ) : AM Sc mX12_wordOf [.ref 71, .ref q] K0 μ n Q := by
  refine AM.of rfl (ble rfl) ?_
  unfold TP at g
  have hV := vlp_le S.2.2.2.2.1 S.2.2.2.2.2.1 p
  have h1 := mtk_ne (b := S.2.2.2.2.1) (N := S.2.2.2.2.2.1) (p := p) (k := 1) (by decide) (by decide)
  have h2 := mtk_le S.2.2.2.2.1 S.2.2.2.2.2.1 p
  generalize mtk S.2.2.2.2.1 S.2.2.2.2.2.1 p = T at g h1 h2
  generalize tkp S.2.2.2.2.1 S.2.2.2.2.2.1 p = T1 at hQ h1
  generalize vlp S.2.2.2.2.1 S.2.2.2.2.2.1 p = V at hQ hV g
  by_cases hT : T = 1
  · rw [if_pos (h1.mp hT)] at hQ
    have loop : ∀ j w, w + j = m → AW Sc mX12_wordOf 4 [(0, .ref 71), (1, .ref q), (2, .int (oTx (lastW f V w))), (3, .int (nI w))] [] K0 μ n Q := by
      intro j
      induction j with
      | zero =>
        intro w hw
        refine aw_iload_n rfl dX12_wordOf_4 ?_
        refine aw_aload_n rfl dX12_wordOf_5 ?_
        refine aw_alen hq (fun _ => rfl) dX12_wordOf_6 ?_
        refine aw_bipush (v := 8) (by decide) dX12_wordOf_7 ?_
        refine aw_idiv (by decide) dX12_wordOf_9 ?_
        rw [hd]
        refine aw_icmp_ge 104 rfl dX12_wordOf_10 (fun _ => ?_) (fun c_ => absurd (nI_le (by omega) (by omega)) c_)
        obtain rfl : w = m := by omega
        refine aw_iload_n rfl dX12_wordOf_104 ?_
        refine aw_iret dX12_wordOf_105 rfl ?_
        exact hQ
      | succ j ih =>
        intro w hw
        refine aw_iload_n rfl dX12_wordOf_4 ?_
        refine aw_aload_n rfl dX12_wordOf_5 ?_
        refine aw_alen hq (fun _ => rfl) dX12_wordOf_6 ?_
        refine aw_bipush (v := 8) (by decide) dX12_wordOf_7 ?_
        refine aw_idiv (by decide) dX12_wordOf_9 ?_
        rw [hd]
        refine aw_icmp_ge 104 rfl dX12_wordOf_10 (fun c_ => absurd c_ (nI_ge (by omega) (by omega))) (fun _ => ?_)
        refine aw_aload_n rfl dX12_wordOf_13 ?_
        refine aw_getI gX12_168_12 kM rfl dX12_wordOf_14 ?_
        refine aw_iconst (v := 1) (by decide) dX12_wordOf_17 ?_
        rw [g.h7, hT]
        refine aw_icmp_ne 104 rfl dX12_wordOf_18 (fun c_ => absurd (rfl) c_) (fun _ => ?_)
        refine aw_lconst (v := 0) (by decide) dX12_wordOf_21 ?_
        refine aw_lstore (ble rfl) dX12_wordOf_22 ?_
        refine aw_iconst (v := 0) (by decide) dX12_wordOf_24 ?_
        refine aw_istore (ble rfl) dX12_wordOf_25 ?_
        have hl8 : ∀ k, k < 8 → f (8 * w + k) = 32 ∨ ltr (f (8 * w + k)) = true := fun k hk => hl _ (by omega)
        have inner : ∀ j2 k, k + j2 = 8 → AW Sc mX12_wordOf 27 [(0, .ref 71), (1, .ref q), (2, .int (oTx (lastW f V w))), (3, .int (nI w)), (4, .long (nJ (codeF f (8 * w) k))), (6, .int (nI k))] [] K0 μ n Q := by
          intro j2
          induction j2 with
          | zero =>
            intro k hk
            obtain rfl : k = 8 := by omega
            refine aw_iload rfl dX12_wordOf_27 ?_
            refine aw_bipush (v := 8) (by decide) dX12_wordOf_29 ?_
            refine aw_icmp_ge 82 rfl dX12_wordOf_31 (fun _ => ?_) (fun c_ => absurd ((by decide)) c_)
            refine aw_lload rfl dX12_wordOf_82 ?_
            refine aw_aload_n rfl dX12_wordOf_84 ?_
            refine aw_getJ gX12_164_12 kM rfl dX12_wordOf_85 ?_
            refine aw_lcmp dX12_wordOf_88 ?_
            rw [g.hj]
            have hcl := codeF_le hl8
            have hcl : codeF f (8 * w) 8 + 1 ≤ 282429536481 := hcl
            have ih' := ih (w + 1) (by omega)
            rw [lastW] at ih'
            refine aw_if_ne 96 rfl dX12_wordOf_89 (fun c => ?_) (fun c => ?_)
            · rw [if_neg (fun z => c ((lg_cmp_eq _ _).mpr (by rw [z])))] at ih'
              refine aw_iload_n rfl dX12_wordOf_96 ?_
              refine aw_istore_n (ble rfl) dX12_wordOf_97 ?_
              refine aw_iinc rfl (v := 1) (by decide) (ble rfl) dX12_wordOf_98 ?_
              refine aw_goto 4 rfl dX12_wordOf_101 ?_
              rw [nI_1]
              refine aw_keep [0, 1, 2, 3] ?_
              exact ih'
            · rw [if_pos ((nJ_inj (by omega) (by omega)).mp ((lg_cmp_eq _ _).mp c))] at ih'
              refine aw_iload_n rfl dX12_wordOf_92 ?_
              refine aw_goto 97 rfl dX12_wordOf_93 ?_
              refine aw_istore_n (ble rfl) dX12_wordOf_97 ?_
              refine aw_iinc rfl (v := 1) (by decide) (ble rfl) dX12_wordOf_98 ?_
              refine aw_goto 4 rfl dX12_wordOf_101 ?_
              rw [nI_1]
              refine aw_keep [0, 1, 2, 3] ?_
              exact ih'
          | succ j2 ih2 =>
            intro k hk
            have e8 : (8 : Int32) * nI w + nI k = nI (8 * w + k) := by rw [show (8 : Int32) = nI 8 from rfl, pk_mul, nI_add]
            refine aw_iload rfl dX12_wordOf_27 ?_
            refine aw_bipush (v := 8) (by decide) dX12_wordOf_29 ?_
            refine aw_icmp_ge 82 rfl dX12_wordOf_31 (fun c_ => absurd c_ (nI_ge (b := 8) (by omega) (by omega))) (fun _ => ?_)
            refine aw_aload_n rfl dX12_wordOf_34 ?_
            refine aw_bipush (v := 8) (by decide) dX12_wordOf_35 ?_
            refine aw_iload_n rfl dX12_wordOf_37 ?_
            refine aw_imul dX12_wordOf_38 ?_
            refine aw_iload rfl dX12_wordOf_39 ?_
            refine aw_iadd dX12_wordOf_41 ?_
            refine aw_caloadN hq e8 (by omega) (by omega) dX12_wordOf_42 ?_
            refine aw_bipush (v := 32) (by decide) dX12_wordOf_43 ?_
            rw [hf]
            have ih' := ih2 (k + 1) (by omega)
            rw [codeF] at ih'
            refine aw_icmp_ne 53 rfl dX12_wordOf_45 (fun c => ?_) (fun c => ?_)
            · rw [if_neg c] at ih'
              obtain ⟨t, ht1, ht2, ht⟩ := ltr_t ((hl8 k (by omega)).resolve_left c)
              rw [ht, ix_nI (by omega), ← nJ_step (r := 27) (k := 96) (by omega)] at ih'
              refine aw_lload rfl dX12_wordOf_53 ?_
              refine aw_ldc2 (v := 27) w_1154 dX12_wordOf_55 ?_
              refine aw_lmul dX12_wordOf_58 ?_
              refine aw_aload_n rfl dX12_wordOf_59 ?_
              refine aw_bipush (v := 8) (by decide) dX12_wordOf_60 ?_
              refine aw_iload_n rfl dX12_wordOf_62 ?_
              refine aw_imul dX12_wordOf_63 ?_
              refine aw_iload rfl dX12_wordOf_64 ?_
              refine aw_iadd dX12_wordOf_66 ?_
              refine aw_caloadN hq e8 (by omega) (by omega) dX12_wordOf_67 ?_
              refine aw_i2l dX12_wordOf_68 ?_
              refine aw_ladd dX12_wordOf_69 ?_
              refine aw_ldc2 (v := 96) w_1155 dX12_wordOf_70 ?_
              refine aw_lsub dX12_wordOf_73 ?_
              refine aw_lstore (ble rfl) dX12_wordOf_74 ?_
              refine aw_iinc rfl (v := 1) (by decide) (ble rfl) dX12_wordOf_76 ?_
              refine aw_goto 27 rfl dX12_wordOf_79 ?_
              rw [hf, ht, nJ_of (by omega), nI_1]
              exact ih'
            · rw [if_pos c] at ih'
              refine aw_lload rfl dX12_wordOf_48 ?_
              refine aw_goto 74 rfl dX12_wordOf_50 ?_
              refine aw_lstore (ble rfl) dX12_wordOf_74 ?_
              refine aw_iinc rfl (v := 1) (by decide) (ble rfl) dX12_wordOf_76 ?_
              refine aw_goto 27 rfl dX12_wordOf_79 ?_
              rw [nI_1]
              exact ih'
        exact inner 8 0 rfl
    refine aw_iconst (v := (-1)) (by decide) dX12_wordOf_0 ?_
    refine aw_istore_n (ble rfl) dX12_wordOf_1 ?_
    refine aw_iconst (v := 0) (by decide) dX12_wordOf_2 ?_
    refine aw_istore_n (ble rfl) dX12_wordOf_3 ?_
    exact loop m 0 (by omega)
  · rw [if_neg (fun z => hT (h1.mpr z))] at hQ
    refine aw_iconst (v := (-1)) (by decide) dX12_wordOf_0 ?_
    refine aw_istore_n (ble rfl) dX12_wordOf_1 ?_
    refine aw_iconst (v := 0) (by decide) dX12_wordOf_2 ?_
    refine aw_istore_n (ble rfl) dX12_wordOf_3 ?_
    refine aw_iload_n rfl dX12_wordOf_4 ?_
    refine aw_aload_n rfl dX12_wordOf_5 ?_
    refine aw_alen hq (fun _ => rfl) dX12_wordOf_6 ?_
    refine aw_bipush (v := 8) (by decide) dX12_wordOf_7 ?_
    refine aw_idiv (by decide) dX12_wordOf_9 ?_
    rw [hd]
    by_cases h0 : m = 0
    · refine aw_icmp_ge 104 rfl dX12_wordOf_10 (fun _ => ?_) (fun c_ => absurd (nI_le (b := 0) (by omega) (by omega)) c_)
      refine aw_iload_n rfl dX12_wordOf_104 ?_
      refine aw_iret dX12_wordOf_105 rfl ?_
      exact hQ
    · refine aw_icmp_ge 104 rfl dX12_wordOf_10 (fun c_ => absurd c_ (nI_ge (a := 0) (by omega) (by omega))) (fun _ => ?_)
      refine aw_aload_n rfl dX12_wordOf_13 ?_
      refine aw_getI gX12_168_12 kM rfl dX12_wordOf_14 ?_
      refine aw_iconst (v := 1) (by decide) dX12_wordOf_17 ?_
      rw [g.h7]
      refine aw_icmp_ne 104 rfl dX12_wordOf_18 (fun _ => ?_) (fun c_ => absurd c_ ((fun z => hT (by have := congrArg ix z; rw [ix_nI (by omega)] at this; exact this))))
      refine aw_iload_n rfl dX12_wordOf_104 ?_
      refine aw_iret dX12_wordOf_105 rfl ?_
      exact hQ
def tkN (b : Nat → Int32) (N p x y : Nat) : Option Nat := if tkp b N p = 2 ∧ x ≤ vlp b N p ∧ vlp b N p ≤ y then some (vlp b N p) else none
def ptk (b : Nat → Int32) (N p x y : Nat) : Nat := match tkN b N p x y with
  | some _ => enp b N p
  | none => p
theorem k_takesNumber {p x y : Nat} {x' y' : Int32} (g : TP μ0 S a μ p) (hN : S.2.2.2.2.2.1 ≤ 120) (hp : p ≤ S.2.2.2.2.2.1) (hx : x' = nI x) (hy : y' = nI y) (hxy : x ≤ 9999 ∧ y ≤ 9999) (hQ : ∀ ν, TP μ0 S a ν (ptk S.2.2.2.2.1 S.2.2.2.2.2.1 p x y) → Q (some (.int (oTx (tkN S.2.2.2.2.1 S.2.2.2.2.2.1 p x y)))) K0 ν) : AM Sc mX12_takesNumber [.ref 71, .int x', .int y'] K0 μ n Q := by
  subst hx hy
  refine AM.of rfl (ble rfl) ?_
  have hel := enp_le (b := S.2.2.2.2.1) hp
  unfold ptk at hQ
  have g0 := g
  unfold TP at g
  generalize hT : tkN S.2.2.2.2.1 S.2.2.2.2.2.1 p x y = o at hQ
  have out : o = none → AW Sc mX12_takesNumber 29 [(0, .ref 71), (1, .int (nI x)), (2, .int (nI y))] [] K0 μ n Q := by
    intro e
    subst e
    refine aw_iconst (v := (-1)) (by decide) dX12_takesNumber_29 ?_
    refine aw_istore_n (ble rfl) dX12_takesNumber_30 ?_
    refine aw_iload_n rfl dX12_takesNumber_31 ?_
    refine aw_if_lt 39 rfl dX12_takesNumber_32 (fun _ => ?_) (fun c_ => absurd ((by decide)) c_)
    refine aw_iload_n rfl dX12_takesNumber_39 ?_
    refine aw_iret dX12_takesNumber_40 rfl ?_
    exact hQ μ g0
  unfold tkN at hT
  have h2 := mtk_le S.2.2.2.2.1 S.2.2.2.2.2.1 p
  refine aw_aload_n rfl dX12_takesNumber_0 ?_
  refine aw_getI gX12_168_12 kM rfl dX12_takesNumber_1 ?_
  refine aw_iconst (v := 2) (by decide) dX12_takesNumber_4 ?_
  rw [g.h7]
  refine aw_icmp_ne 29 rfl dX12_takesNumber_5 (fun c => ?_) (fun c => ?_)
  · refine out ?_
    rw [if_neg] at hT
    · exact hT.symm
    · intro z
      refine c ?_
      unfold mtk
      rw [if_neg (by omega), z.1]
      rfl
  · have c : mtk S.2.2.2.2.1 S.2.2.2.2.2.1 p = 2 := by have := congrArg ix c; rw [ix_nI (by omega)] at this; exact this
    have c2 : tkp S.2.2.2.2.1 S.2.2.2.2.2.1 p = 2 := by
      unfold mtk at c
      split at c
      · cases c
      · exact c
    have hV := vlp_le2 c2
    have hcv : (nJ (vlp S.2.2.2.2.1 S.2.2.2.2.2.1 p)).toInt32 = nI (vlp S.2.2.2.2.1 S.2.2.2.2.2.1 p) := by
      rw [← nJ_of (by omega), lg_l2i_i2l]
    have hin : in1 (nI (vlp S.2.2.2.2.1 S.2.2.2.2.2.1 p)) (nI x) (nI y) = decide (x ≤ vlp S.2.2.2.2.1 S.2.2.2.2.2.1 p ∧ vlp S.2.2.2.2.1 S.2.2.2.2.2.1 p ≤ y) := by
      unfold in1
      rw [← Bool.decide_and]
      refine decide_eq_decide.mpr ?_
      rw [fa_le, fa_le, nI_toInt (by omega), nI_toInt (by omega), nI_toInt (by omega)]
      omega
    refine aw_aload_n rfl dX12_takesNumber_8 ?_
    refine aw_getJ gX12_164_12 kM rfl dX12_takesNumber_9 ?_
    refine aw_l2i dX12_takesNumber_12 ?_
    refine aw_iload_n rfl dX12_takesNumber_13 ?_
    refine aw_iload_n rfl dX12_takesNumber_14 ?_
    refine aw_s3 kX12_52 ⟨ble rfl, ble rfl⟩ (ble rfl) dX12_takesNumber_15 (k_in1 ?_)
    rw [g.hj, hcv, hin]
    refine aw_zeq 29 rfl dX12_takesNumber_18 (fun c3 => ?_) (fun c3 => ?_)
    · refine out ?_
      rw [if_neg (fun z => of_decide_eq_false c3 z.2)] at hT
      exact hT.symm
    · rw [if_pos ⟨c2, of_decide_eq_true c3⟩] at hT
      subst hT
      refine aw_aload_n rfl dX12_takesNumber_21 ?_
      refine aw_getJ gX12_164_12 kM rfl dX12_takesNumber_22 ?_
      refine aw_l2i dX12_takesNumber_25 ?_
      refine aw_goto 30 rfl dX12_takesNumber_26 ?_
      refine aw_istore_n (ble rfl) dX12_takesNumber_30 ?_
      refine aw_iload_n rfl dX12_takesNumber_31 ?_
      rw [g.hj, hcv]
      refine aw_if_lt 39 rfl dX12_takesNumber_32 (fun c_ => absurd c_ (nI_pos (by omega))) (fun _ => ?_)
      refine aw_aload_n rfl dX12_takesNumber_35 ?_
      refine aw_v0 kX12_189 ⟨ble rfl, ble rfl⟩ (rcM) (ble rfl) dX12_takesNumber_36 (k_nextToken g hN hel.2 (fun ν g' => ?_))
      refine aw_iload_n rfl dX12_takesNumber_39 ?_
      refine aw_iret dX12_takesNumber_40 rfl ?_
      exact hQ ν g'
end Text2
