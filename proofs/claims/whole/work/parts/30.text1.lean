/-! THE TEXT, 1: tokens. b the bytes, N how many, p where the last token ended -/
def rn (P : Int32 → Bool) (b : Nat → Int32) : Nat → Nat → Nat
  | 0, p => p
  | f + 1, p => if P (b p) then rn P b f (p + 1) else p
theorem rn_le (P : Int32 → Bool) (b : Nat → Int32) : ∀ f p, rn P b f p ≤ p + f ∧ p ≤ rn P b f p
  | 0, p => ⟨Nat.le_refl _, Nat.le_refl _⟩
  | f + 1, p => by
    have := rn_le P b f (p + 1)
    unfold rn
    split <;> omega
theorem rn_in (P : Int32 → Bool) (b : Nat → Int32) : ∀ f p k, p ≤ k → k < rn P b f p → P (b k) = true
  | 0, p, k, h1, h2 => by
    have h2 : k < p := h2
    omega
  | f + 1, p, k, h1, h2 => by
    unfold rn at h2
    split at h2
    · next c =>
      by_cases e : k = p
      · rw [e]; exact c
      · exact rn_in P b f (p + 1) k (by omega) h2
    · omega
def ltr (c : Int32) : Bool := in1 c 97 122
def dgt (c : Int32) : Bool := in1 c 48 57
def srt (c : Int32) : Nat := if ltr c then 1 else if dgt c then 2 else if c = 59 then 3 else 4
def skp (b : Nat → Int32) (N p : Nat) : Nat := rn (fun c => decide (c = 32)) b (N - p) p
def tkp (b : Nat → Int32) (N p : Nat) : Nat := if N ≤ skp b N p then 0 else srt (b (skp b N p))
def enp (b : Nat → Int32) (N p : Nat) : Nat := if N ≤ skp b N p then skp b N p else if ltr (b (skp b N p)) then rn ltr b (N - skp b N p) (skp b N p) else if dgt (b (skp b N p)) then rn dgt b (N - skp b N p) (skp b N p) else skp b N p + 1
def stp (r k cap v : Nat) (c : Int32) : Nat := if cap < v then v else r * v + (ix c - k)
def vf (r k cap : Nat) (b : Nat → Int32) (st : Nat) : Nat → Nat
  | 0 => 0
  | i + 1 => stp r k cap (vf r k cap b st i) (b (st + i))
abbrev wvf := vf 27 96 9999999999999
abbrev nvf := vf 10 48 9999
def vlp (b : Nat → Int32) (N p : Nat) : Nat := if tkp b N p = 1 then wvf b (skp b N p) (enp b N p - skp b N p) else if tkp b N p = 2 then nvf b (skp b N p) (enp b N p - skp b N p) else 0
def mtk (b : Nat → Int32) (N p : Nat) : Nat := if tkp b N p = 2 ∧ 9999 < vlp b N p then 4 else tkp b N p
def nJ (k : Nat) : Int64 := Int64.ofNat k
theorem nJ_step {a c r k : Nat} (hk : k ≤ c) : nJ a * nJ r + nJ c - nJ k = nJ (r * a + (c - k)) := by
  have : r * a + (c - k) = a * r + c - k := by rw [Nat.mul_comm]; omega
  unfold nJ
  rw [this, Int64.ofNat_sub _ _ (by omega), Int64.ofNat_add, Int64.ofNat_mul]
theorem nJ_of {c : Nat} (h : c < 2 ^ 31) : (nI c).toInt64 = nJ c := by
  refine Int64.toInt_inj.mp ?_
  rw [Int32.toInt_toInt64, nI_toInt h]
  exact (lg_ofNat_toInt (by omega)).symm
theorem nJ_lt {a b : Nat} (ha : a < 2 ^ 63) (hb : b < 2 ^ 63) : nJ a < nJ b ↔ a < b := by
  rw [Int64.lt_iff_toInt_lt]
  unfold nJ
  rw [lg_ofNat_toInt ha, lg_ofNat_toInt hb]
  omega
theorem nJ_inj {a b : Nat} (ha : a < 2 ^ 63) (hb : b < 2 ^ 63) : nJ a = nJ b ↔ a = b := by
  rw [← Int64.toInt_inj]
  unfold nJ
  rw [lg_ofNat_toInt ha, lg_ofNat_toInt hb]
  omega
theorem ltr_t {c : Int32} (h : ltr c = true) : ∃ t, 97 ≤ t ∧ t ≤ 122 ∧ c = nI t := in1_t (a := 97) (b := 122) (by decide) (by decide) h
theorem dgt_t {c : Int32} (h : dgt c = true) : ∃ t, 48 ≤ t ∧ t ≤ 57 ∧ c = nI t := in1_t (a := 48) (b := 57) (by decide) (by decide) h
theorem wvf_le {b : Nat → Int32} {st : Nat} : ∀ {i : Nat}, (∀ k, st ≤ k → k < st + i → ltr (b k) = true) → wvf b st i ≤ 270000000000000
  | 0, _ => Nat.zero_le _
  | i + 1, h => by
    have := wvf_le (b := b) (st := st) (i := i) (fun k h1 h2 => h k h1 (by omega))
    obtain ⟨t, h1, h2, h3⟩ := ltr_t (h (st + i) (by omega) (by omega))
    show stp _ _ _ (wvf b st i) _ ≤ _
    unfold stp
    rw [h3, ix_nI (by omega)]
    split <;> omega
theorem nvf_le {b : Nat → Int32} {st : Nat} : ∀ {i : Nat}, (∀ k, st ≤ k → k < st + i → dgt (b k) = true) → nvf b st i ≤ 100000
  | 0, _ => Nat.zero_le _
  | i + 1, h => by
    have := nvf_le (b := b) (st := st) (i := i) (fun k h1 h2 => h k h1 (by omega))
    obtain ⟨t, h1, h2, h3⟩ := dgt_t (h (st + i) (by omega) (by omega))
    show stp _ _ _ (nvf b st i) _ ≤ _
    unfold stp
    rw [h3, ix_nI (by omega)]
    split <;> omega
def TF (μ0 : Mem) (S : SG) (a : Nat → Int32) (ν : Mem) (tok st en : Int32) (v : Int64) : Prop := MJ μ0 ν S ∧ ν.1 74 = a ∧ ν.1 71 7 = tok ∧ ν.1 71 8 = st ∧ ν.1 71 9 = en ∧ ν.2.1 71 10 = v
section Text1
variable {Sc : SCR} {μ μ0 ν : Mem} {n : Nat × Nat} {Q : PQ} {S : SG} {s a : Nat → Int32} {tok st en : Int32} {v : Int64}
theorem TF.t7 (h : TF μ0 S a ν tok st en v) (x : Int32) : TF μ0 S a (pI ν 71 7 x) x st en v := by
  obtain ⟨h1, h2, h3, h4, h5, h6⟩ := h
  refine ⟨h1.fld x (by decide) (by decide), (pI_ne _ _ _ (by decide)).trans h2, ?_, ?_, ?_, h6⟩
  all_goals rw [pI_row]
  · exact upd_eq
  · rw [upd_ne (by decide)]; exact h4
  · rw [upd_ne (by decide)]; exact h5
theorem TF.t8 (h : TF μ0 S a ν tok st en v) (x : Int32) : TF μ0 S a (pI ν 71 8 x) tok x en v := by
  obtain ⟨h1, h2, h3, h4, h5, h6⟩ := h
  refine ⟨h1.fld x (by decide) (by decide), (pI_ne _ _ _ (by decide)).trans h2, ?_, ?_, ?_, h6⟩
  all_goals rw [pI_row]
  · rw [upd_ne (by decide)]; exact h3
  · exact upd_eq
  · rw [upd_ne (by decide)]; exact h5
theorem TF.t9 (h : TF μ0 S a ν tok st en v) (x : Int32) : TF μ0 S a (pI ν 71 9 x) tok st x v := by
  obtain ⟨h1, h2, h3, h4, h5, h6⟩ := h
  refine ⟨h1.fld x (by decide) (by decide), (pI_ne _ _ _ (by decide)).trans h2, ?_, ?_, ?_, h6⟩
  all_goals rw [pI_row]
  · rw [upd_ne (by decide)]; exact h3
  · rw [upd_ne (by decide)]; exact h4
  · exact upd_eq
theorem TF.tj (h : TF μ0 S a ν tok st en v) (x : Int64) : TF μ0 S a (pJ ν 71 10 x) tok st en x := by
  obtain ⟨h1, h2, h3, h4, h5, h6⟩ := h
  exact ⟨h1.fldJ 10 x, h2, h3, h4, h5, by simp [pJ, va_up, vp_updL]⟩
theorem TF.mj (h : TF μ0 S a ν tok st en v) : MJ μ0 ν S := h.1
theorem TF.h7 (h : TF μ0 S a ν tok st en v) : ν.1 71 7 = tok := h.2.2.1
theorem TF.h8 (h : TF μ0 S a ν tok st en v) : ν.1 71 8 = st := h.2.2.2.1
theorem TF.h9 (h : TF μ0 S a ν tok st en v) : ν.1 71 9 = en := h.2.2.2.2.1
theorem TF.hj (h : TF μ0 S a ν tok st en v) : ν.2.1 71 10 = v := h.2.2.2.2.2
theorem k_isLetter {x : Int32} (hQ : Q (some (.int (bI (ltr x)))) K0 μ) : AM Sc mX12_isLetter [.int x] K0 μ n Q := by
  refine AM.of rfl (ble rfl) ?_
  refine aw_iload_n rfl dX12_isLetter_0 ?_
  refine aw_bipush (v := 97) (by decide) dX12_isLetter_1 ?_
  refine aw_bipush (v := 122) (by decide) dX12_isLetter_3 ?_
  refine aw_s3 kX12_52 ⟨ble rfl, ble rfl⟩ (ble rfl) dX12_isLetter_5 (k_in1 ?_)
  exact aw_zret rfl dX12_isLetter_8 rfl hQ
theorem k_isDigit {x : Int32} (hQ : Q (some (.int (bI (dgt x)))) K0 μ) : AM Sc mX12_isDigit [.int x] K0 μ n Q := by
  refine AM.of rfl (ble rfl) ?_
  refine aw_iload_n rfl dX12_isDigit_0 ?_
  refine aw_bipush (v := 48) (by decide) dX12_isDigit_1 ?_
  refine aw_bipush (v := 57) (by decide) dX12_isDigit_3 ?_
  refine aw_s3 kX12_52 ⟨ble rfl, ble rfl⟩ (ble rfl) dX12_isDigit_5 (k_in1 ?_)
  exact aw_zret rfl dX12_isDigit_8 rfl hQ
/-- the token that begins behind p is looked at -/
def TP (μ0 : Mem) (S : SG) (a : Nat → Int32) (ν : Mem) (p : Nat) : Prop := TF μ0 S a ν (nI (mtk S.2.2.2.2.1 S.2.2.2.2.2.1 p)) (nI (skp S.2.2.2.2.1 S.2.2.2.2.2.1 p)) (nI (enp S.2.2.2.2.1 S.2.2.2.2.2.1 p)) (nJ (vlp S.2.2.2.2.1 S.2.2.2.2.2.1 p))
theorem k_nextToken {p : Nat} (f : TF μ0 S a μ tok st (nI p) v) (hN : S.2.2.2.2.2.1 ≤ 120) (hp : p ≤ S.2.2.2.2.2.1) (hQ : ∀ ν, TP μ0 S a ν p → Q none K0 ν) : AM Sc mX12_nextToken [.ref 71] K0 μ n Q := by
  refine AM.of rfl (ble rfl) ?_
  generalize eb : S.2.2.2.2.1 = b
  generalize eN : S.2.2.2.2.2.1 = N at hN hp
  have fin : ∀ ν, TF μ0 S a ν (nI (mtk b N p)) (nI (skp b N p)) (nI (enp b N p)) (nJ (vlp b N p)) → AW Sc mX12_nextToken 337 [(0, .ref 71)] [] K0 ν n Q := by
    intro ν g
    have hM := g.mj.hM
    refine aw_return dX12_nextToken_337 rfl ?_
    refine hQ ν ?_
    unfold TP
    rw [eb, eN]
    exact g
  have hsk := rn_le (fun c => decide (c = 32)) b (N - p) p
  have esk : skp b N p = rn (fun c => decide (c = 32)) b (N - p) p := rfl
  rw [← esk] at hsk
  -- behind the spaces
  have mid : ∀ ν t0 e0 v0, TF μ0 S a ν t0 (nI (skp b N p)) e0 v0 → AW Sc mX12_nextToken 46 [(0, .ref 71)] [] K0 ν n Q := by
    intro ν t0 e0 v0 g
    have hM := g.mj.hM
    refine aw_aload_n rfl dX12_nextToken_46 ?_
    refine aw_aload_n rfl dX12_nextToken_47 ?_
    refine aw_getI gX12_161_12 kM rfl dX12_nextToken_48 ?_
    refine aw_putI (pX12_158_12 _) kM rfl rfl rfl dX12_nextToken_51 ?_
    refine aw_aload_n rfl dX12_nextToken_54 ?_
    refine aw_lconst (v := 0) (by decide) dX12_nextToken_55 ?_
    refine aw_putJ (pX12_164_12 _) kM rfl dX12_nextToken_56 ?_
    rw [g.h8]
    have g := (g.t9 (nI (skp b N p))).tj 0
    generalize pJ (pI ν 71 9 (nI (skp b N p))) 71 10 0 = ν at g ⊢
    have hM := g.mj.hM
    refine aw_aload_n rfl dX12_nextToken_59 ?_
    refine aw_getI gX12_161_12 kM rfl dX12_nextToken_60 ?_
    refine aw_aload_n rfl dX12_nextToken_63 ?_
    refine aw_getI gX12_154_12 kM rfl dX12_nextToken_64 ?_
    rw [g.h8, g.mj.htn, eN]
    by_cases hc : N ≤ skp b N p
    · have e : skp b N p = N := by omega
      have e1 : tkp b N p = 0 := by unfold tkp; rw [if_pos hc]
      have e2 : enp b N p = skp b N p := by unfold enp; rw [if_pos hc]
      have e3 : vlp b N p = 0 := by unfold vlp; rw [e1]; rfl
      have e4 : mtk b N p = 0 := by unfold mtk; rw [e1]; rfl
      rw [e4, e2, e3] at fin
      refine aw_icmp_ne 78 rfl dX12_nextToken_67 (fun c_ => absurd ((by rw [e])) c_) (fun _ => ?_)
      refine aw_aload_n rfl dX12_nextToken_70 ?_
      refine aw_iconst (v := 0) (by decide) dX12_nextToken_71 ?_
      refine aw_putI (pX12_168_12 _) kM rfl rfl rfl dX12_nextToken_72 ?_
      refine aw_goto 337 rfl dX12_nextToken_75 ?_
      exact fin _ (g.t7 0)
    · refine aw_icmp_ne 78 rfl dX12_nextToken_67 (fun _ => ?_) (fun c_ => absurd c_ ((fun z => hc (by have := congrArg ix z; rw [ix_nI (by omega), ix_nI (by omega)] at this; omega))))
      refine aw_aload_n rfl dX12_nextToken_78 ?_
      refine aw_getR gX12_22_12 kM rfl (hM.tape) dX12_nextToken_79 ?_
      refine aw_aload_n rfl dX12_nextToken_82 ?_
      refine aw_getI gX12_161_12 kM rfl dX12_nextToken_83 ?_
      refine aw_ialoadN kTape g.h8 (by omega) (by decide) dX12_nextToken_86 ?_
      refine aw_s1 kX12_171 ⟨ble rfl, ble rfl⟩ (ble rfl) dX12_nextToken_87 (k_isLetter ?_)
      rw [g.mj.htp, eb]
      refine aw_zeq 182 rfl dX12_nextToken_90 (fun cl => ?_) (fun cl => ?_)
      · refine aw_aload_n rfl dX12_nextToken_182 ?_
        refine aw_getR gX12_22_12 kM rfl (hM.tape) dX12_nextToken_183 ?_
        refine aw_aload_n rfl dX12_nextToken_186 ?_
        refine aw_getI gX12_161_12 kM rfl dX12_nextToken_187 ?_
        refine aw_ialoadN kTape g.h8 (by omega) (by decide) dX12_nextToken_190 ?_
        refine aw_s1 kX12_180 ⟨ble rfl, ble rfl⟩ (ble rfl) dX12_nextToken_191 (k_isDigit ?_)
        rw [g.mj.htp, eb]
        refine aw_zeq 304 rfl dX12_nextToken_194 (fun cd => ?_) (fun cd => ?_)
        · have e2 : enp b N p = skp b N p + 1 := by
            unfold enp
            rw [if_neg hc, cl, cd]
            rfl
          refine aw_aload_n rfl dX12_nextToken_304 ?_
          refine aw_aload_n rfl dX12_nextToken_305 ?_
          refine aw_getR gX12_22_12 kM rfl (hM.tape) dX12_nextToken_306 ?_
          refine aw_aload_n rfl dX12_nextToken_309 ?_
          refine aw_getI gX12_161_12 kM rfl dX12_nextToken_310 ?_
          refine aw_ialoadN kTape g.h8 (by omega) (by decide) dX12_nextToken_313 ?_
          refine aw_bipush (v := 59) (by decide) dX12_nextToken_314 ?_
          rw [g.mj.htp, eb]
          refine aw_icmp_ne 323 rfl dX12_nextToken_316 (fun c3 => ?_) (fun c3 => ?_)
          · have e1 : tkp b N p = 4 := by
              unfold tkp srt
              rw [if_neg hc, cl, cd, if_neg c3]
              rfl
            have e3 : vlp b N p = 0 := by unfold vlp; rw [e1]; rfl
            have e4 : mtk b N p = 4 := by unfold mtk; rw [e1]; rfl
            rw [e4, e2, e3] at fin
            refine aw_iconst (v := 4) (by decide) dX12_nextToken_323 ?_
            refine aw_putI (pX12_168_12 _) kM rfl rfl rfl dX12_nextToken_324 ?_
            have g := g.t7 4
            generalize pI ν 71 7 4 = ν at g ⊢
            have hM := g.mj.hM
            refine aw_aload_n rfl dX12_nextToken_327 ?_
            refine aw_dup rfl dX12_nextToken_328 ?_
            refine aw_getI gX12_158_12 kM rfl dX12_nextToken_329 ?_
            refine aw_iconst (v := 1) (by decide) dX12_nextToken_332 ?_
            refine aw_iadd dX12_nextToken_333 ?_
            refine aw_putI (pX12_158_12 _) kM rfl rfl rfl dX12_nextToken_334 ?_
            rw [g.h9, nI_1]
            exact fin _ (g.t9 _)
          · have e1 : tkp b N p = 3 := by
              unfold tkp srt
              rw [if_neg hc, cl, cd, if_pos c3]
              rfl
            have e3 : vlp b N p = 0 := by unfold vlp; rw [e1]; rfl
            have e4 : mtk b N p = 3 := by unfold mtk; rw [e1]; rfl
            rw [e4, e2, e3] at fin
            refine aw_iconst (v := 3) (by decide) dX12_nextToken_319 ?_
            refine aw_goto 324 rfl dX12_nextToken_320 ?_
            refine aw_putI (pX12_168_12 _) kM rfl rfl rfl dX12_nextToken_324 ?_
            have g := g.t7 3
            generalize pI ν 71 7 3 = ν at g ⊢
            have hM := g.mj.hM
            refine aw_aload_n rfl dX12_nextToken_327 ?_
            refine aw_dup rfl dX12_nextToken_328 ?_
            refine aw_getI gX12_158_12 kM rfl dX12_nextToken_329 ?_
            refine aw_iconst (v := 1) (by decide) dX12_nextToken_332 ?_
            refine aw_iadd dX12_nextToken_333 ?_
            refine aw_putI (pX12_158_12 _) kM rfl rfl rfl dX12_nextToken_334 ?_
            rw [g.h9, nI_1]
            exact fin _ (g.t9 _)
        · have e1 : tkp b N p = 2 := by
            unfold tkp srt
            rw [if_neg hc, cl, cd]
            rfl
          have e2 : enp b N p = rn dgt b (N - skp b N p) (skp b N p) := by
            unfold enp
            rw [if_neg hc, cl, cd]
            rfl
          have e3 : vlp b N p = nvf b (skp b N p) (enp b N p - skp b N p) := by unfold vlp; rw [e1]; rfl
          have hle := nvf_le (b := b) (st := skp b N p) (i := enp b N p - skp b N p) (fun k h1 h2 => rn_in dgt b (N - skp b N p) (skp b N p) k h1 (by rw [← e2]; omega))
          rw [← e3] at hle
          have e4 : mtk b N p = if 9999 < vlp b N p then 4 else 2 := by unfold mtk; simp only [e1, true_and]
          have done : ∀ ν t0, TF μ0 S a ν t0 (nI (skp b N p)) (nI (enp b N p)) (nJ (vlp b N p)) → AW Sc mX12_nextToken 281 [(0, .ref 71)] [] K0 ν n Q := by
            intro ν t0 g
            have hM := g.mj.hM
            refine aw_aload_n rfl dX12_nextToken_281 ?_
            refine aw_aload_n rfl dX12_nextToken_282 ?_
            refine aw_getJ gX12_164_12 kM rfl dX12_nextToken_283 ?_
            refine aw_ldc2 (v := 9999) w_1159 dX12_nextToken_286 ?_
            refine aw_lcmp dX12_nextToken_289 ?_
            rw [g.hj]
            refine aw_if_le 297 rfl dX12_nextToken_290 (fun c5 => ?_) (fun c5 => ?_)
            · rw [e4, if_neg (fun z => absurd ((lg_cmp_le _ _).mp c5) (Int64.not_le.mpr ((nJ_lt (a := 9999) (by decide) (by omega)).mpr z)))] at fin
              refine aw_iconst (v := 2) (by decide) dX12_nextToken_297 ?_
              refine aw_putI (pX12_168_12 _) kM rfl rfl rfl dX12_nextToken_298 ?_
              refine aw_goto 337 rfl dX12_nextToken_301 ?_
              exact fin _ (g.t7 2)
            · rw [e4, if_pos ((nJ_lt (a := 9999) (by decide) (by omega)).mp (Int64.not_le.mp (fun z => c5 ((lg_cmp_le _ _).mpr z))))] at fin
              refine aw_iconst (v := 4) (by decide) dX12_nextToken_293 ?_
              refine aw_goto 298 rfl dX12_nextToken_294 ?_
              refine aw_putI (pX12_168_12 _) kM rfl rfl rfl dX12_nextToken_298 ?_
              refine aw_goto 337 rfl dX12_nextToken_301 ?_
              exact fin _ (g.t7 4)
          have loop : ∀ j k (ν : Mem) t0, skp b N p + k + j = N → enp b N p = rn dgt b j (skp b N p + k) → TF μ0 S a ν t0 (nI (skp b N p)) (nI (skp b N p + k)) (nJ (nvf b (skp b N p) k)) → (∀ q, skp b N p ≤ q → q < skp b N p + k → dgt (b q) = true) → AW Sc mX12_nextToken 197 [(0, .ref 71)] [] K0 ν n Q := by
            intro j
            induction j with
            | zero =>
              intro k ν t0 hk he g hd
              have hM := g.mj.hM
              refine aw_aload_n rfl dX12_nextToken_197 ?_
              refine aw_getI gX12_158_12 kM rfl dX12_nextToken_198 ?_
              refine aw_aload_n rfl dX12_nextToken_201 ?_
              refine aw_getI gX12_154_12 kM rfl dX12_nextToken_202 ?_
              rw [g.h9, g.mj.htn, eN]
              refine aw_icmp_ge 281 rfl dX12_nextToken_205 (fun _ => ?_) (fun c_ => absurd (nI_le (by omega) (by omega)) c_)
              refine done ν t0 ?_
              have he : enp b N p = skp b N p + k := he
              rw [e3, he, Nat.add_sub_cancel_left]
              exact g
            | succ j ih =>
              intro k ν t0 hk he g hd
              have hM := g.mj.hM
              refine aw_aload_n rfl dX12_nextToken_197 ?_
              refine aw_getI gX12_158_12 kM rfl dX12_nextToken_198 ?_
              refine aw_aload_n rfl dX12_nextToken_201 ?_
              refine aw_getI gX12_154_12 kM rfl dX12_nextToken_202 ?_
              rw [g.h9, g.mj.htn, eN]
              refine aw_icmp_ge 281 rfl dX12_nextToken_205 (fun c_ => absurd c_ (nI_ge (by omega) (by omega))) (fun _ => ?_)
              refine aw_aload_n rfl dX12_nextToken_208 ?_
              refine aw_getR gX12_22_12 kM rfl (hM.tape) dX12_nextToken_209 ?_
              refine aw_aload_n rfl dX12_nextToken_212 ?_
              refine aw_getI gX12_158_12 kM rfl dX12_nextToken_213 ?_
              refine aw_ialoadN kTape g.h9 (by omega) (by decide) dX12_nextToken_216 ?_
              refine aw_s1 kX12_180 ⟨ble rfl, ble rfl⟩ (ble rfl) dX12_nextToken_217 (k_isDigit ?_)
              rw [g.mj.htp, eb]
              rw [rn] at he
              refine aw_zeq 281 rfl dX12_nextToken_220 (fun c6 => ?_) (fun c6 => ?_)
              · rw [if_neg (by rw [c6]; decide)] at he
                refine done ν t0 ?_
                rw [e3, he, Nat.add_sub_cancel_left]
                exact g
              · rw [if_pos c6] at he
                have hle2 := nvf_le hd
                obtain ⟨t, ht1, ht2, ht⟩ := dgt_t c6
                have hd' : ∀ q, skp b N p ≤ q → q < skp b N p + (k + 1) → dgt (b q) = true := by
                  intro q h1 h2
                  by_cases e : q = skp b N p + k
                  · rw [e]; exact c6
                  · exact hd q h1 (by omega)
                have go : ∀ v : Int64, v = nJ (nvf b (skp b N p) (k + 1)) → AW Sc mX12_nextToken 265 [(0, .ref 71)] [.long v, .ref 71] K0 ν n Q := by
                  intro v hv
                  refine aw_putJ (pX12_164_12 _) kM rfl dX12_nextToken_265 ?_
                  have g := g.tj v
                  generalize pJ ν 71 10 v = ν at g ⊢
                  have hM := g.mj.hM
                  refine aw_aload_n rfl dX12_nextToken_268 ?_
                  refine aw_dup rfl dX12_nextToken_269 ?_
                  refine aw_getI gX12_158_12 kM rfl dX12_nextToken_270 ?_
                  refine aw_iconst (v := 1) (by decide) dX12_nextToken_273 ?_
                  refine aw_iadd dX12_nextToken_274 ?_
                  refine aw_putI (pX12_158_12 _) kM rfl rfl rfl dX12_nextToken_275 ?_
                  refine aw_goto 197 rfl dX12_nextToken_278 ?_
                  rw [g.h9, nI_1]
                  rw [hv] at g
                  exact ih (k + 1) _ t0 (by omega) he (g.t9 (nI (skp b N p + k + 1))) hd'
                refine aw_aload_n rfl dX12_nextToken_223 ?_
                refine aw_aload_n rfl dX12_nextToken_224 ?_
                refine aw_getJ gX12_164_12 kM rfl dX12_nextToken_225 ?_
                refine aw_ldc2 (v := 9999) w_1159 dX12_nextToken_228 ?_
                refine aw_lcmp dX12_nextToken_231 ?_
                rw [g.hj]
                refine aw_if_le 242 rfl dX12_nextToken_232 (fun c7 => ?_) (fun c7 => ?_)
                · have c7 : ¬ 9999 < nvf b (skp b N p) k := fun z => absurd ((lg_cmp_le _ _).mp c7) (Int64.not_le.mpr ((nJ_lt (a := 9999) (by decide) (by omega)).mpr z))
                  refine aw_aload_n rfl dX12_nextToken_242 ?_
                  refine aw_getJ gX12_164_12 kM rfl dX12_nextToken_243 ?_
                  refine aw_ldc2 (v := 10) w_1160 dX12_nextToken_246 ?_
                  refine aw_lmul dX12_nextToken_249 ?_
                  refine aw_aload_n rfl dX12_nextToken_250 ?_
                  refine aw_getR gX12_22_12 kM rfl (hM.tape) dX12_nextToken_251 ?_
                  refine aw_aload_n rfl dX12_nextToken_254 ?_
                  refine aw_getI gX12_158_12 kM rfl dX12_nextToken_255 ?_
                  refine aw_ialoadN kTape g.h9 (by omega) (by decide) dX12_nextToken_258 ?_
                  refine aw_i2l dX12_nextToken_259 ?_
                  refine aw_ladd dX12_nextToken_260 ?_
                  refine aw_ldc2 (v := 48) w_1161 dX12_nextToken_261 ?_
                  refine aw_lsub dX12_nextToken_264 ?_
                  rw [g.hj, g.mj.htp, eb]
                  refine go _ ?_
                  show _ = nJ (stp 10 48 9999 (nvf b (skp b N p) k) (b (skp b N p + k)))
                  rw [ht, nJ_of (by omega), stp, if_neg c7, ix_nI (by omega)]
                  exact nJ_step (r := 10) (k := 48) (by omega)
                · have c7 : 9999 < nvf b (skp b N p) k := (nJ_lt (a := 9999) (by decide) (by omega)).mp (Int64.not_le.mp (fun z => c7 ((lg_cmp_le _ _).mpr z)))
                  refine aw_aload_n rfl dX12_nextToken_235 ?_
                  refine aw_getJ gX12_164_12 kM rfl dX12_nextToken_236 ?_
                  refine aw_goto 265 rfl dX12_nextToken_239 ?_
                  rw [g.hj]
                  refine go _ ?_
                  show _ = nJ (stp 10 48 9999 (nvf b (skp b N p) k) (b (skp b N p + k)))
                  rw [stp, if_pos c7]
          exact loop (N - skp b N p) 0 ν _ (by omega) e2 g (fun q h1 h2 => absurd h2 (by omega))
      · have e1 : tkp b N p = 1 := by
          unfold tkp srt
          rw [if_neg hc, cl]
          rfl
        have e2 : enp b N p = rn ltr b (N - skp b N p) (skp b N p) := by
          unfold enp
          rw [if_neg hc, cl]
          rfl
        have e3 : vlp b N p = wvf b (skp b N p) (enp b N p - skp b N p) := by unfold vlp; rw [e1]; rfl
        have e4 : mtk b N p = 1 := by unfold mtk; rw [e1]; rfl
        rw [e4] at fin
        have loop : ∀ j k (ν : Mem), skp b N p + k + j = N → enp b N p = rn ltr b j (skp b N p + k) → TF μ0 S a ν (nI 1) (nI (skp b N p)) (nI (skp b N p + k)) (nJ (wvf b (skp b N p) k)) → (∀ q, skp b N p ≤ q → q < skp b N p + k → ltr (b q) = true) → AW Sc mX12_nextToken 98 [(0, .ref 71)] [] K0 ν n Q := by
          intro j
          induction j with
          | zero =>
            intro k ν hk he g hd
            have hM := g.mj.hM
            refine aw_aload_n rfl dX12_nextToken_98 ?_
            refine aw_getI gX12_158_12 kM rfl dX12_nextToken_99 ?_
            refine aw_aload_n rfl dX12_nextToken_102 ?_
            refine aw_getI gX12_154_12 kM rfl dX12_nextToken_103 ?_
            rw [g.h9, g.mj.htn, eN]
            refine aw_icmp_ge 337 rfl dX12_nextToken_106 (fun _ => ?_) (fun c_ => absurd (nI_le (by omega) (by omega)) c_)
            refine fin ν ?_
            have he : enp b N p = skp b N p + k := he
            rw [e3, he, Nat.add_sub_cancel_left]
            exact g
          | succ j ih =>
            intro k ν hk he g hd
            have hM := g.mj.hM
            refine aw_aload_n rfl dX12_nextToken_98 ?_
            refine aw_getI gX12_158_12 kM rfl dX12_nextToken_99 ?_
            refine aw_aload_n rfl dX12_nextToken_102 ?_
            refine aw_getI gX12_154_12 kM rfl dX12_nextToken_103 ?_
            rw [g.h9, g.mj.htn, eN]
            refine aw_icmp_ge 337 rfl dX12_nextToken_106 (fun c_ => absurd c_ (nI_ge (by omega) (by omega))) (fun _ => ?_)
            refine aw_aload_n rfl dX12_nextToken_109 ?_
            refine aw_getR gX12_22_12 kM rfl (hM.tape) dX12_nextToken_110 ?_
            refine aw_aload_n rfl dX12_nextToken_113 ?_
            refine aw_getI gX12_158_12 kM rfl dX12_nextToken_114 ?_
            refine aw_ialoadN kTape g.h9 (by omega) (by decide) dX12_nextToken_117 ?_
            refine aw_s1 kX12_171 ⟨ble rfl, ble rfl⟩ (ble rfl) dX12_nextToken_118 (k_isLetter ?_)
            rw [g.mj.htp, eb]
            rw [rn] at he
            refine aw_zeq 337 rfl dX12_nextToken_121 (fun c6 => ?_) (fun c6 => ?_)
            · rw [if_neg (by rw [c6]; decide)] at he
              refine fin ν ?_
              rw [e3, he, Nat.add_sub_cancel_left]
              exact g
            · rw [if_pos c6] at he
              have hle2 := wvf_le hd
              obtain ⟨t, ht1, ht2, ht⟩ := ltr_t c6
              have hd' : ∀ q, skp b N p ≤ q → q < skp b N p + (k + 1) → ltr (b q) = true := by
                intro q h1 h2
                by_cases e : q = skp b N p + k
                · rw [e]; exact c6
                · exact hd q h1 (by omega)
              have go : ∀ v : Int64, v = nJ (wvf b (skp b N p) (k + 1)) → AW Sc mX12_nextToken 166 [(0, .ref 71)] [.long v, .ref 71] K0 ν n Q := by
                intro v hv
                refine aw_putJ (pX12_164_12 _) kM rfl dX12_nextToken_166 ?_
                have g := g.tj v
                generalize pJ ν 71 10 v = ν at g ⊢
                have hM := g.mj.hM
                refine aw_aload_n rfl dX12_nextToken_169 ?_
                refine aw_dup rfl dX12_nextToken_170 ?_
                refine aw_getI gX12_158_12 kM rfl dX12_nextToken_171 ?_
                refine aw_iconst (v := 1) (by decide) dX12_nextToken_174 ?_
                refine aw_iadd dX12_nextToken_175 ?_
                refine aw_putI (pX12_158_12 _) kM rfl rfl rfl dX12_nextToken_176 ?_
                refine aw_goto 98 rfl dX12_nextToken_179 ?_
                rw [g.h9, nI_1]
                rw [hv] at g
                exact ih (k + 1) _ (by omega) he (g.t9 (nI (skp b N p + k + 1))) hd'
              refine aw_aload_n rfl dX12_nextToken_124 ?_
              refine aw_aload_n rfl dX12_nextToken_125 ?_
              refine aw_getJ gX12_164_12 kM rfl dX12_nextToken_126 ?_
              refine aw_ldc2 (v := 9999999999999) w_1153 dX12_nextToken_129 ?_
              refine aw_lcmp dX12_nextToken_132 ?_
              rw [g.hj]
              refine aw_if_le 143 rfl dX12_nextToken_133 (fun c7 => ?_) (fun c7 => ?_)
              · have c7 : ¬ 9999999999999 < wvf b (skp b N p) k := fun z => absurd ((lg_cmp_le _ _).mp c7) (Int64.not_le.mpr ((nJ_lt (a := 9999999999999) (by decide) (by omega)).mpr z))
                refine aw_aload_n rfl dX12_nextToken_143 ?_
                refine aw_getJ gX12_164_12 kM rfl dX12_nextToken_144 ?_
                refine aw_ldc2 (v := 27) w_1154 dX12_nextToken_147 ?_
                refine aw_lmul dX12_nextToken_150 ?_
                refine aw_aload_n rfl dX12_nextToken_151 ?_
                refine aw_getR gX12_22_12 kM rfl (hM.tape) dX12_nextToken_152 ?_
                refine aw_aload_n rfl dX12_nextToken_155 ?_
                refine aw_getI gX12_158_12 kM rfl dX12_nextToken_156 ?_
                refine aw_ialoadN kTape g.h9 (by omega) (by decide) dX12_nextToken_159 ?_
                refine aw_i2l dX12_nextToken_160 ?_
                refine aw_ladd dX12_nextToken_161 ?_
                refine aw_ldc2 (v := 96) w_1155 dX12_nextToken_162 ?_
                refine aw_lsub dX12_nextToken_165 ?_
                rw [g.hj, g.mj.htp, eb]
                refine go _ ?_
                show _ = nJ (stp 27 96 9999999999999 (wvf b (skp b N p) k) (b (skp b N p + k)))
                rw [ht, nJ_of (by omega), stp, if_neg c7, ix_nI (by omega)]
                exact nJ_step (r := 27) (k := 96) (by omega)
              · have c7 : 9999999999999 < wvf b (skp b N p) k := (nJ_lt (a := 9999999999999) (by decide) (by omega)).mp (Int64.not_le.mp (fun z => c7 ((lg_cmp_le _ _).mpr z)))
                refine aw_aload_n rfl dX12_nextToken_136 ?_
                refine aw_getJ gX12_164_12 kM rfl dX12_nextToken_137 ?_
                refine aw_goto 166 rfl dX12_nextToken_140 ?_
                rw [g.hj]
                refine go _ ?_
                show _ = nJ (stp 27 96 9999999999999 (wvf b (skp b N p) k) (b (skp b N p + k)))
                rw [stp, if_pos c7]
        refine aw_aload_n rfl dX12_nextToken_93 ?_
        refine aw_iconst (v := 1) (by decide) dX12_nextToken_94 ?_
        refine aw_putI (pX12_168_12 _) kM rfl rfl rfl dX12_nextToken_95 ?_
        exact loop (N - skp b N p) 0 _ (by omega) e2 (g.t7 1) (fun q h1 h2 => absurd h2 (by omega))
  have loop : ∀ j q (ν : Mem) t0 e0 v0, q + j = N → skp b N p = rn (fun c => decide (c = 32)) b j q → TF μ0 S a ν t0 (nI q) e0 v0 → AW Sc mX12_nextToken 8 [(0, .ref 71)] [] K0 ν n Q := by
    intro j
    induction j with
    | zero =>
      intro q ν t0 e0 v0 hq he g
      have hM := g.mj.hM
      refine aw_aload_n rfl dX12_nextToken_8 ?_
      refine aw_getI gX12_161_12 kM rfl dX12_nextToken_9 ?_
      refine aw_aload_n rfl dX12_nextToken_12 ?_
      refine aw_getI gX12_154_12 kM rfl dX12_nextToken_13 ?_
      rw [g.h8, g.mj.htn, eN]
      refine aw_icmp_ge 46 rfl dX12_nextToken_16 (fun _ => ?_) (fun c_ => absurd (nI_le (by omega) (by omega)) c_)
      exact mid ν t0 e0 v0 (by rw [he]; exact g)
    | succ j ih =>
      intro q ν t0 e0 v0 hq he g
      have hM := g.mj.hM
      refine aw_aload_n rfl dX12_nextToken_8 ?_
      refine aw_getI gX12_161_12 kM rfl dX12_nextToken_9 ?_
      refine aw_aload_n rfl dX12_nextToken_12 ?_
      refine aw_getI gX12_154_12 kM rfl dX12_nextToken_13 ?_
      rw [g.h8, g.mj.htn, eN]
      refine aw_icmp_ge 46 rfl dX12_nextToken_16 (fun c_ => absurd c_ (nI_ge (by omega) (by omega))) (fun _ => ?_)
      refine aw_aload_n rfl dX12_nextToken_19 ?_
      refine aw_getR gX12_22_12 kM rfl (hM.tape) dX12_nextToken_20 ?_
      refine aw_aload_n rfl dX12_nextToken_23 ?_
      refine aw_getI gX12_161_12 kM rfl dX12_nextToken_24 ?_
      refine aw_ialoadN kTape g.h8 (by omega) (by decide) dX12_nextToken_27 ?_
      refine aw_bipush (v := 32) (by decide) dX12_nextToken_28 ?_
      rw [g.mj.htp, eb]
      rw [rn] at he
      refine aw_icmp_ne 46 rfl dX12_nextToken_30 (fun c1 => ?_) (fun c1 => ?_)
      · rw [if_neg (by simpa using c1)] at he
        exact mid ν t0 e0 v0 (by rw [he]; exact g)
      · rw [if_pos (by simpa using c1)] at he
        refine aw_aload_n rfl dX12_nextToken_33 ?_
        refine aw_dup rfl dX12_nextToken_34 ?_
        refine aw_getI gX12_161_12 kM rfl dX12_nextToken_35 ?_
        refine aw_iconst (v := 1) (by decide) dX12_nextToken_38 ?_
        refine aw_iadd dX12_nextToken_39 ?_
        refine aw_putI (pX12_161_12 _) kM rfl rfl rfl dX12_nextToken_40 ?_
        refine aw_goto 8 rfl dX12_nextToken_43 ?_
        rw [g.h8, nI_1]
        exact ih (q + 1) _ t0 e0 v0 (by omega) he (g.t8 _)
  refine aw_aload_n rfl dX12_nextToken_0 ?_
  refine aw_aload_n rfl dX12_nextToken_1 ?_
  refine aw_getI gX12_158_12 kM rfl dX12_nextToken_2 ?_
  refine aw_putI (pX12_161_12 _) kM rfl rfl rfl dX12_nextToken_5 ?_
  rw [f.h9]
  exact loop (N - p) p _ tok (nI p) v (by omega) rfl (f.t8 _)
end Text1
