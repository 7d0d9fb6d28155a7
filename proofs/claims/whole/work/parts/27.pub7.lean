/-! THE MODEL'S CALLS, 7: sheets -/
def gW (S : SG) : Nat → Int32 := S.2.2.2.2.2.2.1
def gZ (S : SG) : Nat → Int32 := S.2.2.2.2.2.2.2.1
def gC (S : SG) : Nat → Int64 := S.2.2.2.2.2.2.2.2
def sC (S : SG) (c : Nat → Int64) : SG := hM1 S (gW S) (gZ S) c
def nar (w : Int32) (v : Int64) : Int64 := if w = 8 then v.toInt32.toInt8.toInt32.toInt64 else if w = 16 then v.toInt32.toInt16.toInt32.toInt64 else v
/-- -1: a sheet that is there; else the finding's number -/
def wrS (S : SG) (x : Int32) : Option Nat := if in1 x 0 3 then (if gW S (ix x) = 0 then some 5 else none) else some 0
def okB (b : Int32) : Bool := decide (b = 0) || decide (b = 8) || decide (b = 16) || decide (b = 64)
def zer (c : Nat → Int64) (a k : Nat) : Nat → Int64 := fun j => if a ≤ j ∧ j < a + k then 0 else c j
theorem zer_0 (c : Nat → Int64) (a : Nat) : zer c a 0 = c := by
  funext j
  simp only [zer]
  rw [if_neg (by omega)]
theorem zer_up (c : Nat → Int64) (a k : Nat) : vp_updL (zer c a k) (a + k) 0 = zer c a (k + 1) := by
  funext j
  simp only [vp_updL, zer]
  by_cases h : j = a + k
  · rw [if_pos h, if_pos (by omega)]
  · rw [if_neg h]
    by_cases h2 : a ≤ j ∧ j < a + k
    · rw [if_pos h2, if_pos (by omega)]
    · rw [if_neg h2, if_neg (by omega)]
def sp_sheet (x b t : Int32) (S : SG) : Int32 × SG := if in1 x 0 3 && okB b then (if t < 0 then fnd S 6 else if 40 < t then fnd S 0 else
    (if b = 0 then 0 else t, hM1 S (upd (gW S) (ix x) b) (upd (gZ S) (ix x) (if b = 0 then 0 else t)) (zer (gC S) (40 * ix x) 40))) else fnd S 0
def sp_write (x i : Int32) (v : Int64) (S : SG) : Int64 × SG := match wrS S x with
  | some k => ((fnd S k).1.toInt64, (fnd S k).2)
  | none => if in1 i 0 (gZ S (ix x) - 1) then (gC S (40 * ix x + ix i), sC S (vp_updL (gC S) (40 * ix x + ix i) (nar (gW S (ix x)) v))) else ((fnd S 0).1.toInt64, (fnd S 0).2)
def cpOk (S : SG) (x a y b t : Int32) : Bool := !decide (t < 0) && (!decide (a < 0) && (!decide (b < 0) && (!decide (gZ S (ix x) - t < a) && !decide (gZ S (ix y) - t < b))))
def sp_copy (x a y b t : Int32) (S : SG) : Int32 × SG := if in1 x 0 3 && in1 y 0 3 then
    (if gW S (ix x) = 0 ∨ gW S (ix y) = 0 then fnd S 5 else if gW S (ix x) = gW S (ix y) then
      (if cpOk S x a y b t then (t, sC S (va_cpy (gC S) (gC S) (40 * ix x + ix a) (40 * ix y + ix b) (ix t))) else fnd S 0) else fnd S 2) else fnd S 0
def layS (s : Nat → Int32) (c : Nat → Int64) : Nat → (Nat → Int32) × Nat
  | 0 => (s, 0)
  | i + 1 => if 1 ≤ c i ∧ c i ≤ 20 then (upd (layS s c i).1 (5 + 5 * i + 4) (c i).toInt32, (layS s c i).2 + 1) else layS s c i
theorem layS_4 (s : Nat → Int32) (c : Nat → Int64) : ∀ i, (layS s c i).1 4 = s 4
  | 0 => rfl
  | i + 1 => by
    unfold layS
    split
    · exact (upd_ne (by omega)).trans (layS_4 s c i)
    · exact layS_4 s c i
theorem layS_le (s : Nat → Int32) (c : Nat → Int64) : ∀ i, (layS s c i).2 ≤ i
  | 0 => Nat.le_refl _
  | i + 1 => by
    have := layS_le s c i
    unfold layS
    split
    · show (layS s c i).2 + 1 ≤ _; omega
    · omega
def rowC (S : SG) (x : Int32) : Nat → Int64 := fun j => gC S (40 * ix x + j)
def ansW (S : SG) (o : Option Nat) (r : Int32 × SG) : Int32 × SG := match o with
  | some k => fnd S k
  | none => r
def sp_lays (x : Int32) (S : SG) : Int32 × SG := ansW S (wrS S x) (nI (layS S.1 (rowC S x) (min (ix (gZ S (ix x))) (mny S.1))).2, wS S (layS S.1 (rowC S x) (min (ix (gZ S (ix x))) (mny S.1))).1)
def booC (S : SG) (a : Nat) (w : Int32) : Nat → (Nat → Int64)
  | 0 => gC S
  | i + 1 => vp_updL (booC S a w i) (a + i) (nar w (goesN (mny S.1) i S.1 1).toInt64)
def sp_book (x : Int32) (S : SG) : Int32 × SG := ansW S (wrS S x) (gZ S (ix x), sC S (booC S (40 * ix x) (gW S (ix x)) (ix (gZ S (ix x)))))
def soF (c : Nat → Int64) (m : Nat) : Nat → Nat → (Nat → Int32) → Bool
  | 0, _, _ => true
  | j + 1, i, s => if c i = (s 1).toInt64 then soF c m j (i + 1) (dayS m s) else false
def cStr (p : Nat → Bool) : Nat → Nat
  | 0 => 0
  | i + 1 => cStr p i + (if p (i + 1) then 1 else 0)
def cKnd (p : Nat → Nat → Bool) : Nat → Nat
  | 0 => 0
  | k + 1 => cKnd p k + cStr (p k) 20
def rdP (S : SG) (x : Int32) (q : Nat) (k g : Nat) : Bool := soF (rowC S x) (mny S.1) (ix (gZ S (ix x))) 0 (upd (upd S.1 (5 + 5 * q) (nI k)) (5 + 5 * q + 4) (nI g))
def sp_read (x y : Int32) (S : SG) : Int32 × SG := ansW S (wrS S x) (if isP S y then (nI (cKnd (rdP S x (ix y)) 6), S) else fnd S 0)
theorem cStr_le (p : Nat → Bool) : ∀ i, cStr p i ≤ i
  | 0 => Nat.le_refl _
  | i + 1 => by
    have := cStr_le p i
    unfold cStr
    split <;> omega
theorem cKnd_le (p : Nat → Nat → Bool) : ∀ k, cKnd p k ≤ 20 * k
  | 0 => Nat.le_refl _
  | k + 1 => by
    have := cKnd_le p k
    have := cStr_le (p k) 20
    unfold cKnd
    omega
section Pub7
variable {Sc : SCR} {μ μ0 : Mem} {n : Nat × Nat} {Q : PQ} {S : SG} {s : Nat → Int32}
theorem k_isSheet {v : Int32} (hQ : Q (some (.int (bI (in1 v 0 3)))) K0 μ) : AM Sc mX12_isSheet [.int v] K0 μ n Q := by
  refine AM.of rfl (ble rfl) ?_
  refine aw_iload_n rfl dX12_isSheet_0 ?_
  refine aw_iconst (v := 0) (by decide) dX12_isSheet_1 ?_
  refine aw_iconst (v := 3) (by decide) dX12_isSheet_2 ?_
  refine aw_s3 kX12_52 ⟨ble rfl, ble rfl⟩ (ble rfl) dX12_isSheet_3 (k_in1 ?_)
  exact aw_zret rfl dX12_isSheet_6 rfl hQ
theorem k_wrongSheet {x : Int32} (h : MJ μ0 μ S) (hQ : Q (some (.int (optI (wrS S x)))) K0 μ) : AM Sc mX12_wrongSheet [.ref 71, .int x] K0 μ n Q := by
  refine AM.of rfl (ble rfl) ?_
  have hM := h.hM
  unfold wrS at hQ
  refine aw_iload_n rfl dX12_wrongSheet_0 ?_
  refine aw_s1 kX12_212 ⟨ble rfl, ble rfl⟩ (ble rfl) dX12_wrongSheet_1 (k_isSheet ?_)
  refine aw_zne 11 rfl dX12_wrongSheet_4 (fun c => ?_) (fun c => ?_)
  · rw [c] at hQ
    obtain ⟨k, -, hk, hx⟩ := in1_t (a := 0) (b := 3) (by decide) (by decide) c
    have hix : ix x = k := by rw [hx]; exact ix_nI (by omega)
    rw [hix] at hQ
    simp only [if_true] at hQ
    refine aw_aload_n rfl dX12_wrongSheet_11 ?_
    refine aw_getR gX12_38_12 kM rfl (hM.widths) dX12_wrongSheet_12 ?_
    refine aw_iload_n rfl dX12_wrongSheet_15 ?_
    refine aw_ialoadN kWidths hx (by omega) (by decide) dX12_wrongSheet_16 ?_
    rw [h.hw]
    refine aw_if_ne 24 rfl dX12_wrongSheet_17 (fun c2 => ?_) (fun c2 => ?_)
    · have c2 : ¬ gW S k = 0 := c2
      rw [if_neg c2] at hQ
      refine aw_iconst (v := (-1)) (by decide) dX12_wrongSheet_24 ?_
      refine aw_iret dX12_wrongSheet_25 rfl ?_
      exact hQ
    · have c2 : gW S k = 0 := c2
      rw [if_pos c2] at hQ
      refine aw_iconst (v := 5) (by decide) dX12_wrongSheet_20 ?_
      refine aw_goto 25 rfl dX12_wrongSheet_21 ?_
      refine aw_iret dX12_wrongSheet_25 rfl ?_
      exact hQ
  · rw [c] at hQ
    refine aw_iconst (v := 0) (by decide) dX12_wrongSheet_7 ?_
    refine aw_goto 25 rfl dX12_wrongSheet_8 ?_
    refine aw_iret dX12_wrongSheet_25 rfl ?_
    exact hQ
theorem ix_told (k j : Nat) : (40 : Int32) * nI k + nI j = nI (40 * k + j) := by
  rw [show (40 : Int32) = nI 40 from rfl, pk_mul, nI_add]
theorem k_told {k j : Nat} {x y : Int32} (h : MJ μ0 μ S) (hx : x = nI k) (hy : y = nI j) (hk : k < 4) (hj : j < 40) (hQ : Q (some (.long (gC S (40 * k + j)))) K0 μ) : AM Sc mX12_told [.ref 71, .int x, .int y] K0 μ n Q := by
  subst hx hy
  refine AM.of rfl (ble rfl) ?_
  have hM := h.hM
  refine aw_aload_n rfl dX12_told_0 ?_
  refine aw_getR gX12_44_12 kM rfl (hM.cells) dX12_told_1 ?_
  refine aw_bipush (v := 40) (by decide) dX12_told_4 ?_
  refine aw_iload_n rfl dX12_told_6 ?_
  refine aw_imul dX12_told_7 ?_
  refine aw_iload_n rfl dX12_told_8 ?_
  refine aw_iadd dX12_told_9 ?_
  refine aw_laloadN kCells (ix_told k j) (by omega) (by decide) dX12_told_10 ?_
  rw [h.hc]
  refine aw_lreturn dX12_told_11 rfl ?_
  exact hQ
theorem k_tells {k j : Nat} {x y : Int32} {v : Int64} (h : MJ μ0 μ S) (hx : x = nI k) (hy : y = nI j) (hk : k < 4) (hj : j < 40) (hQ : ∀ μ', MJ μ0 μ' (sC S (vp_updL (gC S) (40 * k + j) (nar (gW S k) v))) → (μ'.1 = μ.1) → Q none K0 μ') : AM Sc mX12_tells [.ref 71, .int x, .int y, .long v] K0 μ n Q := by
  subst hx hy
  refine AM.of rfl (ble rfl) ?_
  have hM := h.hM
  have fin : ∀ w : Int64, nar (gW S k) v = w → AW Sc mX12_tells 47 [(0, .ref 71), (1, .int (nI k)), (2, .int (nI j)), (3, .long v)] [.long w, .int (40 * nI k + nI j), .ref 83] K0 μ n Q := by
    intro w hw
    rw [hw] at hQ
    refine aw_lastoreN kCells (ix_told k j) (by omega) (by decide) dX12_tells_47 ?_
    refine aw_return dX12_tells_48 rfl ?_
    have := h.cells (vp_updL (μ.2.1 83) (40 * k + j) w)
    rw [h.hc] at this
    refine hQ _ ?_ rfl
    have e : pJ μ 83 (40 * k + j) w = pRow μ 83 (vp_updL S.2.2.2.2.2.2.2.2 (40 * k + j) w) := by
      rw [← h.hc]; rfl
    rw [e]
    exact this
  have hw : μ.1 81 = gW S := h.hw
  unfold nar at fin
  refine aw_aload_n rfl dX12_tells_0 ?_
  refine aw_getR gX12_44_12 kM rfl (hM.cells) dX12_tells_1 ?_
  refine aw_bipush (v := 40) (by decide) dX12_tells_4 ?_
  refine aw_iload_n rfl dX12_tells_6 ?_
  refine aw_imul dX12_tells_7 ?_
  refine aw_iload_n rfl dX12_tells_8 ?_
  refine aw_iadd dX12_tells_9 ?_
  refine aw_aload_n rfl dX12_tells_10 ?_
  refine aw_getR gX12_38_12 kM rfl (hM.widths) dX12_tells_11 ?_
  refine aw_iload_n rfl dX12_tells_14 ?_
  refine aw_ialoadN kWidths rfl (by omega) (by decide) dX12_tells_15 ?_
  refine aw_bipush (v := 8) (by decide) dX12_tells_16 ?_
  rw [hw]
  refine aw_icmp_ne 28 rfl dX12_tells_18 (fun c => ?_) (fun c => ?_)
  · refine aw_aload_n rfl dX12_tells_28 ?_
    refine aw_getR gX12_38_12 kM rfl (hM.widths) dX12_tells_29 ?_
    refine aw_iload_n rfl dX12_tells_32 ?_
    refine aw_ialoadN kWidths rfl (by omega) (by decide) dX12_tells_33 ?_
    refine aw_bipush (v := 16) (by decide) dX12_tells_34 ?_
    rw [hw]
    refine aw_icmp_ne 46 rfl dX12_tells_36 (fun c2 => ?_) (fun c2 => ?_)
    · refine aw_lload_n rfl dX12_tells_46 ?_
      exact fin _ (by rw [if_neg c, if_neg c2])
    · refine aw_lload_n rfl dX12_tells_39 ?_
      refine aw_l2i dX12_tells_40 ?_
      refine aw_i2s dX12_tells_41 ?_
      refine aw_i2l dX12_tells_42 ?_
      refine aw_goto 47 rfl dX12_tells_43 ?_
      exact fin _ (by rw [if_neg c, if_pos c2])
  · refine aw_lload_n rfl dX12_tells_21 ?_
    refine aw_l2i dX12_tells_22 ?_
    refine aw_i2b dX12_tells_23 ?_
    refine aw_i2l dX12_tells_24 ?_
    refine aw_goto 47 rfl dX12_tells_25 ?_
    exact fin _ (by rw [if_pos c])
theorem q_sheet {x b t : Int32} (h : MJ μ0 μ S) (hQ : ∀ μ', MJ μ0 μ' (sp_sheet x b t S).2 → Q (some (.int (sp_sheet x b t S).1)) K0 μ') : AM Sc mX12_sheet [.ref 71, .int x, .int b, .int t] K0 μ n Q := by
  refine AM.of rfl (ble rfl) ?_
  have hM := h.hM
  unfold sp_sheet at hQ
  have bad : (in1 x 0 3 && okB b) = false → AW Sc mX12_sheet 29 [(0, .ref 71), (1, .int x), (2, .int b), (3, .int t)] [] K0 μ n Q := by
    intro e
    rw [e] at hQ
    refine aw_aload_n rfl dX12_sheet_29 ?_
    refine aw_iconst (v := 0) (by decide) dX12_sheet_30 ?_
    refine aw_v1 kX12_118 ⟨ble rfl, ble rfl⟩ (rcM) (ble rfl) dX12_sheet_31 (q_no h rfl (by decide) (fun μ' h' => ?_))
    refine aw_iret dX12_sheet_34 rfl ?_
    exact hQ μ' h'
  refine aw_iload_n rfl dX12_sheet_0 ?_
  refine aw_s1 kX12_212 ⟨ble rfl, ble rfl⟩ (ble rfl) dX12_sheet_1 (k_isSheet ?_)
  refine aw_zeq 29 rfl dX12_sheet_4 (fun c => ?_) (fun c => ?_)
  · exact bad (by rw [c]; rfl)
  · have good : okB b = true → AW Sc mX12_sheet 35 [(0, .ref 71), (1, .int x), (2, .int b), (3, .int t)] [] K0 μ n Q := by
      intro c2
      rw [c, c2] at hQ
      obtain ⟨k, -, hk, hx⟩ := in1_t (a := 0) (b := 3) (by decide) (by decide) c
      have hix : ix x = k := by rw [hx]; exact ix_nI (by omega)
      rw [hix] at hQ
      simp only [Bool.and_self, if_true] at hQ
      refine aw_iload_n rfl dX12_sheet_35 ?_
      refine aw_if_ge 46 rfl dX12_sheet_36 (fun c3 => ?_) (fun c3 => ?_)
      · rw [if_neg (Int32.not_lt.mpr c3)] at hQ
        refine aw_iload_n rfl dX12_sheet_46 ?_
        refine aw_bipush (v := 40) (by decide) dX12_sheet_47 ?_
        refine aw_icmp_le 58 rfl dX12_sheet_49 (fun c4 => ?_) (fun c4 => ?_)
        · rw [if_neg (Int32.not_lt.mpr c4)] at hQ
          have loop : ∀ j i (ν : Mem), i + j = 40 → MJ μ0 ν (hM1 S (upd (gW S) k b) (upd (gZ S) k (if b = 0 then 0 else t)) (zer (gC S) (40 * k) i)) → AW Sc mX12_sheet 83 [(0, .ref 71), (1, .int x), (2, .int b), (3, .int t), (4, .int (nI i))] [] K0 ν n Q := by
            intro j
            induction j with
            | zero =>
              intro i ν hi h'
              have hM := h'.hM
              refine aw_iload rfl dX12_sheet_83 ?_
              refine aw_bipush (v := 40) (by decide) dX12_sheet_85 ?_
              refine aw_icmp_ge 109 rfl dX12_sheet_87 (fun _ => ?_) (fun c_ => absurd (nI_le (a := 40) (by omega) (by omega)) c_)
              refine aw_aload_n rfl dX12_sheet_109 ?_
              refine aw_getR gX12_41_12 kM rfl (hM.sizes) dX12_sheet_110 ?_
              refine aw_iload_n rfl dX12_sheet_113 ?_
              refine aw_ialoadN kSizes hx (by omega) (by decide) dX12_sheet_114 ?_
              refine aw_iret dX12_sheet_115 rfl ?_
              rw [h'.hz]
              obtain rfl : i = 40 := by omega
              have := hQ _ h'
              rw [show (hM1 S (upd (gW S) k b) (upd (gZ S) k (if b = 0 then 0 else t)) (zer (gC S) (40 * k) 40)).2.2.2.2.2.2.2.1 k = (if b = 0 then 0 else t) from upd_eq]
              exact this
            | succ j ih =>
              intro i ν hi h'
              have hM := h'.hM
              refine aw_iload rfl dX12_sheet_83 ?_
              refine aw_bipush (v := 40) (by decide) dX12_sheet_85 ?_
              refine aw_icmp_ge 109 rfl dX12_sheet_87 (fun c_ => absurd c_ (nI_ge (b := 40) (by omega) (by omega))) (fun _ => ?_)
              refine aw_aload_n rfl dX12_sheet_90 ?_
              refine aw_getR gX12_44_12 kM rfl (hM.cells) dX12_sheet_91 ?_
              refine aw_bipush (v := 40) (by decide) dX12_sheet_94 ?_
              refine aw_iload_n rfl dX12_sheet_96 ?_
              refine aw_imul dX12_sheet_97 ?_
              refine aw_iload rfl dX12_sheet_98 ?_
              refine aw_iadd dX12_sheet_100 ?_
              refine aw_lconst (v := 0) (by decide) dX12_sheet_101 ?_
              refine aw_lastoreN kCells (c := 40 * k + i) (by rw [hx]; exact ix_told k i) (by omega) (by decide) dX12_sheet_102 ?_
              refine aw_iinc rfl (v := 1) (by decide) (ble rfl) dX12_sheet_103 ?_
              refine aw_goto 83 rfl dX12_sheet_106 ?_
              rw [nI_1]
              refine ih (i + 1) _ (by omega) ?_
              have h2 := h'.cells (vp_updL (ν.2.1 83) (40 * k + i) 0)
              rw [← zer_up]
              have e : ν.2.1 83 = zer (gC S) (40 * k) i := h'.hc
              rw [e] at h2
              have e2 : pJ ν 83 (40 * k + i) 0 = pRow ν 83 (vp_updL (zer (gC S) (40 * k) i) (40 * k + i) 0) := by
                rw [← e]; rfl
              rw [e2]
              exact h2
          have fin : ∀ y : Int32, (if b = 0 then 0 else t) = y → AW Sc mX12_sheet 79 [(0, .ref 71), (1, .int x), (2, .int b), (3, .int t)] [.int y, .int x, .ref 82] K0 (pI μ 81 k b) n Q := by
            intro y hy
            refine aw_iastoreN kSizes hx (by omega) (by decide) dX12_sheet_79 ?_
            refine aw_iconst (v := 0) (by decide) dX12_sheet_80 ?_
            refine aw_istore (ble rfl) dX12_sheet_81 ?_
            refine loop 40 0 _ (by omega) ?_
            rw [zer_0, hy]
            have h2 := h.wz (upd (μ.1 81) k b) (upd (μ.1 82) k y)
            rw [h.hw, h.hz] at h2
            have e : pI (pI μ 81 k b) 82 k y = rowI (rowI μ 81 (upd S.2.2.2.2.2.2.1 k b)) 82 (upd S.2.2.2.2.2.2.2.1 k y) := by
              show rowI (rowI μ 81 (upd (μ.1 81) k b)) 82 (upd ((rowI μ 81 (upd (μ.1 81) k b)).1 82) k y) = _
              rw [rowI_ne _ _ (by decide), h.hw, h.hz]
            rw [e]
            exact h2
          refine aw_aload_n rfl dX12_sheet_58 ?_
          refine aw_getR gX12_38_12 kM rfl (hM.widths) dX12_sheet_59 ?_
          refine aw_iload_n rfl dX12_sheet_62 ?_
          refine aw_iload_n rfl dX12_sheet_63 ?_
          refine aw_iastoreN kWidths hx (by omega) (by decide) dX12_sheet_64 ?_
          refine aw_aload_n rfl dX12_sheet_65 ?_
          refine aw_getR gX12_41_12 kM rfl (hM.sizes) dX12_sheet_66 ?_
          refine aw_iload_n rfl dX12_sheet_69 ?_
          refine aw_iload_n rfl dX12_sheet_70 ?_
          refine aw_if_ne 78 rfl dX12_sheet_71 (fun c5 => ?_) (fun c5 => ?_)
          · refine aw_iload_n rfl dX12_sheet_78 ?_
            exact fin _ (if_neg c5)
          · refine aw_iconst (v := 0) (by decide) dX12_sheet_74 ?_
            refine aw_goto 79 rfl dX12_sheet_75 ?_
            exact fin _ (if_pos c5)
        · rw [if_pos (Int32.not_le.mp c4)] at hQ
          refine aw_aload_n rfl dX12_sheet_52 ?_
          refine aw_iconst (v := 0) (by decide) dX12_sheet_53 ?_
          refine aw_v1 kX12_118 ⟨ble rfl, ble rfl⟩ (rcM) (ble rfl) dX12_sheet_54 (q_no h rfl (by decide) (fun μ' h' => ?_))
          refine aw_iret dX12_sheet_57 rfl ?_
          exact hQ μ' h'
      · rw [if_pos (Int32.not_le.mp c3)] at hQ
        refine aw_aload_n rfl dX12_sheet_39 ?_
        refine aw_bipush (v := 6) (by decide) dX12_sheet_40 ?_
        refine aw_v1 kX12_118 ⟨ble rfl, ble rfl⟩ (rcM) (ble rfl) dX12_sheet_42 (q_no h (k := 6) rfl (by decide) (fun μ' h' => ?_))
        refine aw_iret dX12_sheet_45 rfl ?_
        exact hQ μ' h'
    refine aw_iload_n rfl dX12_sheet_7 ?_
    refine aw_if_eq 35 rfl dX12_sheet_8 (fun d0 => ?_) (fun d0 => ?_)
    · exact good (by simp [okB, d0])
    · refine aw_iload_n rfl dX12_sheet_11 ?_
      refine aw_bipush (v := 8) (by decide) dX12_sheet_12 ?_
      refine aw_icmp_eq 35 rfl dX12_sheet_14 (fun d1 => ?_) (fun d1 => ?_)
      · exact good (by simp [okB, d1])
      · refine aw_iload_n rfl dX12_sheet_17 ?_
        refine aw_bipush (v := 16) (by decide) dX12_sheet_18 ?_
        refine aw_icmp_eq 35 rfl dX12_sheet_20 (fun d2 => ?_) (fun d2 => ?_)
        · exact good (by simp [okB, d2])
        · refine aw_iload_n rfl dX12_sheet_23 ?_
          refine aw_bipush (v := 64) (by decide) dX12_sheet_24 ?_
          refine aw_icmp_eq 35 rfl dX12_sheet_26 (fun d3 => ?_) (fun d3 => ?_)
          · exact good (by simp [okB, d3])
          · exact bad (by simp [okB, d0, d1, d2, d3])
theorem q_write {x i : Int32} {v : Int64} (h : MJ μ0 μ S) (hW : WF S) (hQ : ∀ μ', MJ μ0 μ' (sp_write x i v S).2 → Q (some (.long (sp_write x i v S).1)) K0 μ') : AM Sc mX12_write [.ref 71, .int x, .int i, .long v] K0 μ n Q := by
  refine AM.of rfl (ble rfl) ?_
  have hM := h.hM
  unfold sp_write at hQ
  have out : ∀ k : Nat, k < 7 → (∀ μ', MJ μ0 μ' (fnd S k).2 → Q (some (.long (fnd S k).1.toInt64)) K0 μ') → AW Sc mX12_write 31 [(0, .ref 71), (1, .int x), (2, .int i), (3, .long v), (5, .int (nI k))] [] K0 μ n Q := by
    intro k hk hq
    refine aw_iload rfl dX12_write_31 ?_
    refine aw_if_lt 44 rfl dX12_write_33 (fun c_ => absurd c_ (nI_pos (by omega))) (fun _ => ?_)
    refine aw_aload_n rfl dX12_write_36 ?_
    refine aw_iload rfl dX12_write_37 ?_
    refine aw_v1 kX12_118 ⟨ble rfl, ble rfl⟩ (rcM) (ble rfl) dX12_write_39 (q_no h rfl hk (fun μ' h' => ?_))
    refine aw_i2l dX12_write_42 ?_
    refine aw_lreturn dX12_write_43 rfl ?_
    exact hq μ' h'
  refine aw_aload_n rfl dX12_write_0 ?_
  refine aw_iload_n rfl dX12_write_1 ?_
  refine aw_v1 kX12_215 ⟨ble rfl, ble rfl⟩ (rcM) (ble rfl) dX12_write_2 (k_wrongSheet h ?_)
  refine aw_istore (ble rfl) dX12_write_5 ?_
  refine aw_iload rfl dX12_write_7 ?_
  cases hwr : wrS S x with
  | some k =>
    rw [hwr] at hQ
    have hk : k < 7 := by
      unfold wrS at hwr
      split at hwr
      · split at hwr <;> cases hwr
        decide
      · cases hwr; decide
    refine aw_if_ge 31 rfl dX12_write_9 (fun _ => ?_) (fun c_ => absurd (nI_pos' (by omega)) c_)
    exact out k hk hQ
  | none =>
    rw [hwr] at hQ
    refine aw_if_ge 31 rfl dX12_write_9 (fun c_ => absurd c_ ((by decide))) (fun _ => ?_)
    have c : in1 x 0 3 = true := by
      unfold wrS at hwr
      split at hwr
      · assumption
      · cases hwr
    obtain ⟨k, -, hk, hx⟩ := in1_t (a := 0) (b := 3) (by decide) (by decide) c
    have hix : ix x = k := by rw [hx]; exact ix_nI (by omega)
    rw [hix] at hQ
    obtain ⟨z, hz, hzk⟩ := hW.2.2.2.1 k (by omega)
    have hzk : gZ S k = nI z := hzk
    refine aw_iload_n rfl dX12_write_12 ?_
    refine aw_iconst (v := 0) (by decide) dX12_write_13 ?_
    refine aw_aload_n rfl dX12_write_14 ?_
    refine aw_getR gX12_41_12 kM rfl (hM.sizes) dX12_write_15 ?_
    refine aw_iload_n rfl dX12_write_18 ?_
    refine aw_ialoadN kSizes hx (by omega) (by decide) dX12_write_19 ?_
    refine aw_iconst (v := 1) (by decide) dX12_write_20 ?_
    refine aw_isub dX12_write_21 ?_
    refine aw_s3 kX12_52 ⟨ble rfl, ble rfl⟩ (ble rfl) dX12_write_22 (k_in1 ?_)
    rw [h.hz]
    show AW Sc mX12_write 25 _ [.int (bI (in1 i 0 (gZ S k - 1)))] K0 μ n Q
    refine aw_zne 31 rfl dX12_write_25 (fun c2 => ?_) (fun c2 => ?_)
    · rw [c2] at hQ
      simp only [if_true] at hQ
      have hi : ∃ j, j < 40 ∧ i = nI j ∧ ix i = j := by
        rw [hzk] at c2
        cases z with
        | zero =>
          simp only [in1, Bool.and_eq_true, decide_eq_true_eq] at c2
          have h1 := (fa_le _ _).mp c2.1
          have h2 := (fa_le _ _).mp c2.2
          rw [show (nI 0 - 1).toInt = -1 by decide] at h2
          have h1 : (0 : Int) ≤ i.toInt := h1
          omega
        | succ z =>
          rw [nI_pred] at c2
          obtain ⟨t, -, ht, rfl⟩ := in1_t (a := 0) (by decide) (by omega) c2
          exact ⟨t, by omega, rfl, ix_nI (by omega)⟩
      obtain ⟨j, hj, hij, hixj⟩ := hi
      rw [hixj] at hQ
      refine aw_iload rfl dX12_write_31 ?_
      refine aw_if_lt 44 rfl dX12_write_33 (fun _ => ?_) (fun c_ => absurd ((by decide)) c_)
      refine aw_aload_n rfl dX12_write_44 ?_
      refine aw_iload_n rfl dX12_write_45 ?_
      refine aw_iload_n rfl dX12_write_46 ?_
      refine aw_v2 kX12_218 ⟨ble rfl, ble rfl⟩ (rcM) (ble rfl) dX12_write_47 (k_told h hx hij (by omega) hj ?_)
      refine aw_lstore (ble rfl) dX12_write_50 ?_
      refine aw_aload_n rfl dX12_write_52 ?_
      refine aw_iload_n rfl dX12_write_53 ?_
      refine aw_iload_n rfl dX12_write_54 ?_
      refine aw_lload_n rfl dX12_write_55 ?_
      refine aw_v3 kX12_222 ⟨ble rfl, ble rfl⟩ (rcM) (ble rfl) dX12_write_56 (k_tells h hx hij (by omega) hj (fun μ' h' _ => ?_))
      refine aw_lload rfl dX12_write_59 ?_
      refine aw_lreturn dX12_write_61 rfl ?_
      exact hQ _ h'
    · rw [c2] at hQ
      refine aw_iconst (v := 0) (by decide) dX12_write_28 ?_
      refine aw_istore (ble rfl) dX12_write_29 ?_
      exact out 0 (by decide) hQ
end Pub7
