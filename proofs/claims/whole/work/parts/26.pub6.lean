/-! THE MODEL'S CALLS, 6: images, counts, the tape's bytes -/
def kM1 (S : SG) (b : Bool) (k : Nat → Int32) : SG := (S.1, S.2.1, b, k, S.2.2.2.2)
def tM1 (S : SG) (t : Nat → Int32) (c : Nat) : SG := (S.1, S.2.1, S.2.2.1, S.2.2.2.1, t, c, S.2.2.2.2.2.2)
def hM1 (S : SG) (w z : Nat → Int32) (c : Nat → Int64) : SG := (S.1, S.2.1, S.2.2.1, S.2.2.2.1, S.2.2.2.2.1, S.2.2.2.2.2.1, w, z, c)
theorem pI_row (μ : Mem) (q k : Nat) (v : Int32) : (pI μ q k v).1 q = upd (μ.1 q) k v := by simp [pI, va_up]
theorem pI_ne (μ : Mem) {q p : Nat} (k : Nat) (v : Int32) (h : p ≠ q) : (pI μ q k v).1 p = μ.1 p := va_up_ne _ _ h
theorem pRow_get (μ : Mem) (q : Nat) (f : Nat → Int64) : (pRow μ q f).2.1 q = f := by simp [pRow, va_up]
theorem pRow_ne (μ : Mem) {q p : Nat} (f : Nat → Int64) (h : p ≠ q) : (pRow μ q f).2.1 p = μ.2.1 p := va_up_ne _ _ h
theorem pRow_pRow (μ : Mem) (q : Nat) (f g : Nat → Int64) : pRow (pRow μ q f) q g = pRow μ q g := by
  simp only [pRow, Prod.mk.injEq, and_true, true_and]
  funext j
  by_cases h : j = q <;> simp [va_up, h]
theorem pRow_same {μ : Mem} {q : Nat} {f : Nat → Int64} (h : μ.2.1 q = f) : pRow μ q f = μ := by
  obtain ⟨m1, m2, m3⟩ := μ
  simp only [pRow, Prod.mk.injEq, and_true, true_and]
  funext j
  by_cases hj : j = q
  · subst hj
    simp [va_up]
    exact h.symm
  · simp [va_up, hj]
/-- the object's own ints (token, begun, ended are free) -/
theorem MJ.fld {μ0 μ : Mem} {S : SG} (h : MJ μ0 μ S) {k : Nat} (v : Int32) (h3 : k ≠ 3) (h6 : k ≠ 6) : MJ μ0 (pI μ 71 k v) S := by
  obtain ⟨⟨a1, a2⟩, b1, b2, b3, b4, b5, b6, b7, b8, b9, b10, b11, b12, b13, b14⟩ := h
  refine ⟨⟨fun q hq => ⟨(pI_ne _ _ _ (by omega)).trans (a1 q hq).1, (a1 q hq).2⟩, a2⟩, b1, ?_, ?_, ?_, fun hk => ?_, ?_, ?_, ?_, ?_, b10, ?_, ?_, ?_, ?_⟩
  · rw [pI_ne _ _ _ (by decide)]; exact b2
  · rw [pI_ne _ _ _ (by decide)]; exact b3
  · rw [pI_row, upd_ne (fun z => h3 z.symm)]; exact b4
  · rw [pI_ne _ _ _ (by decide)]; exact b5 hk
  · rw [pI_ne _ _ _ (by decide)]; exact b6
  · rw [pI_row, upd_ne (fun z => h6 z.symm)]; exact b7
  all_goals rw [pI_ne _ _ _ (by decide)]
  all_goals assumption
theorem pJ_ne (μ : Mem) {q p : Nat} (k : Nat) (v : Int64) (h : p ≠ q) : (pJ μ q k v).2.1 p = μ.2.1 p := va_up_ne _ _ h
theorem MJ.fldJ {μ0 μ : Mem} {S : SG} (h : MJ μ0 μ S) (k : Nat) (v : Int64) : MJ μ0 (pJ μ 71 k v) S := by
  obtain ⟨⟨a1, a2⟩, b1, b2, b3, b4, b5, b6, b7, b8, b9, b10, b11, b12, b13, b14⟩ := h
  exact ⟨⟨fun q hq => ⟨(a1 q hq).1, (pJ_ne _ _ _ (by omega)).trans (a1 q hq).2⟩, a2⟩, b1, b2, b3, b4, b5, b6, b7, b8, b9, (pJ_ne _ _ _ (by decide)).trans b10, b11, b12, b13, b14⟩
theorem MJ.kept {μ0 μ : Mem} {S : SG} (h : MJ μ0 μ S) (b : Bool) (k : Nat → Int32) (hk : b = true → μ.1 73 = k) : MJ μ0 (pI μ 71 3 (bI b)) (kM1 S b k) := by
  obtain ⟨⟨a1, a2⟩, b1, b2, b3, b4, b5, b6, b7, b8, b9, b10, b11, b12, b13, b14⟩ := h
  refine ⟨⟨fun q hq => ⟨(pI_ne _ _ _ (by omega)).trans (a1 q hq).1, (a1 q hq).2⟩, a2⟩, b1, ?_, ?_, ?_, fun hb => ?_, ?_, ?_, ?_, ?_, b10, ?_, ?_, ?_, ?_⟩
  · rw [pI_ne _ _ _ (by decide)]; exact b2
  · rw [pI_ne _ _ _ (by decide)]; exact b3
  · rw [pI_row, upd_eq]; rfl
  · rw [pI_ne _ _ _ (by decide)]; exact hk hb
  · rw [pI_ne _ _ _ (by decide)]; exact b6
  · rw [pI_row, upd_ne (by decide)]; exact b7
  all_goals rw [pI_ne _ _ _ (by decide)]
  all_goals assumption
theorem MJ.krow {μ0 μ : Mem} {S : SG} (h : MJ μ0 μ S) (k : Nat → Int32) : MJ μ0 (rowI μ 73 k) (kM1 S S.2.2.1 k) := by
  obtain ⟨⟨a1, a2⟩, b1, b2, b3, b4, b5, b6, b7, b8, b9, b10, b11, b12, b13, b14⟩ := h
  refine ⟨⟨fun q hq => ⟨(rowI_ne _ _ (by omega)).trans (a1 q hq).1, (a1 q hq).2⟩, a2⟩, b1, ?_, ?_, ?_, fun _ => rowI_get _ _ _, ?_, ?_, ?_, ?_, b10, ?_, ?_, ?_, ?_⟩
  all_goals rw [rowI_ne _ _ (by decide)]
  all_goals assumption
theorem MJ.trow {μ0 μ : Mem} {S : SG} (h : MJ μ0 μ S) (t : Nat → Int32) : MJ μ0 (rowI μ 76 t) (tM1 S t S.2.2.2.2.2.1) := by
  obtain ⟨⟨a1, a2⟩, b1, b2, b3, b4, b5, b6, b7, b8, b9, b10, b11, b12, b13, b14⟩ := h
  refine ⟨⟨fun q hq => ⟨(rowI_ne _ _ (by omega)).trans (a1 q hq).1, (a1 q hq).2⟩, a2⟩, b1, ?_, ?_, ?_, fun hk => ?_, rowI_get _ _ _, ?_, ?_, ?_, b10, ?_, ?_, ?_, ?_⟩
  all_goals rw [rowI_ne _ _ (by decide)]
  all_goals first | assumption | exact b5 hk
theorem MJ.tcnt {μ0 μ : Mem} {S : SG} (h : MJ μ0 μ S) (c : Nat) : MJ μ0 (pI μ 71 6 (nI c)) (tM1 S S.2.2.2.2.1 c) := by
  obtain ⟨⟨a1, a2⟩, b1, b2, b3, b4, b5, b6, b7, b8, b9, b10, b11, b12, b13, b14⟩ := h
  refine ⟨⟨fun q hq => ⟨(pI_ne _ _ _ (by omega)).trans (a1 q hq).1, (a1 q hq).2⟩, a2⟩, b1, ?_, ?_, ?_, fun hk => ?_, ?_, ?_, ?_, ?_, b10, ?_, ?_, ?_, ?_⟩
  · rw [pI_ne _ _ _ (by decide)]; exact b2
  · rw [pI_ne _ _ _ (by decide)]; exact b3
  · rw [pI_row, upd_ne (by decide)]; exact b4
  · rw [pI_ne _ _ _ (by decide)]; exact b5 hk
  · rw [pI_ne _ _ _ (by decide)]; exact b6
  · rw [pI_row, upd_eq]; rfl
  all_goals rw [pI_ne _ _ _ (by decide)]
  all_goals assumption
theorem MJ.cells {μ0 μ : Mem} {S : SG} (h : MJ μ0 μ S) (c : Nat → Int64) : MJ μ0 (pRow μ 83 c) (hM1 S S.2.2.2.2.2.2.1 S.2.2.2.2.2.2.2.1 c) := by
  obtain ⟨⟨a1, a2⟩, b1, b2, b3, b4, b5, b6, b7, b8, b9, b10, b11, b12, b13, b14⟩ := h
  exact ⟨⟨fun q hq => ⟨(a1 q hq).1, (pRow_ne _ _ (by omega)).trans (a1 q hq).2⟩, a2⟩, b1, b2, b3, b4, b5, b6, b7, b8, b9, pRow_get _ _ _, b11, b12, b13, b14⟩
theorem MJ.carr {μ0 μ : Mem} {S : SG} (h : MJ μ0 μ S) (c : Nat → Int64) : MJ μ0 (pRow μ 84 c) S := by
  obtain ⟨⟨a1, a2⟩, b1, b2, b3, b4, b5, b6, b7, b8, b9, b10, b11, b12, b13, b14⟩ := h
  exact ⟨⟨fun q hq => ⟨(a1 q hq).1, (pRow_ne _ _ (by omega)).trans (a1 q hq).2⟩, a2⟩, b1, b2, b3, b4, b5, b6, b7, b8, b9, (pRow_ne _ _ (by decide)).trans b10, b11, b12, b13, b14⟩
theorem MJ.wz {μ0 μ : Mem} {S : SG} (h : MJ μ0 μ S) (w z : Nat → Int32) : MJ μ0 (rowI (rowI μ 81 w) 82 z) (hM1 S w z S.2.2.2.2.2.2.2.2) := by
  obtain ⟨⟨a1, a2⟩, b1, b2, b3, b4, b5, b6, b7, b8, b9, b10, b11, b12, b13, b14⟩ := h
  refine ⟨⟨fun q hq => ⟨(rowI_ne _ _ (by omega)).trans ((rowI_ne _ _ (by omega)).trans (a1 q hq).1), (a1 q hq).2⟩, a2⟩, b1, ?_, ?_, ?_, fun hk => ?_, ?_, ?_, ?_, rowI_get _ _ _, b10, ?_, ?_, ?_, ?_⟩
  case refine_7 => rw [rowI_ne _ _ (by decide), rowI_get]; rfl
  all_goals rw [rowI_ne _ _ (by decide), rowI_ne _ _ (by decide)]
  all_goals first | assumption | exact b5 hk
theorem MJ.hk {μ0 μ : Mem} {S : SG} (h : MJ μ0 μ S) : μ.1 71 3 = bI S.2.2.1 := h.2.2.2.2.1
theorem MJ.htp {μ0 μ : Mem} {S : SG} (h : MJ μ0 μ S) : μ.1 76 = S.2.2.2.2.1 := h.2.2.2.2.2.2.1
theorem MJ.htn {μ0 μ : Mem} {S : SG} (h : MJ μ0 μ S) : μ.1 71 6 = nI S.2.2.2.2.2.1 := h.2.2.2.2.2.2.2.1
theorem MJ.hw {μ0 μ : Mem} {S : SG} (h : MJ μ0 μ S) : μ.1 81 = S.2.2.2.2.2.2.1 := h.2.2.2.2.2.2.2.2.1
theorem MJ.hz {μ0 μ : Mem} {S : SG} (h : MJ μ0 μ S) : μ.1 82 = S.2.2.2.2.2.2.2.1 := h.2.2.2.2.2.2.2.2.2.1
theorem MJ.hc {μ0 μ : Mem} {S : SG} (h : MJ μ0 μ S) : μ.2.1 83 = S.2.2.2.2.2.2.2.2 := h.2.2.2.2.2.2.2.2.2.2.1
def sp_image (S : SG) : Int32 × SG := (1, kM1 S true S.1)
def sp_undo (S : SG) : Int32 × SG := if S.2.2.1 then (S.2.2.2.1 4, wS S S.2.2.2.1) else fnd S 3
def sp_tear (S : SG) : Int32 × SG := (bI S.2.2.1, kM1 S false S.2.2.2.1)
def cntS (s : Nat → Int32) : Nat → Int32
  | 0 => 0
  | k + 1 => cntS s k + (if s (5 + 5 * k + 1) = 0 then 1 else 0)
def tirS (s : Nat → Int32) : Nat → Int32
  | 0 => 0
  | k + 1 => tirS s k + s (5 + 5 * k + 3)
def sp_count (x : Int32) (S : SG) : Int32 × SG := if x = 0 then (S.1 4, S) else if x = 1 then (nI S.2.2.2.2.2.1, S) else if x = 2 then (cntS S.1 (mny S.1), S) else if x = 3 then (tirS S.1 (mny S.1), S) else fnd S 0
def stS (f : Nat → Int32) (x : Int32) : Nat → Int32
  | 0 => 0
  | k + 1 => stS f x k + (if x = -1 ∨ x = nI k then f k else 0)
def sp_status (x : Int32) (S : SG) : Int32 × SG := if in1 x (-1) 6 then (stS S.2.1 x 7, S) else fnd S 0
def sp_wipe (S : SG) : Int32 × SG := (nI S.2.2.2.2.2.1, tM1 S S.2.2.2.2.1 0)
def feedT (t : Nat → Int32) (c : Nat) (b : Int32) (k : Nat) : Nat → (Nat → Int32)
  | 0 => t
  | i + 1 => upd (feedT t c b k i) (c + i) ((b >>> (8 * nI (k - 1 - i) &&& 31)) &&& 255)
def sp_feed (b t : Int32) (S : SG) : Int32 × SG := if in1 t 1 4 then (if nI S.2.2.2.2.2.1 + t ≤ 120 then (nI (S.2.2.2.2.2.1 + ix t), tM1 S (feedT S.2.2.2.2.1 S.2.2.2.2.2.1 b (ix t) (ix t)) (S.2.2.2.2.2.1 + ix t)) else fnd S 1) else fnd S 0
section Pub6
variable {Sc : SCR} {μ μ0 : Mem} {n : Nat × Nat} {Q : PQ} {S : SG} {s : Nat → Int32}
theorem q_image (h : MJ μ0 μ S) (hQ : ∀ μ', MJ μ0 μ' (sp_image S).2 → Q (some (.int (sp_image S).1)) K0 μ') : AM Sc mX12_image [.ref 71] K0 μ n Q := by
  refine AM.of rfl (ble rfl) ?_
  have hM := h.hM
  have loop : ∀ j i, i + j = 55 → AW Sc mX12_image 2 [(0, .ref 71), (1, .int (nI i))] [] K0 (rowI μ 73 (fil (μ.1 72) (μ.1 73) i)) n Q := by
    intro j
    induction j with
    | zero =>
      intro i hi
      obtain rfl : i = 55 := by omega
      refine aw_iload_n rfl dX12_image_2 ?_
      refine aw_bipush (v := 55) (by decide) dX12_image_3 ?_
      refine aw_icmp_ge 26 rfl dX12_image_5 (fun _ => ?_) (fun c_ => absurd (nI_le (by decide) (by decide)) c_)
      refine aw_rowI kKept (Or.inl rfl) (μ.1 72) (fun k hk => by rw [rowI_get]; simp [fil, hk]) ?_
      rw [rowI_rowI]
      refine aw_aload_n rfl dX12_image_26 ?_
      refine aw_iconst (v := 1) (by decide) dX12_image_27 ?_
      refine aw_putI (pX12_231_12 _) kM rfl (by decide) (by decide) dX12_image_28 ?_
      refine aw_iconst (v := 1) (by decide) dX12_image_31 ?_
      refine aw_iret dX12_image_32 rfl ?_
      have h1 := h.krow (μ.1 72)
      rw [h.hs] at h1
      have := h1.kept true S.1 (fun _ => rowI_get _ _ _)
      rw [h.hs]
      exact hQ _ this
    | succ j ih =>
      intro i hi
      refine aw_iload_n rfl dX12_image_2 ?_
      refine aw_bipush (v := 55) (by decide) dX12_image_3 ?_
      refine aw_icmp_ge 26 rfl dX12_image_5 (fun c_ => absurd c_ (nI_ge (b := 55) (by omega) (by decide))) (fun _ => ?_)
      refine aw_aload_n rfl dX12_image_8 ?_
      refine aw_getR gX12_13_12 kM rfl (hM.kept) dX12_image_9 ?_
      refine aw_iload_n rfl dX12_image_12 ?_
      refine aw_aload_n rfl dX12_image_13 ?_
      refine aw_getR gX12_9_12 kM rfl (hM.s) dX12_image_14 ?_
      refine aw_iload_n rfl dX12_image_17 ?_
      refine aw_ialoadN kS rfl (by omega) (by decide) dX12_image_18 ?_
      refine aw_iastoreN kKept rfl (by omega) (by decide) dX12_image_19 ?_
      refine aw_iinc rfl (v := 1) (by decide) (ble rfl) dX12_image_20 ?_
      refine aw_goto 2 rfl dX12_image_23 ?_
      rw [nI_1]
      have := ih (i + 1) (by omega)
      rw [← fil_up] at this
      have e : pI (rowI μ 73 (fil (μ.1 72) (μ.1 73) i)) 73 i ((rowI μ 73 (fil (μ.1 72) (μ.1 73) i)).1 72 i) = rowI μ 73 (upd (fil (μ.1 72) (μ.1 73) i) i (μ.1 72 i)) := by
        show rowI (rowI μ 73 (fil (μ.1 72) (μ.1 73) i)) 73 (upd ((rowI μ 73 (fil (μ.1 72) (μ.1 73) i)).1 73) i ((rowI μ 73 (fil (μ.1 72) (μ.1 73) i)).1 72 i)) = _
        rw [rowI_rowI, rowI_get, rowI_ne μ _ (by decide)]
      rw [e]
      exact this
  refine aw_iconst (v := 0) (by decide) dX12_image_0 ?_
  refine aw_istore_n (ble rfl) dX12_image_1 ?_
  have := loop 55 0 rfl
  rw [fil_0, rowI_self] at this
  exact this
theorem q_undo (h : MJ μ0 μ S) (hQ : ∀ μ', MJ μ0 μ' (sp_undo S).2 → Q (some (.int (sp_undo S).1)) K0 μ') : AM Sc mX12_undo [.ref 71] K0 μ n Q := by
  refine AM.of rfl (ble rfl) ?_
  have hM := h.hM
  unfold sp_undo at hQ
  refine aw_aload_n rfl dX12_undo_0 ?_
  refine aw_getI gX12_231_12 kM rfl dX12_undo_1 ?_
  rw [h.hk]
  refine aw_zne 13 rfl dX12_undo_4 (fun c => ?_) (fun c => ?_)
  · rw [c] at hQ
    have hk := h.2.2.2.2.2.1 c
    have loop : ∀ j i, i + j = 55 → AW Sc mX12_undo 15 [(0, .ref 71), (1, .int (nI i))] [] K0 (rowI μ 72 (fil (μ.1 73) (μ.1 72) i)) n Q := by
      intro j
      induction j with
      | zero =>
        intro i hi
        obtain rfl : i = 55 := by omega
        refine aw_iload_n rfl dX12_undo_15 ?_
        refine aw_bipush (v := 55) (by decide) dX12_undo_16 ?_
        refine aw_icmp_ge 39 rfl dX12_undo_18 (fun _ => ?_) (fun c_ => absurd (nI_le (by decide) (by decide)) c_)
        refine aw_rowI kS (Or.inl rfl) (μ.1 73) (fun k hk => by rw [rowI_get]; simp [fil, hk]) ?_
        rw [rowI_rowI]
        refine aw_aload_n rfl dX12_undo_39 ?_
        refine aw_getR gX12_9_12 kM rfl (hM.s) dX12_undo_40 ?_
        refine aw_iconst (v := 4) (by decide) dX12_undo_43 ?_
        refine aw_ialoadN kS (c := 4) rfl (by decide) (by decide) dX12_undo_44 ?_
        refine aw_iret dX12_undo_45 rfl ?_
        rw [rowI_get, hk]
        exact hQ _ (h.row _)
      | succ j ih =>
        intro i hi
        refine aw_iload_n rfl dX12_undo_15 ?_
        refine aw_bipush (v := 55) (by decide) dX12_undo_16 ?_
        refine aw_icmp_ge 39 rfl dX12_undo_18 (fun c_ => absurd c_ (nI_ge (b := 55) (by omega) (by decide))) (fun _ => ?_)
        refine aw_aload_n rfl dX12_undo_21 ?_
        refine aw_getR gX12_9_12 kM rfl (hM.s) dX12_undo_22 ?_
        refine aw_iload_n rfl dX12_undo_25 ?_
        refine aw_aload_n rfl dX12_undo_26 ?_
        refine aw_getR gX12_13_12 kM rfl (hM.kept) dX12_undo_27 ?_
        refine aw_iload_n rfl dX12_undo_30 ?_
        refine aw_ialoadN kKept rfl (by omega) (by decide) dX12_undo_31 ?_
        refine aw_iastoreN kS rfl (by omega) (by decide) dX12_undo_32 ?_
        refine aw_iinc rfl (v := 1) (by decide) (ble rfl) dX12_undo_33 ?_
        refine aw_goto 15 rfl dX12_undo_36 ?_
        rw [nI_1]
        have := ih (i + 1) (by omega)
        rw [← fil_up] at this
        have e : pI (rowI μ 72 (fil (μ.1 73) (μ.1 72) i)) 72 i ((rowI μ 72 (fil (μ.1 73) (μ.1 72) i)).1 73 i) = rowI μ 72 (upd (fil (μ.1 73) (μ.1 72) i) i (μ.1 73 i)) := by
          show rowI (rowI μ 72 (fil (μ.1 73) (μ.1 72) i)) 72 (upd ((rowI μ 72 (fil (μ.1 73) (μ.1 72) i)).1 72) i ((rowI μ 72 (fil (μ.1 73) (μ.1 72) i)).1 73 i)) = _
          rw [rowI_rowI, rowI_get, rowI_ne μ _ (by decide)]
        rw [e]
        exact this
    refine aw_iconst (v := 0) (by decide) dX12_undo_13 ?_
    refine aw_istore_n (ble rfl) dX12_undo_14 ?_
    have := loop 55 0 rfl
    rw [fil_0, rowI_self] at this
    exact this
  · rw [c] at hQ
    refine aw_aload_n rfl dX12_undo_7 ?_
    refine aw_iconst (v := 3) (by decide) dX12_undo_8 ?_
    refine aw_v1 kX12_118 ⟨ble rfl, ble rfl⟩ (rcM) (ble rfl) dX12_undo_9 (q_no h (k := 3) rfl (by decide) (fun μ' h' => ?_))
    refine aw_iret dX12_undo_12 rfl ?_
    exact hQ μ' h'
theorem q_tear (h : MJ μ0 μ S) (hQ : ∀ μ', MJ μ0 μ' (sp_tear S).2 → Q (some (.int (sp_tear S).1)) K0 μ') : AM Sc mX12_tear [.ref 71] K0 μ n Q := by
  refine AM.of rfl (ble rfl) ?_
  have h2 := hQ _ (h.kept false S.2.2.2.1 (fun z => by cases z))
  unfold sp_tear at h2
  refine aw_aload_n rfl dX12_tear_0 ?_
  refine aw_getI gX12_231_12 kM rfl dX12_tear_1 ?_
  rw [h.hk]
  refine aw_zeq 11 rfl dX12_tear_4 (fun c => ?_) (fun c => ?_)
  · rw [c] at h2
    refine aw_iconst (v := 0) (by decide) dX12_tear_11 ?_
    refine aw_istore_n (ble rfl) dX12_tear_12 ?_
    refine aw_aload_n rfl dX12_tear_13 ?_
    refine aw_iconst (v := 0) (by decide) dX12_tear_14 ?_
    refine aw_putI (pX12_231_12 _) kM rfl (by decide) (by decide) dX12_tear_15 ?_
    refine aw_iload_n rfl dX12_tear_18 ?_
    refine aw_iret dX12_tear_19 rfl ?_
    exact h2
  · rw [c] at h2
    refine aw_iconst (v := 1) (by decide) dX12_tear_7 ?_
    refine aw_goto 12 rfl dX12_tear_8 ?_
    refine aw_istore_n (ble rfl) dX12_tear_12 ?_
    refine aw_aload_n rfl dX12_tear_13 ?_
    refine aw_iconst (v := 0) (by decide) dX12_tear_14 ?_
    refine aw_putI (pX12_231_12 _) kM rfl (by decide) (by decide) dX12_tear_15 ?_
    refine aw_iload_n rfl dX12_tear_18 ?_
    refine aw_iret dX12_tear_19 rfl ?_
    exact h2
theorem q_wipe (h : MJ μ0 μ S) (hQ : ∀ μ', MJ μ0 μ' (sp_wipe S).2 → Q (some (.int (sp_wipe S).1)) K0 μ') : AM Sc mX12_wipe [.ref 71] K0 μ n Q := by
  refine AM.of rfl (ble rfl) ?_
  refine aw_aload_n rfl dX12_wipe_0 ?_
  refine aw_getI gX12_154_12 kM rfl dX12_wipe_1 ?_
  refine aw_istore_n (ble rfl) dX12_wipe_4 ?_
  refine aw_aload_n rfl dX12_wipe_5 ?_
  refine aw_iconst (v := 0) (by decide) dX12_wipe_6 ?_
  refine aw_putI (pX12_154_12 _) kM rfl rfl rfl dX12_wipe_7 ?_
  refine aw_iload_n rfl dX12_wipe_10 ?_
  refine aw_iret dX12_wipe_11 rfl ?_
  rw [h.htn]
  exact hQ _ (h.tcnt 0)
theorem q_count {x : Int32} (h : MJ μ0 μ S) (hW : WF S) (hQ : ∀ μ', MJ μ0 μ' (sp_count x S).2 → Q (some (.int (sp_count x S).1)) K0 μ') : AM Sc mX12_count [.ref 71, .int x] K0 μ n Q := by
  refine AM.of rfl (ble rfl) ?_
  have hs := h.hs
  have hM := h.hM
  obtain ⟨h4, hm, -⟩ := hW.1
  have h4' : μ.1 72 4 = nI (mny S.1) := by rw [hs]; exact h4
  unfold sp_count at hQ
  have loop : ∀ j i, i + j = mny S.1 → AW Sc mX12_count 7 [(0, .ref 71), (1, .int x), (2, .int (cntS S.1 i)), (3, .int (tirS S.1 i)), (4, .int (nI i))] [] K0 μ n Q := by
    intro j
    induction j with
    | zero =>
      intro i hi
      refine aw_iload rfl dX12_count_7 ?_
      refine aw_aload_n rfl dX12_count_9 ?_
      refine aw_getR gX12_9_12 kM rfl (hM.s) dX12_count_10 ?_
      refine aw_iconst (v := 4) (by decide) dX12_count_13 ?_
      refine aw_ialoadN kS (c := 4) rfl (by decide) (by decide) dX12_count_14 ?_
      rw [h4']
      refine aw_icmp_ge 52 rfl dX12_count_15 (fun _ => ?_) (fun c_ => absurd (nI_le (by omega) (by omega)) c_)
      obtain rfl : i = mny S.1 := by omega
      refine aw_iload_n rfl dX12_count_52 ?_
      by_cases c : x.toInt < 0 ∨ 3 < x.toInt
      · have e : ∀ k : Int32, 0 ≤ k.toInt ∧ k.toInt ≤ 3 → ¬ x = k := fun k hk q => by rw [q] at c; omega
        rw [if_neg (e 0 (by decide)), if_neg (e 1 (by decide)), if_neg (e 2 (by decide)), if_neg (e 3 (by decide))] at hQ
        refine aw_tabOut 100 (c) rfl dX12_count_53 ?_
        refine aw_aload_n rfl dX12_count_100 ?_
        refine aw_iconst (v := 0) (by decide) dX12_count_101 ?_
        refine aw_v1 kX12_118 ⟨ble rfl, ble rfl⟩ (rcM) (ble rfl) dX12_count_102 (q_no h rfl (by decide) (fun μ' h' => ?_))
        refine aw_iret dX12_count_105 rfl ?_
        exact hQ μ' h'
      · have e : ∀ k : Int32, x.toInt = k.toInt → x = k := fun k q => Int32.toInt_inj.mp q
        have c2 : x.toInt = 0 ∨ x.toInt = 1 ∨ x.toInt = 2 ∨ x.toInt = 3 := by omega
        rcases c2 with q | q | q | q
        · obtain rfl := e 0 q
          refine aw_tabIn 84 (by decide) (by decide) rfl rfl dX12_count_53 ?_
          refine aw_aload_n rfl dX12_count_84 ?_
          refine aw_getR gX12_9_12 kM rfl (hM.s) dX12_count_85 ?_
          refine aw_iconst (v := 4) (by decide) dX12_count_88 ?_
          refine aw_ialoadN kS (c := 4) rfl (by decide) (by decide) dX12_count_89 ?_
          refine aw_iret dX12_count_90 rfl ?_
          rw [hs]
          exact hQ _ h
        · obtain rfl := e 1 q
          refine aw_tabIn 91 (by decide) (by decide) rfl rfl dX12_count_53 ?_
          refine aw_aload_n rfl dX12_count_91 ?_
          refine aw_getI gX12_154_12 kM rfl dX12_count_92 ?_
          refine aw_iret dX12_count_95 rfl ?_
          rw [h.htn]
          exact hQ _ h
        · obtain rfl := e 2 q
          refine aw_tabIn 96 (by decide) (by decide) rfl rfl dX12_count_53 ?_
          refine aw_iload_n rfl dX12_count_96 ?_
          refine aw_iret dX12_count_97 rfl ?_
          exact hQ _ h
        · obtain rfl := e 3 q
          refine aw_tabIn 98 (by decide) (by decide) rfl rfl dX12_count_53 ?_
          refine aw_iload_n rfl dX12_count_98 ?_
          refine aw_iret dX12_count_99 rfl ?_
          exact hQ _ h
    | succ j ih =>
      intro i hi
      have back : ∀ y : Int32, (if S.1 (5 + 5 * i + 1) = 0 then 1 else 0) = y → AW Sc mX12_count 34 [(0, .ref 71), (1, .int x), (2, .int (cntS S.1 i)), (3, .int (tirS S.1 i)), (4, .int (nI i))] [.int y, .int (cntS S.1 i)] K0 μ n Q := by
        intro y hy
        refine aw_iadd dX12_count_34 ?_
        refine aw_istore_n (ble rfl) dX12_count_35 ?_
        refine aw_iload_n rfl dX12_count_36 ?_
        refine aw_aload_n rfl dX12_count_37 ?_
        refine aw_iload rfl dX12_count_38 ?_
        refine aw_iconst (v := 3) (by decide) dX12_count_40 ?_
        refine aw_v2 kX12_60 ⟨ble rfl, ble rfl⟩ (rcM) (ble rfl) dX12_count_41 (g_get hM hs (k := i) rfl (j := 3) rfl (by omega) (by decide) ?_)
        refine aw_iadd dX12_count_44 ?_
        refine aw_istore_n (ble rfl) dX12_count_45 ?_
        refine aw_iinc rfl (v := 1) (by decide) (ble rfl) dX12_count_46 ?_
        refine aw_goto 7 rfl dX12_count_49 ?_
        rw [nI_1]
        have := ih (i + 1) (by omega)
        rw [cntS, hy, tirS] at this
        exact this
      refine aw_iload rfl dX12_count_7 ?_
      refine aw_aload_n rfl dX12_count_9 ?_
      refine aw_getR gX12_9_12 kM rfl (hM.s) dX12_count_10 ?_
      refine aw_iconst (v := 4) (by decide) dX12_count_13 ?_
      refine aw_ialoadN kS (c := 4) rfl (by decide) (by decide) dX12_count_14 ?_
      rw [h4']
      refine aw_icmp_ge 52 rfl dX12_count_15 (fun c_ => absurd c_ (nI_ge (by omega) (by omega))) (fun _ => ?_)
      refine aw_iload_n rfl dX12_count_18 ?_
      refine aw_aload_n rfl dX12_count_19 ?_
      refine aw_iload rfl dX12_count_20 ?_
      refine aw_iconst (v := 1) (by decide) dX12_count_22 ?_
      refine aw_v2 kX12_60 ⟨ble rfl, ble rfl⟩ (rcM) (ble rfl) dX12_count_23 (g_get hM hs (k := i) rfl (j := 1) rfl (by omega) (by decide) ?_)
      refine aw_if_ne 33 rfl dX12_count_26 (fun c => ?_) (fun c => ?_)
      · refine aw_iconst (v := 0) (by decide) dX12_count_33 ?_
        exact back _ (if_neg c)
      · refine aw_iconst (v := 1) (by decide) dX12_count_29 ?_
        refine aw_goto 34 rfl dX12_count_30 ?_
        exact back _ (if_pos c)
  refine aw_iconst (v := 0) (by decide) dX12_count_0 ?_
  refine aw_istore_n (ble rfl) dX12_count_1 ?_
  refine aw_iconst (v := 0) (by decide) dX12_count_2 ?_
  refine aw_istore_n (ble rfl) dX12_count_3 ?_
  refine aw_iconst (v := 0) (by decide) dX12_count_4 ?_
  refine aw_istore (ble rfl) dX12_count_5 ?_
  exact loop (mny S.1) 0 (by omega)
theorem q_status {x : Int32} (h : MJ μ0 μ S) (hQ : ∀ μ', MJ μ0 μ' (sp_status x S).2 → Q (some (.int (sp_status x S).1)) K0 μ') : AM Sc mX12_status [.ref 71, .int x] K0 μ n Q := by
  refine AM.of rfl (ble rfl) ?_
  have hM := h.hM
  have hf := h.hf
  unfold sp_status at hQ
  refine aw_iload_n rfl dX12_status_0 ?_
  refine aw_iconst (v := (-1)) (by decide) dX12_status_1 ?_
  refine aw_bipush (v := 6) (by decide) dX12_status_2 ?_
  refine aw_s3 kX12_52 ⟨ble rfl, ble rfl⟩ (ble rfl) dX12_status_4 (k_in1 ?_)
  refine aw_zne 16 rfl dX12_status_7 (fun c => ?_) (fun c => ?_)
  · rw [c] at hQ
    simp only [if_true] at hQ
    have loop : ∀ j i, i + j = 7 → AW Sc mX12_status 20 [(0, .ref 71), (1, .int x), (2, .int (stS S.2.1 x i)), (3, .int (nI i))] [] K0 μ n Q := by
      intro j
      induction j with
      | zero =>
        intro i hi
        refine aw_iload_n rfl dX12_status_20 ?_
        refine aw_bipush (v := 7) (by decide) dX12_status_21 ?_
        refine aw_icmp_ge 55 rfl dX12_status_23 (fun _ => ?_) (fun c_ => absurd (nI_le (a := 7) (by omega) (by omega)) c_)
        rw [show i = 7 by omega]
        refine aw_iload_n rfl dX12_status_55 ?_
        refine aw_iret dX12_status_56 rfl ?_
        exact hQ _ h
      | succ j ih =>
        intro i hi
        have back : ∀ y : Int32, (if x = -1 ∨ x = nI i then S.2.1 i else 0) = y → AW Sc mX12_status 47 [(0, .ref 71), (1, .int x), (2, .int (stS S.2.1 x i)), (3, .int (nI i))] [.int y, .int (stS S.2.1 x i)] K0 μ n Q := by
          intro y hy
          refine aw_iadd dX12_status_47 ?_
          refine aw_istore_n (ble rfl) dX12_status_48 ?_
          refine aw_iinc rfl (v := 1) (by decide) (ble rfl) dX12_status_49 ?_
          refine aw_goto 20 rfl dX12_status_52 ?_
          rw [nI_1]
          have := ih (i + 1) (by omega)
          rw [stS, hy] at this
          exact this
        refine aw_iload_n rfl dX12_status_20 ?_
        refine aw_bipush (v := 7) (by decide) dX12_status_21 ?_
        refine aw_icmp_ge 55 rfl dX12_status_23 (fun c_ => absurd c_ (nI_ge (b := 7) (by omega) (by omega))) (fun _ => ?_)
        refine aw_iload_n rfl dX12_status_26 ?_
        refine aw_iload_n rfl dX12_status_27 ?_
        refine aw_iconst (v := (-1)) (by decide) dX12_status_28 ?_
        have good : (x = -1 ∨ x = nI i) → AW Sc mX12_status 37 [(0, .ref 71), (1, .int x), (2, .int (stS S.2.1 x i)), (3, .int (nI i))] [.int (stS S.2.1 x i)] K0 μ n Q := by
          intro hc
          refine aw_aload_n rfl dX12_status_37 ?_
          refine aw_getR gX12_19_12 kM rfl (hM.found) dX12_status_38 ?_
          refine aw_iload_n rfl dX12_status_41 ?_
          refine aw_ialoadN kFound rfl (by omega) (by decide) dX12_status_42 ?_
          refine aw_goto 47 rfl dX12_status_43 ?_
          rw [hf]
          exact back _ (if_pos hc)
        refine aw_icmp_eq 37 rfl dX12_status_29 (fun c2 => ?_) (fun c2 => ?_)
        · exact good (Or.inl c2)
        · refine aw_iload_n rfl dX12_status_32 ?_
          refine aw_iload_n rfl dX12_status_33 ?_
          refine aw_icmp_ne 46 rfl dX12_status_34 (fun c3 => ?_) (fun c3 => ?_)
          · refine aw_iconst (v := 0) (by decide) dX12_status_46 ?_
            exact back _ (if_neg (fun z => z.elim c2 c3))
          · exact good (Or.inr c3)
    refine aw_iconst (v := 0) (by decide) dX12_status_16 ?_
    refine aw_istore_n (ble rfl) dX12_status_17 ?_
    refine aw_iconst (v := 0) (by decide) dX12_status_18 ?_
    refine aw_istore_n (ble rfl) dX12_status_19 ?_
    exact loop 7 0 (by omega)
  · rw [c] at hQ
    refine aw_aload_n rfl dX12_status_10 ?_
    refine aw_iconst (v := 0) (by decide) dX12_status_11 ?_
    refine aw_v1 kX12_118 ⟨ble rfl, ble rfl⟩ (rcM) (ble rfl) dX12_status_12 (q_no h rfl (by decide) (fun μ' h' => ?_))
    refine aw_iret dX12_status_15 rfl ?_
    exact hQ μ' h'
theorem q_feed {b t : Int32} (h : MJ μ0 μ S) (hW : WF S) (hQ : ∀ μ', MJ μ0 μ' (sp_feed b t S).2 → Q (some (.int (sp_feed b t S).1)) K0 μ') : AM Sc mX12_feed [.ref 71, .int b, .int t] K0 μ n Q := by
  refine AM.of rfl (ble rfl) ?_
  have hM := h.hM
  have hc120 := hW.2.2.1
  unfold sp_feed at hQ
  refine aw_iload_n rfl dX12_feed_0 ?_
  refine aw_iconst (v := 1) (by decide) dX12_feed_1 ?_
  refine aw_iconst (v := 4) (by decide) dX12_feed_2 ?_
  refine aw_s3 kX12_52 ⟨ble rfl, ble rfl⟩ (ble rfl) dX12_feed_3 (k_in1 ?_)
  refine aw_zne 15 rfl dX12_feed_6 (fun c => ?_) (fun c => ?_)
  · rw [c] at hQ
    obtain ⟨k, hk1, hk, hx⟩ := in1_t (a := 1) (b := 4) (by decide) (by decide) c
    have hix : ix t = k := by rw [hx]; exact ix_nI (by omega)
    rw [hix] at hQ
    refine aw_aload_n rfl dX12_feed_15 ?_
    refine aw_getI gX12_154_12 kM rfl dX12_feed_16 ?_
    refine aw_iload_n rfl dX12_feed_19 ?_
    refine aw_iadd dX12_feed_20 ?_
    refine aw_bipush (v := 120) (by decide) dX12_feed_21 ?_
    rw [h.htn]
    refine aw_icmp_le 32 rfl dX12_feed_23 (fun c2 => ?_) (fun c2 => ?_)
    · simp only [if_true, if_pos c2] at hQ
      rw [hx, nI_add] at c2
      have hle : S.2.2.2.2.2.1 + k ≤ 120 := (nI_leI (by omega) (by decide)).mp c2
      have loop : ∀ j i (ν : Mem) (y : Int32), i + j = k → y = nI j - 1 → MJ μ0 ν (tM1 S (feedT S.2.2.2.2.1 S.2.2.2.2.2.1 b k i) (S.2.2.2.2.2.1 + i)) → AW Sc mX12_feed 36 [(0, .ref 71), (1, .int b), (2, .int t), (3, .int y)] [] K0 ν n Q := by
        intro j
        induction j with
        | zero =>
          intro i ν y hi hy h'
          subst hy
          refine aw_iload_n rfl dX12_feed_36 ?_
          refine aw_if_lt 75 rfl dX12_feed_37 (fun _ => ?_) (fun c_ => absurd ((by decide)) c_)
          refine aw_aload_n rfl dX12_feed_75 ?_
          refine aw_getI gX12_154_12 kM rfl dX12_feed_76 ?_
          refine aw_iret dX12_feed_79 rfl ?_
          rw [h'.htn]
          obtain rfl : i = k := by omega
          exact hQ _ h'
        | succ j ih =>
          intro i ν y hi hy h'
          have hM := h'.hM
          rw [nI_pred] at hy
          subst hy
          refine aw_iload_n rfl dX12_feed_36 ?_
          refine aw_if_lt 75 rfl dX12_feed_37 (fun c_ => absurd c_ (nI_pos (by omega))) (fun _ => ?_)
          refine aw_aload_n rfl dX12_feed_40 ?_
          refine aw_getR gX12_22_12 kM rfl (hM.tape) dX12_feed_41 ?_
          refine aw_aload_n rfl dX12_feed_44 ?_
          refine aw_getI gX12_154_12 kM rfl dX12_feed_45 ?_
          refine aw_iload_n rfl dX12_feed_48 ?_
          refine aw_bipush (v := 8) (by decide) dX12_feed_49 ?_
          refine aw_iload_n rfl dX12_feed_51 ?_
          refine aw_imul dX12_feed_52 ?_
          refine aw_ishr dX12_feed_53 ?_
          refine aw_sipush (v := 255) (by decide) dX12_feed_54 ?_
          refine aw_iand dX12_feed_57 ?_
          refine aw_iastoreN kTape (c := S.2.2.2.2.2.1 + i) h'.htn (by omega) (by decide) dX12_feed_58 ?_
          refine aw_aload_n rfl dX12_feed_59 ?_
          refine aw_dup rfl dX12_feed_60 ?_
          refine aw_getI gX12_154_12 kM rfl dX12_feed_61 ?_
          refine aw_iconst (v := 1) (by decide) dX12_feed_64 ?_
          refine aw_iadd dX12_feed_65 ?_
          refine aw_putI (pX12_154_12 _) kM rfl rfl rfl dX12_feed_66 ?_
          refine aw_iinc rfl (v := (-1)) (by decide) (ble rfl) dX12_feed_69 ?_
          refine aw_goto 36 rfl dX12_feed_72 ?_
          have h2 := (h'.trow (upd (ν.1 76) (S.2.2.2.2.2.1 + i) ((b >>> (8 * nI j &&& 31)) &&& 255))).tcnt (S.2.2.2.2.2.1 + (i + 1))
          refine ih (i + 1) _ _ (by omega) (by rw [Int32.sub_eq_add_neg]) ?_
          have e1 : (pI ν 76 (S.2.2.2.2.2.1 + i) ((b >>> (8 * nI j &&& 31)) &&& 255)).1 71 6 + 1 = nI (S.2.2.2.2.2.1 + (i + 1)) := by
            rw [pI_ne _ _ _ (by decide), h'.htn]
            exact nI_1 _
          rw [e1]
          have e2 : feedT S.2.2.2.2.1 S.2.2.2.2.2.1 b k (i + 1) = upd (ν.1 76) (S.2.2.2.2.2.1 + i) ((b >>> (8 * nI j &&& 31)) &&& 255) := by
            rw [feedT, h'.htp, show k - 1 - i = j by omega]
            rfl
          rw [e2]
          exact h2
      refine aw_iload_n rfl dX12_feed_32 ?_
      refine aw_iconst (v := 1) (by decide) dX12_feed_33 ?_
      refine aw_isub dX12_feed_34 ?_
      refine aw_istore_n (ble rfl) dX12_feed_35 ?_
      exact loop k 0 μ _ (by omega) (by rw [hx]) h
    · simp only [if_true, if_neg c2] at hQ
      refine aw_aload_n rfl dX12_feed_26 ?_
      refine aw_iconst (v := 1) (by decide) dX12_feed_27 ?_
      refine aw_v1 kX12_118 ⟨ble rfl, ble rfl⟩ (rcM) (ble rfl) dX12_feed_28 (q_no h (k := 1) rfl (by decide) (fun μ' h' => ?_))
      refine aw_iret dX12_feed_31 rfl ?_
      exact hQ μ' h'
  · rw [c] at hQ
    refine aw_aload_n rfl dX12_feed_9 ?_
    refine aw_iconst (v := 0) (by decide) dX12_feed_10 ?_
    refine aw_v1 kX12_118 ⟨ble rfl, ble rfl⟩ (rcM) (ble rfl) dX12_feed_11 (q_no h rfl (by decide) (fun μ' h' => ?_))
    refine aw_iret dX12_feed_14 rfl ?_
    exact hQ μ' h'
end Pub6
