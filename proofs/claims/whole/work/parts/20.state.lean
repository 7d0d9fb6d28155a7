/-! THE STATE that both objects hold: the row, the findings, what is kept, the tape, the sheets -/
abbrev SG : Type := (Nat → Int32) × (Nat → Int32) × Bool × (Nat → Int32) × (Nat → Int32) × Nat × (Nat → Int32) × (Nat → Int32) × (Nat → Int64)
def mny (s : Nat → Int32) : Nat := (s 4).toNatClampNeg
def WFp (s : Nat → Int32) (k : Nat) : Prop := (∃ a : Nat, a < 6 ∧ s (5 + 5 * k) = nI a) ∧ (s (5 + 5 * k + 1) = 0 ∨ s (5 + 5 * k + 1) = 1) ∧ (s (5 + 5 * k + 2) = 0 ∨ s (5 + 5 * k + 2) = 1) ∧ (∃ t : Nat, t ≤ 99 ∧ s (5 + 5 * k + 3) = nI t) ∧ ∃ g : Nat, 1 ≤ g ∧ g ≤ 20 ∧ s (5 + 5 * k + 4) = nI g
def WFs (s : Nat → Int32) : Prop := s 4 = nI (mny s) ∧ mny s ≤ 10 ∧ (-9999 ≤ s 1 ∧ s 1 ≤ 9999) ∧ (∃ a : Nat, a ≤ 99 ∧ s 2 = nI a) ∧ ∀ k, k < mny s → WFp s k
def WF (S : SG) : Prop := WFs S.1 ∧ (S.2.2.1 = true → WFs S.2.2.2.1) ∧ S.2.2.2.2.2.1 ≤ 120 ∧ (∀ i, i < 4 → ∃ c : Nat, c ≤ 40 ∧ S.2.2.2.2.2.2.2.1 i = nI c) ∧ (∀ k, k < 120 → ∃ c : Nat, c < 256 ∧ S.2.2.2.2.1 k = nI c)
def wS (S : SG) (s : Nat → Int32) : SG := (s, S.2)
/-- finding number k: its answer, and it is counted -/
def fnd (S : SG) (k : Nat) : Int32 × SG := (-1000000001 - nI k, (S.1, upd S.2.1 k (S.2.1 k + 1), S.2.2))
def cLetters : Nat → Int32 := fun k => ([109, 97, 110, 32, 32, 32, 32, 32, 115, 111, 110, 32, 32, 32, 32, 32, 100, 114, 105, 110, 107, 101, 114, 32, 119, 111, 109, 97, 110, 32, 32, 32, 112, 114, 101, 97, 99, 104, 101, 114, 115, 116, 114, 97, 110, 103, 101, 114] : List Int32).getD k 0
def cSides : Nat → Int32 := fun k => ([112, 117, 98, 32, 32, 32, 32, 32, 99, 104, 97, 112, 101, 108, 32, 32] : List Int32).getD k 0
def cMore : Nat → Int32 := fun k => ([116, 105, 114, 101, 100, 32, 32, 32, 115, 116, 114, 111, 110, 103, 32, 32, 111, 110, 32, 32, 32, 32, 32, 32] : List Int32).getD k 0
def cOthers : Nat → Int32 := fun k => ([112, 108, 97, 105, 110, 32, 32, 32, 104, 97, 114, 118, 101, 115, 116, 32, 107, 110, 111, 116, 32, 32, 32, 32, 115, 108, 97, 99, 107, 32, 32, 32] : List Int32).getD k 0
/-- the model holds S, and nothing of the class's has changed since μ0 -/
def MJ (μ0 μ : Mem) (S : SG) : Prop := ((∀ q, q < 71 → μ.1 q = μ0.1 q ∧ μ.2.1 q = μ0.2.1 q) ∧ μ.2.2 = μ0.2.2) ∧ MR μ.2.2 ∧ μ.1 72 = S.1 ∧ μ.1 75 = S.2.1 ∧ μ.1 71 3 = bI S.2.2.1 ∧ (S.2.2.1 = true → μ.1 73 = S.2.2.2.1) ∧ μ.1 76 = S.2.2.2.2.1 ∧ μ.1 71 6 = nI S.2.2.2.2.2.1 ∧ μ.1 81 = S.2.2.2.2.2.2.1 ∧ μ.1 82 = S.2.2.2.2.2.2.2.1 ∧ μ.2.1 83 = S.2.2.2.2.2.2.2.2 ∧ μ.1 77 = cLetters ∧ μ.1 78 = cSides ∧ μ.1 79 = cMore ∧ μ.1 80 = cOthers
theorem MJ.hM {μ0 μ : Mem} {S : SG} (h : MJ μ0 μ S) : MR μ.2.2 := h.2.1
theorem MJ.hs {μ0 μ : Mem} {S : SG} (h : MJ μ0 μ S) : μ.1 72 = S.1 := h.2.2.1
theorem MJ.hf {μ0 μ : Mem} {S : SG} (h : MJ μ0 μ S) : μ.1 75 = S.2.1 := h.2.2.2.1
theorem MJ.row {μ0 μ : Mem} {S : SG} (h : MJ μ0 μ S) (s : Nat → Int32) : MJ μ0 (rowI μ 72 s) (wS S s) := by
  obtain ⟨⟨a1, a2⟩, b1, b2, b3, b4, b5, b6, b7, b8, b9, b10, b11, b12, b13, b14⟩ := h
  refine ⟨⟨fun q hq => ⟨(rowI_ne _ _ (by omega)).trans (a1 q hq).1, (a1 q hq).2⟩, a2⟩, b1, rowI_get _ _ _, ?_, ?_, fun hk => ?_, ?_, ?_, ?_, ?_, b10, ?_, ?_, ?_, ?_⟩
  all_goals rw [rowI_ne _ _ (by decide)]
  all_goals first | assumption | exact b5 hk
theorem MJ.asd {μ0 μ : Mem} {S : SG} (h : MJ μ0 μ S) (a : Nat → Int32) : MJ μ0 (rowI μ 74 a) S := by
  obtain ⟨⟨a1, a2⟩, b1, b2, b3, b4, b5, b6, b7, b8, b9, b10, b11, b12, b13, b14⟩ := h
  refine ⟨⟨fun q hq => ⟨(rowI_ne _ _ (by omega)).trans (a1 q hq).1, (a1 q hq).2⟩, a2⟩, b1, ?_, ?_, ?_, fun hk => ?_, ?_, ?_, ?_, ?_, b10, ?_, ?_, ?_, ?_⟩
  all_goals rw [rowI_ne _ _ (by decide)]
  all_goals first | assumption | exact b5 hk
theorem MJ.no {μ0 μ : Mem} {S : SG} (h : MJ μ0 μ S) (k : Nat) : MJ μ0 (pI μ 75 k (μ.1 75 k + 1)) (fnd S k).2 := by
  obtain ⟨⟨a1, a2⟩, b1, b2, b3, b4, b5, b6, b7, b8, b9, b10, b11, b12, b13, b14⟩ := h
  show MJ μ0 (rowI μ 75 (upd (μ.1 75) k (μ.1 75 k + 1))) _
  refine ⟨⟨fun q hq => ⟨(rowI_ne _ _ (by omega)).trans (a1 q hq).1, (a1 q hq).2⟩, a2⟩, b1, ?_, ?_, ?_, fun hk => ?_, ?_, ?_, ?_, ?_, b10, ?_, ?_, ?_, ?_⟩
  · rw [rowI_ne _ _ (by decide)]; exact b2
  · rw [rowI_get, b3]; rfl
  all_goals rw [rowI_ne _ _ (by decide)]
  all_goals first | assumption | exact b5 hk
theorem MJ.row' {μ0 μ : Mem} {S : SG} {s : Nat → Int32} (h : MJ μ0 μ S) (e : s = S.1) : MJ μ0 (rowI μ 72 s) S := by
  have := h.row s
  rw [e] at this ⊢
  exact this
section State
variable {Sc : SCR} {μ μ0 : Mem} {n : Nat × Nat} {Q : PQ} {S : SG}
theorem q_no {k : Nat} {x : Int32} (h : MJ μ0 μ S) (hx : x = nI k) (hk : k < 7) (hQ : ∀ μ', MJ μ0 μ' (fnd S k).2 → Q (some (.int (fnd S k).1)) K0 μ') : AM Sc mX12_no [.ref 71, .int x] K0 μ n Q := k_no h.hM hk hx (hQ _ (h.no k))
end State
