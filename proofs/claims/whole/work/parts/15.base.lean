/-! BASE: the places of both objects, short rules for calls and arrays -/
/-- class 0; greens 1, 20, 39 (kinds + 1, people + 2, the six kinds + 3 .., the ten persons + 9 ..); best 58, tape 59, its bytes 60, sheets 61, found 62, sheet i 63 + 2 i and its numbers; the model 71, its rows 72 .. 84 -/
def gK : List kd := [.inl 2, .inr (3, 6), .inr (4, 10), .inl 3, .inl 7, .inl 1, .inl 10, .inl 5, .inl 8, .inl 4, .inl 4, .inl 4, .inl 4, .inl 4, .inl 4, .inl 4, .inl 4, .inl 4, .inl 4]
def K0 : List kd := [.inl 11] ++ gK ++ gK ++ gK ++ [.inl 0, .inl 9, .inr (0, 120), .inr (5, 4), .inr (0, 7), .inl 6, .inr (1, 40), .inl 6, .inr (1, 40), .inl 6, .inr (1, 40), .inl 6, .inr (1, 40), .inl 12, .inr (0, 55), .inr (0, 55), .inr (0, 55), .inr (0, 7), .inr (0, 120), .inr (2, 48), .inr (2, 16), .inr (2, 24), .inr (2, 32), .inr (0, 4), .inr (0, 4), .inr (1, 160), .inr (1, 40)]
theorem ble {a b : Nat} (h : Nat.ble a b = true) : a ≤ b := Nat.le_of_ble_eq_true h
theorem kX : K0[0]? = some (.inl 11) := rfl
theorem kM : K0[71]? = some (.inl 12) := rfl
theorem rcX : Rcv K0 "EndlessTug" 0 := Rcv.ob kX rfl
theorem rcM : Rcv K0 "EndlessTugModel" 71 := Rcv.ob kM rfl
theorem kS : K0[72]? = some (.inr (0, 55)) := rfl
theorem kKept : K0[73]? = some (.inr (0, 55)) := rfl
theorem kAside : K0[74]? = some (.inr (0, 55)) := rfl
theorem kFound : K0[75]? = some (.inr (0, 7)) := rfl
theorem kTape : K0[76]? = some (.inr (0, 120)) := rfl
theorem kLetters : K0[77]? = some (.inr (2, 48)) := rfl
theorem kSides : K0[78]? = some (.inr (2, 16)) := rfl
theorem kMore : K0[79]? = some (.inr (2, 24)) := rfl
theorem kOthers : K0[80]? = some (.inr (2, 32)) := rfl
theorem kWidths : K0[81]? = some (.inr (0, 4)) := rfl
theorem kSizes : K0[82]? = some (.inr (0, 4)) := rfl
theorem kCells : K0[83]? = some (.inr (1, 160)) := rfl
theorem kCarried : K0[84]? = some (.inr (1, 40)) := rfl
/-- the model's references -/
def MR (r : Nat → Nat → Option Nat) : Prop := r 71 0 = some 72 ∧ r 71 1 = some 73 ∧ r 71 2 = some 74 ∧ r 71 4 = some 75 ∧ r 71 5 = some 76 ∧ r 71 11 = some 77 ∧ r 71 12 = some 78 ∧ r 71 13 = some 79 ∧ r 71 14 = some 80 ∧ r 71 15 = some 81 ∧ r 71 16 = some 82 ∧ r 71 17 = some 83 ∧ r 71 18 = some 84
theorem MR.s {r : Nat → Nat → Option Nat} (h : MR r) : r 71 0 = some 72 := h.1
theorem MR.kept {r : Nat → Nat → Option Nat} (h : MR r) : r 71 1 = some 73 := h.2.1
theorem MR.aside {r : Nat → Nat → Option Nat} (h : MR r) : r 71 2 = some 74 := h.2.2.1
theorem MR.found {r : Nat → Nat → Option Nat} (h : MR r) : r 71 4 = some 75 := h.2.2.2.1
theorem MR.tape {r : Nat → Nat → Option Nat} (h : MR r) : r 71 5 = some 76 := h.2.2.2.2.1
theorem MR.letters {r : Nat → Nat → Option Nat} (h : MR r) : r 71 11 = some 77 := h.2.2.2.2.2.1
theorem MR.sides {r : Nat → Nat → Option Nat} (h : MR r) : r 71 12 = some 78 := h.2.2.2.2.2.2.1
theorem MR.more {r : Nat → Nat → Option Nat} (h : MR r) : r 71 13 = some 79 := h.2.2.2.2.2.2.2.1
theorem MR.others {r : Nat → Nat → Option Nat} (h : MR r) : r 71 14 = some 80 := h.2.2.2.2.2.2.2.2.1
theorem MR.widths {r : Nat → Nat → Option Nat} (h : MR r) : r 71 15 = some 81 := h.2.2.2.2.2.2.2.2.2.1
theorem MR.sizes {r : Nat → Nat → Option Nat} (h : MR r) : r 71 16 = some 82 := h.2.2.2.2.2.2.2.2.2.2.1
theorem MR.cells {r : Nat → Nat → Option Nat} (h : MR r) : r 71 17 = some 83 := h.2.2.2.2.2.2.2.2.2.2.2.1
theorem MR.carried {r : Nat → Nat → Option Nat} (h : MR r) : r 71 18 = some 84 := h.2.2.2.2.2.2.2.2.2.2.2.2
def bI (b : Bool) : Int32 := if b then 1 else 0
theorem bI_nar (b : Bool) : narrow .boolean (.int (bI b)) = .int (bI b) := by cases b <;> decide
section BRules
variable {Sc : SCR} {M M' X : MD} {pc idx q c N : Nat} {lv : List (Nat × Value)} {st rest : List Value} {K : List kd} {μ : Mem} {n : Nat × Nat} {Q : PQ} {C : String} {a1 a2 a3 a4 a5 : Value}
theorem aw_v0 (hk : LkV M.1.cls idx M' 0) (hf : Fit M M') (hq : Rcv K M'.1.cls q) (h8 : (rest.map fun v => v.category).sum ≤ 8) (d : decode M.2.1 pc = .ok (.invokevirtual idx, 3)) (h : AM Sc M' [.ref q] K μ (0, 0) (fun v K' μ' => AW Sc M (pc + 3) lv (pushr v rest) K' μ' n Q)) : AW Sc M pc lv (.ref q :: rest) K μ n Q := aw_cV (As := []) (n1 := (0, 0)) (n2 := n) hk hf hq h8 rfl ⟨by simp, by simp⟩ d h
theorem aw_v1 (hk : LkV M.1.cls idx M' 1) (hf : Fit M M') (hq : Rcv K M'.1.cls q) (h8 : (rest.map fun v => v.category).sum ≤ 8) (d : decode M.2.1 pc = .ok (.invokevirtual idx, 3)) (h : AM Sc M' [.ref q, a1] K μ (0, 0) (fun v K' μ' => AW Sc M (pc + 3) lv (pushr v rest) K' μ' n Q)) : AW Sc M pc lv (a1 :: .ref q :: rest) K μ n Q := aw_cV (As := [a1]) (n1 := (0, 0)) (n2 := n) hk hf hq h8 rfl ⟨by simp, by simp⟩ d h
theorem aw_v2 (hk : LkV M.1.cls idx M' 2) (hf : Fit M M') (hq : Rcv K M'.1.cls q) (h8 : (rest.map fun v => v.category).sum ≤ 8) (d : decode M.2.1 pc = .ok (.invokevirtual idx, 3)) (h : AM Sc M' [.ref q, a1, a2] K μ (0, 0) (fun v K' μ' => AW Sc M (pc + 3) lv (pushr v rest) K' μ' n Q)) : AW Sc M pc lv (a2 :: a1 :: .ref q :: rest) K μ n Q := aw_cV (As := [a1, a2]) (n1 := (0, 0)) (n2 := n) hk hf hq h8 rfl ⟨by simp, by simp⟩ d h
theorem aw_v3 (hk : LkV M.1.cls idx M' 3) (hf : Fit M M') (hq : Rcv K M'.1.cls q) (h8 : (rest.map fun v => v.category).sum ≤ 8) (d : decode M.2.1 pc = .ok (.invokevirtual idx, 3)) (h : AM Sc M' [.ref q, a1, a2, a3] K μ (0, 0) (fun v K' μ' => AW Sc M (pc + 3) lv (pushr v rest) K' μ' n Q)) : AW Sc M pc lv (a3 :: a2 :: a1 :: .ref q :: rest) K μ n Q := aw_cV (As := [a1, a2, a3]) (n1 := (0, 0)) (n2 := n) hk hf hq h8 rfl ⟨by simp, by simp⟩ d h
theorem aw_v5 (hk : LkV M.1.cls idx M' 5) (hf : Fit M M') (hq : Rcv K M'.1.cls q) (h8 : (rest.map fun v => v.category).sum ≤ 8) (d : decode M.2.1 pc = .ok (.invokevirtual idx, 3)) (h : AM Sc M' [.ref q, a1, a2, a3, a4, a5] K μ (0, 0) (fun v K' μ' => AW Sc M (pc + 3) lv (pushr v rest) K' μ' n Q)) : AW Sc M pc lv (a5 :: a4 :: a3 :: a2 :: a1 :: .ref q :: rest) K μ n Q := aw_cV (As := [a1, a2, a3, a4, a5]) (n1 := (0, 0)) (n2 := n) hk hf hq h8 rfl ⟨by simp, by simp⟩ d h
theorem aw_o1 (hk : LkO M.1.cls idx C X M' 1) (hf : Fit M M') (hq : Rcv K C q) (h8 : (rest.map fun v => v.category).sum ≤ 8) (d : decode M.2.1 pc = .ok (.invokevirtual idx, 3)) (h : AM Sc M' [.ref q, a1] K μ (0, 0) (fun v K' μ' => AW Sc M (pc + 3) lv (pushr v rest) K' μ' n Q)) : AW Sc M pc lv (a1 :: .ref q :: rest) K μ n Q := aw_cO (As := [a1]) (n1 := (0, 0)) (n2 := n) hk hf hq h8 rfl ⟨by simp, by simp⟩ d h
theorem aw_o2 (hk : LkO M.1.cls idx C X M' 2) (hf : Fit M M') (hq : Rcv K C q) (h8 : (rest.map fun v => v.category).sum ≤ 8) (d : decode M.2.1 pc = .ok (.invokevirtual idx, 3)) (h : AM Sc M' [.ref q, a1, a2] K μ (0, 0) (fun v K' μ' => AW Sc M (pc + 3) lv (pushr v rest) K' μ' n Q)) : AW Sc M pc lv (a2 :: a1 :: .ref q :: rest) K μ n Q := aw_cO (As := [a1, a2]) (n1 := (0, 0)) (n2 := n) hk hf hq h8 rfl ⟨by simp, by simp⟩ d h
theorem aw_su1 {ci : Nat} (hk : LkSU M.1.cls idx M' 1) (hf : Fit M M') (hq : K[q]? = some (.inl ci)) (hci : ci < 13) (h8 : (rest.map fun v => v.category).sum ≤ 8) (d : decode M.2.1 pc = .ok (.invokespecial idx, 3)) (h : AM Sc M' [.ref q, a1] K μ (0, 0) (fun v K' μ' => AW Sc M (pc + 3) lv (pushr v rest) K' μ' n Q)) : AW Sc M pc lv (a1 :: .ref q :: rest) K μ n Q := aw_cSU (As := [a1]) (n1 := (0, 0)) (n2 := n) hk hf hq hci h8 rfl ⟨by simp, by simp⟩ d h
theorem aw_su2 {ci : Nat} (hk : LkSU M.1.cls idx M' 2) (hf : Fit M M') (hq : K[q]? = some (.inl ci)) (hci : ci < 13) (h8 : (rest.map fun v => v.category).sum ≤ 8) (d : decode M.2.1 pc = .ok (.invokespecial idx, 3)) (h : AM Sc M' [.ref q, a1, a2] K μ (0, 0) (fun v K' μ' => AW Sc M (pc + 3) lv (pushr v rest) K' μ' n Q)) : AW Sc M pc lv (a2 :: a1 :: .ref q :: rest) K μ n Q := aw_cSU (As := [a1, a2]) (n1 := (0, 0)) (n2 := n) hk hf hq hci h8 rfl ⟨by simp, by simp⟩ d h
theorem aw_s1 (hk : LkS M.1.cls idx M' 1) (hf : Fit M M') (h8 : (rest.map fun v => v.category).sum ≤ 8) (d : decode M.2.1 pc = .ok (.invokestatic idx, 3)) (h : AM Sc M' [a1] K μ (0, 0) (fun v K' μ' => AW Sc M (pc + 3) lv (pushr v rest) K' μ' n Q)) : AW Sc M pc lv (a1 :: rest) K μ n Q := aw_cS (As := [a1]) (n1 := (0, 0)) (n2 := n) hk hf h8 rfl ⟨by simp, by simp⟩ d h
theorem aw_s2 (hk : LkS M.1.cls idx M' 2) (hf : Fit M M') (h8 : (rest.map fun v => v.category).sum ≤ 8) (d : decode M.2.1 pc = .ok (.invokestatic idx, 3)) (h : AM Sc M' [a1, a2] K μ (0, 0) (fun v K' μ' => AW Sc M (pc + 3) lv (pushr v rest) K' μ' n Q)) : AW Sc M pc lv (a2 :: a1 :: rest) K μ n Q := aw_cS (As := [a1, a2]) (n1 := (0, 0)) (n2 := n) hk hf h8 rfl ⟨by simp, by simp⟩ d h
theorem aw_s3 (hk : LkS M.1.cls idx M' 3) (hf : Fit M M') (h8 : (rest.map fun v => v.category).sum ≤ 8) (d : decode M.2.1 pc = .ok (.invokestatic idx, 3)) (h : AM Sc M' [a1, a2, a3] K μ (0, 0) (fun v K' μ' => AW Sc M (pc + 3) lv (pushr v rest) K' μ' n Q)) : AW Sc M pc lv (a3 :: a2 :: a1 :: rest) K μ n Q := aw_cS (As := [a1, a2, a3]) (n1 := (0, 0)) (n2 := n) hk hf h8 rfl ⟨by simp, by simp⟩ d h
theorem aw_sn1 (hk : LkSN M.1.cls idx M' 1) (hf : Fit M M') (h8 : (rest.map fun v => v.category).sum ≤ 8) (d : decode M.2.1 pc = .ok (.invokestatic idx, 3)) (h : AM Sc M' [a1] K μ (0, 0) (fun v K' μ' => AW Sc M (pc + 3) lv (pushr v rest) K' μ' n Q)) : AW Sc M pc lv (a1 :: rest) K μ n Q := aw_cSN (As := [a1]) (n1 := (0, 0)) (n2 := n) hk hf h8 rfl ⟨by simp, by simp⟩ d h
theorem vin {i : Int32} (hi : i = nI c) (hc : c < N) (hN : N ≤ 200) : vp_in i N ∧ i.toNatClampNeg = c := by
  subst hi
  exact ⟨vp_in_nI hc (by omega), nI_clamp (by omega)⟩
/-- arrays, by a number: place, what the index is, where it lies -/
theorem aw_ialoadN {i : Int32} (hK : K[q]? = some (.inr (0, N))) (hi : i = nI c) (hc : c < N) (hN : N ≤ 200) (d : decode M.2.1 pc = .ok (.iaload, 1)) (h : AW Sc M (pc + 1) lv (.int (μ.1 q c) :: st) K μ n Q) : AW Sc M pc lv (.int i :: .ref q :: st) K μ n Q := by
  obtain ⟨h1, h2⟩ := vin hi hc hN
  exact aw_iaload hK h1 d (by rw [h2]; exact h)
theorem aw_caloadN {i : Int32} (hK : K[q]? = some (.inr (2, N))) (hi : i = nI c) (hc : c < N) (hN : N ≤ 200) (d : decode M.2.1 pc = .ok (.caload, 1)) (h : AW Sc M (pc + 1) lv (.int (μ.1 q c) :: st) K μ n Q) : AW Sc M pc lv (.int i :: .ref q :: st) K μ n Q := by
  obtain ⟨h1, h2⟩ := vin hi hc hN
  exact aw_caload hK h1 d (by rw [h2]; exact h)
theorem aw_laloadN {i : Int32} (hK : K[q]? = some (.inr (1, N))) (hi : i = nI c) (hc : c < N) (hN : N ≤ 200) (d : decode M.2.1 pc = .ok (.laload, 1)) (h : AW Sc M (pc + 1) lv (.long (μ.2.1 q c) :: st) K μ n Q) : AW Sc M pc lv (.int i :: .ref q :: st) K μ n Q := by
  obtain ⟨h1, h2⟩ := vin hi hc hN
  exact aw_laload hK h1 d (by rw [h2]; exact h)
theorem aw_iastoreN {i x : Int32} (hK : K[q]? = some (.inr (0, N))) (hi : i = nI c) (hc : c < N) (hN : N ≤ 200) (d : decode M.2.1 pc = .ok (.iastore, 1)) (h : AW Sc M (pc + 1) lv st K (pI μ q c x) n Q) : AW Sc M pc lv (.int x :: .int i :: .ref q :: st) K μ n Q := by
  obtain ⟨h1, h2⟩ := vin hi hc hN
  exact aw_iastore hK h1 d (by rw [h2]; exact h)
theorem aw_castoreN {i x : Int32} (hK : K[q]? = some (.inr (2, N))) (hi : i = nI c) (hc : c < N) (hN : N ≤ 200) (hx : narrow .char (.int x) = .int x) (d : decode M.2.1 pc = .ok (.castore, 1)) (h : AW Sc M (pc + 1) lv st K (pI μ q c x) n Q) : AW Sc M pc lv (.int x :: .int i :: .ref q :: st) K μ n Q := by
  obtain ⟨h1, h2⟩ := vin hi hc hN
  exact aw_castore hK h1 hx d (by rw [h2]; exact h)
theorem aw_lastoreN {i : Int32} {x : Int64} (hK : K[q]? = some (.inr (1, N))) (hi : i = nI c) (hc : c < N) (hN : N ≤ 200) (d : decode M.2.1 pc = .ok (.lastore, 1)) (h : AW Sc M (pc + 1) lv st K (pJ μ q c x) n Q) : AW Sc M pc lv (.long x :: .int i :: .ref q :: st) K μ n Q := by
  obtain ⟨h1, h2⟩ := vin hi hc hN
  exact aw_lastore hK h1 d (by rw [h2]; exact h)
theorem aw_aaloadN {i : Int32} {t r : Nat} {C : String} (hK : K[q]? = some (.inr (t + 3, N))) (ht : ∀ dA, (tyl dA)[t + 3]? = some (dA (t + 3), .object C)) (hi : i = nI c) (hc : c < N) (hN : N ≤ 200) (hr : μ.2.2 q c = some r) (d : decode M.2.1 pc = .ok (.aaload, 1)) (h : AW Sc M (pc + 1) lv (.ref r :: st) K μ n Q) : AW Sc M pc lv (.int i :: .ref q :: st) K μ n Q := by
  obtain ⟨h1, h2⟩ := vin hi hc hN
  exact aw_aaload hK ht h1 (by rw [h2]; exact hr) d h
/-- a boolean on the stack -/
theorem aw_zeq {b : Bool} {off : Int} (tgt : Nat) (ht : (pc : Int) + off = (tgt : Int)) (d : decode M.2.1 pc = .ok (.ifCond .eq off, 3)) (kt : b = false → AW Sc M tgt lv st K μ n Q) (kf : b = true → AW Sc M (pc + 3) lv st K μ n Q) : AW Sc M pc lv (.int (bI b) :: st) K μ n Q := by
  refine aw_if_eq tgt ht d (fun h => kt ?_) (fun h => kf ?_)
  · cases b
    · rfl
    · exact absurd h (by decide)
  · cases b
    · exact absurd rfl h
    · rfl
theorem aw_zne {b : Bool} {off : Int} (tgt : Nat) (ht : (pc : Int) + off = (tgt : Int)) (d : decode M.2.1 pc = .ok (.ifCond .ne off, 3)) (kt : b = true → AW Sc M tgt lv st K μ n Q) (kf : b = false → AW Sc M (pc + 3) lv st K μ n Q) : AW Sc M pc lv (.int (bI b) :: st) K μ n Q := by
  refine aw_if_ne tgt ht d (fun h => kt ?_) (fun h => kf ?_)
  · cases b
    · exact absurd rfl h
    · rfl
  · cases b
    · rfl
    · exact absurd h (by decide)
theorem aw_zret {b : Bool} {x : Int32} (hx : x = bI b) (d : decode M.2.1 pc = .ok (.ireturn, 1)) (hr : M.2.2.2.1 = some .boolean) (hq : Q (some (.int (bI b))) K μ) : AW Sc M pc lv [.int x] K μ n Q := by
  subst hx
  exact aw_ireturn d ⟨.boolean, hr, bI_nar b⟩ hq
end BRules
