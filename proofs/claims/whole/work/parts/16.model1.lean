/-! THE MODEL, 1: rows, small methods -/
def rowI (μ : Mem) (q : Nat) (f : Nat → Int32) : Mem := (va_up μ.1 q f, μ.2)
theorem rowI_get (μ : Mem) (q : Nat) (f : Nat → Int32) : (rowI μ q f).1 q = f := by simp [rowI, va_up]
theorem rowI_ne (μ : Mem) {q p : Nat} (f : Nat → Int32) (h : p ≠ q) : (rowI μ q f).1 p = μ.1 p := va_up_ne _ _ h
theorem rowI_rowI (μ : Mem) (q : Nat) (f g : Nat → Int32) : rowI (rowI μ q f) q g = rowI μ q g := by
  simp only [rowI, Prod.mk.injEq, and_true]
  funext j
  by_cases h : j = q <;> simp [va_up, h]
theorem rowI_self (μ : Mem) (q : Nat) : rowI μ q (μ.1 q) = μ := by
  obtain ⟨m1, m2⟩ := μ
  simp only [rowI, Prod.mk.injEq, and_true]
  funext j
  by_cases h : j = q <;> simp [va_up, h]
theorem rowI_comm (μ : Mem) {q p : Nat} (f g : Nat → Int32) (h : p ≠ q) : rowI (rowI μ q f) p g = rowI (rowI μ p g) q f := by
  simp only [rowI, Prod.mk.injEq, and_true]
  funext j
  by_cases h1 : j = q
  · subst h1
    simp [va_up, h.symm]
  · by_cases h2 : j = p
    · subst h2
      simp [va_up, h1]
    · simp [va_up, h1, h2]
/-- what stands beyond an array's length is nothing: the row may be named anew -/
theorem aw_rowI {Sc : SCR} {M : MD} {pc q N t : Nat} {lv : List (Nat × Value)} {st : List Value} {K : List kd} {μ : Mem} {n : Nat × Nat} {Q : PQ} (hK : K[q]? = some (.inr (t, N))) (ht : t = 0 ∨ t = 2) (f : Nat → Int32) (hf : ∀ k, k < N → f k = μ.1 q k) (h : AW Sc M pc lv st K (rowI μ q f) n Q) : AW Sc M pc lv st K μ n Q := by
  intro p l e R s m args below meth c H locs cells slots Qf G ls hC hD hn hl hr
  refine h p l e R s m args below meth c H locs cells slots Qf G ls hC ?_ hn hl hr
  obtain ⟨d1, d2, d3⟩ := hD
  refine ⟨d1, ?_, d3⟩
  have hcell := d2 q _ (wl_get hK)
  intro k x hx
  obtain ⟨hk, rfl⟩ := wl_at hx
  by_cases hq : k = q
  · subst hq
    have e : K.getD k (.inl 0) = .inr (t, N) := by rw [List.getD_eq_getElem?_getD, hK]; rfl
    rw [e]
    rcases ht with rfl | rfl
    · show H[G.1 k]? = some (arrV (G.2.1 0) N (fun j => .int ((rowI μ k f).1 k j)))
      have h2 : H[G.1 k]? = some (arrV (G.2.1 0) N (fun j => .int (μ.1 k j))) := hcell
      rw [h2, rowI_get]
      simp only [arrV]
      congr 3
      funext j
      rw [hf j.val j.isLt]
    · show H[G.1 k]? = some (arrV (G.2.1 2) N (fun j => .int ((rowI μ k f).1 k j)))
      have h2 : H[G.1 k]? = some (arrV (G.2.1 2) N (fun j => .int (μ.1 k j))) := hcell
      rw [h2, rowI_get]
      simp only [arrV]
      congr 3
      funext j
      rw [hf j.val j.isLt]
  · rw [cell_row (μ := μ) (μ' := rowI μ q f) (va_up_ne _ _ hq) rfl rfl]
    exact d2 k _ (wl_get (by rw [List.getD_eq_getElem?_getD, List.getElem?_eq_getElem hk]; rfl))
theorem nI_lit (k : Nat) : (OfNat.ofNat k : Int32) = nI k := rfl
def in1 (v a b : Int32) : Bool := decide (a ≤ v) && decide (v ≤ b)
section Mod1
variable {Sc : SCR} {μ : Mem} {n : Nat × Nat} {Q : PQ}
theorem k_in1 {v a b : Int32} (hQ : Q (some (.int (bI (in1 v a b)))) K0 μ) : AM Sc mX12_in1 [.int v, .int a, .int b] K0 μ n Q := by
  refine AM.of rfl (ble rfl) ?_
  refine aw_iload_n rfl dX12_in1_0 ?_
  refine aw_iload_n rfl dX12_in1_1 ?_
  refine aw_icmp_lt 14 rfl dX12_in1_2 (fun c1 => ?_) (fun c1 => ?_)
  · refine aw_iconst (v := 0) (by decide) dX12_in1_14 ?_
    refine aw_zret (b := false) rfl dX12_in1_15 rfl ?_
    have e : in1 v a b = false := by simp [in1, Int32.not_le.mpr c1]
    rw [e] at hQ
    exact hQ
  · refine aw_iload_n rfl dX12_in1_5 ?_
    refine aw_iload_n rfl dX12_in1_6 ?_
    refine aw_icmp_gt 14 rfl dX12_in1_7 (fun c2 => ?_) (fun c2 => ?_)
    · refine aw_iconst (v := 0) (by decide) dX12_in1_14 ?_
      refine aw_zret (b := false) rfl dX12_in1_15 rfl ?_
      have e : in1 v a b = false := by simp [in1, Int32.not_le.mpr c2]
      rw [e] at hQ
      exact hQ
    · refine aw_iconst (v := 1) (by decide) dX12_in1_10 ?_
      refine aw_goto 15 rfl dX12_in1_11 ?_
      refine aw_zret (b := true) rfl dX12_in1_15 rfl ?_
      have e : in1 v a b = true := by simp [in1, Int32.not_lt.mp c1, Int32.not_lt.mp c2]
      rw [e] at hQ
      exact hQ
/-- a finding: one more of its kind -/
theorem k_no {k : Nat} (hM : MR μ.2.2) (hk : k < 7) {x : Int32} (hx : x = nI k) (hQ : Q (some (.int (-1000000001 - nI k))) K0 (pI μ 75 k (μ.1 75 k + 1))) : AM Sc mX12_no [.ref 71, .int x] K0 μ n Q := by
  subst hx
  refine AM.of rfl (ble rfl) ?_
  refine aw_aload_n rfl dX12_no_0 ?_
  refine aw_getR gX12_19_12 kM rfl (hM.found) dX12_no_1 ?_
  refine aw_iload_n rfl dX12_no_4 ?_
  refine aw_dup2 rfl rfl dX12_no_5 ?_
  refine aw_ialoadN kFound rfl hk (by decide) dX12_no_6 ?_
  refine aw_iconst (v := 1) (by decide) dX12_no_7 ?_
  refine aw_iadd dX12_no_8 ?_
  refine aw_iastoreN kFound rfl hk (by decide) dX12_no_9 ?_
  refine aw_ldc (v := (-1000000001)) w_940 dX12_no_10 ?_
  refine aw_iload_n rfl dX12_no_12 ?_
  refine aw_isub dX12_no_13 ?_
  refine aw_iret dX12_no_14 rfl ?_
  exact hQ
theorem k_isPerson {x : Int32} (hM : MR μ.2.2) (hQ : Q (some (.int (bI (in1 x 0 (μ.1 72 4 - 1))))) K0 μ) : AM Sc mX12_isPerson [.ref 71, .int x] K0 μ n Q := by
  refine AM.of rfl (ble rfl) ?_
  refine aw_iload_n rfl dX12_isPerson_0 ?_
  refine aw_iconst (v := 0) (by decide) dX12_isPerson_1 ?_
  refine aw_aload_n rfl dX12_isPerson_2 ?_
  refine aw_getR gX12_9_12 kM rfl (hM.s) dX12_isPerson_3 ?_
  refine aw_iconst (v := 4) (by decide) dX12_isPerson_6 ?_
  refine aw_ialoadN kS (c := 4) rfl (by decide) (by decide) dX12_isPerson_7 ?_
  refine aw_iconst (v := 1) (by decide) dX12_isPerson_8 ?_
  refine aw_isub dX12_isPerson_9 ?_
  refine aw_s3 kX12_52 ⟨ble rfl, ble rfl⟩ (ble rfl) dX12_isPerson_10 (k_in1 ?_)
  exact aw_zret rfl dX12_isPerson_13 rfl hQ
theorem k_isSide {x : Int32} (hQ : Q (some (.int (bI (in1 x 0 1)))) K0 μ) : AM Sc mX12_isSide [.int x] K0 μ n Q := by
  refine AM.of rfl (ble rfl) ?_
  refine aw_iload_n rfl dX12_isSide_0 ?_
  refine aw_iconst (v := 0) (by decide) dX12_isSide_1 ?_
  refine aw_iconst (v := 1) (by decide) dX12_isSide_2 ?_
  refine aw_s3 kX12_52 ⟨ble rfl, ble rfl⟩ (ble rfl) dX12_isSide_3 (k_in1 ?_)
  exact aw_zret rfl dX12_isSide_6 rfl hQ
theorem ix_get (k j : Nat) : (5 : Int32) + 5 * nI k + nI j = nI (5 + 5 * k + j) := by
  rw [show (5 : Int32) = nI 5 from rfl, pk_mul, nI_add, nI_add]
theorem k_get {k j : Nat} {x y : Int32} (hM : MR μ.2.2) (hx : x = nI k) (hy : y = nI j) (hk : k < 10) (hj : j < 5) (hQ : Q (some (.int (μ.1 72 (5 + 5 * k + j)))) K0 μ) : AM Sc mX12_get [.ref 71, .int x, .int y] K0 μ n Q := by
  subst hx hy
  refine AM.of rfl (ble rfl) ?_
  refine aw_aload_n rfl dX12_get_0 ?_
  refine aw_getR gX12_9_12 kM rfl (hM.s) dX12_get_1 ?_
  refine aw_iconst (v := 5) (by decide) dX12_get_4 ?_
  refine aw_iconst (v := 5) (by decide) dX12_get_5 ?_
  refine aw_iload_n rfl dX12_get_6 ?_
  refine aw_imul dX12_get_7 ?_
  refine aw_iadd dX12_get_8 ?_
  refine aw_iload_n rfl dX12_get_9 ?_
  refine aw_iadd dX12_get_10 ?_
  refine aw_ialoadN kS (ix_get k j) (by omega) (by decide) dX12_get_11 ?_
  refine aw_iret dX12_get_12 rfl ?_
  exact hQ
theorem k_puts {k j : Nat} {x y v : Int32} (hM : MR μ.2.2) (hx : x = nI k) (hy : y = nI j) (hk : k < 10) (hj : j < 5) (hQ : Q none K0 (pI μ 72 (5 + 5 * k + j) v)) : AM Sc mX12_puts [.ref 71, .int x, .int y, .int v] K0 μ n Q := by
  subst hx hy
  refine AM.of rfl (ble rfl) ?_
  refine aw_aload_n rfl dX12_puts_0 ?_
  refine aw_getR gX12_9_12 kM rfl (hM.s) dX12_puts_1 ?_
  refine aw_iconst (v := 5) (by decide) dX12_puts_4 ?_
  refine aw_iconst (v := 5) (by decide) dX12_puts_5 ?_
  refine aw_iload_n rfl dX12_puts_6 ?_
  refine aw_imul dX12_puts_7 ?_
  refine aw_iadd dX12_puts_8 ?_
  refine aw_iload_n rfl dX12_puts_9 ?_
  refine aw_iadd dX12_puts_10 ?_
  refine aw_iload_n rfl dX12_puts_11 ?_
  refine aw_iastoreN kS (ix_get k j) (by omega) (by decide) dX12_puts_12 ?_
  refine aw_return dX12_puts_13 rfl ?_
  exact hQ
end Mod1
