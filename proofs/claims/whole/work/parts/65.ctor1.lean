/-! THE CONSTRUCTORS, 1: new places, the kinds, a green -/
def Kp (m : Nat) : List kd := K0.take m
theorem K0_len : K0.length = 85 := rfl
theorem K0_lt {i : Nat} {k : kd} (h : K0[i]? = some k) : i < 85 := (List.getElem?_eq_some_iff.mp h).1
theorem Kp_len {m : Nat} (h : m ≤ 85) : (Kp m).length = m := by
  unfold Kp
  rw [List.length_take, K0_len]
  omega
theorem Kp_succ {m : Nat} {k : kd} (h : K0[m]? = some k) : Kp m ++ [k] = Kp (m + 1) := by
  unfold Kp
  rw [List.take_succ, h]
  rfl
theorem Kp_all : Kp 85 = K0 := rfl
theorem kp {m i : Nat} {k : kd} (h : K0[i]? = some k) (hi : i < m) : (Kp m)[i]? = some k := by
  unfold Kp
  rw [List.getElem?_take, if_pos hi]
  exact h
theorem AW.less {Sc : SCR} {M : MD} {pc : Nat} {lv : List (Nat × Value)} {st : List Value} {K : List kd} {μ : Mem} {n n' : Nat × Nat} {Q : PQ} (hn' : n'.1 ≤ n.1 ∧ n'.2 ≤ n.2) (h : AW Sc M pc lv st K μ n' Q) : AW Sc M pc lv st K μ n Q :=
  fun p l e R s m args below meth c H locs cells slots Qf G ls hC hD hn hl hr => h p l e R s m args below meth c H locs cells slots Qf G ls hC hD ⟨by omega, by omega⟩ hl hr
section CRules
variable {Sc : SCR} {M M' : MD} {pc idx q ci m N : Nat} {lv : List (Nat × Value)} {st rest : List Value} {K : List kd} {μ : Mem} {n n1 n2 : Nat × Nat} {Q : PQ} {a1 : Value}
theorem aw_newP (n' : Nat × Nat) (hk : NWk M.1.cls idx ci) (hm : K0[m]? = some (.inl ci)) (hn : n'.1 + 1 ≤ n.1 ∧ n'.2 + nF ci ≤ n.2) (d : decode M.2.1 pc = .ok (.new idx, 3)) (h : AW Sc M (pc + 3) lv (.ref m :: st) (Kp (m + 1)) (p0 μ m) n' Q) : AW Sc M pc lv st (Kp m) μ n Q := by
  have hl := Kp_len (Nat.le_of_lt (K0_lt hm))
  have h85 := K0_lt hm
  refine aw_new hk (by rw [hl]; omega) ⟨by omega, by omega⟩ d (AW.less (n' := n') ⟨by show n'.1 ≤ n.1 - 1; omega, by show n'.2 ≤ n.2 - nF ci; omega⟩ ?_)
  rw [hl, Kp_succ hm]
  exact h
theorem aw_newIP {x : Int32} (n' : Nat × Nat) (hx : x = nI N) (hN : N < 1000) (hm : K0[m]? = some (.inr (0, N))) (hn : n'.1 + 1 ≤ n.1 ∧ n'.2 + N ≤ n.2) (d : decode M.2.1 pc = .ok (.newarray .int, 2)) (h : AW Sc M (pc + 2) lv (.ref m :: st) (Kp (m + 1)) (p0 μ m) n' Q) : AW Sc M pc lv (.int x :: st) (Kp m) μ n Q := by
  have hl := Kp_len (Nat.le_of_lt (K0_lt hm))
  have h85 := K0_lt hm
  refine aw_newI w_260 hx hN (by rw [hl]; omega) ⟨by omega, by omega⟩ d (AW.less (n' := n') ⟨by show n'.1 ≤ n.1 - 1; omega, by show n'.2 ≤ n.2 - N; omega⟩ ?_)
  rw [hl, Kp_succ hm]
  exact h
theorem aw_newJP {x : Int32} (n' : Nat × Nat) (hx : x = nI N) (hN : N < 1000) (hm : K0[m]? = some (.inr (1, N))) (hn : n'.1 + 1 ≤ n.1 ∧ n'.2 + N ≤ n.2) (d : decode M.2.1 pc = .ok (.newarray .long, 2)) (h : AW Sc M (pc + 2) lv (.ref m :: st) (Kp (m + 1)) (p0 μ m) n' Q) : AW Sc M pc lv (.int x :: st) (Kp m) μ n Q := by
  have hl := Kp_len (Nat.le_of_lt (K0_lt hm))
  have h85 := K0_lt hm
  refine aw_newJ w_283 hx hN (by rw [hl]; omega) ⟨by omega, by omega⟩ d (AW.less (n' := n') ⟨by show n'.1 ≤ n.1 - 1; omega, by show n'.2 ≤ n.2 - N; omega⟩ ?_)
  rw [hl, Kp_succ hm]
  exact h
theorem aw_newCP {x : Int32} (n' : Nat × Nat) (hx : x = nI N) (hN : N < 1000) (hm : K0[m]? = some (.inr (2, N))) (hn : n'.1 + 1 ≤ n.1 ∧ n'.2 + N ≤ n.2) (d : decode M.2.1 pc = .ok (.newarray .char, 2)) (h : AW Sc M (pc + 2) lv (.ref m :: st) (Kp (m + 1)) (p0 μ m) n' Q) : AW Sc M pc lv (.int x :: st) (Kp m) μ n Q := by
  have hl := Kp_len (Nat.le_of_lt (K0_lt hm))
  have h85 := K0_lt hm
  refine aw_newC w_924 hx hN (by rw [hl]; omega) ⟨by omega, by omega⟩ d (AW.less (n' := n') ⟨by show n'.1 ≤ n.1 - 1; omega, by show n'.2 ≤ n.2 - N; omega⟩ ?_)
  rw [hl, Kp_succ hm]
  exact h
theorem aw_newQP {x : Int32} {t : Nat} {C : String} (n' : Nat × Nat) (hw : Cond.classLink M.1.cls idx C ∈ ws0) (hC0 : C ∈ overL) (ht : ∀ dA, (tyl dA)[t + 3]? = some (dA (t + 3), .object C)) (hx : x = nI N) (hN : N < 1000) (hm : K0[m]? = some (.inr (t + 3, N))) (hn : n'.1 + 1 ≤ n.1 ∧ n'.2 + N ≤ n.2) (d : decode M.2.1 pc = .ok (.anewarray idx, 3)) (h : AW Sc M (pc + 3) lv (.ref m :: st) (Kp (m + 1)) (p0 μ m) n' Q) : AW Sc M pc lv (.int x :: st) (Kp m) μ n Q := by
  have hl := Kp_len (Nat.le_of_lt (K0_lt hm))
  have h85 := K0_lt hm
  refine aw_newQ hw hC0 ht hx hN (by rw [hl]; omega) ⟨by omega, by omega⟩ d (AW.less (n' := n') ⟨by show n'.1 ≤ n.1 - 1; omega, by show n'.2 ≤ n.2 - N; omega⟩ ?_)
  rw [hl, Kp_succ hm]
  exact h
theorem aw_i0 (n1 n2 : Nat × Nat) (hk : LkI M.1.cls idx M' 0) (hf : Fit M M') (h8 : (rest.map fun v => v.category).sum ≤ 8) (hnn : n1.1 + n2.1 ≤ n.1 ∧ n1.2 + n2.2 ≤ n.2) (d : decode M.2.1 pc = .ok (.invokespecial idx, 3)) (h : AM Sc M' [.ref q] K μ n1 (fun v K' μ' => AW Sc M (pc + 3) lv (pushr v rest) K' μ' n2 Q)) : AW Sc M pc lv (.ref q :: rest) K μ n Q := aw_cI (As := []) hk hf h8 rfl hnn d h
theorem aw_i1 (n1 n2 : Nat × Nat) (hk : LkI M.1.cls idx M' 1) (hf : Fit M M') (h8 : (rest.map fun v => v.category).sum ≤ 8) (hnn : n1.1 + n2.1 ≤ n.1 ∧ n1.2 + n2.2 ≤ n.2) (d : decode M.2.1 pc = .ok (.invokespecial idx, 3)) (h : AM Sc M' [.ref q, a1] K μ n1 (fun v K' μ' => AW Sc M (pc + 3) lv (pushr v rest) K' μ' n2 Q)) : AW Sc M pc lv (a1 :: .ref q :: rest) K μ n Q := aw_cI (As := [a1]) hk hf h8 rfl hnn d h
theorem aw_in0 (n1 n2 : Nat × Nat) (hk : LkIN M.1.cls idx M' 0) (hf : Fit M M') (h8 : (rest.map fun v => v.category).sum ≤ 8) (hnn : n1.1 + n2.1 ≤ n.1 ∧ n1.2 + n2.2 ≤ n.2) (d : decode M.2.1 pc = .ok (.invokespecial idx, 3)) (h : AM Sc M' [.ref q] K μ n1 (fun v K' μ' => AW Sc M (pc + 3) lv (pushr v rest) K' μ' n2 Q)) : AW Sc M pc lv (.ref q :: rest) K μ n Q := aw_cIN (As := []) hk hf h8 rfl hnn d h
theorem aw_aastoreN {i : Int32} {t r cr c : Nat} {C C' : String} (hK : K[q]? = some (.inr (t + 3, N))) (ht : ∀ dA, (tyl dA)[t + 3]? = some (dA (t + 3), .object C)) (hi : i = nI c) (hc : c < N) (hN : N ≤ 200) (hKr : K[r]? = some (.inl cr)) (hcr : (cls13[cr]?).map (fun r => r.1) = some C') (hca : C' = C ∨ (C = "EndlessTug$Man" ∧ C' ∈ castL)) (d : decode M.2.1 pc = .ok (.aastore, 1)) (h : AW Sc M (pc + 1) lv st K (pR μ q c (some r)) n Q) : AW Sc M pc lv (.ref r :: .int i :: .ref q :: st) K μ n Q := by
  obtain ⟨h1, h2⟩ := vin hi hc hN
  exact aw_aastore hK ht h1 hKr hcr hca d (by rw [h2]; exact h)
/-! the rows of P stay -/
def Sm (P : Nat → Prop) (μ μ' : Mem) : Prop := ∀ q, P q → μ'.1 q = μ.1 q ∧ μ'.2.1 q = μ.2.1 q ∧ μ'.2.2 q = μ.2.2 q
variable {P P' : Nat → Prop} {μ' μ'' : Mem}
theorem Sm.refl (P : Nat → Prop) (μ : Mem) : Sm P μ μ := fun _ _ => ⟨rfl, rfl, rfl⟩
theorem Sm.trans (h : Sm P μ μ') (h2 : Sm P μ' μ'') : Sm P μ μ'' := fun q hq => ⟨(h2 q hq).1.trans (h q hq).1, (h2 q hq).2.1.trans (h q hq).2.1, (h2 q hq).2.2.trans (h q hq).2.2⟩
theorem Sm.mono (h : Sm P μ μ') (hp : ∀ q, P' q → P q) : Sm P' μ μ' := fun q hq => h q (hp q hq)
theorem sm_p0 {a : Nat} (h : ¬ P a) : Sm P μ (p0 μ a) := fun q hq => by
  have hne : q ≠ a := by rintro rfl; exact h hq
  exact ⟨va_up_ne _ _ hne, va_up_ne _ _ hne, va_up_ne _ _ hne⟩
theorem sm_pI {a k : Nat} {v : Int32} (h : ¬ P a) : Sm P μ (pI μ a k v) := fun q hq => by
  have hne : q ≠ a := by rintro rfl; exact h hq
  exact ⟨va_up_ne _ _ hne, rfl, rfl⟩
theorem sm_pR {a k : Nat} {v : Option Nat} (h : ¬ P a) : Sm P μ (pR μ a k v) := fun q hq => by
  have hne : q ≠ a := by rintro rfl; exact h hq
  exact ⟨rfl, rfl, va_up_ne _ _ hne⟩
theorem p0_1 (μ : Mem) (a : Nat) : (p0 μ a).1 a = fun _ => 0 := by simp [p0, va_up]
theorem p0_2 (μ : Mem) (a : Nat) : (p0 μ a).2.1 a = fun _ => 0 := by simp [p0, va_up]
theorem pR_row (μ : Mem) (q k : Nat) (v : Option Nat) : (pR μ q k v).2.2 q = va_up (μ.2.2 q) k v := by simp [pR, va_up]
theorem pR_at (μ : Mem) (q : Nat) {k j : Nat} (v : Option Nat) (h : j ≠ k) : (pR μ q k v).2.2 q j = μ.2.2 q j := by rw [pR_row]; exact va_up_ne _ _ h
end CRules
/-! the kinds -/
section Kinds
variable {Sc : SCR} {K : List kd} {μ : Mem} {n : Nat × Nat} {Q : PQ} {q ci : Nat} {x : Int32}
theorem i_man (hK : K[q]? = some (.inl ci)) (hp : FPk "EndlessTug$Man" "<init>" 9 ci 0) (ht : tyF ci 0 = .int) (hQ : Q none K (pI μ q 0 x)) : AM Sc mX3_init [.ref q, .int x] K μ n Q := by
  refine AM.of rfl (ble rfl) ?_
  refine aw_aload_n rfl dX3_init_0 ?_
  refine aw_objInit kX3_3 (ble rfl) ⟨ble rfl, ble rfl⟩ dX3_init_1 ?_
  refine aw_aload_n rfl dX3_init_4 ?_
  refine aw_iload_n rfl dX3_init_5 ?_
  refine aw_putI hp hK (by rw [ht]; rfl) (by rw [ht]; rfl) (by rw [ht]; rfl) dX3_init_6 ?_
  refine aw_return dX3_init_9 rfl ?_
  exact hQ
theorem i_son (hK : K[q]? = some (.inl ci)) (hp : FPk "EndlessTug$Man" "<init>" 9 ci 0) (ht : tyF ci 0 = .int) (hQ : Q none K (pI μ q 0 x)) : AM Sc mX7_init [.ref q, .int x] K μ n Q := by
  refine AM.of rfl (ble rfl) ?_
  refine aw_aload_n rfl dX7_init_0 ?_
  refine aw_iload_n rfl dX7_init_1 ?_
  refine aw_i1 (0, 0) n kX7_3 ⟨ble rfl, ble rfl⟩ (ble rfl) ⟨by simp, by simp⟩ dX7_init_2 (i_man hK hp ht ?_)
  refine aw_return dX7_init_5 rfl ?_
  exact hQ
theorem i_drinker (hK : K[q]? = some (.inl ci)) (hp : FPk "EndlessTug$Man" "<init>" 9 ci 0) (ht : tyF ci 0 = .int) (hQ : Q none K (pI μ q 0 x)) : AM Sc mX1_init [.ref q, .int x] K μ n Q := by
  refine AM.of rfl (ble rfl) ?_
  refine aw_aload_n rfl dX1_init_0 ?_
  refine aw_iload_n rfl dX1_init_1 ?_
  refine aw_i1 (0, 0) n kX1_3 ⟨ble rfl, ble rfl⟩ (ble rfl) ⟨by simp, by simp⟩ dX1_init_2 (i_man hK hp ht ?_)
  refine aw_return dX1_init_5 rfl ?_
  exact hQ
theorem i_woman (hK : K[q]? = some (.inl ci)) (hp : FPk "EndlessTug$Man" "<init>" 9 ci 0) (ht : tyF ci 0 = .int) (hQ : Q none K (pI μ q 0 x)) : AM Sc mX10_init [.ref q, .int x] K μ n Q := by
  refine AM.of rfl (ble rfl) ?_
  refine aw_aload_n rfl dX10_init_0 ?_
  refine aw_iload_n rfl dX10_init_1 ?_
  refine aw_i1 (0, 0) n kX10_3 ⟨ble rfl, ble rfl⟩ (ble rfl) ⟨by simp, by simp⟩ dX10_init_2 (i_man hK hp ht ?_)
  refine aw_return dX10_init_5 rfl ?_
  exact hQ
theorem i_preacher (hK : K[q]? = some (.inl ci)) (hp : FPk "EndlessTug$Man" "<init>" 9 ci 0) (ht : tyF ci 0 = .int) (hQ : Q none K (pI μ q 0 x)) : AM Sc mX5_init [.ref q, .int x] K μ n Q := by
  refine AM.of rfl (ble rfl) ?_
  refine aw_aload_n rfl dX5_init_0 ?_
  refine aw_iload_n rfl dX5_init_1 ?_
  refine aw_i1 (0, 0) n kX5_3 ⟨ble rfl, ble rfl⟩ (ble rfl) ⟨by simp, by simp⟩ dX5_init_2 (i_son hK hp ht ?_)
  refine aw_return dX5_init_5 rfl ?_
  exact hQ
theorem i_stranger (hK : K[q]? = some (.inl ci)) (hp : FPk "EndlessTug$Man" "<init>" 9 ci 0) (ht : tyF ci 0 = .int) (hQ : Q none K (pI μ q 0 x)) : AM Sc mX8_init [.ref q, .int x] K μ n Q := by
  refine AM.of rfl (ble rfl) ?_
  refine aw_aload_n rfl dX8_init_0 ?_
  refine aw_iload_n rfl dX8_init_1 ?_
  refine aw_i1 (0, 0) n kX8_3 ⟨ble rfl, ble rfl⟩ (ble rfl) ⟨by simp, by simp⟩ dX8_init_2 (i_drinker hK hp ht ?_)
  refine aw_return dX8_init_5 rfl ?_
  exact hQ
theorem i_person {r : Nat} (hK : K[q]? = some (.inl 4)) (hQ : Q none K (pR μ q 0 (some r))) : AM Sc mX4_init [.ref q, .ref r] K μ n Q := by
  refine AM.of rfl (ble rfl) ?_
  refine aw_aload_n rfl dX4_init_0 ?_
  refine aw_objInit kX4_3 (ble rfl) ⟨ble rfl, ble rfl⟩ dX4_init_1 ?_
  refine aw_aload_n rfl dX4_init_4 ?_
  refine aw_aload_n rfl dX4_init_5 ?_
  refine aw_putR (pX4_9_4i _) hK rfl (fun _ => rfl) (fun _ => rfl) dX4_init_6 ?_
  refine aw_return dX4_init_9 rfl ?_
  exact hQ
end Kinds
/-! a green -/
def s0 : Nat → Int32 := upd (upd (fun _ => 0) 2 3) 3 32
def GI (μ : Mem) (g : Nat) : Prop := GS μ.2.2 g ∧ (∀ k, k < 6 → μ.1 (g + 3 + k) 0 = nI k) ∧ GH μ g s0
section Greens
variable {Sc : SCR} {μ μ' μ0 ν : Mem} {n : Nat × Nat} {Q : PQ} {g i j : Nat} {P : Nat → Prop}
theorem GI.sm (h : GI μ g) (hs : Sm P μ μ') (hp : ∀ q, g ≤ q → q < g + 19 → P q) : GI μ' g := by
  obtain ⟨⟨a1, a2, a3, a4⟩, b, c⟩ := h
  refine ⟨⟨?_, ?_, fun k hk => ?_, fun k hk => ?_⟩, fun k hk => ?_, ?_⟩
  · rw [(hs g (hp g (by omega) (by omega))).2.2]; exact a1
  · rw [(hs g (hp g (by omega) (by omega))).2.2]; exact a2
  · rw [(hs (g + 1) (hp (g + 1) (by omega) (by omega))).2.2]; exact a3 k hk
  · rw [(hs (g + 2) (hp (g + 2) (by omega) (by omega))).2.2]; exact a4 k hk
  · rw [(hs (g + 3 + k) (hp (g + 3 + k) (by omega) (by omega))).1]; exact b k hk
  · unfold GH
    rw [(hs g (hp g (by omega) (by omega))).1]; exact c
def GI1 (μ0 : Mem) (g j : Nat) (μ : Mem) : Prop := Sm (fun q => q < g) μ0 μ ∧ GH μ g s0 ∧ (μ.2.2 g 5 = some (g + 1) ∧ μ.2.2 g 6 = some (g + 2)) ∧ ∀ k, k < j → μ.2.2 (g + 1) k = some (g + 3 + k) ∧ μ.1 (g + 3 + k) 0 = nI k
theorem GI1.sm (h : GI1 μ0 g j μ) (hj : j ≤ 6) (hs : Sm P μ μ') (hp : ∀ q, q < g + 9 → q ≠ g + 2 → P q) : GI1 μ0 g j μ' := by
  obtain ⟨a, b, c, d⟩ := h
  refine ⟨a.trans (hs.mono (fun q hq => hp q (by have : q < g := hq; omega) (by have : q < g := hq; omega))), ?_, ?_, fun k hk => ?_⟩
  · unfold GH
    rw [(hs g (hp g (by omega) (by omega))).1]; exact b
  · rw [(hs g (hp g (by omega) (by omega))).2.2]; exact c
  · rw [(hs (g + 1) (hp _ (by omega) (by omega))).2.2, (hs (g + 3 + k) (hp _ (by omega) (by omega))).1]
    exact d k hk
theorem GI1.step (h : GI1 μ0 g j μ) (hj : j < 6) : GI1 μ0 g (j + 1) (pR (pI (p0 μ (g + 3 + j)) (g + 3 + j) 0 (nI j)) (g + 1) j (some (g + 3 + j))) := by
  have hs1 : Sm (fun q => q < g + 3 + j) μ (pI (p0 μ (g + 3 + j)) (g + 3 + j) 0 (nI j)) := (sm_p0 (by omega)).trans (sm_pI (by omega))
  have hs2 : Sm (fun q => q ≠ g + 1) (pI (p0 μ (g + 3 + j)) (g + 3 + j) 0 (nI j)) (pR (pI (p0 μ (g + 3 + j)) (g + 3 + j) 0 (nI j)) (g + 1) j (some (g + 3 + j))) := sm_pR (fun h => h rfl)
  have hv : (pI (p0 μ (g + 3 + j)) (g + 3 + j) 0 (nI j)).1 (g + 3 + j) 0 = nI j := by rw [pI_row, upd_eq]
  generalize pI (p0 μ (g + 3 + j)) (g + 3 + j) 0 (nI j) = ν at hs1 hs2 hv ⊢
  obtain ⟨a, b, c, d⟩ := h
  refine ⟨a.trans ((hs1.mono (fun q hq => by have : q < g := hq; show q < g + 3 + j; omega)).trans (hs2.mono (fun q hq => by have : q < g := hq; show q ≠ g + 1; omega))), ?_, ?_, fun k hk => ?_⟩
  · unfold GH
    rw [(hs2 g (by show g ≠ g + 1; omega)).1, (hs1 g (by show g < g + 3 + j; omega)).1]; exact b
  · rw [(hs2 g (by show g ≠ g + 1; omega)).2.2, (hs1 g (by show g < g + 3 + j; omega)).2.2]; exact c
  · rw [(hs2 (g + 3 + k) (by show g + 3 + k ≠ g + 1; omega)).1]
    by_cases e : k = j
    · subst e
      exact ⟨pR_get _ _ _ _, hv⟩
    · rw [pR_at _ _ _ e, (hs1 (g + 1) (by show g + 1 < g + 3 + j; omega)).2.2, (hs1 (g + 3 + k) (by show g + 3 + k < g + 3 + j; omega)).1]
      exact d k (by omega)
def GI2 (μ0 : Mem) (g i : Nat) (μ : Mem) : Prop := GI1 μ0 g 6 μ ∧ ∀ k, k < i → μ.2.2 (g + 2) k = some (g + 9 + k)
theorem GI2.step (h : GI2 μ0 g i μ) (hi : i < 10) : GI2 μ0 g (i + 1) (pR (pR (p0 μ (g + 9 + i)) (g + 9 + i) 0 (some (g + 3))) (g + 2) i (some (g + 9 + i))) := by
  have hs1 : Sm (fun q => q < g + 9 + i) μ (pR (p0 μ (g + 9 + i)) (g + 9 + i) 0 (some (g + 3))) := (sm_p0 (by omega)).trans (sm_pR (by omega))
  generalize pR (p0 μ (g + 9 + i)) (g + 9 + i) 0 (some (g + 3)) = ν at hs1 ⊢
  have hs2 : Sm (fun q => q ≠ g + 2) ν (pR ν (g + 2) i (some (g + 9 + i))) := sm_pR (fun h => h rfl)
  obtain ⟨a, b⟩ := h
  refine ⟨(a.sm (by omega) hs1 (fun q h1 _ => by show q < g + 9 + i; omega)).sm (by omega) hs2 (fun q _ h2 => h2), fun k hk => ?_⟩
  by_cases e : k = i
  · subst e; exact pR_get _ _ _ _
  · rw [pR_at _ _ _ e, (hs1 (g + 2) (by show g + 2 < g + 9 + i; omega)).2.2]
    exact b k (by omega)
theorem gK3 (hg : gOk g) {k c : Nat} (hk : k < 6) (hc : kCl k = c) : K0[g + 3 + k]? = some (.inl c) := by rw [← hc]; exact kMan hg hk
theorem i_green (hg : gOk g) (h0 : μ.1 g = fun _ => 0) (hQ : ∀ μ', Sm (fun q => q < g) μ μ' → GI μ' g → Q none (Kp (g + 19)) μ') : AM Sc mX2_init [.ref g] (Kp (g + 1)) μ (18, 72) Q := by
  refine AM.of rfl (ble rfl) ?_
  have hg39 : g ≤ 39 := by rcases hg with rfl | rfl | rfl <;> omega
  refine aw_aload_n rfl dX2_init_0 ?_
  refine aw_objInit kX2_3 (ble rfl) ⟨ble rfl, ble rfl⟩ dX2_init_1 ?_
  refine aw_aload_n rfl dX2_init_4 ?_
  refine aw_bipush (v := 32) (by decide) dX2_init_5 ?_
  refine aw_putI (pX2_9_2i _) (kp (kG hg) (by omega)) rfl rfl rfl dX2_init_7 ?_
  refine aw_aload_n rfl dX2_init_10 ?_
  refine aw_iconst (v := 3) (by decide) dX2_init_11 ?_
  refine aw_putI (pX2_15_2i _) (kp (kG hg) (by omega)) rfl rfl rfl dX2_init_12 ?_
  refine aw_aload_n rfl dX2_init_15 ?_
  refine aw_bipush (v := 6) (by decide) dX2_init_16 ?_
  refine aw_newQP (m := g + 1) (t := 0) (17, 66) w_88 (by decide) (fun _ => rfl) rfl (by decide) (kGk hg) ⟨ble rfl, ble rfl⟩ dX2_init_18 ?_
  refine aw_putR pX2_20_2i (kp (kG hg) (by omega)) rfl (fun _ => rfl) (fun _ => rfl) dX2_init_21 ?_
  refine aw_aload_n rfl dX2_init_24 ?_
  refine aw_bipush (v := 10) (by decide) dX2_init_25 ?_
  refine aw_newQP (m := g + 2) (t := 1) (16, 56) w_90 (by decide) (fun _ => rfl) rfl (by decide) (kGp hg) ⟨ble rfl, ble rfl⟩ dX2_init_27 ?_
  refine aw_putR pX2_26_2i (kp (kG hg) (by omega)) rfl (fun _ => rfl) (fun _ => rfl) dX2_init_30 ?_
  have I0 : GI1 μ g 0 (pR (p0 (pR (p0 (pI (pI μ g 1 32) g 3 3) (g + 1)) g 5 (some (g + 1))) (g + 2)) g 6 (some (g + 2))) := by
    refine ⟨((((sm_pI (by omega)).trans (sm_pI (by omega))).trans (sm_p0 (by omega))).trans (sm_pR (by omega))).trans ((sm_p0 (by omega)).trans (sm_pR (by omega))), ?_, ⟨?_, pR_get _ _ _ _⟩, fun k hk => absurd hk (by omega)⟩
    · have e : (pR (p0 (pR (p0 (pI (pI μ g 1 32) g 3 3) (g + 1)) g 5 (some (g + 1))) (g + 2)) g 6 (some (g + 2))).1 g = upd (upd (fun _ => 0) 1 32) 3 3 := by
        show (p0 (pR (p0 (pI (pI μ g 1 32) g 3 3) (g + 1)) g 5 (some (g + 1))) (g + 2)).1 g = _
        rw [(sm_p0 (P := fun q => q ≠ g + 2) (fun h => h rfl) g (by show g ≠ g + 2; omega)).1]
        show (p0 (pI (pI μ g 1 32) g 3 3) (g + 1)).1 g = _
        rw [(sm_p0 (P := fun q => q ≠ g + 1) (fun h => h rfl) g (by show g ≠ g + 1; omega)).1, pI_row, pI_row, h0]
      unfold GH
      rw [e]
      decide
    · rw [pR_at _ _ _ (by decide), (sm_p0 (P := fun q => q ≠ g + 2) (fun h => h rfl) g (by show g ≠ g + 2; omega)).2.2]
      exact pR_get _ _ _ _
  generalize pR (p0 (pR (p0 (pI (pI μ g 1 32) g 3 3) (g + 1)) g 5 (some (g + 1))) (g + 2)) g 6 (some (g + 2)) = ν0 at I0 ⊢
  refine aw_newP (m := g + 3) (15, 55) nX2_18 (gK3 hg (k := 0) (by decide) rfl) ⟨ble rfl, ble rfl⟩ dX2_init_33 ?_
  refine aw_dup rfl dX2_init_36 ?_
  refine aw_iconst (v := 0) (by decide) dX2_init_37 ?_
  refine aw_i1 (0, 0) (15, 55) kX2_30 ⟨ble rfl, ble rfl⟩ (ble rfl) ⟨ble rfl, ble rfl⟩ dX2_init_38 (i_man (kp (gK3 hg (k := 0) (by decide) rfl) (by omega)) pX3_9_3i rfl ?_)
  have r0 : (pI (p0 ν0 (g + 3)) (g + 3) 0 0).2.2 g 5 = some (g + 1) := by
    show (p0 ν0 (g + 3)).2.2 g 5 = _
    rw [(sm_p0 (P := fun q => q ≠ g + 3) (fun h => h rfl) g (by show g ≠ g + 3; omega)).2.2]; exact I0.2.2.1.1
  refine aw_astore_n (ble rfl) dX2_init_41 ?_
  refine aw_aload_n rfl dX2_init_42 ?_
  refine aw_getR gX2_20_2 (kp (kG hg) (by omega)) rfl (r0) dX2_init_43 ?_
  refine aw_iconst (v := 0) (by decide) dX2_init_46 ?_
  refine aw_aload_n rfl dX2_init_47 ?_
  refine aw_aastoreN (t := 0) (c := 0) (kp (kGk hg) (by omega)) (fun _ => rfl) rfl (by decide) (by decide) (kp (gK3 hg (k := 0) (by decide) rfl) (by omega)) rfl (Or.inl rfl) dX2_init_48 ?_
  have I1 := I0.step (by decide)
  have I1 : GI1 μ g 1 (pR (pI (p0 ν0 (g + 3)) (g + 3) 0 0) (g + 1) 0 (some (g + 3))) := I1
  generalize pR (pI (p0 ν0 (g + 3)) (g + 3) 0 0) (g + 1) 0 (some (g + 3)) = ν1 at I1 ⊢
  refine aw_aload_n rfl dX2_init_49 ?_
  refine aw_getR gX2_20_2 (kp (kG hg) (by omega)) rfl (I1.2.2.1.1) dX2_init_50 ?_
  refine aw_iconst (v := 1) (by decide) dX2_init_53 ?_
  refine aw_newP (m := g + 3 + 1) (14, 54) nX2_33 (gK3 hg (k := 1) (by decide) rfl) ⟨ble rfl, ble rfl⟩ dX2_init_54 ?_
  refine aw_dup rfl dX2_init_57 ?_
  refine aw_iconst (v := 1) (by decide) dX2_init_58 ?_
  refine aw_i1 (0, 0) (14, 54) kX2_35 ⟨ble rfl, ble rfl⟩ (ble rfl) ⟨ble rfl, ble rfl⟩ dX2_init_59 (i_son (kp (gK3 hg (k := 1) (by decide) rfl) (by omega)) pX3_9_7i rfl ?_)
  refine aw_aastoreN (t := 0) (c := 1) (kp (kGk hg) (by omega)) (fun _ => rfl) rfl (by decide) (by decide) (kp (gK3 hg (k := 1) (by decide) rfl) (by omega)) rfl (Or.inr ⟨rfl, by decide⟩) dX2_init_62 ?_
  have I2 := I1.step (by decide)
  have I2 : GI1 μ g 2 (pR (pI (p0 ν1 (g + 3 + 1)) (g + 3 + 1) 0 1) (g + 1) 1 (some (g + 3 + 1))) := I2
  generalize pR (pI (p0 ν1 (g + 3 + 1)) (g + 3 + 1) 0 1) (g + 1) 1 (some (g + 3 + 1)) = ν2 at I2 ⊢
  refine aw_aload_n rfl dX2_init_63 ?_
  refine aw_getR gX2_20_2 (kp (kG hg) (by omega)) rfl (I2.2.2.1.1) dX2_init_64 ?_
  refine aw_iconst (v := 2) (by decide) dX2_init_67 ?_
  refine aw_newP (m := g + 3 + 2) (13, 53) nX2_36 (gK3 hg (k := 2) (by decide) rfl) ⟨ble rfl, ble rfl⟩ dX2_init_68 ?_
  refine aw_dup rfl dX2_init_71 ?_
  refine aw_iconst (v := 2) (by decide) dX2_init_72 ?_
  refine aw_i1 (0, 0) (13, 53) kX2_38 ⟨ble rfl, ble rfl⟩ (ble rfl) ⟨ble rfl, ble rfl⟩ dX2_init_73 (i_drinker (kp (gK3 hg (k := 2) (by decide) rfl) (by omega)) pX3_9_1i rfl ?_)
  refine aw_aastoreN (t := 0) (c := 2) (kp (kGk hg) (by omega)) (fun _ => rfl) rfl (by decide) (by decide) (kp (gK3 hg (k := 2) (by decide) rfl) (by omega)) rfl (Or.inr ⟨rfl, by decide⟩) dX2_init_76 ?_
  have I3 := I2.step (by decide)
  have I3 : GI1 μ g 3 (pR (pI (p0 ν2 (g + 3 + 2)) (g + 3 + 2) 0 2) (g + 1) 2 (some (g + 3 + 2))) := I3
  generalize pR (pI (p0 ν2 (g + 3 + 2)) (g + 3 + 2) 0 2) (g + 1) 2 (some (g + 3 + 2)) = ν3 at I3 ⊢
  refine aw_aload_n rfl dX2_init_77 ?_
  refine aw_getR gX2_20_2 (kp (kG hg) (by omega)) rfl (I3.2.2.1.1) dX2_init_78 ?_
  refine aw_iconst (v := 3) (by decide) dX2_init_81 ?_
  refine aw_newP (m := g + 3 + 3) (12, 52) nX2_39 (gK3 hg (k := 3) (by decide) rfl) ⟨ble rfl, ble rfl⟩ dX2_init_82 ?_
  refine aw_dup rfl dX2_init_85 ?_
  refine aw_iconst (v := 3) (by decide) dX2_init_86 ?_
  refine aw_i1 (0, 0) (12, 52) kX2_41 ⟨ble rfl, ble rfl⟩ (ble rfl) ⟨ble rfl, ble rfl⟩ dX2_init_87 (i_woman (kp (gK3 hg (k := 3) (by decide) rfl) (by omega)) pX3_9_10i rfl ?_)
  refine aw_aastoreN (t := 0) (c := 3) (kp (kGk hg) (by omega)) (fun _ => rfl) rfl (by decide) (by decide) (kp (gK3 hg (k := 3) (by decide) rfl) (by omega)) rfl (Or.inr ⟨rfl, by decide⟩) dX2_init_90 ?_
  have I4 := I3.step (by decide)
  have I4 : GI1 μ g 4 (pR (pI (p0 ν3 (g + 3 + 3)) (g + 3 + 3) 0 3) (g + 1) 3 (some (g + 3 + 3))) := I4
  generalize pR (pI (p0 ν3 (g + 3 + 3)) (g + 3 + 3) 0 3) (g + 1) 3 (some (g + 3 + 3)) = ν4 at I4 ⊢
  refine aw_aload_n rfl dX2_init_91 ?_
  refine aw_getR gX2_20_2 (kp (kG hg) (by omega)) rfl (I4.2.2.1.1) dX2_init_92 ?_
  refine aw_iconst (v := 4) (by decide) dX2_init_95 ?_
  refine aw_newP (m := g + 3 + 4) (11, 51) nX2_42 (gK3 hg (k := 4) (by decide) rfl) ⟨ble rfl, ble rfl⟩ dX2_init_96 ?_
  refine aw_dup rfl dX2_init_99 ?_
  refine aw_iconst (v := 4) (by decide) dX2_init_100 ?_
  refine aw_i1 (0, 0) (11, 51) kX2_44 ⟨ble rfl, ble rfl⟩ (ble rfl) ⟨ble rfl, ble rfl⟩ dX2_init_101 (i_preacher (kp (gK3 hg (k := 4) (by decide) rfl) (by omega)) pX3_9_5i rfl ?_)
  refine aw_aastoreN (t := 0) (c := 4) (kp (kGk hg) (by omega)) (fun _ => rfl) rfl (by decide) (by decide) (kp (gK3 hg (k := 4) (by decide) rfl) (by omega)) rfl (Or.inr ⟨rfl, by decide⟩) dX2_init_104 ?_
  have I5 := I4.step (by decide)
  have I5 : GI1 μ g 5 (pR (pI (p0 ν4 (g + 3 + 4)) (g + 3 + 4) 0 4) (g + 1) 4 (some (g + 3 + 4))) := I5
  generalize pR (pI (p0 ν4 (g + 3 + 4)) (g + 3 + 4) 0 4) (g + 1) 4 (some (g + 3 + 4)) = ν5 at I5 ⊢
  refine aw_aload_n rfl dX2_init_105 ?_
  refine aw_getR gX2_20_2 (kp (kG hg) (by omega)) rfl (I5.2.2.1.1) dX2_init_106 ?_
  refine aw_iconst (v := 5) (by decide) dX2_init_109 ?_
  refine aw_newP (m := g + 3 + 5) (10, 50) nX2_45 (gK3 hg (k := 5) (by decide) rfl) ⟨ble rfl, ble rfl⟩ dX2_init_110 ?_
  refine aw_dup rfl dX2_init_113 ?_
  refine aw_iconst (v := 5) (by decide) dX2_init_114 ?_
  refine aw_i1 (0, 0) (10, 50) kX2_47 ⟨ble rfl, ble rfl⟩ (ble rfl) ⟨ble rfl, ble rfl⟩ dX2_init_115 (i_stranger (kp (gK3 hg (k := 5) (by decide) rfl) (by omega)) pX3_9_8i rfl ?_)
  refine aw_aastoreN (t := 0) (c := 5) (kp (kGk hg) (by omega)) (fun _ => rfl) rfl (by decide) (by decide) (kp (gK3 hg (k := 5) (by decide) rfl) (by omega)) rfl (Or.inr ⟨rfl, by decide⟩) dX2_init_118 ?_
  have I6 := I5.step (by decide)
  have I6 : GI1 μ g 6 (pR (pI (p0 ν5 (g + 3 + 5)) (g + 3 + 5) 0 5) (g + 1) 5 (some (g + 3 + 5))) := I6
  generalize pR (pI (p0 ν5 (g + 3 + 5)) (g + 3 + 5) 0 5) (g + 1) 5 (some (g + 3 + 5)) = ν6 at I6 ⊢
  have loop : ∀ j i (ν : Mem), i + j = 10 → GI2 μ g i ν → AW Sc mX2_init 121 [(0, .ref g), (1, .ref (g + 3)), (2, .int (nI i))] [] (Kp (g + 9 + i)) ν (j, 5 * j) Q := by
    intro j
    induction j with
    | zero =>
      intro i ν hi J
      obtain rfl : i = 10 := by omega
      refine aw_iload_n rfl dX2_init_121 ?_
      refine aw_bipush (v := 10) (by decide) dX2_init_122 ?_
      refine aw_icmp_ge 147 rfl dX2_init_124 (fun _ => ?_) (fun c_ => absurd ((by decide)) c_)
      refine aw_return dX2_init_147 rfl ?_
      exact hQ ν J.1.1 ⟨⟨J.1.2.2.1.1, J.1.2.2.1.2, fun k hk => (J.1.2.2.2 k hk).1, fun k hk => J.2 k hk⟩, fun k hk => (J.1.2.2.2 k hk).2, J.1.2.1⟩
    | succ j ih =>
      intro i ν hi J
      refine aw_iload_n rfl dX2_init_121 ?_
      refine aw_bipush (v := 10) (by decide) dX2_init_122 ?_
      refine aw_icmp_ge 147 rfl dX2_init_124 (fun c_ => absurd c_ (nI_ge (b := 10) (by omega) (by omega))) (fun _ => ?_)
      refine aw_aload_n rfl dX2_init_127 ?_
      refine aw_getR gX2_26_2 (kp (kG hg) (by omega)) rfl (J.1.2.2.1.2) dX2_init_128 ?_
      refine aw_iload_n rfl dX2_init_131 ?_
      refine aw_newP (m := g + 9 + i) (j, 5 * j) nX2_24 (kP hg (by omega)) ⟨by show j + 1 ≤ j + 1; omega, by show 5 * j + 5 ≤ 5 * (j + 1); omega⟩ dX2_init_132 ?_
      refine aw_dup rfl dX2_init_135 ?_
      refine aw_aload_n rfl dX2_init_136 ?_
      refine aw_i1 (0, 0) (j, 5 * j) kX2_48 ⟨ble rfl, ble rfl⟩ (ble rfl) ⟨by show 0 + j ≤ j; omega, by show 0 + 5 * j ≤ 5 * j; omega⟩ dX2_init_137 (i_person (kp (kP hg (by omega)) (by omega)) ?_)
      refine aw_aastoreN (t := 1) (c := i) (kp (kGp hg) (by omega)) (fun _ => rfl) rfl (by omega) (by decide) (kp (kP hg (by omega)) (by omega)) rfl (Or.inl rfl) dX2_init_140 ?_
      refine aw_iinc rfl (v := 1) (by decide) (ble rfl) dX2_init_141 ?_
      refine aw_goto 121 rfl dX2_init_144 ?_
      rw [nI_1]
      exact ih (i + 1) _ (by omega) (J.step (by omega))
  refine aw_iconst (v := 0) (by decide) dX2_init_119 ?_
  refine aw_istore_n (ble rfl) dX2_init_120 ?_
  exact loop 10 0 ν6 (by omega) ⟨I6, fun k hk => absurd hk (by omega)⟩
end Greens
