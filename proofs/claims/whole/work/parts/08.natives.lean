/-! THE ABSTRACT MACHINE, 6: Object's constructor, arraycopy, String constants, statics, the script -/
section ANat
variable {Sc : SCR} {M : MD} {pc idx ci k q : Nat} {lv : List (Nat × Value)} {st : List Value} {K : List kd} {μ : Mem} {n : Nat × Nat} {Q : PQ}
theorem aw_objInit (hw : ∀ w ∈ ([.methodLink M.1.cls idx Lib.objectInit, .instanceMethod Lib.objectInit, .code Lib.objectInit ⟨#[0xb1]⟩ 1 none] : List Cond), w ∈ ws0) (h8 : (st.map fun v => v.category).sum ≤ 8) (hf : 1 ≤ M.2.2.2.2.1 ∧ 20 ≤ M.2.2.2.2.2) (d : decode M.2.1 pc = .ok (.invokespecial idx, 3)) (h : AW Sc M (pc + 3) lv st K μ n Q) : AW Sc M pc lv (.ref q :: st) K μ n Q := by
  intro p l e R s m args below meth c H locs cells slots Qf G ls hC hD hn hl hr
  obtain ⟨hx, hb, hml, hown, hts, -, -, -, hR1, hR2⟩ := id hC
  have h9 := cat_cv (ad := G.1) h8
  refine W.objInit hx hb hown (hts _ (hw _ (by simp))) (hts _ (hw _ (by simp))) (hts _ (hw _ (by simp))) rfl (by rw [hml]; exact hl.1) rfl d (Nat.le_trans hf.1 hR1) (by show 2 * 0 + _ + 12 ≤ _; omega) ?_
  exact h p l e R s m args below meth c H locs cells slots Qf G ls hC hD hn hl hr
theorem aw_copyJ {q0 : Nat} {sp dp x : Int32} {N0 N1 : Nat} (hw : ∀ w ∈ ([.methodLink M.1.cls idx arraycopyName, .native arraycopyName, .static arraycopyName, .initialized "java/lang/System"] : List Cond), w ∈ ws0) (hK0 : K[q0]? = some (.inr (1, N0))) (hK1 : K[q]? = some (.inr (1, N1)))
    (h1 : ¬ sp < 0) (h2 : ¬ dp < 0) (h3 : ¬ x < 0) (h4 : sp.toNatClampNeg + x.toNatClampNeg ≤ N0) (h5 : dp.toNatClampNeg + x.toNatClampNeg ≤ N1) (h8 : (st.map fun v => v.category).sum ≤ 8) (hf : 1 ≤ M.2.2.2.2.1 ∧ 60 ≤ M.2.2.2.2.2) (d : decode M.2.1 pc = .ok (.invokestatic idx, 3))
    (h : AW Sc M (pc + 3) lv st K (pRow μ q (va_cpy (μ.2.1 q0) (μ.2.1 q) sp.toNatClampNeg dp.toNatClampNeg x.toNatClampNeg)) n Q) : AW Sc M pc lv (.int x :: .int dp :: .ref q :: .int sp :: .ref q0 :: st) K μ n Q := by
  intro p l e R s m args below meth c H locs cells slots Qf G ls hC hD hn hl hr
  obtain ⟨hx, hb, hml, hown, hts, -, -, -, hR1, hR2⟩ := id hC
  have h9 := cat_cv (ad := G.1) h8
  have nn : ∀ z : Int32, ¬ z < 0 → z.toInt = (z.toNatClampNeg : Int) := by
    intro z hz
    have hz0 : (0 : Int) ≤ z.toInt := by
      have := Int32.not_lt.mp hz
      simpa using Int32.le_iff_toInt_le.mp this
    show z.toInt = ((z.toInt.toNat : Nat) : Int)
    omega
  intro T hT X
  have hc0 : H[G.1 q0]? = some (arrV (G.2.1 1) N0 (fun j => .long (μ.2.1 q0 j))) := hD.2.1 q0 _ (wl_get hK0)
  have hc1 : H[G.1 q]? = some (arrV (G.2.1 1) N1 (fun j => .long (μ.2.1 q j))) := hD.2.1 q _ (wl_get hK1)
  obtain ⟨-, k0, hk0, cm0, hkk0⟩ := (hD.1.2 1 _ rfl).1 N0 (fun j => .long (μ.2.1 q0 j))
  obtain ⟨-, k1, hk1, cm1, hkk1⟩ := (hD.1.2 1 _ rfl).1 N1 (fun j => .long (μ.2.1 q j))
  obtain ⟨vm', X', step⟩ := X.arraycopy (index := idx) hx hown (hts _ (hw _ (by simp))) (hts _ (hw _ (by simp))) (hts _ (hw _ (by simp))) (hts _ (hw _ (by simp))) (src := G.1 q0) (dst := G.1 q) (cs := arrV (G.2.1 1) N0 (fun j => .long (μ.2.1 q0 j))) (cd := arrV (G.2.1 1) N1 (fun j => .long (μ.2.1 q j))) (srcPos := sp) (destPos := dp) (n := x) (by rw [hT]; exact hc0) (by rw [hT]; exact hc1)
    (fun _ h => by cases h) (fun _ h => by cases h) (fun h => by cases h) (fun h => by cases h) hk0 hk1 hkk0 hkk1 rfl h1 h2 h3
    (by rw [nn sp h1, nn x h3, arrV_size]; omega) (by rw [nn dp h2, nn x h3, arrV_size]; omega)
    (fun vm₁ _ i hi => by
      have e : (arrV (G.2.1 1) N0 (fun j => Value.long (μ.2.1 q0 j))).slots.getD (sp.toNatClampNeg + i) .null = .long (μ.2.1 q0 (sp.toNatClampNeg + i)) := by
        rw [Array.getD_eq_getD_getElem?, arrV_read _ _ (by omega)]
        rfl
      refine ⟨?_, ?_⟩
      · rw [e]
        rfl
      · rw [e]
        exact trivial)
    (g := F0 m pc ls (.int x :: .int dp :: .ref (G.1 q) :: .int sp :: .ref (G.1 q0) :: st.map (cv G.1))) rfl (by rw [hml]; exact hl.1) (rest := st.map (cv G.1)) rfl (by rw [hb]; exact d) (Nat.le_trans hf.1 hR1) (by
      have e9 : nativeFrameWords "java/lang/System" "arraycopy" 5 + 11 ≤ 52 := by decide +kernel
      show 2 * 0 + _ + _ ≤ _
      omega)
  have e1 : copied (arrV (G.2.1 1) N0 (fun j => Value.long (μ.2.1 q0 j))) (arrV (G.2.1 1) N1 (fun j => Value.long (μ.2.1 q j))) sp dp x = arrV (G.2.1 1) N1 (fun j => Value.long (va_cpy (μ.2.1 q0) (μ.2.1 q) sp.toNatClampNeg dp.toNatClampNeg x.toNatClampNeg j)) := va_copied (fun z => .long z) (G.2.1 1) (G.2.1 1) (μ.2.1 q0) (μ.2.1 q) h4
  rw [e1] at X' step
  have hl1 : G.1 q < H.size := (Array.getElem?_eq_some_iff.mp hc1).1
  generalize hce : arrV (G.2.1 1) N1 (fun j => Value.long (va_cpy (μ.2.1 q0) (μ.2.1 q) sp.toNatClampNeg dp.toNatClampNeg x.toNatClampNeg j)) = cE at X' step
  have hheap : ((T.setVm vm').setCell (G.1 q) cE).heap = H.setIfInBounds (G.1 q) cE := by rw [← hT]; rfl
  have oq : ∀ a : Nat, a ≠ G.1 q → (H.setIfInBounds (G.1 q) cE)[a]? = H[a]? := fun a ha => by simp [Array.getElem?_setIfInBounds, Ne.symm ha]
  have hD1 := hD.put (H1 := H.setIfInBounds (G.1 q) cE) (μ' := pRow μ q (va_cpy (μ.2.1 q0) (μ.2.1 q) sp.toNatClampNeg dp.toNatClampNeg x.toNatClampNeg)) hK1 (by
      show (H.setIfInBounds (G.1 q) cE)[G.1 q]? = some (arrV (G.2.1 1) N1 (fun j => .long ((pRow μ q (va_cpy (μ.2.1 q0) (μ.2.1 q) sp.toNatClampNeg dp.toNatClampNeg x.toNatClampNeg)).2.1 q j)))
      rw [Array.getElem?_setIfInBounds, if_pos rfl, if_pos hl1, ← hce]
      exact congrArg some (arrV_ext (fun j => by simp [pRow, va_up]))) (fun _ hq => cell_pRow μ _ hq) (by simp) oq 0
  obtain ⟨d1, d2, dS, d3⟩ := hD1
  have hb0 : bA G (G.1 q) := hD.D.2 q _ (wl_get hK1)
  have key := fun hDD => h p l e R s m args below meth c _ _ cells slots Qf G ls hC hDD hn hl hr _ hheap X'
  obtain ⟨t, a1, b1⟩ := key ⟨d1, d2, ⟨dS.1, dS.2.1, fun z hz => by
      rcases List.mem_append.mp hz with h | h
      · exact hD.2.2.1.2.2 z h
      · obtain ⟨w, -, hw⟩ := List.mem_map.mp h
        rw [← hw]
        exact hb0⟩, d3⟩
  exact ⟨t, step t a1, b1⟩
theorem aw_strV (i : Nat) (hi : i < 15) (hw : Cond.fieldLink M.1.cls idx "java/lang/String" "value" "[B" ∈ ws0) (d : decode M.2.1 pc = .ok (.getfield idx, 3)) (h : AW Sc M (pc + 3) lv (.ref (450 + i) :: st) K μ n Q) : AW Sc M pc lv (.ref (400 + i) :: st) K μ n Q :=
  fun p l e R s m args below meth c H locs cells slots Qf G ls hC hD hn hl hr => vk_getf hC.1 hC.2.1 ((hD.2.2.2.2.2.2.2.2.1).1 i hi).2.2.1 hD.2.2.1 hC.2.2.2.1 (hC.2.2.2.2.1 _ hw) (fun _ h => h) d (h p l e R s m args below meth c H locs cells slots Qf G ls hC hD hn hl hr)
theorem aw_strC (i : Nat) (hi : i < 15) (hw : Cond.fieldLink M.1.cls idx "java/lang/String" "coder" "B" ∈ ws0) (d : decode M.2.1 pc = .ok (.getfield idx, 3)) (h : AW Sc M (pc + 3) lv (.int 0 :: st) K μ n Q) : AW Sc M pc lv (.ref (400 + i) :: st) K μ n Q :=
  fun p l e R s m args below meth c H locs cells slots Qf G ls hC hD hn hl hr => vk_getf hC.1 hC.2.1 ((hD.2.2.2.2.2.2.2.2.1).1 i hi).2.1 hD.2.2.1 hC.2.2.2.1 (hC.2.2.2.2.1 _ hw) (fun _ h => h) d (h p l e R s m args below meth c H locs cells slots Qf G ls hC hD hn hl hr)
theorem aw_strL (i : Nat) (hi : i < 15) (d : decode M.2.1 pc = .ok (.arraylength, 1)) (h : AW Sc M (pc + 1) lv (.int (nI (sLen.getD i 0)) :: st) K μ n Q) : AW Sc M pc lv (.ref (450 + i) :: st) K μ n Q :=
  fun p l e R s m args below meth c H locs cells slots Qf G ls hC hD hn hl hr => va_tlen hC.1 hC.2.1 ((hD.2.2.2.2.2.2.2.2.1).1 i hi).2.2.2 hD.2.2.1 rfl d (h p l e R s m args below meth c H locs cells slots Qf G ls hC hD hn hl hr)
theorem aw_strB (i : Nat) (hi : i < 15) {j : Int32} (hj : vp_in j (sLen.getD i 0)) (d : decode M.2.1 pc = .ok (.baload, 1)) (h : AW Sc M (pc + 1) lv (.int ((sByt.getD i []).getD j.toNatClampNeg 0) :: st) K μ n Q) : AW Sc M pc lv (.int j :: .ref (450 + i) :: st) K μ n Q :=
  fun p l e R s m args below meth c H locs cells slots Qf G ls hC hD hn hl hr => va_tb hC.1 hC.2.1 ((hD.2.2.2.2.2.2.2.2.1).1 i hi).2.2.2 hD.2.2.1 hj rfl d (h p l e R s m args below meth c H locs cells slots Qf G ls hC hD hn hl hr)
theorem aw_compact (hw : Cond.fieldLink M.1.cls idx "java/lang/String" "COMPACT_STRINGS" "Z" ∈ ws0) (d : decode M.2.1 pc = .ok (.getstatic idx, 3)) (h : AW Sc M (pc + 3) lv (.int 1 :: st) K μ n Q) : AW Sc M pc lv st K μ n Q :=
  fun p l e R s m args below meth c H locs cells slots Qf G ls hC hD hn hl hr => va_gets hC.1 hC.2.1 hD.2.2.2.2.2.2.2.2.2.1 hD.2.2.1 hC.2.2.2.1 (hC.2.2.2.2.1 _ hw) (fun _ h => h) d (h p l e R s m args below meth c H locs cells slots Qf G ls hC hD hn hl hr)
theorem aw_former (hw : Cond.fieldLink M.1.cls idx "jdk/internal/util/Preconditions" "SIOOBE_FORMATTER" "Ljava/util/function/BiFunction;" ∈ ws0) (d : decode M.2.1 pc = .ok (.getstatic idx, 3)) (h : ∀ v, AW Sc M (pc + 3) lv (v :: st) K μ n Q) : AW Sc M pc lv st K μ n Q := by
  intro p l e R s m args below meth c H locs cells slots Qf G ls hC hD hn hl hr
  rcases hD.2.2.2.2.2.2.2.2.2.2.1 with h4 | h4
  · exact va_gets hC.1 hC.2.1 h4 hD.2.2.1 hC.2.2.2.1 (hC.2.2.2.2.1 _ hw) (fun _ h => h) d (h .null p l e R s m args below meth c H locs cells slots Qf G ls hC hD hn hl hr)
  · exact va_gets hC.1 hC.2.1 h4 hD.2.2.1 hC.2.2.2.1 (hC.2.2.2.2.1 _ hw) (fun _ h => h) d (h (.ref 499) p l e R s m args below meth c H locs cells slots Qf G ls hC hD hn hl hr)
theorem aw_sld {i : Int32} (hi : vp_in i Sc.1) (d : decode M.2.1 pc = .ok (.iaload, 1)) (h : AW Sc M (pc + 1) lv (.int (Sc.2 i.toNatClampNeg) :: st) K μ n Q) : AW Sc M pc lv (.int i :: .ref 999 :: st) K μ n Q := by
  intro p l e R s m args below meth c H locs cells slots Qf G ls hC hD hn hl hr
  have hX := hD.2.2.2.2.2.2.2.2.2.2.2.1
  exact va_sld hC.1 hC.2.1 hX.1 hX.2.2 (Nat.not_le.mpr hX.2.1) hD.2.2.1 hi d (h p l e R s m args below meth c H locs cells slots Qf G ls hC hD hn hl hr)
theorem aw_slen (d : decode M.2.1 pc = .ok (.arraylength, 1)) (h : AW Sc M (pc + 1) lv (.int (nI Sc.1) :: st) K μ n Q) : AW Sc M pc lv (.ref 999 :: st) K μ n Q := by
  intro p l e R s m args below meth c H locs cells slots Qf G ls hC hD hn hl hr
  have hX := hD.2.2.2.2.2.2.2.2.2.2.2.1
  exact va_slen hC.1 hC.2.1 hX.1 hX.2.2 (Nat.not_le.mpr hX.2.1) hD.2.2.1 d (h p l e R s m args below meth c H locs cells slots Qf G ls hC hD hn hl hr)
end ANat
