/-! THE ABSTRACT MACHINE, 3: a method's contract out of its walk; what stands behind a call -/
theorem lg_sl_cv (ad : Nat → Nat) : ∀ vs : List Value, (lg_sl (vs.map (cv ad))).length = (lg_sl vs).length
  | [] => rfl
  | v :: vs => by
    have ih := lg_sl_cv ad vs
    have hc := lg_cat ad v
    simp only [List.map_cons, lg_sl, List.flatMap_cons, List.length_append] at ih ⊢
    rw [ih, hc]
    split <;> simp
theorem AM.of {Sc : SCR} {M : MD} {av : List Value} {K : List kd} {μ : Mem} {n : Nat × Nat} {Q : PQ} (hy : plainName M.1.cls = true) (hlen : (lg_sl av).length ≤ M.2.2.1) (h : AW Sc M 0 (lv_args 0 av) [] K μ n Q) : AM Sc M av K μ n Q := by
  intro l G
  refine Met.ofW (cc := M.2.1) (maxL := M.2.2.1) (ret := M.2.2.2.1) hy rfl ?_
  intro p e s m args below meth c s₁ B hml hv
  obtain ⟨rfl, h1, h2, h3, h4, h5, h6⟩ := hv
  have hts := atoms_spec (ws := wsM M) B.pre
  have hC : Cx M p (rmOf M n) s m (av.map (cv G.1)).toArray meth c := ⟨B.exec, B.bytes, hml, findClass_of_methodNamed B.named, fun w hw => hts w (List.mem_cons_of_mem _ hw), B.returns, B.notSynchronized, (name_of_methodNamed B.named B.method).1, Nat.le_refl _, Nat.le_refl _⟩
  have hD : Dy Sc G s s.heap [] K μ := ⟨h1, h2, va_S.rf, h3, by omega, h4, h5, h6⟩
  have hl := lv_entry (av.map (cv G.1)) (n := M.2.2.1) (by rw [lg_sl_cv]; exact hlen)
  rw [lv_args_cv] at hl
  rw [lg_entry_eq]
  refine h p l e (rmOf M n) s m _ below meth c s.heap [] 0 0 _ G _ hC hD ⟨by show 0 + n.1 ≤ n.1; omega, by show 0 + n.2 ≤ n.2; omega⟩ hl ?_
  intro v pc' ls' H' locs' cells' slots' K' μ' hR hQ hD' hn
  obtain ⟨hx, hb, -, -, -, hr, hlk, -⟩ := hC
  refine W.widen (k := n.1) (n := n.2) hn.1 hn.2 ?_
  have hq : ∀ t : State, t.heap = H' → s.WarmedH t.vm → QcOf G Q (av.map (cv G.1)).toArray s (.returned (v.map (cv G.1))) t := fun t ht _ => ⟨⟨v, K', μ', rfl, hQ, by rw [ht]; exact hD'.2.1, by rw [ht]; exact hD'.2.2.2.1, hD'.2.2.2.2.2.1⟩, hD'.2.2.1.F ht⟩
  match v, hR, hq with
  | none, hR, hq => exact W.vret hx hb (by rw [hr]; exact hR.2) hq hD'.2.2.1.2.2 hR.1 hlk
  | some (.int x), hR, hq =>
    obtain ⟨hd, ty, h7, h8⟩ := hR
    exact W.zret hx hb (by rw [hr]; exact h7) h8 hq hD'.2.2.1.2.2 hd hlk
  | some (.long x), hR, hq => exact W.lret hx hb (by rw [hr]; exact hR.2) hq hD'.2.2.1.2.2 hR.1 hlk
  | some (.float _), hR, _ => exact absurd hR id
  | some (.double _), hR, _ => exact absurd hR id
  | some (.ref _), hR, _ => exact absurd hR id
  | some .null, hR, _ => exact absurd hR id
theorem aw_after {Sc : SCR} {p : Program} {l : Launch} {e : Env} {R : Room} {s : State} {m : MethodId} {args : Array Value} {below : List Frame} {meth : Method} {c : Code} {H : Heap} {locs : List Loc} {cells slots mc ms pc : Nat} {ls : Array Slot} {st0 rest : List Value} {a : Array Value} {Qf : State → Prop} {G : GT} {K : List kd} {μ : Mem} {Q' : PQ}
    (hr : va_Run p l e R s m args below meth c H locs cells slots mc ms (F0 m pc ls st0) (rest.map (cv G.1)) (QcOf G Q' a) (bA G)) (hD : Dy Sc G s H locs K μ)
    (kk : ∀ (v : Option Value) (K' : List kd) (μ' : Mem) (H' : Heap) (locs' : List Loc), Q' v K' μ' → Dy Sc G s H' locs' K' μ' → W p l e R s m args below meth c H' locs' (cells + mc) (slots + ms) Qf (F0 m (pc + 3) ls ((pushr v rest).map (cv G.1)))) :
    W p l e R s m args below meth c H locs cells slots Qf (F0 m pc ls st0) := by
  intro T hT X
  obtain ⟨v, st₀, t, T', L, h0, X', hL, e1, e2, ⟨⟨v', K', μ', hv, hQ, hP, hz, h4⟩, hz2, hk⟩, st⟩ := hr T hT X
  cases hv
  rw [h0] at hz2 hk
  obtain ⟨d1, d2, dS, d3, d4, d5, d6, d7⟩ := hD
  have hS' : va_S (bA G) s.heap T'.heap (locs ++ L) := ⟨Nat.le_trans dS.1 (by rw [e1]; exact hz2), fun q g1 g2 => by rw [e1, hk q (Nat.lt_of_lt_of_le g1 dS.1) g2]; exact dS.2.1 q g1 g2, fun q hq => by
      rcases List.mem_append.mp hq with h | h
      · exact dS.2.2 q h
      · exact hL q h⟩
  obtain ⟨t2, a1, b1⟩ := kk v' K' μ' T'.heap (locs ++ L) hQ ⟨d1, by rw [e1]; exact hP, hS', by rw [e1]; exact hz, d4, h4, d6, d7⟩ T' rfl X'
  refine ⟨t2, st t2 ?_, b1⟩
  cases v' with
  | none => exact a1
  | some w => exact a1
theorem Dy.toSt {Sc : SCR} {G : GT} {s U : State} {H : Heap} {locs : List Loc} {K : List kd} {μ : Mem} (h : Dy Sc G s H locs K μ) (hU : U.heap = H) (hW : s.WarmedH U.vm) : St Sc G U K μ := by
  obtain ⟨d1, d2, dS, d3, d4, d5, d6, d7⟩ := h
  exact ⟨d1.moved hW.alike, by rw [hU]; exact d2, by rw [hU]; exact d3, d5, d6, d7.warm hW (by rw [hU]; exact dS.1) (fun q h1 h2 => by rw [hU]; exact dS.2.1 q h1 h2)⟩
/-- the receiver at place q is an object of the class C -/
def Rcv (K : List kd) (C : String) (q : Nat) : Prop := (∃ (ci : Nat) (r : vw_C), K[q]? = some (.inl ci) ∧ cls13[ci]? = some r ∧ r.1 = C) ∨ ∃ i, i < 15 ∧ q = 400 + i ∧ C = "java/lang/String"
theorem Rcv.ob {K : List kd} {C : String} {q ci : Nat} (h : K[q]? = some (.inl ci)) (hc : (cls13[ci]?).map (fun r => r.1) = some C) : Rcv K C q := by
  cases h2 : cls13[ci]? with
  | none => rw [h2] at hc; cases hc
  | some r => rw [h2] at hc; exact Or.inl ⟨ci, r, h, h2, Option.some.inj hc⟩
theorem Dy.recv {Sc : SCR} {G : GT} {s : State} {H : Heap} {locs : List Loc} {K : List kd} {μ : Mem} (h : Dy Sc G s H locs K μ) {C : String} {q : Nat} (hr : Rcv K C q) : ∃ cellB : Cell, H[G.1 q]? = some cellB ∧ cellB.vm.isStatics = false ∧ s.vm.findClass C = some cellB.cls := by
  obtain ⟨d1, d2, dS, d3, d4, d5, d6, d7⟩ := h
  rcases hr with ⟨ci, r, h1, h2, rfl⟩ | ⟨i, hi, rfl, rfl⟩
  · exact va_recv d1 d2 h2 (wl_get h1)
  · exact vk_recv (adK := fun i => G.1 (400 + i)) (i := i) d7.2.1 hi dS
theorem gi_app {l : List Cond} {M : MD} (h : ∀ w ∈ l, w ∈ ws0) (hc : cdW M ∈ ws0) : GoodIn ws0 (l ++ wsM M) := by
  intro w hw
  rcases List.mem_append.mp hw with hw | hw
  · exact ⟨h w hw, good_of_word (ws0_good (h w hw))⟩
  · exact goodIn0 hc w hw
def nPar (M : MD) (n : Nat) : Prop := M.1.cls ≠ "java/lang/invoke/MethodHandle" ∧ M.1.cls ≠ "java/lang/invoke/VarHandle" ∧ (parseMethodDescriptor M.1.desc).map (fun d => d.parameters.length) = some n
/-- links: of an own (or private) instance method, of a static one, of an overridden one, of a superclass's, of a constructor, of a nest mate's -/
def LkV (own : String) (idx : Nat) (M : MD) (n : Nat) : Prop := (∀ w ∈ ([.methodLink own idx M.1, .instanceMethod M.1, .selects M.1.cls M.1 M.1, .initialized M.1.cls] : List Cond), w ∈ ws0) ∧ cdW M ∈ ws0 ∧ nPar M n
def LkS (own : String) (idx : Nat) (M : MD) (n : Nat) : Prop := (∀ w ∈ ([.methodLink own idx M.1, .static M.1, .initialized M.1.cls] : List Cond), w ∈ ws0) ∧ cdW M ∈ ws0 ∧ nPar M n
def LkO (own : String) (idx : Nat) (C : String) (X M : MD) (n : Nat) : Prop := (∀ w ∈ ([.methodLink own idx X.1, .sameMethod X.1.cls X.1.cls X.1.name X.1.desc, .instanceMethod ⟨X.1.cls, X.1.name, X.1.desc⟩, .selects C X.1 M.1, .instanceMethod M.1, .initialized M.1.cls] : List Cond), w ∈ ws0) ∧ cdW M ∈ ws0 ∧ cdW X ∈ ws0 ∧ nPar X n
def LkSU (own : String) (idx : Nat) (M : MD) (n : Nat) : Prop := (∀ w ∈ ([.methodLink own idx M.1, .sameMethod M.1.cls M.1.cls M.1.name M.1.desc, .superclass own M.1.cls, .instanceMethod M.1, .initialized M.1.cls] : List Cond), w ∈ ws0) ∧ cdW M ∈ ws0 ∧ M.1.name ≠ "<init>" ∧ (parseMethodDescriptor M.1.desc).map (fun d => d.parameters.length) = some n
def LkI (own : String) (idx : Nat) (M : MD) (n : Nat) : Prop := (∀ w ∈ ([.methodLink own idx M.1, .instanceMethod M.1, .initialized M.1.cls] : List Cond), w ∈ ws0) ∧ cdW M ∈ ws0 ∧ M.1.name = "<init>" ∧ M.2.2.2.1 = none ∧ nPar M n
def LkIN (own : String) (idx : Nat) (M : MD) (n : Nat) : Prop := (∀ w ∈ ([.instanceMethod M.1, .initialized M.1.cls] : List Cond), w ∈ ws0) ∧ cdW M ∈ ws0 ∧ M.1.name = "<init>" ∧ M.2.2.2.1 = none ∧ nPar M n ∧ (own, idx, M.1) ∈ nestL
def LkSN (own : String) (idx : Nat) (M : MD) (n : Nat) : Prop := (∀ w ∈ ([.static M.1, .initialized M.1.cls] : List Cond), w ∈ ws0) ∧ cdW M ∈ ws0 ∧ nPar M n ∧ (own, idx, M.1) ∈ nestL
/-- the room below fits -/
abbrev Fit (M M' : MD) : Prop := M'.2.2.2.2.1 + 1 ≤ M.2.2.2.2.1 ∧ 8 + (M'.2.2.1 + 11) + M'.2.2.2.2.2 ≤ M.2.2.2.2.2
theorem st_cv {ad : Nat → Nat} {As rest : List Value} {q : Nat} : (As.reverse ++ .ref q :: rest).map (cv ad) = (As.map (cv ad)).reverse ++ .ref (ad q) :: rest.map (cv ad) := by
  simp [cv]
theorem st_cvS {ad : Nat → Nat} {As rest : List Value} : (As.reverse ++ rest).map (cv ad) = (As.map (cv ad)).reverse ++ rest.map (cv ad) := by
  simp
theorem cat_cv {ad : Nat → Nat} {rest : List Value} (h : (rest.map fun v => v.category).sum ≤ 8) : ((rest.map (cv ad)).map fun v => v.category).sum ≤ 8 := by
  rw [List.map_map]
  have e : ((fun v => Value.category v) ∘ cv ad) = fun v => Value.category v := by
    funext v
    exact lg_cat ad v
  rw [e]
  exact h
section ACalls
variable {Sc : SCR} {M M' X : MD} {pc idx k q : Nat} {lv : List (Nat × Value)} {As rest : List Value} {K : List kd} {μ : Mem} {n n1 n2 : Nat × Nat} {Q : PQ} {C : String}
theorem aw_cV (hk : LkV M.1.cls idx M' k) (hf : Fit M M') (hq : Rcv K M'.1.cls q) (h8 : (rest.map fun v => v.category).sum ≤ 8) (hlen : As.length = k) (hnn : n1.1 + n2.1 ≤ n.1 ∧ n1.2 + n2.2 ≤ n.2) (d : decode M.2.1 pc = .ok (.invokevirtual idx, 3))
    (h : AM Sc M' (.ref q :: As) K μ n1 (fun v K' μ' => AW Sc M (pc + 3) lv (pushr v rest) K' μ' n2 Q)) : AW Sc M pc lv (As.reverse ++ .ref q :: rest) K μ n Q := by
  intro p l e R s m args below meth c H locs cells slots Qf G ls hC hD hn hl hr
  obtain ⟨hx, hb, hml, hown, hts, -, -, -, hR1, hR2⟩ := id hC
  rw [st_cv]
  refine aw_after (va_runV (As := As.map (cv G.1)) (rest := rest.map (cv G.1)) (C := M'.1.cls) (own := M.1.cls) ⟨hx, hb, hml, hown, hts⟩ (h l G) (cwV k hts (gi_app hk.1 hk.2.1) rfl rfl rfl ⟨rfl, hk.2.2⟩ ⟨Nat.le_trans hf.1 hR1, Nat.le_trans hf.2 hR2⟩)
    ⟨FrameBlind_Pc _ _ _ _ _, hD.recv hq, fun U hU hW => ⟨rfl, hD.toSt hU hW⟩⟩ rfl (by rw [List.length_map]; exact hlen) hl.1 rfl (lv_room (cat_cv h8)) d ⟨by omega, by omega⟩) hD (fun v K' μ' H' locs' hQ hD' => ?_)
  exact hQ p l e R s m args below meth c H' locs' _ _ Qf G ls hC hD' ⟨by omega, by omega⟩ hl hr
theorem aw_cO (hk : LkO M.1.cls idx C X M' k) (hf : Fit M M') (hq : Rcv K C q) (h8 : (rest.map fun v => v.category).sum ≤ 8) (hlen : As.length = k) (hnn : n1.1 + n2.1 ≤ n.1 ∧ n1.2 + n2.2 ≤ n.2) (d : decode M.2.1 pc = .ok (.invokevirtual idx, 3))
    (h : AM Sc M' (.ref q :: As) K μ n1 (fun v K' μ' => AW Sc M (pc + 3) lv (pushr v rest) K' μ' n2 Q)) : AW Sc M pc lv (As.reverse ++ .ref q :: rest) K μ n Q := by
  intro p l e R s m args below meth c H locs cells slots Qf G ls hC hD hn hl hr
  obtain ⟨hx, hb, hml, hown, hts, -, -, -, hR1, hR2⟩ := id hC
  rw [st_cv]
  refine aw_after (va_runU (As := As.map (cv G.1)) (rest := rest.map (cv G.1)) (C := C) (own := M.1.cls) (owner := X.1.cls) (x := X.1) ⟨hx, hb, hml, hown, hts⟩ (h l G) (va_cwO k hts (gi_app hk.1 hk.2.1) rfl rfl rfl (b0 := X.2.1) (m0 := X.2.2.1) (r0 := X.2.2.2.1) hk.2.2.1 hk.2.2.2 ⟨Nat.le_trans hf.1 hR1, Nat.le_trans hf.2 hR2⟩)
    ⟨FrameBlind_Pc _ _ _ _ _, hD.recv hq, fun U hU hW => ⟨rfl, hD.toSt hU hW⟩⟩ rfl (by rw [List.length_map]; exact hlen) hl.1 rfl (lv_room (cat_cv h8)) d ⟨by omega, by omega⟩) hD (fun v K' μ' H' locs' hQ hD' => ?_)
  exact hQ p l e R s m args below meth c H' locs' _ _ Qf G ls hC hD' ⟨by omega, by omega⟩ hl hr
theorem aw_cS (hk : LkS M.1.cls idx M' k) (hf : Fit M M') (h8 : (rest.map fun v => v.category).sum ≤ 8) (hlen : As.length = k) (hnn : n1.1 + n2.1 ≤ n.1 ∧ n1.2 + n2.2 ≤ n.2) (d : decode M.2.1 pc = .ok (.invokestatic idx, 3))
    (h : AM Sc M' As K μ n1 (fun v K' μ' => AW Sc M (pc + 3) lv (pushr v rest) K' μ' n2 Q)) : AW Sc M pc lv (As.reverse ++ rest) K μ n Q := by
  intro p l e R s m args below meth c H locs cells slots Qf G ls hC hD hn hl hr
  obtain ⟨hx, hb, hml, hown, hts, -, -, -, hR1, hR2⟩ := id hC
  rw [st_cvS]
  refine aw_after (va_runS (As := As.map (cv G.1)) (rest := rest.map (cv G.1)) (own := M.1.cls) ⟨hx, hb, hml, hown, hts⟩ (h l G) (va_cwS k hts (gi_app hk.1 hk.2.1) rfl rfl rfl hk.2.2 ⟨Nat.le_trans hf.1 hR1, Nat.le_trans hf.2 hR2⟩)
    ⟨FrameBlind_Pc _ _ _ _ _, fun U hU hW => ⟨rfl, hD.toSt hU hW⟩⟩ rfl (by rw [List.length_map]; exact hlen) hl.1 rfl (lv_room (cat_cv h8)) d ⟨by omega, by omega⟩) hD (fun v K' μ' H' locs' hQ hD' => ?_)
  exact hQ p l e R s m args below meth c H' locs' _ _ Qf G ls hC hD' ⟨by omega, by omega⟩ hl hr
theorem aw_cSN (hk : LkSN M.1.cls idx M' k) (hf : Fit M M') (h8 : (rest.map fun v => v.category).sum ≤ 8) (hlen : As.length = k) (hnn : n1.1 + n2.1 ≤ n.1 ∧ n1.2 + n2.2 ≤ n.2) (d : decode M.2.1 pc = .ok (.invokestatic idx, 3))
    (h : AM Sc M' As K μ n1 (fun v K' μ' => AW Sc M (pc + 3) lv (pushr v rest) K' μ' n2 Q)) : AW Sc M pc lv (As.reverse ++ rest) K μ n Q := by
  intro p l e R s m args below meth c H locs cells slots Qf G ls hC hD hn hl hr
  obtain ⟨hx, hb, hml, hown, hts, -, -, -, hR1, hR2⟩ := id hC
  rw [st_cvS]
  have hNw := hD.2.2.2.2.2.2.2.2.2.2.2.2.1 _ hk.2.2.2
  refine aw_after (va_runSN (As := As.map (cv G.1)) (rest := rest.map (cv G.1)) (own := M.1.cls) (host := "EndlessTug") ⟨hx, hb, hml, hown, hts⟩ (h l G) ⟨va_cnB k hts (goodIn0 hk.2.1) rfl rfl rfl hNw (hts _ (hk.1 _ (by simp))) hk.2.2.1 ⟨Nat.le_trans hf.1 hR1, Nat.le_trans hf.2 hR2⟩, hts _ (hk.1 _ (by simp)), trivial⟩
    ⟨FrameBlind_Pc _ _ _ _ _, fun U hU hW => ⟨rfl, hD.toSt hU hW⟩⟩ rfl (by rw [List.length_map]; exact hlen) hl.1 rfl (lv_room (cat_cv h8)) d ⟨by omega, by omega⟩) hD (fun v K' μ' H' locs' hQ hD' => ?_)
  exact hQ p l e R s m args below meth c H' locs' _ _ Qf G ls hC hD' ⟨by omega, by omega⟩ hl hr
theorem aw_cSU {ci : Nat} (hk : LkSU M.1.cls idx M' k) (hf : Fit M M') (hq : K[q]? = some (.inl ci)) (hci : ci < 13) (h8 : (rest.map fun v => v.category).sum ≤ 8) (hlen : As.length = k) (hnn : n1.1 + n2.1 ≤ n.1 ∧ n1.2 + n2.2 ≤ n.2) (d : decode M.2.1 pc = .ok (.invokespecial idx, 3))
    (h : AM Sc M' (.ref q :: As) K μ n1 (fun v K' μ' => AW Sc M (pc + 3) lv (pushr v rest) K' μ' n2 Q)) : AW Sc M pc lv (As.reverse ++ .ref q :: rest) K μ n Q := by
  intro p l e R s m args below meth c H locs cells slots Qf G ls hC hD hn hl hr
  obtain ⟨hx, hb, hml, hown, hts, -, -, -, hR1, hR2⟩ := id hC
  rw [st_cv]
  have hc : cls13[ci]? = some cls13[ci] := List.getElem?_eq_getElem hci
  refine aw_after (va_runSU (As := As.map (cv G.1)) (rest := rest.map (cv G.1)) (C := cls13[ci].1) (own := M.1.cls) (hD.1.1 ci _ hc).2 ⟨hx, hb, hml, hown, hts⟩ (h l G) (va_cwSU k hts (gi_app hk.1 hk.2.1) rfl rfl rfl hk.2.2 ⟨Nat.le_trans hf.1 hR1, Nat.le_trans hf.2 hR2⟩)
    ⟨FrameBlind_Pc _ _ _ _ _, hD.recv (Or.inl ⟨ci, _, hq, hc, rfl⟩), fun U hU hW => ⟨rfl, hD.toSt hU hW⟩⟩ rfl (by rw [List.length_map]; exact hlen) hl.1 rfl (lv_room (cat_cv h8)) d ⟨by omega, by omega⟩) hD (fun v K' μ' H' locs' hQ hD' => ?_)
  exact hQ p l e R s m args below meth c H' locs' _ _ Qf G ls hC hD' ⟨by omega, by omega⟩ hl hr
theorem aw_cI (hk : LkI M.1.cls idx M' k) (hf : Fit M M') (h8 : (rest.map fun v => v.category).sum ≤ 8) (hlen : As.length = k) (hnn : n1.1 + n2.1 ≤ n.1 ∧ n1.2 + n2.2 ≤ n.2) (d : decode M.2.1 pc = .ok (.invokespecial idx, 3))
    (h : AM Sc M' (.ref q :: As) K μ n1 (fun v K' μ' => AW Sc M (pc + 3) lv (pushr v rest) K' μ' n2 Q)) : AW Sc M pc lv (As.reverse ++ .ref q :: rest) K μ n Q := by
  intro p l e R s m args below meth c H locs cells slots Qf G ls hC hD hn hl hr
  obtain ⟨hx, hb, hml, hown, hts, -, -, -, hR1, hR2⟩ := id hC
  rw [st_cv]
  obtain ⟨hk1, hk2, hk3, hk4, hk5⟩ := hk
  refine aw_after (va_runI (As := As.map (cv G.1)) (rest := rest.map (cv G.1)) (own := M.1.cls) ⟨hx, hb, hml, hown, hts⟩ (h l G) (cwI k hts (goodIn0 hk2) (by rw [← hk4]; rfl) rfl rfl (hts _ (hk1 _ (by simp))) (hts _ (hk1 _ (by simp))) (hts _ (hk1 _ (by simp))) hk3 hk5 ⟨Nat.le_trans hf.1 hR1, Nat.le_trans hf.2 hR2⟩)
    ⟨FrameBlind_Pc _ _ _ _ _, fun U hU hW => ⟨rfl, hD.toSt hU hW⟩⟩ rfl (by rw [List.length_map]; exact hlen) hl.1 rfl (lv_room (cat_cv h8)) d ⟨by omega, by omega⟩) hD (fun v K' μ' H' locs' hQ hD' => ?_)
  exact hQ p l e R s m args below meth c H' locs' _ _ Qf G ls hC hD' ⟨by omega, by omega⟩ hl hr
theorem aw_cIN (hk : LkIN M.1.cls idx M' k) (hf : Fit M M') (h8 : (rest.map fun v => v.category).sum ≤ 8) (hlen : As.length = k) (hnn : n1.1 + n2.1 ≤ n.1 ∧ n1.2 + n2.2 ≤ n.2) (d : decode M.2.1 pc = .ok (.invokespecial idx, 3))
    (h : AM Sc M' (.ref q :: As) K μ n1 (fun v K' μ' => AW Sc M (pc + 3) lv (pushr v rest) K' μ' n2 Q)) : AW Sc M pc lv (As.reverse ++ .ref q :: rest) K μ n Q := by
  intro p l e R s m args below meth c H locs cells slots Qf G ls hC hD hn hl hr
  obtain ⟨hx, hb, hml, hown, hts, -, -, -, hR1, hR2⟩ := id hC
  rw [st_cv]
  obtain ⟨hk1, hk2, hk3, hk4, hk5, hk6⟩ := hk
  have hNw := hD.2.2.2.2.2.2.2.2.2.2.2.2.1 _ hk6
  refine aw_after (va_runIN (As := As.map (cv G.1)) (rest := rest.map (cv G.1)) (own := M.1.cls) (host := "EndlessTug") ⟨hx, hb, hml, hown, hts⟩ (h l G) ⟨va_cnB k hts (goodIn0 hk2) (by rw [← hk4]; rfl) rfl rfl hNw (hts _ (hk1 _ (by simp))) hk5 ⟨Nat.le_trans hf.1 hR1, Nat.le_trans hf.2 hR2⟩, hk3, hts _ (hk1 _ (by simp))⟩
    ⟨FrameBlind_Pc _ _ _ _ _, fun U hU hW => ⟨rfl, hD.toSt hU hW⟩⟩ rfl (by rw [List.length_map]; exact hlen) hl.1 rfl (lv_room (cat_cv h8)) d ⟨by omega, by omega⟩) hD (fun v K' μ' H' locs' hQ hD' => ?_)
  exact hQ p l e R s m args below meth c H' locs' _ _ Qf G ls hC hD' ⟨by omega, by omega⟩ hl hr
end ACalls
