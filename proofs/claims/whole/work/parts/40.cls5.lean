/-! THE CLASS, 5: frames, the knot moves, somebody is called out -/
/-- a method whose class has rows among the natives, though she has none -/
theorem metF {l : Launch} {y : MethodName} {ws ws' : List Cond} {rm : Room} {Pc : Array Value → State → Prop} {Qc : Array Value → State → Outcome → State → Prop} {mc ms : Nat} {free : Addr → Prop} {cc : ByteArray} {maxL : Nat} {ret : Option FieldType}
    (hy : plainFor y = true) (hw : ws = Cond.code y cc maxL ret :: ws')
    (body : ∀ p e s m args below meth c s₁, BodyLoose p l y (headSpec ws rm) cc maxL ret e s m args below meth c s₁ → c.maxLocals = maxL → Pc args s →
      W p l e (headSpec ws rm).room s m args below meth c s.heap [] 0 0 (MQ below Qc args s mc ms free) (entryFrame m args maxL)) : Met l y ws rm Pc Qc mc ms free := by
  refine MetFree.of_bodySF (code := cc) (maxLocals := maxL) (ret := ret) hy (fun args s m h hn => ?_) (fun p e s m args below meth c s₁ B hml hP _ => ?_)
  · obtain ⟨meth, c, h1, h2, h3, h4, h5, h6, -, -⟩ := Cond.code_spec hn (atoms_spec (ws := ws) h _ (by rw [hw]; exact List.mem_cons_self))
    exact ⟨meth, c, h1, h2, h3, h4, h5, h6⟩
  · obtain ⟨t, a1, o, b1, b2, b3⟩ := body p e s m args below meth c s₁ B hml hP s₁ (by rw [B.state]; rfl) (Stand.of_body B)
    exact ⟨t, o, a1, b1, b2, ⟨b3.1, b3.2⟩⟩
theorem AM.ofF {Sc : SCR} {M : MD} {av : List Value} {K : List kd} {μ : Mem} {n : Nat × Nat} {Q : PQ} (hy : plainFor M.1 = true) (hlen : (lg_sl av).length ≤ M.2.2.1) (h : AW Sc M 0 (lv_args 0 av) [] K μ n Q) : AM Sc M av K μ n Q := by
  intro l G
  refine metF (cc := M.2.1) (maxL := M.2.2.1) (ret := M.2.2.2.1) hy rfl ?_
  intro p e s m args below meth c s₁ B hml hv
  obtain ⟨rfl, h1, h2, h3, h4, h5, h6⟩ := hv
  have hts := atoms_spec (ws := wsM M) B.pre
  have hC : Cx M p (rmOf M n) s m (av.map (cv G.1)).toArray meth c := ⟨B.exec, B.bytes, hml, findClass_of_methodNamed B.named, fun w hw => hts w (List.mem_cons_of_mem _ hw), B.returns, B.notSynchronized, (name_of_methodNamed B.named B.method).1, Nat.le_refl _, Nat.le_refl _⟩
  have hD : Dy Sc G s s.heap [] K μ := ⟨h1, h2, va_S.rf, h3, by omega, h4, h5, h6⟩
  have hl := lv_entry (av.map (cv G.1)) (n := M.2.2.1) (by rw [lg_sl_cv]; exact hlen)
  rw [lv_args_cv] at hl
  rw [lg_entry_eq]
  refine h p l e (rmOf M n) s m _ below meth c s.heap [] 0 0 _ G _ hC hD ⟨by show 0 + n.1 ≤ n.1; omega, by show 0 + n.2 ≤ n.2; omega⟩ hl ?_
  intro v pc' ls' H' locs' cells' slots' K' μ' hR hQ hD' hn
  obtain ⟨hx, hb, -, -, -, hr, hlk, -⟩ := hC
  refine W.widen (k := n.1) (n := n.2) hn.1 hn.2 ?_
  have hq : ∀ t : State, t.heap = H' → s.WarmedH t.vm → QcOf G Q (av.map (cv G.1)).toArray s (.returned (v.map (cv G.1))) t := fun t ht _ => ⟨⟨v, K', μ', rfl, hQ, by rw [ht]; exact hD'.2.1, by rw [ht]; exact hD'.2.2.2.1, hD'.2.2.2.2.2.1⟩, hD'.2.2.1.F ht⟩
  match v, hR, hq with
  | none, hR, hq => exact W.vret hx hb (by rw [hr]; exact hR.2) hq hD'.2.2.1.2.2 hR.1 hlk
  | some (.int x), hR, hq =>
    obtain ⟨hd, ty, h7, h8⟩ := hR
    exact W.zret hx hb (by rw [hr]; exact h7) h8 hq hD'.2.2.1.2.2 hd hlk
  | some (.long x), hR, hq => exact W.lret hx hb (by rw [hr]; exact hR.2) hq hD'.2.2.1.2.2 hR.1 hlk
  | some (.float _), hR, _ => exact absurd hR id
  | some (.double _), hR, _ => exact absurd hR id
  | some (.ref _), hR, _ => exact absurd hR id
  | some .null, hR, _ => exact absurd hR id
section Nulls
variable {Sc : SCR} {M : MD} {pc : Nat} {lv : List (Nat × Value)} {st : List Value} {K : List kd} {μ : Mem} {n : Nat × Nat} {Q : PQ}
theorem aw_aload_nN {k : Fin 4} (hv : lget lv (k : Nat) = some .null) (d : decode M.2.1 pc = .ok (.aload_n k, 1)) (h : AW Sc M (pc + 1) lv (.null :: st) K μ n Q) : AW Sc M pc lv st K μ n Q :=
  fun p l e R s m args below meth c H locs cells slots Qf G ls hC hD hn hl hr => lv_aload_nN hC.1 hC.2.1 d rfl (lv_ld hl hv) (h p l e R s m args below meth c H locs cells slots Qf G ls hC hD hn hl hr)
theorem aw_astore_nN {k : Fin 4} (hk : (k : Nat) < M.2.2.1) (d : decode M.2.1 pc = .ok (.astore_n k, 1)) (h : AW Sc M (pc + 1) (lset1 lv (k : Nat) .null) st K μ n Q) : AW Sc M pc lv (.null :: st) K μ n Q :=
  fun p l e R s m args below meth c H locs cells slots Qf G ls hC hD hn hl hr => lv_astore_nN hC.1 hC.2.1 d rfl hl hk rfl (fun ls' hl' => h p l e R s m args below meth c H locs cells slots Qf G ls' hC hD hn (lv_st1 hl') hr)
end Nulls
theorem manP_c : ∀ t : Nat, t < 100 → ∀ g : Nat, g < 21 → (if nI g - nI t / 10 < 0 then 0 else nI g - nI t / 10) = nI (g - t / 10) := by decide +kernel
theorem manP_b {s : Nat → Int32} {k : Nat} (h : WFp s k) : ∃ c : Nat, c ≤ 20 ∧ manP s k = nI c := by
  obtain ⟨-, -, -, ⟨t, ht, htt⟩, g, hg1, hg2, hg⟩ := h
  unfold manP
  rw [htt, hg, manP_c t (by omega) g (by omega)]
  exact ⟨_, by omega, rfl⟩
theorem pulls_b {s : Nat → Int32} {k : Nat} (h : WFp s k) : ∃ c : Nat, c ≤ 44 ∧ pulls s k = nI c := by
  obtain ⟨c, hc, hm⟩ := manP_b h
  unfold pulls
  rw [hm]
  have e2 : nI c + 2 = nI (c + 2) := nI_add c 2
  split
  · exact ⟨c + 2, by omega, e2⟩
  split
  · split
    · exact ⟨1, by omega, rfl⟩
    · exact ⟨c, by omega, rfl⟩
  split
  · split
    · exact ⟨c + 4, by omega, nI_add c 4⟩
    · exact ⟨c, by omega, Int32.add_zero _⟩
  split
  · split
    · refine ⟨2 * (c + 2), by omega, ?_⟩
      rw [e2]
      exact pk_mul 2 (c + 2)
    · exact ⟨c + 2, by omega, e2⟩
  split
  · split
    · exact ⟨0, by omega, rfl⟩
    · split
      · exact ⟨1, by omega, rfl⟩
      · exact ⟨c, by omega, rfl⟩
  exact ⟨c, by omega, rfl⟩
theorem sideP_b {s : Nat → Int32} (hW : WFs s) (x : Int32) : ∀ k, k ≤ mny s → ∃ c : Nat, c ≤ 44 * k ∧ sideP s x k = nI c
  | 0, _ => ⟨0, by omega, rfl⟩
  | k + 1, hk => by
    obtain ⟨c, hc, e⟩ := sideP_b hW x k (by omega)
    obtain ⟨d, hd, e2⟩ := pulls_b (hW.2.2.2.2 k (by omega))
    rw [sideP, e]
    split
    · rw [e2]
      exact ⟨c + d, by omega, nI_add c d⟩
    · exact ⟨c, by omega, Int32.add_zero _⟩
def kGn (kn more sl : Int32) : Int32 :=
  let way := if more < 0 then -more - sl else more - sl
  let far := if way < 0 then 0 else way
  held (kn + (if more < 0 then -far else far)) (-9999) 9999
theorem knotG_k (m : Nat) (s : Nat → Int32) : knotG m s = kGn (s 1) (sideP s 1 m - sideP s 0 m) (s 2) := rfl
section KG
variable {kn more sl : Int32}
theorem kG_1 (hm : -440 ≤ more.toInt ∧ more.toInt ≤ 440) (hs : 0 ≤ sl.toInt ∧ sl.toInt ≤ 99) (hk : -9999 ≤ kn.toInt ∧ kn.toInt ≤ 9999) (h : sl < more) : kGn kn more sl = if kn + more - sl < 9999 then kn + more - sl else 9999 := by
  have h := (fa_lt _ _).mp h
  have c1 : ¬ more < 0 := by rw [fa_lt]; show ¬ _ < (0 : Int); omega
  have e1 : (more - sl).toInt = more.toInt - sl.toInt := fb_subI (by omega) (by omega)
  have c2 : ¬ more - sl < 0 := by rw [fa_lt, e1]; show ¬ _ < (0 : Int); omega
  have e2 : (kn + more).toInt = kn.toInt + more.toInt := fb_addI (by omega) (by omega)
  have e3 : (kn + more - sl).toInt = kn.toInt + more.toInt - sl.toInt := by rw [fb_subI (by omega) (by omega), e2]
  have e4 : kn + (more - sl) = kn + more - sl := by
    rw [fa_eq, e3, fb_addI (by omega) (by omega), e1]; omega
  unfold kGn held
  simp only [if_neg c1, if_neg c2, e4]
  have c3 : ¬ kn + more - sl < -9999 := by rw [fa_lt, e3]; show ¬ _ < (-9999 : Int); omega
  rw [if_neg c3]
  by_cases c4 : kn + more - sl < 9999
  · rw [if_pos c4, if_neg (fun z => absurd (Int32.lt_trans z c4) (Int32.lt_irrefl))]
  · rw [if_neg c4]
    by_cases c5 : 9999 < kn + more - sl
    · rw [if_pos c5]
    · rw [if_neg c5]
      exact Int32.le_antisymm (Int32.not_lt.mp c5) (Int32.not_lt.mp c4)
theorem kG_2 (hm : -440 ≤ more.toInt ∧ more.toInt ≤ 440) (hs : 0 ≤ sl.toInt ∧ sl.toInt ≤ 99) (hk : -9999 ≤ kn.toInt ∧ kn.toInt ≤ 9999) (h : sl < -more) : kGn kn more sl = if -9999 < kn + more + sl then kn + more + sl else -9999 := by
  have h := (fa_lt _ _).mp h
  have e0 : (-more).toInt = -more.toInt := fb_negI (by omega)
  rw [e0] at h
  have c1 : more < 0 := by rw [fa_lt]; show _ < (0 : Int); omega
  have e1 : (-more - sl).toInt = -more.toInt - sl.toInt := by rw [fb_subI (by omega) (by omega), e0]
  have c2 : ¬ -more - sl < 0 := by rw [fa_lt, e1]; show ¬ _ < (0 : Int); omega
  have e2 : (kn + more).toInt = kn.toInt + more.toInt := fb_addI (by omega) (by omega)
  have e3 : (kn + more + sl).toInt = kn.toInt + more.toInt + sl.toInt := by rw [fb_addI (by omega) (by omega), e2]
  have e5 : (-(-more - sl)).toInt = more.toInt + sl.toInt := by rw [fb_negI (by omega), e1]; omega
  have e4 : kn + -(-more - sl) = kn + more + sl := by
    rw [fa_eq, e3, fb_addI (by omega) (by omega), e5]; omega
  unfold kGn held
  simp only [if_pos c1, if_neg c2, e4]
  have c3 : ¬ 9999 < kn + more + sl := by rw [fa_lt, e3]; show ¬ (9999 : Int) < _; omega
  by_cases c4 : -9999 < kn + more + sl
  · rw [if_pos c4, if_neg (fun z => absurd (Int32.lt_trans z c4) (Int32.lt_irrefl)), if_neg c3]
  · rw [if_neg c4]
    by_cases c5 : kn + more + sl < -9999
    · rw [if_pos c5]
    · rw [if_neg c5, if_neg c3]
      exact Int32.le_antisymm (Int32.not_lt.mp c4) (Int32.not_lt.mp c5)
theorem kG_3 (hm : -440 ≤ more.toInt ∧ more.toInt ≤ 440) (hs : 0 ≤ sl.toInt ∧ sl.toInt ≤ 99) (hk : -9999 ≤ kn.toInt ∧ kn.toInt ≤ 9999) (h1 : ¬ sl < more) (h2 : ¬ sl < -more) : kGn kn more sl = kn := by
  rw [fa_lt] at h1 h2
  have e0 : (-more).toInt = -more.toInt := fb_negI (by omega)
  rw [e0] at h2
  have hz : kn + 0 = kn := Int32.add_zero _
  have hk1 : ¬ kn < -9999 := by rw [fa_lt]; show ¬ _ < (-9999 : Int); omega
  have hk2 : ¬ 9999 < kn := by rw [fa_lt]; show ¬ (9999 : Int) < _; omega
  unfold kGn held
  by_cases c1 : more < 0
  · have e1 : (-more - sl).toInt = -more.toInt - sl.toInt := by rw [fb_subI (by omega) (by omega), e0]
    simp only [if_pos c1]
    have e : (if -more - sl < 0 then 0 else -more - sl) = 0 := by
      split
      · rfl
      · next c =>
        rw [fa_lt, e1] at c
        have c : ¬ -more.toInt - sl.toInt < 0 := c
        rw [fa_eq, e1]
        show _ = (0 : Int)
        omega
    rw [e, show -(0 : Int32) = 0 by decide, hz, if_neg hk1, if_neg hk2]
  · have e1 : (more - sl).toInt = more.toInt - sl.toInt := fb_subI (by omega) (by omega)
    simp only [if_neg c1]
    have e : (if more - sl < 0 then 0 else more - sl) = 0 := by
      split
      · rfl
      · next c =>
        rw [fa_lt, e1] at c
        have c : ¬ more.toInt - sl.toInt < 0 := c
        rw [fa_eq, e1]
        show _ = (0 : Int)
        omega
    rw [e, hz, if_neg hk1, if_neg hk2]
end KG
/-- only green g has changed -/
def Fr (g : Nat) (μ μ' : Mem) : Prop := (∀ q, q ≠ g → ¬ (g + 9 ≤ q ∧ q < g + 19) → μ'.1 q = μ.1 q) ∧ μ'.2.1 = μ.2.1 ∧ ∀ q, ¬ (g + 9 ≤ q ∧ q < g + 19) → μ'.2.2 q = μ.2.2 q
theorem Fr.refl (g : Nat) (μ : Mem) : Fr g μ μ := ⟨fun _ _ _ => rfl, rfl, fun _ _ => rfl⟩
theorem Fr.trans {g : Nat} {μ μ' μ'' : Mem} (h : Fr g μ μ') (h2 : Fr g μ' μ'') : Fr g μ μ'' := ⟨fun q a b => (h2.1 q a b).trans (h.1 q a b), h2.2.1.trans h.2.1, fun q a => (h2.2.2 q a).trans (h.2.2 q a)⟩
theorem Fr.row {g q : Nat} {μ : Mem} {f : Nat → Int32} (h : q = g ∨ (g + 9 ≤ q ∧ q < g + 19)) : Fr g μ (rowI μ q f) := ⟨fun p a b => rowI_ne _ _ (by rintro rfl; exact h.elim a b), rfl, fun _ _ => rfl⟩
theorem GA.per {μ : Mem} {g i : Nat} {s t f : Nat → Int32} (h : GA μ g s) (ht : ∀ k, k < 5 + 5 * i + 1 ∨ 5 + 5 * i + 4 < k → t k = s k) (hf : FP f t i) : GA (rowI μ (g + 9 + i) f) g t := by
  obtain ⟨h1, h2, h3⟩ := h
  have hm : mny t = mny s := by unfold mny; rw [ht 4 (by omega)]
  refine ⟨h1, ?_, fun k hk => ?_⟩
  · unfold GH
    rw [rowI_ne _ _ (by omega), ht 0 (by omega), ht 1 (by omega), ht 2 (by omega), ht 3 (by omega), ht 4 (by omega)]
    exact h2
  · obtain ⟨a, b⟩ := h3 k (by omega)
    by_cases e : k = i
    · subst e
      rw [rowI_get]
      refine ⟨hf, ?_⟩
      obtain ⟨j, c, b1, b2, b3, b4⟩ := b
      exact ⟨j, c, b1, b2, by rw [ht _ (by omega)]; exact b3, b4⟩
    · rw [rowI_ne _ _ (by omega)]
      unfold FP
      rw [ht _ (by omega), ht _ (by omega), ht _ (by omega), ht _ (by omega)]
      refine ⟨a, ?_⟩
      obtain ⟨j, c, b1, b2, b3, b4⟩ := b
      exact ⟨j, c, b1, b2, by rw [ht _ (by omega)]; exact b3, b4⟩
theorem GA.head {μ : Mem} {g : Nat} {s t f : Nat → Int32} (h : GA μ g s) (ht : ∀ k, 4 ≤ k → t k = s k) (hf : f 0 = t 0 ∧ f 1 = t 3 ∧ f 2 = t 1 ∧ f 3 = t 2 ∧ f 4 = t 4) : GA (rowI μ g f) g t := by
  obtain ⟨h1, h2, h3⟩ := h
  have hm : mny t = mny s := by unfold mny; rw [ht 4 (by omega)]
  refine ⟨h1, ?_, fun k hk => ?_⟩
  · unfold GH
    rw [rowI_get]
    exact hf
  · obtain ⟨a, b⟩ := h3 k (by omega)
    rw [rowI_ne _ _ (by omega)]
    unfold FP
    rw [ht _ (by omega), ht _ (by omega), ht _ (by omega), ht _ (by omega)]
    refine ⟨a, ?_⟩
    obtain ⟨j, c, b1, b2, b3, b4⟩ := b
    exact ⟨j, c, b1, b2, by rw [ht _ (by omega)]; exact b3, b4⟩
section Cls5
variable {Sc : SCR} {μ μ0 : Mem} {n : Nat × Nat} {Q : PQ} {s : Nat → Int32} {g q i r ci : Nat} {x y : Int32}
theorem c_min {a b : Int32} (hQ : Q (some (.int (if b < a then b else a))) K0 μ) : AM Sc mJ9_min_7cf53 [.int a, .int b] K0 μ n Q := by
  refine AM.ofF (by decide +kernel) (ble rfl) ?_
  refine aw_iload_n rfl dJ9_min_7cf53_0 ?_
  refine aw_iload_n rfl dJ9_min_7cf53_1 ?_
  refine aw_icmp_gt 9 rfl dJ9_min_7cf53_2 (fun c => ?_) (fun c => ?_)
  · rw [if_pos c] at hQ
    refine aw_iload_n rfl dJ9_min_7cf53_9 ?_
    refine aw_iret dJ9_min_7cf53_10 rfl ?_
    exact hQ
  · rw [if_neg c] at hQ
    refine aw_iload_n rfl dJ9_min_7cf53_5 ?_
    refine aw_goto 10 rfl dJ9_min_7cf53_6 ?_
    refine aw_iret dJ9_min_7cf53_10 rfl ?_
    exact hQ
theorem c_max {a b : Int32} (hQ : Q (some (.int (if a < b then b else a))) K0 μ) : AM Sc mJ9_max_7cf53 [.int a, .int b] K0 μ n Q := by
  refine AM.ofF (by decide +kernel) (ble rfl) ?_
  refine aw_iload_n rfl dJ9_max_7cf53_0 ?_
  refine aw_iload_n rfl dJ9_max_7cf53_1 ?_
  refine aw_icmp_lt 9 rfl dJ9_max_7cf53_2 (fun c => ?_) (fun c => ?_)
  · rw [if_pos c] at hQ
    refine aw_iload_n rfl dJ9_max_7cf53_9 ?_
    refine aw_iret dJ9_max_7cf53_10 rfl ?_
    exact hQ
  · rw [if_neg c] at hQ
    refine aw_iload_n rfl dJ9_max_7cf53_5 ?_
    refine aw_goto 10 rfl dJ9_max_7cf53_6 ?_
    refine aw_iret dJ9_max_7cf53_10 rfl ?_
    exact hQ
theorem c_moveKnot (hg : gOk g) (h : GA μ g s) (hW : WFs s) (hx : x = sideP s 1 (mny s) - sideP s 0 (mny s)) (hQ : ∀ μ', Fr g μ μ' → GA μ' g (upd s 1 (knotG (mny s) s)) → Q none K0 μ') : AM Sc mX2_moveKnot [.ref g, .int x] K0 μ n Q := by
  refine AM.of rfl (ble rfl) ?_
  have hm := hW.2.1
  obtain ⟨a, ha, ea⟩ := sideP_b hW 1 (mny s) (Nat.le_refl _)
  obtain ⟨b, hb, eb⟩ := sideP_b hW 0 (mny s) (Nat.le_refl _)
  have hxr : -440 ≤ x.toInt ∧ x.toInt ≤ 440 := by
    rw [hx, ea, eb, fb_subI (by rw [nI_toInt (by omega), nI_toInt (by omega)]; omega) (by rw [nI_toInt (by omega), nI_toInt (by omega)]; omega), nI_toInt (by omega), nI_toInt (by omega)]
    omega
  obtain ⟨-, -, ⟨hk1, hk2⟩, ⟨c, hc, hsl⟩, -⟩ := hW
  have hsr : 0 ≤ (s 2).toInt ∧ (s 2).toInt ≤ 99 := by rw [hsl, nI_toInt (by omega)]; omega
  have hkr : -9999 ≤ (s 1).toInt ∧ (s 1).toInt ≤ 9999 := ⟨(fa_le _ _).mp hk1, (fa_le _ _).mp hk2⟩
  rw [knotG_k, ← hx] at hQ
  obtain ⟨g0, g1, g2, g3, g4⟩ := h.2.1
  have put : ∀ v : Int32, v = kGn (s 1) x (s 2) → ∀ lv, AW Sc mX2_moveKnot 62 lv [] K0 (pI μ g 2 v) n Q := by
    intro v hv lv
    refine aw_return dX2_moveKnot_62 rfl ?_
    rw [← hv] at hQ
    refine hQ _ (Fr.row (f := upd (μ.1 g) 2 v) (Or.inl rfl)) (h.head (f := upd (μ.1 g) 2 v) (fun k hk => upd_ne (by omega)) ⟨?_, ?_, ?_, ?_, ?_⟩)
    · rw [upd_ne (by decide), upd_ne (by decide)]; exact g0
    · rw [upd_ne (by decide), upd_ne (by decide)]; exact g1
    · rw [upd_eq, upd_eq]
    · rw [upd_ne (by decide), upd_ne (by decide)]; exact g3
    · rw [upd_ne (by decide), upd_ne (by decide)]; exact g4
  refine aw_iload_n rfl dX2_moveKnot_0 ?_
  refine aw_aload_n rfl dX2_moveKnot_1 ?_
  refine aw_getI gX2_15_2 (kG hg) rfl dX2_moveKnot_2 ?_
  rw [g3]
  refine aw_icmp_le 32 rfl dX2_moveKnot_5 (fun c1 => ?_) (fun c1 => ?_)
  · refine aw_iload_n rfl dX2_moveKnot_32 ?_
    refine aw_ineg dX2_moveKnot_33 ?_
    refine aw_aload_n rfl dX2_moveKnot_34 ?_
    refine aw_getI gX2_15_2 (kG hg) rfl dX2_moveKnot_35 ?_
    rw [g3]
    refine aw_icmp_le 62 rfl dX2_moveKnot_38 (fun c2 => ?_) (fun c2 => ?_)
    · rw [kG_3 hxr hsr hkr (Int32.not_lt.mpr c1) (Int32.not_lt.mpr c2)] at hQ
      refine aw_return dX2_moveKnot_62 rfl ?_
      refine hQ μ (Fr.refl _ _) ?_
      rw [show upd s 1 (s 1) = s by
        funext j
        by_cases hj : j = 1
        · rw [hj]; exact upd_eq
        · exact upd_ne hj]
      exact h
    · refine aw_aload_n rfl dX2_moveKnot_41 ?_
      refine aw_sipush (v := (-9999)) (by decide) dX2_moveKnot_42 ?_
      refine aw_aload_n rfl dX2_moveKnot_45 ?_
      refine aw_getI gX2_54_2 (kG hg) rfl dX2_moveKnot_46 ?_
      refine aw_iload_n rfl dX2_moveKnot_49 ?_
      refine aw_iadd dX2_moveKnot_50 ?_
      refine aw_aload_n rfl dX2_moveKnot_51 ?_
      refine aw_getI gX2_15_2 (kG hg) rfl dX2_moveKnot_52 ?_
      refine aw_iadd dX2_moveKnot_55 ?_
      refine aw_s2 kX2_125 ⟨ble rfl, ble rfl⟩ (ble rfl) dX2_moveKnot_56 (c_max ?_)
      refine aw_putI (pX2_54_2 _) (kG hg) rfl rfl rfl dX2_moveKnot_59 ?_
      rw [g2, g3]
      exact put _ (kG_2 hxr hsr hkr (Int32.not_le.mp c2)).symm _
  · refine aw_aload_n rfl dX2_moveKnot_8 ?_
    refine aw_sipush (v := 9999) (by decide) dX2_moveKnot_9 ?_
    refine aw_aload_n rfl dX2_moveKnot_12 ?_
    refine aw_getI gX2_54_2 (kG hg) rfl dX2_moveKnot_13 ?_
    refine aw_iload_n rfl dX2_moveKnot_16 ?_
    refine aw_iadd dX2_moveKnot_17 ?_
    refine aw_aload_n rfl dX2_moveKnot_18 ?_
    refine aw_getI gX2_15_2 (kG hg) rfl dX2_moveKnot_19 ?_
    refine aw_isub dX2_moveKnot_22 ?_
    refine aw_s2 kX2_119 ⟨ble rfl, ble rfl⟩ (ble rfl) dX2_moveKnot_23 (c_min ?_)
    refine aw_putI (pX2_54_2 _) (kG hg) rfl rfl rfl dX2_moveKnot_26 ?_
    refine aw_goto 62 rfl dX2_moveKnot_29 ?_
    rw [g2, g3]
    exact put _ (kG_1 hxr hsr hkr (Int32.not_le.mp c1)).symm _
def oVl (g : Nat) (o : Option Nat) : Value := match o with
  | none => .null
  | some b => .ref (g + 9 + b)
theorem c_callOut (hg : gOk g) (h : GA μ g s) (hW : WFs s) (hQ : ∀ μ', Fr g μ μ' → GA μ' g (match bst s x (mny s) with
  | none => s
  | some b => upd s (5 + 5 * b + 2) 1) → Q none K0 μ') : AM Sc mX2_callOut [.ref g, .int x] K0 μ n Q := by
  refine AM.of rfl (ble rfl) ?_
  have hm := hW.2.1
  have loop : ∀ j i, i + j = mny s → AW Sc mX2_callOut 4 [(0, .ref g), (1, .int x), (2, oVl g (bst s x i)), (3, .int (nI i))] [] K0 μ n Q := by
    intro j
    induction j with
    | zero =>
      intro i hi
      refine aw_iload_n rfl dX2_callOut_4 ?_
      refine aw_aload_n rfl dX2_callOut_5 ?_
      refine aw_getI gX2_57_2 (kG hg) rfl dX2_callOut_6 ?_
      rw [h.sz hW]
      refine aw_icmp_ge 54 rfl dX2_callOut_9 (fun _ => ?_) (fun c_ => absurd (nI_le (by omega) (by omega)) c_)
      obtain rfl : i = mny s := by omega
      cases hb : bst s x (mny s) with
      | none =>
        rw [hb] at hQ
        refine aw_aload_nN rfl dX2_callOut_54 ?_
        refine aw_ifnull_n 63 rfl dX2_callOut_55 ?_
        refine aw_return dX2_callOut_63 rfl ?_
        exact hQ μ (Fr.refl _ _) h
      | some b =>
        have hbl := bst_lt hb
        rw [hb] at hQ
        have hQ : ∀ μ', Fr g μ μ' → GA μ' g (upd s (5 + 5 * b + 2) 1) → Q none K0 μ' := hQ
        refine aw_aload_n rfl dX2_callOut_54 ?_
        refine aw_ifnull_r dX2_callOut_55 ?_
        obtain ⟨f1, f2, f3, f4⟩ := (h.2.2 b hbl).1
        refine aw_aload_n rfl dX2_callOut_58 ?_
        refine aw_iconst (v := 1) (by decide) dX2_callOut_59 ?_
        refine aw_putI (pX2_79_4 _) (kP hg (i := b) (by omega)) rfl rfl rfl dX2_callOut_60 ?_
        refine aw_return dX2_callOut_63 rfl ?_
        refine hQ _ (Fr.row (f := upd (μ.1 (g + 9 + b)) 2 1) (Or.inr (by omega))) (h.per (f := upd (μ.1 (g + 9 + b)) 2 1) (fun k hk => upd_ne (by omega)) ⟨?_, ?_, ?_, ?_⟩)
        · rw [upd_ne (by decide), upd_ne (by omega)]; exact f1
        · rw [upd_eq, upd_eq]
        · rw [upd_ne (by decide), upd_ne (by omega)]; exact f3
        · rw [upd_ne (by decide), upd_ne (by omega)]; exact f4
    | succ j ih =>
      intro i hi
      have ih' := ih (i + 1) (by omega)
      rw [bst] at ih'
      have hf := (h.2.2 i (by omega)).1
      have next : ∀ o : Option Nat, AW Sc mX2_callOut 4 [(0, .ref g), (1, .int x), (2, oVl g o), (3, .int (nI (i + 1)))] [] K0 μ n Q → AW Sc mX2_callOut 48 [(0, .ref g), (1, .int x), (2, oVl g o), (3, .int (nI i)), (4, .ref (g + 9 + i))] [] K0 μ n Q := by
        intro o ho
        refine aw_iinc rfl (v := 1) (by decide) (ble rfl) dX2_callOut_48 ?_
        refine aw_goto 4 rfl dX2_callOut_51 ?_
        rw [nI_1]
        refine aw_keep [0, 1, 2, 3] ?_
        cases o <;> exact ho
      refine aw_iload_n rfl dX2_callOut_4 ?_
      refine aw_aload_n rfl dX2_callOut_5 ?_
      refine aw_getI gX2_57_2 (kG hg) rfl dX2_callOut_6 ?_
      rw [h.sz hW]
      refine aw_icmp_ge 54 rfl dX2_callOut_9 (fun c_ => absurd c_ (nI_ge (by omega) (by omega))) (fun _ => ?_)
      refine aw_aload_n rfl dX2_callOut_12 ?_
      refine aw_getR gX2_26_2 (kG hg) rfl (h.1.2.1) dX2_callOut_13 ?_
      refine aw_iload_n rfl dX2_callOut_16 ?_
      refine aw_aaloadN (kGp hg) (fun _ => rfl) rfl (by omega) (by decide) (h.pe (by omega)) dX2_callOut_17 ?_
      refine aw_astore (ble rfl) dX2_callOut_18 ?_
      refine aw_aload rfl dX2_callOut_20 ?_
      refine aw_getI gX2_76_4 (kP hg (i := i) (by omega)) rfl dX2_callOut_22 ?_
      refine aw_iload_n rfl dX2_callOut_25 ?_
      rw [hf.1]
      refine aw_icmp_ne 48 rfl dX2_callOut_26 (fun c => ?_) (fun c => ?_)
      · rw [if_neg c] at ih'
        exact next _ ih'
      · rw [if_pos c] at ih'
        cases hb : bst s x i with
        | none =>
          rw [hb] at ih'
          refine aw_aload_nN rfl dX2_callOut_29 ?_
          refine aw_ifnull_n 45 rfl dX2_callOut_30 ?_
          refine aw_aload rfl dX2_callOut_45 ?_
          refine aw_astore_n (ble rfl) dX2_callOut_47 ?_
          exact next (some i) ih'
        | some b =>
          have hbl := bst_lt hb
          rw [hb] at ih'
          refine aw_aload_n rfl dX2_callOut_29 ?_
          refine aw_ifnull_r dX2_callOut_30 ?_
          refine aw_aload rfl dX2_callOut_33 ?_
          refine aw_getI gX2_82_4 (kP hg (i := i) (by omega)) rfl dX2_callOut_35 ?_
          refine aw_aload_n rfl dX2_callOut_38 ?_
          refine aw_getI gX2_82_4 (kP hg (i := b) (by omega)) rfl dX2_callOut_39 ?_
          rw [hf.2.2.1, (h.2.2 b (by omega)).1.2.2.1]
          refine aw_icmp_ge 48 rfl dX2_callOut_42 (fun c2 => ?_) (fun c2 => ?_)
          · simp only [if_neg (Int32.not_lt.mpr c2)] at ih'
            exact next (some b) ih'
          · simp only [if_pos (Int32.not_le.mp c2)] at ih'
            refine aw_aload rfl dX2_callOut_45 ?_
            refine aw_astore_n (ble rfl) dX2_callOut_47 ?_
            exact next (some i) ih'
  refine aw_null dX2_callOut_0 ?_
  refine aw_astore_nN (ble rfl) dX2_callOut_1 ?_
  refine aw_iconst (v := 0) (by decide) dX2_callOut_2 ?_
  refine aw_istore_n (ble rfl) dX2_callOut_3 ?_
  exact loop (mny s) 0 (by omega)
end Cls5
