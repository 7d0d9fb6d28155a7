/-! THE TEXT, 6: what is read keeps the row well formed; green -/
theorem mny_upd {s : Nat → Int32} {i : Nat} {v : Int32} (h : i ≠ 4) : mny (upd s i v) = mny s := by
  unfold mny
  rw [upd_ne (by omega)]
theorem WFp_ne {s : Nat → Int32} {i k : Nat} {v : Int32} (h : WFp s k) (hi : i < 5 + 5 * k ∨ 5 + 5 * k + 4 < i) : WFp (upd s i v) k := by
  obtain ⟨h0, h1, h2, h3, h4⟩ := h
  refine ⟨?_, ?_, ?_, ?_, ?_⟩
  all_goals rw [upd_ne (by omega)]
  all_goals assumption
theorem WFs_p {s : Nat → Int32} {k j : Nat} {v : Int32} (h : WFs s) (hj : j < 5) (hv : k < mny s → WFp (upd s (5 + 5 * k + j) v) k) : WFs (upd s (5 + 5 * k + j) v) := by
  obtain ⟨h4, hm, h1, h2, hp⟩ := h
  unfold WFs
  rw [mny_upd (by omega), upd_ne (by omega), upd_ne (by omega), upd_ne (by omega)]
  refine ⟨h4, hm, h1, h2, fun q hq => ?_⟩
  by_cases e : q = k
  · subst e; exact hv hq
  · exact WFp_ne (hp q hq) (by omega)
theorem WFs_0 {s : Nat → Int32} {v : Int32} (h : WFs s) : WFs (upd s 0 v) := by
  obtain ⟨h4, hm, h1, h2, hp⟩ := h
  unfold WFs
  rw [mny_upd (by omega), upd_ne (by omega), upd_ne (by omega), upd_ne (by omega)]
  exact ⟨h4, hm, h1, h2, fun q hq => WFp_ne (hp q hq) (by omega)⟩
theorem WFs_3 {s : Nat → Int32} {v : Int32} (h : WFs s) : WFs (upd s 3 v) := by
  obtain ⟨h4, hm, h1, h2, hp⟩ := h
  unfold WFs
  rw [mny_upd (by omega), upd_ne (by omega), upd_ne (by omega), upd_ne (by omega)]
  exact ⟨h4, hm, h1, h2, fun q hq => WFp_ne (hp q hq) (by omega)⟩
theorem WFs_1 {s : Nat → Int32} {v : Int32} (h : WFs s) (hv : -9999 ≤ v ∧ v ≤ 9999) : WFs (upd s 1 v) := by
  obtain ⟨h4, hm, h1, h2, hp⟩ := h
  unfold WFs
  rw [mny_upd (by omega), upd_eq, upd_ne (by omega), upd_ne (by omega)]
  exact ⟨h4, hm, hv, h2, fun q hq => WFp_ne (hp q hq) (by omega)⟩
theorem WFs_2 {s : Nat → Int32} {k : Nat} (h : WFs s) (hv : k ≤ 99) : WFs (upd s 2 (nI k)) := by
  obtain ⟨h4, hm, h1, h2, hp⟩ := h
  unfold WFs
  rw [mny_upd (by omega), upd_eq, upd_ne (by omega), upd_ne (by omega)]
  exact ⟨h4, hm, h1, ⟨k, hv, rfl⟩, fun q hq => WFp_ne (hp q hq) (by omega)⟩
theorem mny_add {s : Nat → Int32} {m : Nat} {x y : Int32} (hm : m < 10) : mny (addS s m x y) = m + 1 := by
  unfold mny addS
  rw [upd_eq, nI_clamp (by omega)]
theorem WFs_add {s : Nat → Int32} {kd sd : Nat} (h : WFs s) (hm9 : mny s < 10) (hk : kd < 6) (hs : sd < 2) : WFs (addS s (mny s) (nI kd) (nI sd)) := by
  obtain ⟨h4, hm, h1, h2, hp⟩ := h
  unfold WFs
  rw [mny_add hm9]
  generalize hm' : mny s = m at hm9 hm hp h4
  refine ⟨upd_eq, by omega, ?_, ?_, fun q hq => ?_⟩
  · unfold addS
    rw [upd_ne (by omega), upd_ne (by omega), upd_ne (by omega), upd_ne (by omega), upd_ne (by omega), upd_ne (by omega)]
    exact h1
  · unfold addS
    rw [upd_ne (by omega), upd_ne (by omega), upd_ne (by omega), upd_ne (by omega), upd_ne (by omega), upd_ne (by omega)]
    exact h2
  · unfold addS
    refine WFp_ne ?_ (by omega)
    by_cases e : q = m
    · subst e
      refine ⟨⟨kd, hk, ?_⟩, ?_, ?_, ⟨0, by omega, ?_⟩, ⟨8, by omega, by omega, ?_⟩⟩
      · rw [upd_ne (by omega), upd_ne (by omega), upd_ne (by omega), upd_ne (by omega), upd_eq]
      · rw [upd_ne (by omega), upd_ne (by omega), upd_ne (by omega), upd_eq]
        have : sd = 0 ∨ sd = 1 := by omega
        rcases this with rfl | rfl
        · exact Or.inl rfl
        · exact Or.inr rfl
      · rw [upd_ne (by omega), upd_ne (by omega), upd_eq]
        exact Or.inl rfl
      · rw [upd_ne (by omega), upd_eq]; rfl
      · rw [upd_eq]; rfl
    · exact WFp_ne (WFp_ne (WFp_ne (WFp_ne (WFp_ne (hp q (by omega)) (by omega)) (by omega)) (by omega)) (by omega)) (by omega)
theorem WFp_2 {s : Nat → Int32} {k : Nat} {v : Int32} (h : WFp s k) (hv : v = 0 ∨ v = 1) : WFp (upd s (5 + 5 * k + 2) v) k := by
  obtain ⟨h0, h1, h2, h3, h4⟩ := h
  unfold WFp
  rw [upd_ne (by omega), upd_ne (by omega), upd_eq, upd_ne (by omega), upd_ne (by omega)]
  exact ⟨h0, h1, hv, h3, h4⟩
theorem WFp_3 {s : Nat → Int32} {k t : Nat} (h : WFp s k) (hv : t ≤ 99) : WFp (upd s (5 + 5 * k + 3) (nI t)) k := by
  obtain ⟨h0, h1, h2, h3, h4⟩ := h
  unfold WFp
  rw [upd_ne (by omega), upd_ne (by omega), upd_ne (by omega), upd_eq, upd_ne (by omega)]
  exact ⟨h0, h1, h2, ⟨t, hv, rfl⟩, h4⟩
theorem WFp_4 {s : Nat → Int32} {k g : Nat} (h : WFp s k) (h1 : 1 ≤ g) (h2 : g ≤ 20) : WFp (upd s (5 + 5 * k + 4) (nI g)) k := by
  obtain ⟨h0, h1', h2', h3, h4⟩ := h
  unfold WFp
  rw [upd_ne (by omega), upd_ne (by omega), upd_ne (by omega), upd_ne (by omega), upd_eq]
  exact ⟨h0, h1', h2', h3, ⟨g, h1, h2, rfl⟩⟩
def rdOk (N p : Nat) (r : RD) : Prop := WFs r.2.2 ∧ p ≤ r.2.1 ∧ r.2.1 ≤ N
section Rd
variable {b : Nat → Int32} {N p k : Nat} {s : Nat → Int32}
theorem enp_ge (hp : p ≤ N) : p ≤ enp b N p ∧ enp b N p ≤ N := by
  have := skp_le (b := b) hp
  have := enp_le (b := b) hp
  omega
theorem rdP3_ok (hp : p ≤ N) (h : WFs s) : rdOk N p (rdP3 b N k p s) := by
  have := enp_ge (b := b) hp
  unfold rdP3
  split
  · exact ⟨WFs_p h (by decide) (fun hk => WFp_2 (h.2.2.2.2 k hk) (Or.inr rfl)), this.1, this.2⟩
  · exact ⟨h, Nat.le_refl _, hp⟩
theorem rdOk.mono {q : Nat} {r : RD} (h : rdOk N p r) (hq : q ≤ p) : rdOk N q r := ⟨h.1, by have := h.2.1; omega, h.2.2⟩
theorem rdP2_ok (hp : p ≤ N) (h : WFs s) : rdOk N p (rdP2 b N k p s) := by
  have h1 := enp_ge (b := b) hp
  have h2 := enp_ge (b := b) h1.2
  unfold rdP2
  split
  · split
    · next v hv =>
      refine (rdP3_ok h2.2 (WFs_p h (by decide) (fun hk => WFp_3 (h.2.2.2.2 k hk) (tkN_le hv).2))).mono (by omega)
    · exact ⟨h, h1.1, h1.2⟩
  · exact rdP3_ok hp h
theorem rdP1_ok (hp : p ≤ N) (h : WFs s) : rdOk N p (rdP1 b N k p s) := by
  have h1 := enp_ge (b := b) hp
  have h2 := enp_ge (b := b) h1.2
  unfold rdP1
  split
  · split
    · next v hv =>
      refine (rdP2_ok h2.2 (WFs_p h (by decide) (fun hk => WFp_4 (h.2.2.2.2 k hk) (tkN_le hv).1 (tkN_le hv).2))).mono (by omega)
    · exact ⟨h, h1.1, h1.2⟩
  · exact rdP2_ok hp h
theorem rdItem_ok (hp : p ≤ N) (h : WFs s) : rdOk N p (rdItem b N p s) := by
  have h1 := enp_ge (b := b) hp
  have h2 := enp_ge (b := b) h1.2
  have h3 := enp_ge (b := b) h2.2
  unfold rdItem
  split
  · next kd hkd =>
    unfold rdPer
    split
    · exact ⟨h, Nat.le_refl _, hp⟩
    · next hc =>
      split
      · exact ⟨h, h1.1, h1.2⟩
      · next sd hsd =>
        have hm9 : mny s < 10 := by
          have : mny s ≠ 10 := by
            intro z
            have h4 := h.1
            rw [z] at h4
            exact hc h4
          have := h.2.1
          omega
        exact (rdP1_ok h2.2 (WFs_add h hm9 (kndW_lt hkd) (sidW_lt hsd))).mono (by omega)
  · split
    · exact ⟨h, Nat.le_refl _, hp⟩
    · split
      · unfold rdWk
        split
        · exact ⟨h, h1.1, h1.2⟩
        · exact ⟨WFs_3 h, by show p ≤ enp b N (enp b N p); omega, h2.2⟩
      · split
        · unfold rdKn
          split
          · exact ⟨h, h1.1, h1.2⟩
          · split
            · exact ⟨h, by show p ≤ enp b N (enp b N p); omega, h2.2⟩
            · next v hv =>
              have hv := (tkN_le hv).2
              refine ⟨WFs_1 h ?_, by show p ≤ enp b N (enp b N (enp b N p)); omega, h3.2⟩
              split
              · rw [fa_le, fa_le, fb_negI (x := nI v) (by rw [nI_toInt (by omega)]; omega), nI_toInt (n := v) (by omega)]
                show (-9999 : Int) ≤ _ ∧ _ ≤ (9999 : Int)
                omega
              · rw [fa_le, fa_le, nI_toInt (n := v) (by omega)]
                show (-9999 : Int) ≤ _ ∧ _ ≤ (9999 : Int)
                omega
        · unfold rdSl
          split
          · exact ⟨h, h1.1, h1.2⟩
          · next v hv => exact ⟨WFs_2 h (tkN_le hv).2, by show p ≤ enp b N (enp b N p); omega, h2.2⟩
theorem rdItem_end (h : N ≤ p) : rdItem b N p s = (false, p, s) := by
  have e : runp b N p = [] := by
    unfold runp
    rw [if_neg]
    intro z
    have h0 : skp b N p = p := by
      unfold skp
      rw [show N - p = 0 by omega]
      rfl
    exact (tkp_1 z).1 (by omega)
  unfold rdItem
  rw [e]
  rfl
theorem tkp_3 (hp : p ≤ N) (h : tkp b N p = 3) : p < enp b N p := by
  have h1 := skp_le (b := b) hp
  unfold tkp srt at h
  unfold enp
  split at h
  · cases h
  · next hc =>
    rw [if_neg hc]
    split at h
    · cases h
    · next hl =>
      rw [if_neg hl]
      split at h
      · cases h
      · next hd =>
        rw [if_neg hd]
        omega
theorem rdAll_ok : ∀ (f k p : Nat) (s : Nat → Int32), p ≤ N → WFs s → WFs (rdAll b N f k p s).2.2.2
  | 0, _, _, _, _, h => h
  | f + 1, k, p, s, hp, h => by
    have h1 := rdItem_ok (b := b) hp h
    unfold rdAll
    split
    · split
      · exact h1.1
      · split
        · exact rdAll_ok f (k + 1) _ _ (enp_ge h1.2.2).2 h1.1
        · exact h1.1
    · exact h1.1
end Rd
def sp_green (S : SG) : Int32 × SG := if (rdAll S.2.2.2.2.1 S.2.2.2.2.2.1 120 1 0 S.1).1 then (nI (rdAll S.2.2.2.2.1 S.2.2.2.2.2.1 120 1 0 S.1).2.1, tM1 (wS S (rdAll S.2.2.2.2.1 S.2.2.2.2.2.1 120 1 0 S.1).2.2.2) S.2.2.2.2.1 0) else (-1 - nI (skp S.2.2.2.2.1 S.2.2.2.2.2.1 (rdAll S.2.2.2.2.1 S.2.2.2.2.2.1 120 1 0 S.1).2.2.1), tM1 S S.2.2.2.2.1 0)
section Text6
variable {Sc : SCR} {μ μ0 ν : Mem} {n : Nat × Nat} {Q : PQ} {S : SG} {s a : Nat → Int32} {p : Nat}
theorem q_green (h : MJ μ0 μ S) (hW : WF S) (hQ : ∀ μ', MJ μ0 μ' (sp_green S).2 → Q (some (.int (sp_green S).1)) K0 μ') : AM Sc mX12_green [.ref 71] K0 μ n Q := by
  refine AM.of rfl (ble rfl) ?_
  have hN := hW.2.2.1
  have hWs := hW.1
  have hM := h.hM
  unfold sp_green at hQ
  generalize hR : rdAll S.2.2.2.2.1 S.2.2.2.2.2.1 120 1 0 S.1 = R at hQ
  have good : ∀ (k p : Nat) (s : Nat → Int32) (ν : Mem) (x : Int32), (true, k, p, s) = R → TP μ0 (wS S s) S.1 ν p → AW Sc mX12_green 58 [(0, .ref 71), (1, .int (nI k)), (2, .int x)] [] K0 ν n Q := by
    intro k p s ν x e g
    subst e
    refine aw_iconst (v := 1) (by decide) dX12_green_58 ?_
    refine aw_goto 63 rfl dX12_green_59 ?_
    refine aw_istore_n (ble rfl) dX12_green_63 ?_
    refine aw_aload_n rfl dX12_green_64 ?_
    refine aw_iconst (v := 0) (by decide) dX12_green_65 ?_
    refine aw_putI (pX12_154_12 _) kM rfl rfl rfl dX12_green_66 ?_
    have h2 := g.mj.tcnt 0
    have h2 : MJ μ0 (pI ν 71 6 0) (tM1 (wS S s) S.2.2.2.2.1 0) := h2
    refine aw_iload_n rfl dX12_green_69 ?_
    refine aw_if_ne 84 rfl dX12_green_70 (fun _ => ?_) (fun c_ => absurd c_ ((by decide)))
    refine aw_iload_n rfl dX12_green_84 ?_
    refine aw_iret dX12_green_85 rfl ?_
    exact hQ _ h2
  have bad : ∀ (k p : Nat) (s : Nat → Int32) (ν : Mem) (k' x : Int32), (false, k, p, s) = R → TP μ0 (wS S s) S.1 ν p → AW Sc mX12_green 62 [(0, .ref 71), (1, .int k'), (2, .int x)] [] K0 ν n Q := by
    intro k p s ν k' x e g
    subst e
    refine aw_iconst (v := 0) (by decide) dX12_green_62 ?_
    refine aw_istore_n (ble rfl) dX12_green_63 ?_
    refine aw_aload_n rfl dX12_green_64 ?_
    refine aw_iconst (v := 0) (by decide) dX12_green_65 ?_
    refine aw_putI (pX12_154_12 _) kM rfl rfl rfl dX12_green_66 ?_
    have h2 := g.mj.tcnt 0
    have h2 : MJ μ0 (pI ν 71 6 0) (tM1 (wS S s) S.2.2.2.2.1 0) := h2
    have ha : (pI ν 71 6 0).1 74 = S.1 := (pI_ne _ _ _ (by decide)).trans g.2.1
    have h8 : (pI ν 71 6 0).1 71 8 = nI (skp S.2.2.2.2.1 S.2.2.2.2.2.1 p) := by
      rw [pI_row, upd_ne (by decide)]
      exact g.h8
    generalize pI ν 71 6 0 = ν at h2 ha h8 ⊢
    refine aw_iload_n rfl dX12_green_69 ?_
    refine aw_if_ne 84 rfl dX12_green_70 (fun c_ => absurd (rfl) c_) (fun _ => ?_)
    refine aw_aload_n rfl dX12_green_73 ?_
    refine aw_v0 kX12_112 ⟨ble rfl, ble rfl⟩ (rcM) (ble rfl) dX12_green_74 (k_laysBack h2.hM ha ?_)
    refine aw_iconst (v := (-1)) (by decide) dX12_green_77 ?_
    refine aw_aload_n rfl dX12_green_78 ?_
    refine aw_getI gX12_161_12 kM rfl dX12_green_79 ?_
    refine aw_isub dX12_green_82 ?_
    refine aw_iret dX12_green_83 rfl ?_
    rw [rowI_ne _ _ (by decide), h8]
    exact hQ _ (h2.row S.1)
  have loop : ∀ (f k p : Nat) (s : Nat → Int32) (ν : Mem), WFs s → p ≤ S.2.2.2.2.2.1 → S.2.2.2.2.2.1 ≤ f + p → rdAll S.2.2.2.2.1 S.2.2.2.2.2.1 f k p s = R → TP μ0 (wS S (rdItem S.2.2.2.2.1 S.2.2.2.2.2.1 p s).2.2) S.1 ν (rdItem S.2.2.2.2.1 S.2.2.2.2.2.1 p s).2.1 → AW Sc mX12_green 20 [(0, .ref 71), (1, .int (nI k)), (2, .int (bI (rdItem S.2.2.2.2.1 S.2.2.2.2.2.1 p s).1))] [] K0 ν n Q := by
    intro f
    induction f with
    | zero =>
      intro k p s ν hs hp hf e g
      rw [rdItem_end (by omega)] at g ⊢
      refine aw_iload_n rfl dX12_green_20 ?_
      refine aw_if_eq 47 rfl dX12_green_21 (fun _ => ?_) (fun c_ => absurd (rfl) c_)
      refine aw_iload_n rfl dX12_green_47 ?_
      refine aw_if_eq 62 rfl dX12_green_48 (fun _ => ?_) (fun c_ => absurd (rfl) c_)
      exact bad k p s ν _ _ e g
    | succ f ih =>
      intro k p s ν hs hp hf e g
      have hok := rdItem_ok (b := S.2.2.2.2.1) hp hs
      rw [rdAll] at e
      generalize rdItem S.2.2.2.2.1 S.2.2.2.2.2.1 p s = r at e g hok ⊢
      obtain ⟨gd, p', s'⟩ := r
      obtain ⟨w1, w2, w3⟩ := hok
      have w1 : WFs s' := w1
      have w2 : p ≤ p' := w2
      have w3 : p' ≤ S.2.2.2.2.2.1 := w3
      have g : TP μ0 (wS S s') S.1 ν p' := g
      simp only at e
      have hml := mtk_le S.2.2.2.2.1 S.2.2.2.2.2.1 p'
      have h7 : ν.1 71 7 = nI (mtk S.2.2.2.2.1 S.2.2.2.2.2.1 p') := g.h7
      have m3 := mtk_ne (b := S.2.2.2.2.1) (N := S.2.2.2.2.2.1) (p := p') (k := 3) (by decide) (by decide)
      have m0 := mtk_ne (b := S.2.2.2.2.1) (N := S.2.2.2.2.2.1) (p := p') (k := 0) (by decide) (by decide)
      generalize mtk S.2.2.2.2.1 S.2.2.2.2.2.1 p' = T at hml h7 m3 m0
      refine aw_iload_n rfl dX12_green_20 ?_
      refine aw_zeq 47 rfl dX12_green_21 (fun c => ?_) (fun c => ?_)
      · have c : gd = false := c
        subst c
        refine aw_iload_n rfl dX12_green_47 ?_
        refine aw_if_eq 62 rfl dX12_green_48 (fun _ => ?_) (fun c_ => absurd (rfl) c_)
        exact bad k p' s' ν _ _ e g
      · have c : gd = true := c
        subst c
        rw [if_pos rfl] at e
        refine aw_aload_n rfl dX12_green_24 ?_
        refine aw_getI gX12_168_12 kM rfl dX12_green_25 ?_
        refine aw_iconst (v := 3) (by decide) dX12_green_28 ?_
        rw [h7]
        by_cases h3 : T = 3
        · rw [h3]
          have h3 := m3.mp h3
          rw [if_neg (by rw [h3]; decide), if_pos h3] at e
          refine aw_icmp_ne 47 rfl dX12_green_29 (fun c_ => absurd (rfl) c_) (fun _ => ?_)
          have hlt : p' < enp S.2.2.2.2.1 S.2.2.2.2.2.1 p' := tkp_3 w3 h3
          have hle := (enp_ge (b := S.2.2.2.2.1) w3).2
          refine aw_aload_n rfl dX12_green_32 ?_
          refine aw_v0 kX12_189 ⟨ble rfl, ble rfl⟩ (rcM) (ble rfl) dX12_green_33 (k_nextToken g hN hle (fun ν g => ?_))
          have g : TP μ0 (wS S s') S.1 ν (enp S.2.2.2.2.1 S.2.2.2.2.2.1 p') := g
          refine aw_aload_n rfl dX12_green_36 ?_
          refine aw_v0 kX12_209 ⟨ble rfl, ble rfl⟩ (rcM) (ble rfl) dX12_green_37 (k_readsItem g hN hle w1.1 w1.2.1 (fun ν g => ?_))
          refine aw_istore_n (ble rfl) dX12_green_40 ?_
          refine aw_iinc rfl (v := 1) (by decide) (ble rfl) dX12_green_41 ?_
          refine aw_goto 20 rfl dX12_green_44 ?_
          rw [nI_1]
          exact ih (k + 1) _ s' ν w1 hle (by omega) e g
        · have h3' := fun z => h3 (m3.mpr z)
          rw [if_neg h3'] at e
          refine aw_icmp_ne 47 rfl dX12_green_29 (fun _ => ?_) (fun c_ => absurd c_ ((fun z => h3 (by have := congrArg ix z; rw [ix_nI (by omega)] at this; exact this))))
          refine aw_iload_n rfl dX12_green_47 ?_
          refine aw_if_eq 62 rfl dX12_green_48 (fun c_ => absurd c_ ((show ¬ bI true = 0 by decide))) (fun _ => ?_)
          refine aw_aload_n rfl dX12_green_51 ?_
          refine aw_getI gX12_168_12 kM rfl dX12_green_52 ?_
          rw [h7]
          by_cases h0 : T = 0
          · rw [h0]
            rw [if_pos (m0.mp h0)] at e
            refine aw_if_ne 62 rfl dX12_green_55 (fun c_ => absurd (rfl) c_) (fun _ => ?_)
            exact good k p' s' ν _ e g
          · rw [if_neg (fun z => h0 (m0.mpr z))] at e
            refine aw_if_ne 62 rfl dX12_green_55 (fun _ => ?_) (fun c_ => absurd c_ ((fun z => h0 (by have := congrArg ix z; rw [ix_nI (by omega)] at this; exact this))))
            exact bad k p' s' ν _ _ e g
  refine aw_aload_n rfl dX12_green_0 ?_
  refine aw_v0 kX12_145 ⟨ble rfl, ble rfl⟩ (rcM) (ble rfl) dX12_green_1 (k_setsAside hM h.hs ?_)
  have h1 := h.asd S.1
  refine aw_aload_n rfl dX12_green_4 ?_
  refine aw_iconst (v := 0) (by decide) dX12_green_5 ?_
  refine aw_putI (pX12_158_12 _) kM rfl rfl rfl dX12_green_6 ?_
  have f0 : TF μ0 S S.1 (pI (rowI μ 74 S.1) 71 9 0) _ _ (nI 0) _ := (show TF μ0 S S.1 (rowI μ 74 S.1) _ _ _ _ from ⟨h1, rowI_get _ _ _, rfl, rfl, rfl, rfl⟩).t9 0
  refine aw_aload_n rfl dX12_green_9 ?_
  refine aw_v0 kX12_189 ⟨ble rfl, ble rfl⟩ (rcM) (ble rfl) dX12_green_10 (k_nextToken f0 hN (Nat.zero_le _) (fun ν g => ?_))
  refine aw_iconst (v := 1) (by decide) dX12_green_13 ?_
  refine aw_istore_n (ble rfl) dX12_green_14 ?_
  refine aw_aload_n rfl dX12_green_15 ?_
  refine aw_v0 kX12_209 ⟨ble rfl, ble rfl⟩ (rcM) (ble rfl) dX12_green_16 (k_readsItem g hN (Nat.zero_le _) hWs.1 hWs.2.1 (fun ν g => ?_))
  refine aw_istore_n (ble rfl) dX12_green_19 ?_
  exact loop 120 1 0 S.1 ν hWs (Nat.zero_le _) (by omega) hR g
end Text6
