/-! THE TEXT, 3: which word stands there -/
theorem wvf_inj {b g : Nat → Int32} {st : Nat} : ∀ k j : Nat, (∀ i, i < k → ltr (b (st + i)) = true) → (∀ i, i < j → ltr (g i) = true) → wvf g 0 j ≤ 9999999999999 → wvf b st k = wvf g 0 j → k = j ∧ ∀ i, i < k → b (st + i) = g i
  | 0, 0, _, _, _, _ => ⟨rfl, fun i hi => absurd hi (by omega)⟩
  | 0, j + 1, _, h2, h3, h4 => by
    exfalso
    obtain ⟨t, t1, t2, ht⟩ := ltr_t (h2 j (by omega))
    have h4 : 0 = stp 27 96 9999999999999 (wvf g 0 j) (g (0 + j)) := h4
    unfold stp at h4
    rw [Nat.zero_add, ht, ix_nI (by omega)] at h4
    split at h4 <;> omega
  | k + 1, 0, h1, _, _, h4 => by
    exfalso
    obtain ⟨t, t1, t2, ht⟩ := ltr_t (h1 k (by omega))
    have h4 : stp 27 96 9999999999999 (wvf b st k) (b (st + k)) = 0 := h4
    unfold stp at h4
    rw [ht, ix_nI (by omega)] at h4
    split at h4 <;> omega
  | k + 1, j + 1, h1, h2, h3, h4 => by
    obtain ⟨t, t1, t2, ht⟩ := ltr_t (h1 k (by omega))
    obtain ⟨u, u1, u2, hu⟩ := ltr_t (h2 j (by omega))
    have h3 : stp 27 96 9999999999999 (wvf g 0 j) (g (0 + j)) ≤ 9999999999999 := h3
    have h4 : stp 27 96 9999999999999 (wvf b st k) (b (st + k)) = stp 27 96 9999999999999 (wvf g 0 j) (g (0 + j)) := h4
    rw [← h4] at h3
    unfold stp at h3 h4
    rw [Nat.zero_add, ht, hu, ix_nI (by omega), ix_nI (by omega)] at h4
    rw [ht, ix_nI (by omega)] at h3
    have e1 : ¬ 9999999999999 < wvf b st k := by
      intro z
      rw [if_pos z] at h3
      omega
    rw [if_neg e1] at h3 h4
    have e2 : ¬ 9999999999999 < wvf g 0 j := by
      intro z
      rw [if_pos z] at h4
      omega
    rw [if_neg e2] at h4
    obtain ⟨rfl, h5⟩ := wvf_inj k j (fun i hi => h1 i (by omega)) (fun i hi => h2 i (by omega)) (by omega) (by omega)
    refine ⟨rfl, fun i hi => ?_⟩
    by_cases e : i = k
    · subst e
      rw [ht, hu, show t = u by omega]
    · exact h5 i (by omega)
theorem vf_congr {r c cap : Nat} {b g : Nat → Int32} {st : Nat} : ∀ k : Nat, (∀ i, i < k → b (st + i) = g i) → vf r c cap b st k = vf r c cap g 0 k
  | 0, _ => rfl
  | k + 1, h => by
    rw [vf, vf, vf_congr k (fun i hi => h i (by omega)), h k (by omega), Nat.zero_add]
def gd (l : List Int32) : Nat → Int32 := fun i => l.getD i 0
theorem gd_get {l : List Int32} {i : Nat} (h : i < l.length) : gd l i = l[i] := by simp [gd, h]
def runp (b : Nat → Int32) (N p : Nat) : List Int32 := if tkp b N p = 1 then (List.range (enp b N p - skp b N p)).map (fun i => b (skp b N p + i)) else []
theorem wW {b : Nat → Int32} {N p : Nat} (h : tkp b N p = 1) {l : List Int32} {c : Nat} (hl : l.all ltr = true) (hc : c = wvf (gd l) 0 l.length) (hc2 : c ≤ 9999999999999) : (c = vlp b N p) = (runp b N p = l) := by
  have hg : ∀ i, i < l.length → ltr (gd l i) = true := by
    intro i hi
    rw [gd_get hi]
    exact List.all_eq_true.mp hl _ (List.getElem_mem hi)
  have hb : ∀ i, i < enp b N p - skp b N p → ltr (b (skp b N p + i)) = true := fun i hi => tkp_let h _ (by omega) (by omega)
  have e : vlp b N p = wvf b (skp b N p) (enp b N p - skp b N p) := by unfold vlp; rw [if_pos h]
  unfold runp
  rw [if_pos h, e]
  subst hc
  generalize enp b N p - skp b N p = k at hb
  refine propext ⟨fun z => ?_, fun z => ?_⟩
  · obtain ⟨h1, h2⟩ := wvf_inj k l.length hb hg hc2 z.symm
    refine List.ext_getElem (by simp [h1]) (fun i i1 i2 => ?_)
    rw [List.getElem_map, List.getElem_range, h2 i (by omega)]
    exact gd_get i2
  · have hk : l.length = k := by rw [← z]; simp
    rw [hk]
    refine (vf_congr k (fun i hi => ?_)).symm
    rw [gd_get (by omega)]
    have := List.getElem_of_eq z.symm (i := i) (by omega)
    rw [this, List.getElem_map, List.getElem_range]
def wdMan : List Int32 := [109, 97, 110]
def wdSon : List Int32 := [115, 111, 110]
def wdDrinker : List Int32 := [100, 114, 105, 110, 107, 101, 114]
def wdWoman : List Int32 := [119, 111, 109, 97, 110]
def wdPreacher : List Int32 := [112, 114, 101, 97, 99, 104, 101, 114]
def wdStranger : List Int32 := [115, 116, 114, 97, 110, 103, 101, 114]
def wdPub : List Int32 := [112, 117, 98]
def wdChapel : List Int32 := [99, 104, 97, 112, 101, 108]
def wdTired : List Int32 := [116, 105, 114, 101, 100]
def wdStrong : List Int32 := [115, 116, 114, 111, 110, 103]
def wdOn : List Int32 := [111, 110]
def wdPlain : List Int32 := [112, 108, 97, 105, 110]
def wdHarvest : List Int32 := [104, 97, 114, 118, 101, 115, 116]
def wdKnot : List Int32 := [107, 110, 111, 116]
def wdSlack : List Int32 := [115, 108, 97, 99, 107]
def kndW (r : List Int32) : Option Nat := if r = wdMan then some 0 else if r = wdSon then some 1 else if r = wdDrinker then some 2 else if r = wdWoman then some 3 else if r = wdPreacher then some 4 else if r = wdStranger then some 5 else none
def sidW (r : List Int32) : Option Nat := if r = wdPub then some 0 else if r = wdChapel then some 1 else none
def morW (r : List Int32) : Option Nat := if r = wdTired then some 0 else if r = wdStrong then some 1 else if r = wdOn then some 2 else none
def othW (r : List Int32) : Option Nat := if r = wdPlain then some 0 else if r = wdHarvest then some 1 else if r = wdKnot then some 2 else if r = wdSlack then some 3 else none
theorem kndW_lt {r : List Int32} {k : Nat} (h : kndW r = some k) : k < 6 := by
  unfold kndW at h
  repeat' split at h
  all_goals cases h
  all_goals decide
theorem sidW_lt {r : List Int32} {k : Nat} (h : sidW r = some k) : k < 2 := by
  unfold sidW at h
  repeat' split at h
  all_goals cases h
  all_goals decide
theorem morW_lt {r : List Int32} {k : Nat} (h : morW r = some k) : k < 3 := by
  unfold morW at h
  repeat' split at h
  all_goals cases h
  all_goals decide
theorem othW_lt {r : List Int32} {k : Nat} (h : othW r = some k) : k < 4 := by
  unfold othW at h
  repeat' split at h
  all_goals cases h
  all_goals decide
theorem kndW_eq (b : Nat → Int32) (N p : Nat) : (if tkp b N p = 1 then lastW cLetters (vlp b N p) 6 else none) = kndW (runp b N p) := by
  by_cases h : tkp b N p = 1
  · rw [if_pos h]
    simp only [lastW]
    simp only [wW h (c := codeF cLetters (8 * 5) 8) (l := wdStranger) (by decide +kernel) (by decide +kernel) (by decide +kernel),
      wW h (c := codeF cLetters (8 * 4) 8) (l := wdPreacher) (by decide +kernel) (by decide +kernel) (by decide +kernel),
      wW h (c := codeF cLetters (8 * 3) 8) (l := wdWoman) (by decide +kernel) (by decide +kernel) (by decide +kernel),
      wW h (c := codeF cLetters (8 * 2) 8) (l := wdDrinker) (by decide +kernel) (by decide +kernel) (by decide +kernel),
      wW h (c := codeF cLetters (8 * 1) 8) (l := wdSon) (by decide +kernel) (by decide +kernel) (by decide +kernel),
      wW h (c := codeF cLetters (8 * 0) 8) (l := wdMan) (by decide +kernel) (by decide +kernel) (by decide +kernel)]
    generalize runp b N p = r
    unfold kndW
    by_cases h0 : r = wdMan
    · subst h0; decide +kernel
    by_cases h1 : r = wdSon
    · subst h1; decide +kernel
    by_cases h2 : r = wdDrinker
    · subst h2; decide +kernel
    by_cases h3 : r = wdWoman
    · subst h3; decide +kernel
    by_cases h4 : r = wdPreacher
    · subst h4; decide +kernel
    by_cases h5 : r = wdStranger
    · subst h5; decide +kernel
    simp only [if_neg h0, if_neg h1, if_neg h2, if_neg h3, if_neg h4, if_neg h5]
  · rw [if_neg h]
    unfold runp
    rw [if_neg h]
    decide +kernel
theorem sidW_eq (b : Nat → Int32) (N p : Nat) : (if tkp b N p = 1 then lastW cSides (vlp b N p) 2 else none) = sidW (runp b N p) := by
  by_cases h : tkp b N p = 1
  · rw [if_pos h]
    simp only [lastW]
    simp only [wW h (c := codeF cSides (8 * 1) 8) (l := wdChapel) (by decide +kernel) (by decide +kernel) (by decide +kernel),
      wW h (c := codeF cSides (8 * 0) 8) (l := wdPub) (by decide +kernel) (by decide +kernel) (by decide +kernel)]
    generalize runp b N p = r
    unfold sidW
    by_cases h0 : r = wdPub
    · subst h0; decide +kernel
    by_cases h1 : r = wdChapel
    · subst h1; decide +kernel
    simp only [if_neg h0, if_neg h1]
  · rw [if_neg h]
    unfold runp
    rw [if_neg h]
    decide +kernel
theorem morW_eq (b : Nat → Int32) (N p : Nat) : (if tkp b N p = 1 then lastW cMore (vlp b N p) 3 else none) = morW (runp b N p) := by
  by_cases h : tkp b N p = 1
  · rw [if_pos h]
    simp only [lastW]
    simp only [wW h (c := codeF cMore (8 * 2) 8) (l := wdOn) (by decide +kernel) (by decide +kernel) (by decide +kernel),
      wW h (c := codeF cMore (8 * 1) 8) (l := wdStrong) (by decide +kernel) (by decide +kernel) (by decide +kernel),
      wW h (c := codeF cMore (8 * 0) 8) (l := wdTired) (by decide +kernel) (by decide +kernel) (by decide +kernel)]
    generalize runp b N p = r
    unfold morW
    by_cases h0 : r = wdTired
    · subst h0; decide +kernel
    by_cases h1 : r = wdStrong
    · subst h1; decide +kernel
    by_cases h2 : r = wdOn
    · subst h2; decide +kernel
    simp only [if_neg h0, if_neg h1, if_neg h2]
  · rw [if_neg h]
    unfold runp
    rw [if_neg h]
    decide +kernel
theorem othW_eq (b : Nat → Int32) (N p : Nat) : (if tkp b N p = 1 then lastW cOthers (vlp b N p) 4 else none) = othW (runp b N p) := by
  by_cases h : tkp b N p = 1
  · rw [if_pos h]
    simp only [lastW]
    simp only [wW h (c := codeF cOthers (8 * 3) 8) (l := wdSlack) (by decide +kernel) (by decide +kernel) (by decide +kernel),
      wW h (c := codeF cOthers (8 * 2) 8) (l := wdKnot) (by decide +kernel) (by decide +kernel) (by decide +kernel),
      wW h (c := codeF cOthers (8 * 1) 8) (l := wdHarvest) (by decide +kernel) (by decide +kernel) (by decide +kernel),
      wW h (c := codeF cOthers (8 * 0) 8) (l := wdPlain) (by decide +kernel) (by decide +kernel) (by decide +kernel)]
    generalize runp b N p = r
    unfold othW
    by_cases h0 : r = wdPlain
    · subst h0; decide +kernel
    by_cases h1 : r = wdHarvest
    · subst h1; decide +kernel
    by_cases h2 : r = wdKnot
    · subst h2; decide +kernel
    by_cases h3 : r = wdSlack
    · subst h3; decide +kernel
    simp only [if_neg h0, if_neg h1, if_neg h2, if_neg h3]
  · rw [if_neg h]
    unfold runp
    rw [if_neg h]
    decide +kernel
theorem oTx_eq {o : Option Nat} {k : Nat} (ho : ∀ j, o = some j → j < 100) (hk : k < 100) : oTx o = nI k ↔ o = some k := by
  cases o with
  | none =>
    refine ⟨fun z => ?_, fun z => by cases z⟩
    have := congrArg Int32.toInt z
    rw [nI_toInt (by omega)] at this
    have e : (-1 : Int) = k := this
    omega
  | some j =>
    have := ho j rfl
    refine ⟨fun z => ?_, fun z => by cases z; rfl⟩
    have z := congrArg ix z
    have z : ix (nI j) = ix (nI k) := z
    rw [ix_nI (by omega), ix_nI (by omega)] at z
    rw [z]
theorem oTx_ge {o : Option Nat} (ho : ∀ j, o = some j → j < 2 ^ 31) : (0 : Int32) ≤ oTx o ↔ ∃ k, o = some k := by
  cases o with
  | none => exact ⟨fun z => absurd z (by decide), fun z => by obtain ⟨k, hk⟩ := z; cases hk⟩
  | some j => exact ⟨fun _ => ⟨j, rfl⟩, fun _ => by have := ho j rfl; rw [fa_le]; show (0 : Int) ≤ (nI j).toInt; rw [nI_toInt this]; omega⟩
theorem oTx_lt {o : Option Nat} (ho : ∀ j, o = some j → j < 2 ^ 31) : oTx o < (0 : Int32) ↔ o = none := by
  have := oTx_ge ho
  rw [← Int32.not_le, this]
  cases o with
  | none => simp
  | some j => simp
theorem tkN_le {b : Nat → Int32} {N p x y v : Nat} (h : tkN b N p x y = some v) : x ≤ v ∧ v ≤ y := by
  unfold tkN at h
  split at h
  · next c => cases h; exact c.2
  · cases h
section Text3
variable {Sc : SCR} {μ μ0 ν : Mem} {n : Nat × Nat} {Q : PQ} {S : SG} {s a : Nat → Int32} {p : Nat}
theorem MJ.rows {μ0 μ : Mem} {S : SG} (h : MJ μ0 μ S) : μ.1 77 = cLetters ∧ μ.1 78 = cSides ∧ μ.1 79 = cMore ∧ μ.1 80 = cOthers := ⟨h.2.2.2.2.2.2.2.2.2.2.2.1, h.2.2.2.2.2.2.2.2.2.2.2.2.1, h.2.2.2.2.2.2.2.2.2.2.2.2.2.1, h.2.2.2.2.2.2.2.2.2.2.2.2.2.2⟩
theorem k_knd (g : TP μ0 S a μ p) (hQ : Q (some (.int (oTx (kndW (runp S.2.2.2.2.1 S.2.2.2.2.2.1 p))))) K0 μ) : AM Sc mX12_wordOf [.ref 71, .ref 77] K0 μ n Q :=
  k_wordOf (m := 6) g kLetters (g.mj.rows.1) (by decide) (by decide) (by decide +kernel) (by rw [kndW_eq]; exact hQ)
theorem k_sid (g : TP μ0 S a μ p) (hQ : Q (some (.int (oTx (sidW (runp S.2.2.2.2.1 S.2.2.2.2.2.1 p))))) K0 μ) : AM Sc mX12_wordOf [.ref 71, .ref 78] K0 μ n Q :=
  k_wordOf (m := 2) g kSides (g.mj.rows.2.1) (by decide) (by decide) (by decide +kernel) (by rw [sidW_eq]; exact hQ)
theorem k_mor (g : TP μ0 S a μ p) (hQ : Q (some (.int (oTx (morW (runp S.2.2.2.2.1 S.2.2.2.2.2.1 p))))) K0 μ) : AM Sc mX12_wordOf [.ref 71, .ref 79] K0 μ n Q :=
  k_wordOf (m := 3) g kMore (g.mj.rows.2.2.1) (by decide) (by decide) (by decide +kernel) (by rw [morW_eq]; exact hQ)
theorem k_oth (g : TP μ0 S a μ p) (hQ : Q (some (.int (oTx (othW (runp S.2.2.2.2.1 S.2.2.2.2.2.1 p))))) K0 μ) : AM Sc mX12_wordOf [.ref 71, .ref 80] K0 μ n Q :=
  k_wordOf (m := 4) g kOthers (g.mj.rows.2.2.2) (by decide) (by decide) (by decide +kernel) (by rw [othW_eq]; exact hQ)
end Text3
