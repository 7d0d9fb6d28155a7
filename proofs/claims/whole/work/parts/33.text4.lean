/-! THE TEXT, 4: items. What is read: good or not, where the next token is sought, the row -/
abbrev RD : Type := Bool × Nat × (Nat → Int32)
def rdP3 (b : Nat → Int32) (N k p : Nat) (s : Nat → Int32) : RD := if morW (runp b N p) = some 2 then (true, enp b N p, upd s (5 + 5 * k + 2) 1) else (true, p, s)
def rdP2 (b : Nat → Int32) (N k p : Nat) (s : Nat → Int32) : RD := if morW (runp b N p) = some 0 then (match tkN b N (enp b N p) 0 99 with
  | some v => rdP3 b N k (enp b N (enp b N p)) (upd s (5 + 5 * k + 3) (nI v))
  | none => (false, enp b N p, s)) else rdP3 b N k p s
def rdP1 (b : Nat → Int32) (N k p : Nat) (s : Nat → Int32) : RD := if morW (runp b N p) = some 1 then (match tkN b N (enp b N p) 1 20 with
  | some v => rdP2 b N k (enp b N (enp b N p)) (upd s (5 + 5 * k + 4) (nI v))
  | none => (false, enp b N p, s)) else rdP2 b N k p s
def rdPer (b : Nat → Int32) (N kd p : Nat) (s : Nat → Int32) : RD := if s 4 = 10 then (false, p, s) else match sidW (runp b N (enp b N p)) with
  | none => (false, enp b N p, s)
  | some sd => rdP1 b N (mny s) (enp b N (enp b N p)) (addS s (mny s) (nI kd) (nI sd))
def rdWk (b : Nat → Int32) (N : Nat) (is : Bool) (p : Nat) (s : Nat → Int32) : RD := match tkN b N p 0 7 with
  | none => (false, p, s)
  | some v => (true, enp b N p, upd s 3 (if is then s 3 ||| 1 <<< (nI v &&& 31) else s 3 &&& (1 <<< (nI v &&& 31) ^^^ -1)))
def rdKn (b : Nat → Int32) (N p : Nat) (s : Nat → Int32) : RD := match sidW (runp b N p) with
  | none => (false, p, s)
  | some sd => match tkN b N (enp b N p) 0 9999 with
    | none => (false, enp b N p, s)
    | some v => (true, enp b N (enp b N p), upd s 1 (if sd = 0 then -nI v else nI v))
def rdSl (b : Nat → Int32) (N p : Nat) (s : Nat → Int32) : RD := match tkN b N p 0 99 with
  | none => (false, p, s)
  | some v => (true, enp b N p, upd s 2 (nI v))
def rdItem (b : Nat → Int32) (N p : Nat) (s : Nat → Int32) : RD := match kndW (runp b N p) with
  | some kd => rdPer b N kd p s
  | none => match othW (runp b N p) with
    | none => (false, p, s)
    | some w => if w < 2 then rdWk b N (decide (w = 1)) (enp b N p) s else if w = 2 then rdKn b N (enp b N p) s else rdSl b N (enp b N p) s
def rdAll (b : Nat → Int32) (N : Nat) : Nat → Nat → Nat → (Nat → Int32) → Bool × Nat × Nat × (Nat → Int32)
  | 0, k, p, s => (false, k, p, s)
  | f + 1, k, p, s => if (rdItem b N p s).1 then (if tkp b N (rdItem b N p s).2.1 = 0 then (true, k, (rdItem b N p s).2.1, (rdItem b N p s).2.2) else if tkp b N (rdItem b N p s).2.1 = 3 then rdAll b N f (k + 1) (enp b N (rdItem b N p s).2.1) (rdItem b N p s).2.2 else (false, k, (rdItem b N p s).2.1, (rdItem b N p s).2.2)) else (false, k, (rdItem b N p s).2.1, (rdItem b N p s).2.2)
section Text4
variable {Sc : SCR} {μ μ0 ν : Mem} {n : Nat × Nat} {Q : PQ} {S : SG} {s a : Nat → Int32} {p : Nat}
theorem TP.row (g : TP μ0 S a ν p) (s : Nat → Int32) : TP μ0 (wS S s) a (rowI ν 72 s) p := by
  obtain ⟨h1, h2, h3, h4, h5, h6⟩ := g
  exact ⟨h1.row s, (rowI_ne _ _ (by decide)).trans h2, by rw [rowI_ne _ _ (by decide)]; exact h3, by rw [rowI_ne _ _ (by decide)]; exact h4, by rw [rowI_ne _ _ (by decide)]; exact h5, h6⟩
theorem k_readsPerson {kd : Nat} {x : Int32} (g : TP μ0 S a μ p) (hN : S.2.2.2.2.2.1 ≤ 120) (hp : p ≤ S.2.2.2.2.2.1) (h4 : S.1 4 = nI (mny S.1)) (hm : mny S.1 ≤ 10) (hx : x = nI kd) (hQ : ∀ ν, TP μ0 (wS S (rdPer S.2.2.2.2.1 S.2.2.2.2.2.1 kd p S.1).2.2) a ν (rdPer S.2.2.2.2.1 S.2.2.2.2.2.1 kd p S.1).2.1 → Q (some (.int (bI (rdPer S.2.2.2.2.1 S.2.2.2.2.2.1 kd p S.1).1))) K0 ν) : AM Sc mX12_readsPerson [.ref 71, .int x] K0 μ n Q := by
  refine AM.of rfl (ble rfl) ?_
  generalize hR : rdPer S.2.2.2.2.1 S.2.2.2.2.2.1 kd p S.1 = R at hQ
  have ret : ∀ (c : Bool) (p' : Nat) (s' : Nat → Int32) (ν : Mem), (c, p', s') = R → TP μ0 (wS S s') a ν p' → Q (some (.int (bI c))) K0 ν := by
    intro c p' s' ν e g'
    subst e
    exact hQ ν g'
  unfold rdPer at hR
  have hM := g.mj.hM
  have le : ∀ {q}, q ≤ S.2.2.2.2.2.1 → enp S.2.2.2.2.1 S.2.2.2.2.2.1 q ≤ S.2.2.2.2.2.1 := fun h => (enp_le h).2
  refine aw_aload_n rfl dX12_readsPerson_0 ?_
  refine aw_getR gX12_9_12 kM rfl (hM.s) dX12_readsPerson_1 ?_
  refine aw_iconst (v := 4) (by decide) dX12_readsPerson_4 ?_
  refine aw_ialoadN kS (c := 4) rfl (by decide) (by decide) dX12_readsPerson_5 ?_
  refine aw_bipush (v := 10) (by decide) dX12_readsPerson_6 ?_
  rw [g.mj.hs]
  refine aw_icmp_ne 13 rfl dX12_readsPerson_8 (fun c => ?_) (fun c => ?_)
  · rw [if_neg c] at hR
    have hm9 : mny S.1 < 10 := by
      have : mny S.1 ≠ 10 := by
        intro z
        rw [z] at h4
        exact c h4
      omega
    refine aw_aload_n rfl dX12_readsPerson_13 ?_
    refine aw_v0 kX12_189 ⟨ble rfl, ble rfl⟩ (rcM) (ble rfl) dX12_readsPerson_14 (k_nextToken g hN (le hp) (fun ν g => ?_))
    have g : TP μ0 S a ν (enp S.2.2.2.2.1 S.2.2.2.2.2.1 p) := g
    have hM := g.mj.hM
    refine aw_aload_n rfl dX12_readsPerson_17 ?_
    refine aw_aload_n rfl dX12_readsPerson_18 ?_
    refine aw_getR gX12_29_12 kM rfl (hM.sides) dX12_readsPerson_19 ?_
    refine aw_v1 kX12_192 ⟨ble rfl, ble rfl⟩ (rcM) (ble rfl) dX12_readsPerson_22 (k_sid g ?_)
    refine aw_istore_n (ble rfl) dX12_readsPerson_25 ?_
    refine aw_iload_n rfl dX12_readsPerson_26 ?_
    have hsl : ∀ j, sidW (runp S.2.2.2.2.1 S.2.2.2.2.2.1 (enp S.2.2.2.2.1 S.2.2.2.2.2.1 p)) = some j → j < 2 := fun j hj => sidW_lt hj
    generalize sidW (runp S.2.2.2.2.1 S.2.2.2.2.2.1 (enp S.2.2.2.2.1 S.2.2.2.2.2.1 p)) = o at hR hsl
    refine aw_if_ge 32 rfl dX12_readsPerson_27 (fun c1 => ?_) (fun c1 => ?_)
    · obtain ⟨sd, rfl⟩ := (oTx_ge (fun j hj => by have := hsl j hj; omega)).mp c1
      have hsd := hsl sd rfl
      have hR : rdP1 S.2.2.2.2.1 S.2.2.2.2.2.1 (mny S.1) (enp S.2.2.2.2.1 S.2.2.2.2.2.1 (enp S.2.2.2.2.1 S.2.2.2.2.2.1 p)) (addS S.1 (mny S.1) (nI kd) (nI sd)) = R := hR
      refine aw_aload_n rfl dX12_readsPerson_32 ?_
      refine aw_v0 kX12_189 ⟨ble rfl, ble rfl⟩ (rcM) (ble rfl) dX12_readsPerson_33 (k_nextToken g hN (le (le hp)) (fun ν g => ?_))
      have g : TP μ0 S a ν (enp S.2.2.2.2.1 S.2.2.2.2.2.1 (enp S.2.2.2.2.1 S.2.2.2.2.2.1 p)) := g
      have hp2 := le (le hp)
      generalize enp S.2.2.2.2.1 S.2.2.2.2.2.1 (enp S.2.2.2.2.1 S.2.2.2.2.2.1 p) = p2 at g hR hp2
      have hM := g.mj.hM
      refine aw_aload_n rfl dX12_readsPerson_36 ?_
      refine aw_getR gX12_9_12 kM rfl (hM.s) dX12_readsPerson_37 ?_
      refine aw_iconst (v := 4) (by decide) dX12_readsPerson_40 ?_
      refine aw_ialoadN kS (c := 4) rfl (by decide) (by decide) dX12_readsPerson_41 ?_
      rw [g.mj.hs, h4]
      refine aw_istore_n (ble rfl) dX12_readsPerson_42 ?_
      refine aw_aload_n rfl dX12_readsPerson_43 ?_
      refine aw_iload_n rfl dX12_readsPerson_44 ?_
      refine aw_iload_n rfl dX12_readsPerson_45 ?_
      refine aw_v2 kX12_130 ⟨ble rfl, ble rfl⟩ (rcM) (ble rfl) dX12_readsPerson_46 (k_addsPerson hM g.mj.hs h4 hm9 ?_)
      have g := g.row (addS S.1 (mny S.1) (nI kd) (nI sd))
      rw [hx]
      show AW Sc mX12_readsPerson 49 _ _ K0 (rowI ν 72 (addS S.1 (mny S.1) (nI kd) (nI sd))) n Q
      generalize rowI ν 72 (addS S.1 (mny S.1) (nI kd) (nI sd)) = ν at g
      generalize addS S.1 (mny S.1) (nI kd) (nI sd) = s at g hR
      have yes : ∀ (p' : Nat) (s' : Nat → Int32) (ν : Mem) lv, (true, p', s') = R → TP μ0 (wS S s') a ν p' → AW Sc mX12_readsPerson 151 lv [] K0 ν n Q := by
        intro p' s' ν lv e g'
        refine aw_iconst (v := 1) (by decide) dX12_readsPerson_151 ?_
        exact aw_zret (b := true) rfl dX12_readsPerson_152 rfl (ret _ _ _ _ e g')
      have st3 : ∀ (q : Nat) (t : Nat → Int32) (ν : Mem), q ≤ S.2.2.2.2.2.1 → TP μ0 (wS S t) a ν q → rdP3 S.2.2.2.2.1 S.2.2.2.2.2.1 (mny S.1) q t = R → AW Sc mX12_readsPerson 128 [(0, .ref 71), (3, .int (nI (mny S.1)))] [] K0 ν n Q := by
        intro q t ν hq g e
        have hM := g.mj.hM
        refine aw_aload_n rfl dX12_readsPerson_128 ?_
        refine aw_aload_n rfl dX12_readsPerson_129 ?_
        refine aw_getR gX12_32_12 kM rfl (hM.more) dX12_readsPerson_130 ?_
        refine aw_v1 kX12_192 ⟨ble rfl, ble rfl⟩ (rcM) (ble rfl) dX12_readsPerson_133 (k_mor g ?_)
        refine aw_iconst (v := 2) (by decide) dX12_readsPerson_136 ?_
        unfold rdP3 at e
        have ek : oTx (morW (runp S.2.2.2.2.1 S.2.2.2.2.2.1 q)) = nI 2 ↔ _ := oTx_eq (fun j hj => by have := morW_lt hj; omega) (by decide)
        refine aw_icmp_ne 151 rfl dX12_readsPerson_137 (fun d => ?_) (fun d => ?_)
        · rw [if_neg (fun z => d (ek.mpr z))] at e
          exact yes _ _ ν _ e g
        · rw [if_pos (ek.mp d)] at e
          refine aw_aload_n rfl dX12_readsPerson_140 ?_
          refine aw_v0 kX12_189 ⟨ble rfl, ble rfl⟩ (rcM) (ble rfl) dX12_readsPerson_141 (k_nextToken g hN (le hq) (fun ν g => ?_))
          have g : TP μ0 (wS S t) a ν (enp S.2.2.2.2.1 S.2.2.2.2.2.1 q) := g
          refine aw_aload_n rfl dX12_readsPerson_144 ?_
          refine aw_iload_n rfl dX12_readsPerson_145 ?_
          refine aw_iconst (v := 2) (by decide) dX12_readsPerson_146 ?_
          refine aw_iconst (v := 1) (by decide) dX12_readsPerson_147 ?_
          refine aw_v3 kX12_88 ⟨ble rfl, ble rfl⟩ (rcM) (ble rfl) dX12_readsPerson_148 (g_puts g.mj.hM g.mj.hs (k := mny S.1) rfl (j := 2) rfl hm9 (by decide) ?_)
          exact yes _ _ _ _ e (g.row _)
      have st2 : ∀ (q : Nat) (t : Nat → Int32) (ν : Mem), q ≤ S.2.2.2.2.2.1 → TP μ0 (wS S t) a ν q → rdP2 S.2.2.2.2.1 S.2.2.2.2.2.1 (mny S.1) q t = R → AW Sc mX12_readsPerson 89 [(0, .ref 71), (3, .int (nI (mny S.1)))] [] K0 ν n Q := by
        intro q t ν hq g e
        have hM := g.mj.hM
        refine aw_aload_n rfl dX12_readsPerson_89 ?_
        refine aw_aload_n rfl dX12_readsPerson_90 ?_
        refine aw_getR gX12_32_12 kM rfl (hM.more) dX12_readsPerson_91 ?_
        refine aw_v1 kX12_192 ⟨ble rfl, ble rfl⟩ (rcM) (ble rfl) dX12_readsPerson_94 (k_mor g ?_)
        unfold rdP2 at e
        have ek : oTx (morW (runp S.2.2.2.2.1 S.2.2.2.2.2.1 q)) = nI 0 ↔ _ := oTx_eq (fun j hj => by have := morW_lt hj; omega) (by decide)
        refine aw_if_ne 128 rfl dX12_readsPerson_97 (fun d => ?_) (fun d => ?_)
        · rw [if_neg (fun z => d (ek.mpr z))] at e
          exact st3 q t ν hq g e
        · rw [if_pos (ek.mp d)] at e
          refine aw_aload_n rfl dX12_readsPerson_100 ?_
          refine aw_v0 kX12_189 ⟨ble rfl, ble rfl⟩ (rcM) (ble rfl) dX12_readsPerson_101 (k_nextToken g hN (le hq) (fun ν g => ?_))
          have g : TP μ0 (wS S t) a ν (enp S.2.2.2.2.1 S.2.2.2.2.2.1 q) := g
          refine aw_aload_n rfl dX12_readsPerson_104 ?_
          refine aw_iconst (v := 0) (by decide) dX12_readsPerson_105 ?_
          refine aw_bipush (v := 99) (by decide) dX12_readsPerson_106 ?_
          refine aw_v2 kX12_196 ⟨ble rfl, ble rfl⟩ (rcM) (ble rfl) dX12_readsPerson_108 (k_takesNumber (x := 0) (y := 99) g hN (le hq) rfl rfl (by decide) (fun ν g => ?_))
          have g : TP μ0 (wS S t) a ν (ptk S.2.2.2.2.1 S.2.2.2.2.2.1 (enp S.2.2.2.2.1 S.2.2.2.2.2.1 q) 0 99) := g
          unfold ptk at g
          show AW Sc mX12_readsPerson 111 _ (pushr (some (.int (oTx (tkN S.2.2.2.2.1 S.2.2.2.2.2.1 (enp S.2.2.2.2.1 S.2.2.2.2.2.1 q) 0 99)))) _) K0 ν n Q
          have htl := fun v => @tkN_le S.2.2.2.2.1 S.2.2.2.2.2.1 (enp S.2.2.2.2.1 S.2.2.2.2.2.1 q) 0 99 v
          generalize tkN S.2.2.2.2.1 S.2.2.2.2.2.1 (enp S.2.2.2.2.1 S.2.2.2.2.2.1 q) 0 99 = o at e g htl
          refine aw_istore (ble rfl) dX12_readsPerson_111 ?_
          refine aw_iload rfl dX12_readsPerson_113 ?_
          cases o with
          | none =>
            refine aw_if_ge 120 rfl dX12_readsPerson_115 (fun c_ => absurd c_ ((by decide))) (fun _ => ?_)
            refine aw_iconst (v := 0) (by decide) dX12_readsPerson_118 ?_
            exact aw_zret (b := false) rfl dX12_readsPerson_119 rfl (ret _ _ _ _ e g)
          | some v =>
            have := htl v rfl
            refine aw_if_ge 120 rfl dX12_readsPerson_115 (fun _ => ?_) (fun c_ => absurd (nI_le (a := 0) (by omega) (by omega)) c_)
            refine aw_aload_n rfl dX12_readsPerson_120 ?_
            refine aw_iload_n rfl dX12_readsPerson_121 ?_
            refine aw_iconst (v := 3) (by decide) dX12_readsPerson_122 ?_
            refine aw_iload rfl dX12_readsPerson_123 ?_
            refine aw_v3 kX12_88 ⟨ble rfl, ble rfl⟩ (rcM) (ble rfl) dX12_readsPerson_125 (g_puts g.mj.hM g.mj.hs (k := mny S.1) rfl (j := 3) rfl hm9 (by decide) ?_)
            refine aw_keep [0, 3] ?_
            exact st3 _ _ _ (le (le hq)) (g.row _) e
      have st1 : ∀ (q : Nat) (t : Nat → Int32) (ν : Mem), q ≤ S.2.2.2.2.2.1 → TP μ0 (wS S t) a ν q → rdP1 S.2.2.2.2.1 S.2.2.2.2.2.1 (mny S.1) q t = R → AW Sc mX12_readsPerson 49 [(0, .ref 71), (3, .int (nI (mny S.1)))] [] K0 ν n Q := by
        intro q t ν hq g e
        have hM := g.mj.hM
        refine aw_aload_n rfl dX12_readsPerson_49 ?_
        refine aw_aload_n rfl dX12_readsPerson_50 ?_
        refine aw_getR gX12_32_12 kM rfl (hM.more) dX12_readsPerson_51 ?_
        refine aw_v1 kX12_192 ⟨ble rfl, ble rfl⟩ (rcM) (ble rfl) dX12_readsPerson_54 (k_mor g ?_)
        refine aw_iconst (v := 1) (by decide) dX12_readsPerson_57 ?_
        unfold rdP1 at e
        have ek : oTx (morW (runp S.2.2.2.2.1 S.2.2.2.2.2.1 q)) = nI 1 ↔ _ := oTx_eq (fun j hj => by have := morW_lt hj; omega) (by decide)
        refine aw_icmp_ne 89 rfl dX12_readsPerson_58 (fun d => ?_) (fun d => ?_)
        · rw [if_neg (fun z => d (ek.mpr z))] at e
          exact st2 q t ν hq g e
        · rw [if_pos (ek.mp d)] at e
          refine aw_aload_n rfl dX12_readsPerson_61 ?_
          refine aw_v0 kX12_189 ⟨ble rfl, ble rfl⟩ (rcM) (ble rfl) dX12_readsPerson_62 (k_nextToken g hN (le hq) (fun ν g => ?_))
          have g : TP μ0 (wS S t) a ν (enp S.2.2.2.2.1 S.2.2.2.2.2.1 q) := g
          refine aw_aload_n rfl dX12_readsPerson_65 ?_
          refine aw_iconst (v := 1) (by decide) dX12_readsPerson_66 ?_
          refine aw_bipush (v := 20) (by decide) dX12_readsPerson_67 ?_
          refine aw_v2 kX12_196 ⟨ble rfl, ble rfl⟩ (rcM) (ble rfl) dX12_readsPerson_69 (k_takesNumber (x := 1) (y := 20) g hN (le hq) rfl rfl (by decide) (fun ν g => ?_))
          have g : TP μ0 (wS S t) a ν (ptk S.2.2.2.2.1 S.2.2.2.2.2.1 (enp S.2.2.2.2.1 S.2.2.2.2.2.1 q) 1 20) := g
          unfold ptk at g
          show AW Sc mX12_readsPerson 72 _ (pushr (some (.int (oTx (tkN S.2.2.2.2.1 S.2.2.2.2.2.1 (enp S.2.2.2.2.1 S.2.2.2.2.2.1 q) 1 20)))) _) K0 ν n Q
          have htl := fun v => @tkN_le S.2.2.2.2.1 S.2.2.2.2.2.1 (enp S.2.2.2.2.1 S.2.2.2.2.2.1 q) 1 20 v
          generalize tkN S.2.2.2.2.1 S.2.2.2.2.2.1 (enp S.2.2.2.2.1 S.2.2.2.2.2.1 q) 1 20 = o at e g htl
          refine aw_istore (ble rfl) dX12_readsPerson_72 ?_
          refine aw_iload rfl dX12_readsPerson_74 ?_
          cases o with
          | none =>
            refine aw_if_ge 81 rfl dX12_readsPerson_76 (fun c_ => absurd c_ ((by decide))) (fun _ => ?_)
            refine aw_iconst (v := 0) (by decide) dX12_readsPerson_79 ?_
            exact aw_zret (b := false) rfl dX12_readsPerson_80 rfl (ret _ _ _ _ e g)
          | some v =>
            have := htl v rfl
            refine aw_if_ge 81 rfl dX12_readsPerson_76 (fun _ => ?_) (fun c_ => absurd (nI_le (a := 0) (by omega) (by omega)) c_)
            refine aw_aload_n rfl dX12_readsPerson_81 ?_
            refine aw_iload_n rfl dX12_readsPerson_82 ?_
            refine aw_iconst (v := 4) (by decide) dX12_readsPerson_83 ?_
            refine aw_iload rfl dX12_readsPerson_84 ?_
            refine aw_v3 kX12_88 ⟨ble rfl, ble rfl⟩ (rcM) (ble rfl) dX12_readsPerson_86 (g_puts g.mj.hM g.mj.hs (k := mny S.1) rfl (j := 4) rfl hm9 (by decide) ?_)
            refine aw_keep [0, 3] ?_
            exact st2 _ _ _ (le (le hq)) (g.row _) e
      refine aw_keep [0, 3] ?_
      exact st1 p2 s ν hp2 g hR
    · have e0 : o = none := by
        cases o with
        | none => rfl
        | some j => exact absurd ((oTx_ge (fun j hj => by have := hsl j hj; omega)).mpr ⟨j, rfl⟩) c1
      subst e0
      refine aw_iconst (v := 0) (by decide) dX12_readsPerson_30 ?_
      exact aw_zret (b := false) rfl dX12_readsPerson_31 rfl (ret _ _ _ _ hR g)
  · rw [if_pos c] at hR
    refine aw_iconst (v := 0) (by decide) dX12_readsPerson_11 ?_
    exact aw_zret (b := false) rfl dX12_readsPerson_12 rfl (ret _ _ _ _ hR g)
end Text4
