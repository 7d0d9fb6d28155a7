/-! THE CONSTRUCTORS, 3: the reference -/
def rp (l : List Int32) (k : Nat) : Nat → Int32 := fun j => if j < k then l.getD j 0 else 0
theorem rp_up {l : List Int32} {k : Nat} {v : Int32} (h : l.getD k 0 = v) : upd (rp l k) k v = rp l (k + 1) := by
  funext j
  by_cases e : j = k
  · subst e
    rw [upd_eq]
    unfold rp
    rw [if_pos (by omega), h]
  · rw [upd_ne e]
    unfold rp
    by_cases e2 : j < k
    · rw [if_pos e2, if_pos (by omega)]
    · rw [if_neg e2, if_neg (by omega)]
theorem rp_all (l : List Int32) : rp l l.length = fun j => l.getD j 0 := by
  funext j
  unfold rp
  split
  · rfl
  · next h => rw [List.getD_eq_getElem?_getD, List.getElem?_eq_none (by omega)]; rfl
theorem rp_0 (μ : Mem) (q : Nat) (l : List Int32) : p0 μ q = rowI (p0 μ q) q (rp l 0) := by
  have e : rp l 0 = (p0 μ q).1 q := by
    rw [p0_1]
    funext j
    unfold rp
    rw [if_neg (by omega)]
  rw [e, rowI_self]
section Ctor3
variable {Sc : SCR} {M : MD} {lv : List (Nat × Value)} {st : List Value} {K : List kd} {μ μ' ν : Mem} {n : Nat × Nat} {Q : PQ}
theorem aw_cst {l : List Int32} {k N q pc p2 p3 p4 p5 : Nat} {v : Int32} (hK : K[q]? = some (.inr (2, N))) (hk : k < N) (hN : N ≤ 200) (hv : l.getD k 0 = v) (hc : narrow .char (.int v) = .int v) (d1 : decode M.2.1 pc = .ok (.dup, 1)) (e2 : pc + 1 = p2) (hp : ∀ (st : List Value) (μ : Mem), AW Sc M p3 lv (.int (nI k) :: st) K μ n Q → AW Sc M p2 lv st K μ n Q) (hp2 : ∀ (st : List Value) (μ : Mem), AW Sc M p4 lv (.int v :: st) K μ n Q → AW Sc M p3 lv st K μ n Q) (d4 : decode M.2.1 p4 = .ok (.castore, 1)) (e5 : p4 + 1 = p5) (h : AW Sc M p5 lv (.ref q :: st) K (rowI μ q (rp l (k + 1))) n Q) : AW Sc M pc lv (.ref q :: st) K (rowI μ q (rp l k)) n Q := by
  refine aw_dup rfl d1 ?_
  rw [e2]
  refine hp _ _ (hp2 _ _ ?_)
  refine aw_castoreN hK rfl hk hN hc d4 ?_
  rw [e5, pI_rowI, rp_up hv]
  exact h
theorem up1 (μ : Mem) (q k : Nat) (v : Int32) (p : Nat) : (pI μ q k v).1 p = if p = q then upd (μ.1 q) k v else μ.1 p := by
  split
  · next h => subst h; exact pI_row _ _ _ _
  · next h => exact pI_ne _ _ _ h
def stA (ν : Mem) (m j : Nat) : Mem := pR (p0 ν m) 71 j (some m)
def stC (ν : Mem) (m j : Nat) (f : Nat → Int32) : Mem := pR (rowI (p0 ν m) m f) 71 j (some m)
theorem stA1 (ν : Mem) (m j q : Nat) : (stA ν m j).1 q = if q = m then (fun _ => 0) else ν.1 q := by
  show (p0 ν m).1 q = _
  split
  · next h => subst h; exact p0_1 _ _
  · next h => exact va_up_ne _ _ h
theorem stA2 (ν : Mem) (m j q : Nat) : (stA ν m j).2.1 q = if q = m then (fun _ => 0) else ν.2.1 q := by
  show (p0 ν m).2.1 q = _
  split
  · next h => subst h; exact p0_2 _ _
  · next h => exact va_up_ne _ _ h
theorem stA3 (ν : Mem) {m : Nat} (j k : Nat) (hm : m ≠ 71) : (stA ν m j).2.2 71 k = if k = j then some m else ν.2.2 71 k := by
  unfold stA
  split
  · next h => subst h; exact pR_get _ _ _ _
  · next h => rw [pR_at _ _ _ h]; exact congrFun (va_up_ne _ _ (fun z => hm z.symm)) k
theorem stC1 (ν : Mem) (m j : Nat) (f : Nat → Int32) (q : Nat) : (stC ν m j f).1 q = if q = m then f else ν.1 q := by
  show (rowI (p0 ν m) m f).1 q = _
  split
  · next h => subst h; exact rowI_get _ _ _
  · next h => rw [rowI_ne _ _ h]; exact va_up_ne _ _ h
theorem stC2 (ν : Mem) (m j : Nat) (f : Nat → Int32) (q : Nat) : (stC ν m j f).2.1 q = if q = m then (fun _ => 0) else ν.2.1 q := stA2 ν m j q
theorem stC3 (ν : Mem) {m : Nat} (j : Nat) (f : Nat → Int32) (k : Nat) (hm : m ≠ 71) : (stC ν m j f).2.2 71 k = if k = j then some m else ν.2.2 71 k := stA3 ν j k hm
theorem stA_sm (ν : Mem) {m : Nat} (j : Nat) (hm : 71 ≤ m) : Sm (fun q => q < 71) ν (stA ν m j) := (sm_p0 (by omega)).trans (sm_pR (by decide))
theorem stC_sm (ν : Mem) {m : Nat} (j : Nat) (f : Nat → Int32) (hm : 71 ≤ m) : Sm (fun q => q < 71) ν (stC ν m j f) := by
  refine (sm_p0 (a := m) (by omega)).trans (Sm.trans (μ' := rowI (p0 ν m) m f) (fun q hq => ?_) (sm_pR (by decide)))
  have : q < 71 := hq
  exact ⟨rowI_ne _ _ (by omega), rfl, rfl⟩
def MB (μ : Mem) : Prop := MR μ.2.2 ∧ μ.1 72 = s0 ∧ μ.1 75 = (fun _ => 0) ∧ μ.1 71 3 = 0 ∧ μ.1 76 = (fun _ => 0) ∧ μ.1 71 6 = 0 ∧ μ.1 81 = (fun _ => 0) ∧ μ.1 82 = (fun _ => 0) ∧ μ.2.1 83 = (fun _ => 0) ∧ μ.1 77 = cLetters ∧ μ.1 78 = cSides ∧ μ.1 79 = cMore ∧ μ.1 80 = cOthers
def mEnd (μ : Mem) : Mem := stA (stA (stA (stA (stC (stC (stC (stC (stA (stA (stA (stA (stA μ 72 0) 73 1) 74 2) 75 4) 76 5) 77 11 cLetters) 78 12 cSides) 79 13 cMore) 80 14 cOthers) 81 15) 82 16) 83 17) 84 18
theorem mEnd_mb (h3 : μ.1 71 3 = 0) (h6 : μ.1 71 6 = 0) : MB (pI (pI (mEnd μ) 72 2 3) 72 3 32) := by
  have r : ∀ k, (pI (pI (mEnd μ) 72 2 3) 72 3 32).2.2 71 k = (mEnd μ).2.2 71 k := fun _ => rfl
  have j : (pI (pI (mEnd μ) 72 2 3) 72 3 32).2.1 = (mEnd μ).2.1 := rfl
  unfold MB MR
  simp only [r, j, up1, mEnd]
  simp only [stA3 _ _ _ (show (84 : Nat) ≠ 71 by decide), stA3 _ _ _ (show (83 : Nat) ≠ 71 by decide), stA3 _ _ _ (show (82 : Nat) ≠ 71 by decide), stA3 _ _ _ (show (81 : Nat) ≠ 71 by decide), stC3 _ _ _ _ (show (80 : Nat) ≠ 71 by decide), stC3 _ _ _ _ (show (79 : Nat) ≠ 71 by decide), stC3 _ _ _ _ (show (78 : Nat) ≠ 71 by decide), stC3 _ _ _ _ (show (77 : Nat) ≠ 71 by decide), stA3 _ _ _ (show (76 : Nat) ≠ 71 by decide), stA3 _ _ _ (show (75 : Nat) ≠ 71 by decide), stA3 _ _ _ (show (74 : Nat) ≠ 71 by decide), stA3 _ _ _ (show (73 : Nat) ≠ 71 by decide), stA3 _ _ _ (show (72 : Nat) ≠ 71 by decide), stA1, stA2, stC1, stC2]
  refine ⟨⟨rfl, rfl, rfl, rfl, rfl, rfl, rfl, rfl, rfl, rfl, rfl, rfl, rfl⟩, rfl, rfl, h3, rfl, h6, rfl, rfl, rfl, rfl, rfl, rfl, rfl⟩
theorem mEnd_sm : Sm (fun q => q < 71) μ (pI (pI (mEnd μ) 72 2 3) 72 3 32) := by
  refine Sm.trans ?_ ((sm_pI (by decide)).trans (sm_pI (by decide)))
  unfold mEnd
  refine Sm.trans ?_ (stA_sm _ _ (by decide))
  refine Sm.trans ?_ (stA_sm _ _ (by decide))
  refine Sm.trans ?_ (stA_sm _ _ (by decide))
  refine Sm.trans ?_ (stA_sm _ _ (by decide))
  refine Sm.trans ?_ (stC_sm _ _ _ (by decide))
  refine Sm.trans ?_ (stC_sm _ _ _ (by decide))
  refine Sm.trans ?_ (stC_sm _ _ _ (by decide))
  refine Sm.trans ?_ (stC_sm _ _ _ (by decide))
  refine Sm.trans ?_ (stA_sm _ _ (by decide))
  refine Sm.trans ?_ (stA_sm _ _ (by decide))
  refine Sm.trans ?_ (stA_sm _ _ (by decide))
  refine Sm.trans ?_ (stA_sm _ _ (by decide))
  exact stA_sm _ _ (by decide)
def lLet : List Int32 := [109, 97, 110, 32, 32, 32, 32, 32, 115, 111, 110, 32, 32, 32, 32, 32, 100, 114, 105, 110, 107, 101, 114, 32, 119, 111, 109, 97, 110, 32, 32, 32, 112, 114, 101, 97, 99, 104, 101, 114, 115, 116, 114, 97, 110, 103, 101, 114]
def lSid : List Int32 := [112, 117, 98, 32, 32, 32, 32, 32, 99, 104, 97, 112, 101, 108, 32, 32]
def lMor : List Int32 := [116, 105, 114, 101, 100, 32, 32, 32, 115, 116, 114, 111, 110, 103, 32, 32, 111, 110, 32, 32, 32, 32, 32, 32]
def lOth : List Int32 := [112, 108, 97, 105, 110, 32, 32, 32, 104, 97, 114, 118, 101, 115, 116, 32, 107, 110, 111, 116, 32, 32, 32, 32, 115, 108, 97, 99, 107, 32, 32, 32]
theorem i_model (h3 : μ.1 71 3 = 0) (h6 : μ.1 71 6 = 0) (hQ : ∀ μ', Sm (fun q => q < 71) μ μ' → MB μ' → Q none K0 μ') : AM Sc mX12_init [.ref 71] (Kp 72) μ (13, 620) Q := by
  refine AM.of rfl (ble rfl) ?_
  refine aw_aload_n rfl dX12_init_0 ?_
  refine aw_objInit kX12_1 (ble rfl) ⟨ble rfl, ble rfl⟩ dX12_init_1 ?_
  refine aw_aload_n rfl dX12_init_4 ?_
  refine aw_bipush (v := 55) (by decide) dX12_init_5 ?_
  refine aw_newIP (m := 72) (N := 55) (12, 565) rfl (by decide) rfl ⟨ble rfl, ble rfl⟩ dX12_init_7 ?_
  refine aw_putR pX12_9_12i (kp kM (by decide)) rfl (fun _ => rfl) (fun _ => rfl) dX12_init_9 ?_
  show AW Sc mX12_init 12 _ _ _ (stA μ 72 0) _ Q
  generalize hν72 : stA μ 72 0 = ν72
  refine aw_aload_n rfl dX12_init_12 ?_
  refine aw_bipush (v := 55) (by decide) dX12_init_13 ?_
  refine aw_newIP (m := 73) (N := 55) (11, 510) rfl (by decide) rfl ⟨ble rfl, ble rfl⟩ dX12_init_15 ?_
  refine aw_putR pX12_13_12i (kp kM (by decide)) rfl (fun _ => rfl) (fun _ => rfl) dX12_init_17 ?_
  show AW Sc mX12_init 20 _ _ _ (stA ν72 73 1) _ Q
  generalize hν73 : stA ν72 73 1 = ν73
  refine aw_aload_n rfl dX12_init_20 ?_
  refine aw_bipush (v := 55) (by decide) dX12_init_21 ?_
  refine aw_newIP (m := 74) (N := 55) (10, 455) rfl (by decide) rfl ⟨ble rfl, ble rfl⟩ dX12_init_23 ?_
  refine aw_putR pX12_16_12i (kp kM (by decide)) rfl (fun _ => rfl) (fun _ => rfl) dX12_init_25 ?_
  show AW Sc mX12_init 28 _ _ _ (stA ν73 74 2) _ Q
  generalize hν74 : stA ν73 74 2 = ν74
  refine aw_aload_n rfl dX12_init_28 ?_
  refine aw_bipush (v := 7) (by decide) dX12_init_29 ?_
  refine aw_newIP (m := 75) (N := 7) (9, 448) rfl (by decide) rfl ⟨ble rfl, ble rfl⟩ dX12_init_31 ?_
  refine aw_putR pX12_19_12i (kp kM (by decide)) rfl (fun _ => rfl) (fun _ => rfl) dX12_init_33 ?_
  show AW Sc mX12_init 36 _ _ _ (stA ν74 75 4) _ Q
  generalize hν75 : stA ν74 75 4 = ν75
  refine aw_aload_n rfl dX12_init_36 ?_
  refine aw_bipush (v := 120) (by decide) dX12_init_37 ?_
  refine aw_newIP (m := 76) (N := 120) (8, 328) rfl (by decide) rfl ⟨ble rfl, ble rfl⟩ dX12_init_39 ?_
  refine aw_putR pX12_22_12i (kp kM (by decide)) rfl (fun _ => rfl) (fun _ => rfl) dX12_init_41 ?_
  show AW Sc mX12_init 44 _ _ _ (stA ν75 76 5) _ Q
  generalize hν76 : stA ν75 76 5 = ν76
  refine aw_aload_n rfl dX12_init_44 ?_
  refine aw_bipush (v := 48) (by decide) dX12_init_45 ?_
  refine aw_newCP (m := 77) (N := 48) (7, 280) rfl (by decide) rfl ⟨ble rfl, ble rfl⟩ dX12_init_47 ?_
  rw [rp_0 ν76 77 lLet]
  show AW Sc mX12_init 49 _ _ (Kp 78) _ _ Q
  refine aw_cst (k := 0) (v := 109) (p2 := 50) (p3 := 51) (p4 := 53) (p5 := 54) (kp (i := 77) rfl (by decide)) (by decide) (by decide) rfl rfl dX12_init_49 rfl (fun _ _ h => aw_iconst (v := 0) (by decide) dX12_init_50 h) (fun _ _ h => aw_bipush (v := 109) (by decide) dX12_init_51 h) dX12_init_53 rfl ?_
  refine aw_cst (k := 1) (v := 97) (p2 := 55) (p3 := 56) (p4 := 58) (p5 := 59) (kp (i := 77) rfl (by decide)) (by decide) (by decide) rfl rfl dX12_init_54 rfl (fun _ _ h => aw_iconst (v := 1) (by decide) dX12_init_55 h) (fun _ _ h => aw_bipush (v := 97) (by decide) dX12_init_56 h) dX12_init_58 rfl ?_
  refine aw_cst (k := 2) (v := 110) (p2 := 60) (p3 := 61) (p4 := 63) (p5 := 64) (kp (i := 77) rfl (by decide)) (by decide) (by decide) rfl rfl dX12_init_59 rfl (fun _ _ h => aw_iconst (v := 2) (by decide) dX12_init_60 h) (fun _ _ h => aw_bipush (v := 110) (by decide) dX12_init_61 h) dX12_init_63 rfl ?_
  refine aw_cst (k := 3) (v := 32) (p2 := 65) (p3 := 66) (p4 := 68) (p5 := 69) (kp (i := 77) rfl (by decide)) (by decide) (by decide) rfl rfl dX12_init_64 rfl (fun _ _ h => aw_iconst (v := 3) (by decide) dX12_init_65 h) (fun _ _ h => aw_bipush (v := 32) (by decide) dX12_init_66 h) dX12_init_68 rfl ?_
  refine aw_cst (k := 4) (v := 32) (p2 := 70) (p3 := 71) (p4 := 73) (p5 := 74) (kp (i := 77) rfl (by decide)) (by decide) (by decide) rfl rfl dX12_init_69 rfl (fun _ _ h => aw_iconst (v := 4) (by decide) dX12_init_70 h) (fun _ _ h => aw_bipush (v := 32) (by decide) dX12_init_71 h) dX12_init_73 rfl ?_
  refine aw_cst (k := 5) (v := 32) (p2 := 75) (p3 := 76) (p4 := 78) (p5 := 79) (kp (i := 77) rfl (by decide)) (by decide) (by decide) rfl rfl dX12_init_74 rfl (fun _ _ h => aw_iconst (v := 5) (by decide) dX12_init_75 h) (fun _ _ h => aw_bipush (v := 32) (by decide) dX12_init_76 h) dX12_init_78 rfl ?_
  refine aw_cst (k := 6) (v := 32) (p2 := 80) (p3 := 82) (p4 := 84) (p5 := 85) (kp (i := 77) rfl (by decide)) (by decide) (by decide) rfl rfl dX12_init_79 rfl (fun _ _ h => aw_bipush (v := 6) (by decide) dX12_init_80 h) (fun _ _ h => aw_bipush (v := 32) (by decide) dX12_init_82 h) dX12_init_84 rfl ?_
  refine aw_cst (k := 7) (v := 32) (p2 := 86) (p3 := 88) (p4 := 90) (p5 := 91) (kp (i := 77) rfl (by decide)) (by decide) (by decide) rfl rfl dX12_init_85 rfl (fun _ _ h => aw_bipush (v := 7) (by decide) dX12_init_86 h) (fun _ _ h => aw_bipush (v := 32) (by decide) dX12_init_88 h) dX12_init_90 rfl ?_
  refine aw_cst (k := 8) (v := 115) (p2 := 92) (p3 := 94) (p4 := 96) (p5 := 97) (kp (i := 77) rfl (by decide)) (by decide) (by decide) rfl rfl dX12_init_91 rfl (fun _ _ h => aw_bipush (v := 8) (by decide) dX12_init_92 h) (fun _ _ h => aw_bipush (v := 115) (by decide) dX12_init_94 h) dX12_init_96 rfl ?_
  refine aw_cst (k := 9) (v := 111) (p2 := 98) (p3 := 100) (p4 := 102) (p5 := 103) (kp (i := 77) rfl (by decide)) (by decide) (by decide) rfl rfl dX12_init_97 rfl (fun _ _ h => aw_bipush (v := 9) (by decide) dX12_init_98 h) (fun _ _ h => aw_bipush (v := 111) (by decide) dX12_init_100 h) dX12_init_102 rfl ?_
  refine aw_cst (k := 10) (v := 110) (p2 := 104) (p3 := 106) (p4 := 108) (p5 := 109) (kp (i := 77) rfl (by decide)) (by decide) (by decide) rfl rfl dX12_init_103 rfl (fun _ _ h => aw_bipush (v := 10) (by decide) dX12_init_104 h) (fun _ _ h => aw_bipush (v := 110) (by decide) dX12_init_106 h) dX12_init_108 rfl ?_
  refine aw_cst (k := 11) (v := 32) (p2 := 110) (p3 := 112) (p4 := 114) (p5 := 115) (kp (i := 77) rfl (by decide)) (by decide) (by decide) rfl rfl dX12_init_109 rfl (fun _ _ h => aw_bipush (v := 11) (by decide) dX12_init_110 h) (fun _ _ h => aw_bipush (v := 32) (by decide) dX12_init_112 h) dX12_init_114 rfl ?_
  refine aw_cst (k := 12) (v := 32) (p2 := 116) (p3 := 118) (p4 := 120) (p5 := 121) (kp (i := 77) rfl (by decide)) (by decide) (by decide) rfl rfl dX12_init_115 rfl (fun _ _ h => aw_bipush (v := 12) (by decide) dX12_init_116 h) (fun _ _ h => aw_bipush (v := 32) (by decide) dX12_init_118 h) dX12_init_120 rfl ?_
  refine aw_cst (k := 13) (v := 32) (p2 := 122) (p3 := 124) (p4 := 126) (p5 := 127) (kp (i := 77) rfl (by decide)) (by decide) (by decide) rfl rfl dX12_init_121 rfl (fun _ _ h => aw_bipush (v := 13) (by decide) dX12_init_122 h) (fun _ _ h => aw_bipush (v := 32) (by decide) dX12_init_124 h) dX12_init_126 rfl ?_
  refine aw_cst (k := 14) (v := 32) (p2 := 128) (p3 := 130) (p4 := 132) (p5 := 133) (kp (i := 77) rfl (by decide)) (by decide) (by decide) rfl rfl dX12_init_127 rfl (fun _ _ h => aw_bipush (v := 14) (by decide) dX12_init_128 h) (fun _ _ h => aw_bipush (v := 32) (by decide) dX12_init_130 h) dX12_init_132 rfl ?_
  refine aw_cst (k := 15) (v := 32) (p2 := 134) (p3 := 136) (p4 := 138) (p5 := 139) (kp (i := 77) rfl (by decide)) (by decide) (by decide) rfl rfl dX12_init_133 rfl (fun _ _ h => aw_bipush (v := 15) (by decide) dX12_init_134 h) (fun _ _ h => aw_bipush (v := 32) (by decide) dX12_init_136 h) dX12_init_138 rfl ?_
  refine aw_cst (k := 16) (v := 100) (p2 := 140) (p3 := 142) (p4 := 144) (p5 := 145) (kp (i := 77) rfl (by decide)) (by decide) (by decide) rfl rfl dX12_init_139 rfl (fun _ _ h => aw_bipush (v := 16) (by decide) dX12_init_140 h) (fun _ _ h => aw_bipush (v := 100) (by decide) dX12_init_142 h) dX12_init_144 rfl ?_
  refine aw_cst (k := 17) (v := 114) (p2 := 146) (p3 := 148) (p4 := 150) (p5 := 151) (kp (i := 77) rfl (by decide)) (by decide) (by decide) rfl rfl dX12_init_145 rfl (fun _ _ h => aw_bipush (v := 17) (by decide) dX12_init_146 h) (fun _ _ h => aw_bipush (v := 114) (by decide) dX12_init_148 h) dX12_init_150 rfl ?_
  refine aw_cst (k := 18) (v := 105) (p2 := 152) (p3 := 154) (p4 := 156) (p5 := 157) (kp (i := 77) rfl (by decide)) (by decide) (by decide) rfl rfl dX12_init_151 rfl (fun _ _ h => aw_bipush (v := 18) (by decide) dX12_init_152 h) (fun _ _ h => aw_bipush (v := 105) (by decide) dX12_init_154 h) dX12_init_156 rfl ?_
  refine aw_cst (k := 19) (v := 110) (p2 := 158) (p3 := 160) (p4 := 162) (p5 := 163) (kp (i := 77) rfl (by decide)) (by decide) (by decide) rfl rfl dX12_init_157 rfl (fun _ _ h => aw_bipush (v := 19) (by decide) dX12_init_158 h) (fun _ _ h => aw_bipush (v := 110) (by decide) dX12_init_160 h) dX12_init_162 rfl ?_
  refine aw_cst (k := 20) (v := 107) (p2 := 164) (p3 := 166) (p4 := 168) (p5 := 169) (kp (i := 77) rfl (by decide)) (by decide) (by decide) rfl rfl dX12_init_163 rfl (fun _ _ h => aw_bipush (v := 20) (by decide) dX12_init_164 h) (fun _ _ h => aw_bipush (v := 107) (by decide) dX12_init_166 h) dX12_init_168 rfl ?_
  refine aw_cst (k := 21) (v := 101) (p2 := 170) (p3 := 172) (p4 := 174) (p5 := 175) (kp (i := 77) rfl (by decide)) (by decide) (by decide) rfl rfl dX12_init_169 rfl (fun _ _ h => aw_bipush (v := 21) (by decide) dX12_init_170 h) (fun _ _ h => aw_bipush (v := 101) (by decide) dX12_init_172 h) dX12_init_174 rfl ?_
  refine aw_cst (k := 22) (v := 114) (p2 := 176) (p3 := 178) (p4 := 180) (p5 := 181) (kp (i := 77) rfl (by decide)) (by decide) (by decide) rfl rfl dX12_init_175 rfl (fun _ _ h => aw_bipush (v := 22) (by decide) dX12_init_176 h) (fun _ _ h => aw_bipush (v := 114) (by decide) dX12_init_178 h) dX12_init_180 rfl ?_
  refine aw_cst (k := 23) (v := 32) (p2 := 182) (p3 := 184) (p4 := 186) (p5 := 187) (kp (i := 77) rfl (by decide)) (by decide) (by decide) rfl rfl dX12_init_181 rfl (fun _ _ h => aw_bipush (v := 23) (by decide) dX12_init_182 h) (fun _ _ h => aw_bipush (v := 32) (by decide) dX12_init_184 h) dX12_init_186 rfl ?_
  refine aw_cst (k := 24) (v := 119) (p2 := 188) (p3 := 190) (p4 := 192) (p5 := 193) (kp (i := 77) rfl (by decide)) (by decide) (by decide) rfl rfl dX12_init_187 rfl (fun _ _ h => aw_bipush (v := 24) (by decide) dX12_init_188 h) (fun _ _ h => aw_bipush (v := 119) (by decide) dX12_init_190 h) dX12_init_192 rfl ?_
  refine aw_cst (k := 25) (v := 111) (p2 := 194) (p3 := 196) (p4 := 198) (p5 := 199) (kp (i := 77) rfl (by decide)) (by decide) (by decide) rfl rfl dX12_init_193 rfl (fun _ _ h => aw_bipush (v := 25) (by decide) dX12_init_194 h) (fun _ _ h => aw_bipush (v := 111) (by decide) dX12_init_196 h) dX12_init_198 rfl ?_
  refine aw_cst (k := 26) (v := 109) (p2 := 200) (p3 := 202) (p4 := 204) (p5 := 205) (kp (i := 77) rfl (by decide)) (by decide) (by decide) rfl rfl dX12_init_199 rfl (fun _ _ h => aw_bipush (v := 26) (by decide) dX12_init_200 h) (fun _ _ h => aw_bipush (v := 109) (by decide) dX12_init_202 h) dX12_init_204 rfl ?_
  refine aw_cst (k := 27) (v := 97) (p2 := 206) (p3 := 208) (p4 := 210) (p5 := 211) (kp (i := 77) rfl (by decide)) (by decide) (by decide) rfl rfl dX12_init_205 rfl (fun _ _ h => aw_bipush (v := 27) (by decide) dX12_init_206 h) (fun _ _ h => aw_bipush (v := 97) (by decide) dX12_init_208 h) dX12_init_210 rfl ?_
  refine aw_cst (k := 28) (v := 110) (p2 := 212) (p3 := 214) (p4 := 216) (p5 := 217) (kp (i := 77) rfl (by decide)) (by decide) (by decide) rfl rfl dX12_init_211 rfl (fun _ _ h => aw_bipush (v := 28) (by decide) dX12_init_212 h) (fun _ _ h => aw_bipush (v := 110) (by decide) dX12_init_214 h) dX12_init_216 rfl ?_
  refine aw_cst (k := 29) (v := 32) (p2 := 218) (p3 := 220) (p4 := 222) (p5 := 223) (kp (i := 77) rfl (by decide)) (by decide) (by decide) rfl rfl dX12_init_217 rfl (fun _ _ h => aw_bipush (v := 29) (by decide) dX12_init_218 h) (fun _ _ h => aw_bipush (v := 32) (by decide) dX12_init_220 h) dX12_init_222 rfl ?_
  refine aw_cst (k := 30) (v := 32) (p2 := 224) (p3 := 226) (p4 := 228) (p5 := 229) (kp (i := 77) rfl (by decide)) (by decide) (by decide) rfl rfl dX12_init_223 rfl (fun _ _ h => aw_bipush (v := 30) (by decide) dX12_init_224 h) (fun _ _ h => aw_bipush (v := 32) (by decide) dX12_init_226 h) dX12_init_228 rfl ?_
  refine aw_cst (k := 31) (v := 32) (p2 := 230) (p3 := 232) (p4 := 234) (p5 := 235) (kp (i := 77) rfl (by decide)) (by decide) (by decide) rfl rfl dX12_init_229 rfl (fun _ _ h => aw_bipush (v := 31) (by decide) dX12_init_230 h) (fun _ _ h => aw_bipush (v := 32) (by decide) dX12_init_232 h) dX12_init_234 rfl ?_
  refine aw_cst (k := 32) (v := 112) (p2 := 236) (p3 := 238) (p4 := 240) (p5 := 241) (kp (i := 77) rfl (by decide)) (by decide) (by decide) rfl rfl dX12_init_235 rfl (fun _ _ h => aw_bipush (v := 32) (by decide) dX12_init_236 h) (fun _ _ h => aw_bipush (v := 112) (by decide) dX12_init_238 h) dX12_init_240 rfl ?_
  refine aw_cst (k := 33) (v := 114) (p2 := 242) (p3 := 244) (p4 := 246) (p5 := 247) (kp (i := 77) rfl (by decide)) (by decide) (by decide) rfl rfl dX12_init_241 rfl (fun _ _ h => aw_bipush (v := 33) (by decide) dX12_init_242 h) (fun _ _ h => aw_bipush (v := 114) (by decide) dX12_init_244 h) dX12_init_246 rfl ?_
  refine aw_cst (k := 34) (v := 101) (p2 := 248) (p3 := 250) (p4 := 252) (p5 := 253) (kp (i := 77) rfl (by decide)) (by decide) (by decide) rfl rfl dX12_init_247 rfl (fun _ _ h => aw_bipush (v := 34) (by decide) dX12_init_248 h) (fun _ _ h => aw_bipush (v := 101) (by decide) dX12_init_250 h) dX12_init_252 rfl ?_
  refine aw_cst (k := 35) (v := 97) (p2 := 254) (p3 := 256) (p4 := 258) (p5 := 259) (kp (i := 77) rfl (by decide)) (by decide) (by decide) rfl rfl dX12_init_253 rfl (fun _ _ h => aw_bipush (v := 35) (by decide) dX12_init_254 h) (fun _ _ h => aw_bipush (v := 97) (by decide) dX12_init_256 h) dX12_init_258 rfl ?_
  refine aw_cst (k := 36) (v := 99) (p2 := 260) (p3 := 262) (p4 := 264) (p5 := 265) (kp (i := 77) rfl (by decide)) (by decide) (by decide) rfl rfl dX12_init_259 rfl (fun _ _ h => aw_bipush (v := 36) (by decide) dX12_init_260 h) (fun _ _ h => aw_bipush (v := 99) (by decide) dX12_init_262 h) dX12_init_264 rfl ?_
  refine aw_cst (k := 37) (v := 104) (p2 := 266) (p3 := 268) (p4 := 270) (p5 := 271) (kp (i := 77) rfl (by decide)) (by decide) (by decide) rfl rfl dX12_init_265 rfl (fun _ _ h => aw_bipush (v := 37) (by decide) dX12_init_266 h) (fun _ _ h => aw_bipush (v := 104) (by decide) dX12_init_268 h) dX12_init_270 rfl ?_
  refine aw_cst (k := 38) (v := 101) (p2 := 272) (p3 := 274) (p4 := 276) (p5 := 277) (kp (i := 77) rfl (by decide)) (by decide) (by decide) rfl rfl dX12_init_271 rfl (fun _ _ h => aw_bipush (v := 38) (by decide) dX12_init_272 h) (fun _ _ h => aw_bipush (v := 101) (by decide) dX12_init_274 h) dX12_init_276 rfl ?_
  refine aw_cst (k := 39) (v := 114) (p2 := 278) (p3 := 280) (p4 := 282) (p5 := 283) (kp (i := 77) rfl (by decide)) (by decide) (by decide) rfl rfl dX12_init_277 rfl (fun _ _ h => aw_bipush (v := 39) (by decide) dX12_init_278 h) (fun _ _ h => aw_bipush (v := 114) (by decide) dX12_init_280 h) dX12_init_282 rfl ?_
  refine aw_cst (k := 40) (v := 115) (p2 := 284) (p3 := 286) (p4 := 288) (p5 := 289) (kp (i := 77) rfl (by decide)) (by decide) (by decide) rfl rfl dX12_init_283 rfl (fun _ _ h => aw_bipush (v := 40) (by decide) dX12_init_284 h) (fun _ _ h => aw_bipush (v := 115) (by decide) dX12_init_286 h) dX12_init_288 rfl ?_
  refine aw_cst (k := 41) (v := 116) (p2 := 290) (p3 := 292) (p4 := 294) (p5 := 295) (kp (i := 77) rfl (by decide)) (by decide) (by decide) rfl rfl dX12_init_289 rfl (fun _ _ h => aw_bipush (v := 41) (by decide) dX12_init_290 h) (fun _ _ h => aw_bipush (v := 116) (by decide) dX12_init_292 h) dX12_init_294 rfl ?_
  refine aw_cst (k := 42) (v := 114) (p2 := 296) (p3 := 298) (p4 := 300) (p5 := 301) (kp (i := 77) rfl (by decide)) (by decide) (by decide) rfl rfl dX12_init_295 rfl (fun _ _ h => aw_bipush (v := 42) (by decide) dX12_init_296 h) (fun _ _ h => aw_bipush (v := 114) (by decide) dX12_init_298 h) dX12_init_300 rfl ?_
  refine aw_cst (k := 43) (v := 97) (p2 := 302) (p3 := 304) (p4 := 306) (p5 := 307) (kp (i := 77) rfl (by decide)) (by decide) (by decide) rfl rfl dX12_init_301 rfl (fun _ _ h => aw_bipush (v := 43) (by decide) dX12_init_302 h) (fun _ _ h => aw_bipush (v := 97) (by decide) dX12_init_304 h) dX12_init_306 rfl ?_
  refine aw_cst (k := 44) (v := 110) (p2 := 308) (p3 := 310) (p4 := 312) (p5 := 313) (kp (i := 77) rfl (by decide)) (by decide) (by decide) rfl rfl dX12_init_307 rfl (fun _ _ h => aw_bipush (v := 44) (by decide) dX12_init_308 h) (fun _ _ h => aw_bipush (v := 110) (by decide) dX12_init_310 h) dX12_init_312 rfl ?_
  refine aw_cst (k := 45) (v := 103) (p2 := 314) (p3 := 316) (p4 := 318) (p5 := 319) (kp (i := 77) rfl (by decide)) (by decide) (by decide) rfl rfl dX12_init_313 rfl (fun _ _ h => aw_bipush (v := 45) (by decide) dX12_init_314 h) (fun _ _ h => aw_bipush (v := 103) (by decide) dX12_init_316 h) dX12_init_318 rfl ?_
  refine aw_cst (k := 46) (v := 101) (p2 := 320) (p3 := 322) (p4 := 324) (p5 := 325) (kp (i := 77) rfl (by decide)) (by decide) (by decide) rfl rfl dX12_init_319 rfl (fun _ _ h => aw_bipush (v := 46) (by decide) dX12_init_320 h) (fun _ _ h => aw_bipush (v := 101) (by decide) dX12_init_322 h) dX12_init_324 rfl ?_
  refine aw_cst (k := 47) (v := 114) (p2 := 326) (p3 := 328) (p4 := 330) (p5 := 331) (kp (i := 77) rfl (by decide)) (by decide) (by decide) rfl rfl dX12_init_325 rfl (fun _ _ h => aw_bipush (v := 47) (by decide) dX12_init_326 h) (fun _ _ h => aw_bipush (v := 114) (by decide) dX12_init_328 h) dX12_init_330 rfl ?_
  rw [show rp lLet (47 + 1) = cLetters from rp_all lLet]
  refine aw_putR pX12_25_12i (kp kM (by decide)) rfl (fun _ => rfl) (fun _ => rfl) dX12_init_331 ?_
  show AW Sc mX12_init 334 _ _ _ (stC ν76 77 11 cLetters) _ Q
  generalize hν77 : stC ν76 77 11 cLetters = ν77
  refine aw_aload_n rfl dX12_init_334 ?_
  refine aw_bipush (v := 16) (by decide) dX12_init_335 ?_
  refine aw_newCP (m := 78) (N := 16) (6, 264) rfl (by decide) rfl ⟨ble rfl, ble rfl⟩ dX12_init_337 ?_
  rw [rp_0 ν77 78 lSid]
  show AW Sc mX12_init 339 _ _ (Kp 79) _ _ Q
  refine aw_cst (k := 0) (v := 112) (p2 := 340) (p3 := 341) (p4 := 343) (p5 := 344) (kp (i := 78) rfl (by decide)) (by decide) (by decide) rfl rfl dX12_init_339 rfl (fun _ _ h => aw_iconst (v := 0) (by decide) dX12_init_340 h) (fun _ _ h => aw_bipush (v := 112) (by decide) dX12_init_341 h) dX12_init_343 rfl ?_
  refine aw_cst (k := 1) (v := 117) (p2 := 345) (p3 := 346) (p4 := 348) (p5 := 349) (kp (i := 78) rfl (by decide)) (by decide) (by decide) rfl rfl dX12_init_344 rfl (fun _ _ h => aw_iconst (v := 1) (by decide) dX12_init_345 h) (fun _ _ h => aw_bipush (v := 117) (by decide) dX12_init_346 h) dX12_init_348 rfl ?_
  refine aw_cst (k := 2) (v := 98) (p2 := 350) (p3 := 351) (p4 := 353) (p5 := 354) (kp (i := 78) rfl (by decide)) (by decide) (by decide) rfl rfl dX12_init_349 rfl (fun _ _ h => aw_iconst (v := 2) (by decide) dX12_init_350 h) (fun _ _ h => aw_bipush (v := 98) (by decide) dX12_init_351 h) dX12_init_353 rfl ?_
  refine aw_cst (k := 3) (v := 32) (p2 := 355) (p3 := 356) (p4 := 358) (p5 := 359) (kp (i := 78) rfl (by decide)) (by decide) (by decide) rfl rfl dX12_init_354 rfl (fun _ _ h => aw_iconst (v := 3) (by decide) dX12_init_355 h) (fun _ _ h => aw_bipush (v := 32) (by decide) dX12_init_356 h) dX12_init_358 rfl ?_
  refine aw_cst (k := 4) (v := 32) (p2 := 360) (p3 := 361) (p4 := 363) (p5 := 364) (kp (i := 78) rfl (by decide)) (by decide) (by decide) rfl rfl dX12_init_359 rfl (fun _ _ h => aw_iconst (v := 4) (by decide) dX12_init_360 h) (fun _ _ h => aw_bipush (v := 32) (by decide) dX12_init_361 h) dX12_init_363 rfl ?_
  refine aw_cst (k := 5) (v := 32) (p2 := 365) (p3 := 366) (p4 := 368) (p5 := 369) (kp (i := 78) rfl (by decide)) (by decide) (by decide) rfl rfl dX12_init_364 rfl (fun _ _ h => aw_iconst (v := 5) (by decide) dX12_init_365 h) (fun _ _ h => aw_bipush (v := 32) (by decide) dX12_init_366 h) dX12_init_368 rfl ?_
  refine aw_cst (k := 6) (v := 32) (p2 := 370) (p3 := 372) (p4 := 374) (p5 := 375) (kp (i := 78) rfl (by decide)) (by decide) (by decide) rfl rfl dX12_init_369 rfl (fun _ _ h => aw_bipush (v := 6) (by decide) dX12_init_370 h) (fun _ _ h => aw_bipush (v := 32) (by decide) dX12_init_372 h) dX12_init_374 rfl ?_
  refine aw_cst (k := 7) (v := 32) (p2 := 376) (p3 := 378) (p4 := 380) (p5 := 381) (kp (i := 78) rfl (by decide)) (by decide) (by decide) rfl rfl dX12_init_375 rfl (fun _ _ h => aw_bipush (v := 7) (by decide) dX12_init_376 h) (fun _ _ h => aw_bipush (v := 32) (by decide) dX12_init_378 h) dX12_init_380 rfl ?_
  refine aw_cst (k := 8) (v := 99) (p2 := 382) (p3 := 384) (p4 := 386) (p5 := 387) (kp (i := 78) rfl (by decide)) (by decide) (by decide) rfl rfl dX12_init_381 rfl (fun _ _ h => aw_bipush (v := 8) (by decide) dX12_init_382 h) (fun _ _ h => aw_bipush (v := 99) (by decide) dX12_init_384 h) dX12_init_386 rfl ?_
  refine aw_cst (k := 9) (v := 104) (p2 := 388) (p3 := 390) (p4 := 392) (p5 := 393) (kp (i := 78) rfl (by decide)) (by decide) (by decide) rfl rfl dX12_init_387 rfl (fun _ _ h => aw_bipush (v := 9) (by decide) dX12_init_388 h) (fun _ _ h => aw_bipush (v := 104) (by decide) dX12_init_390 h) dX12_init_392 rfl ?_
  refine aw_cst (k := 10) (v := 97) (p2 := 394) (p3 := 396) (p4 := 398) (p5 := 399) (kp (i := 78) rfl (by decide)) (by decide) (by decide) rfl rfl dX12_init_393 rfl (fun _ _ h => aw_bipush (v := 10) (by decide) dX12_init_394 h) (fun _ _ h => aw_bipush (v := 97) (by decide) dX12_init_396 h) dX12_init_398 rfl ?_
  refine aw_cst (k := 11) (v := 112) (p2 := 400) (p3 := 402) (p4 := 404) (p5 := 405) (kp (i := 78) rfl (by decide)) (by decide) (by decide) rfl rfl dX12_init_399 rfl (fun _ _ h => aw_bipush (v := 11) (by decide) dX12_init_400 h) (fun _ _ h => aw_bipush (v := 112) (by decide) dX12_init_402 h) dX12_init_404 rfl ?_
  refine aw_cst (k := 12) (v := 101) (p2 := 406) (p3 := 408) (p4 := 410) (p5 := 411) (kp (i := 78) rfl (by decide)) (by decide) (by decide) rfl rfl dX12_init_405 rfl (fun _ _ h => aw_bipush (v := 12) (by decide) dX12_init_406 h) (fun _ _ h => aw_bipush (v := 101) (by decide) dX12_init_408 h) dX12_init_410 rfl ?_
  refine aw_cst (k := 13) (v := 108) (p2 := 412) (p3 := 414) (p4 := 416) (p5 := 417) (kp (i := 78) rfl (by decide)) (by decide) (by decide) rfl rfl dX12_init_411 rfl (fun _ _ h => aw_bipush (v := 13) (by decide) dX12_init_412 h) (fun _ _ h => aw_bipush (v := 108) (by decide) dX12_init_414 h) dX12_init_416 rfl ?_
  refine aw_cst (k := 14) (v := 32) (p2 := 418) (p3 := 420) (p4 := 422) (p5 := 423) (kp (i := 78) rfl (by decide)) (by decide) (by decide) rfl rfl dX12_init_417 rfl (fun _ _ h => aw_bipush (v := 14) (by decide) dX12_init_418 h) (fun _ _ h => aw_bipush (v := 32) (by decide) dX12_init_420 h) dX12_init_422 rfl ?_
  refine aw_cst (k := 15) (v := 32) (p2 := 424) (p3 := 426) (p4 := 428) (p5 := 429) (kp (i := 78) rfl (by decide)) (by decide) (by decide) rfl rfl dX12_init_423 rfl (fun _ _ h => aw_bipush (v := 15) (by decide) dX12_init_424 h) (fun _ _ h => aw_bipush (v := 32) (by decide) dX12_init_426 h) dX12_init_428 rfl ?_
  rw [show rp lSid (15 + 1) = cSides from rp_all lSid]
  refine aw_putR pX12_29_12i (kp kM (by decide)) rfl (fun _ => rfl) (fun _ => rfl) dX12_init_429 ?_
  show AW Sc mX12_init 432 _ _ _ (stC ν77 78 12 cSides) _ Q
  generalize hν78 : stC ν77 78 12 cSides = ν78
  refine aw_aload_n rfl dX12_init_432 ?_
  refine aw_bipush (v := 24) (by decide) dX12_init_433 ?_
  refine aw_newCP (m := 79) (N := 24) (5, 240) rfl (by decide) rfl ⟨ble rfl, ble rfl⟩ dX12_init_435 ?_
  rw [rp_0 ν78 79 lMor]
  show AW Sc mX12_init 437 _ _ (Kp 80) _ _ Q
  refine aw_cst (k := 0) (v := 116) (p2 := 438) (p3 := 439) (p4 := 441) (p5 := 442) (kp (i := 79) rfl (by decide)) (by decide) (by decide) rfl rfl dX12_init_437 rfl (fun _ _ h => aw_iconst (v := 0) (by decide) dX12_init_438 h) (fun _ _ h => aw_bipush (v := 116) (by decide) dX12_init_439 h) dX12_init_441 rfl ?_
  refine aw_cst (k := 1) (v := 105) (p2 := 443) (p3 := 444) (p4 := 446) (p5 := 447) (kp (i := 79) rfl (by decide)) (by decide) (by decide) rfl rfl dX12_init_442 rfl (fun _ _ h => aw_iconst (v := 1) (by decide) dX12_init_443 h) (fun _ _ h => aw_bipush (v := 105) (by decide) dX12_init_444 h) dX12_init_446 rfl ?_
  refine aw_cst (k := 2) (v := 114) (p2 := 448) (p3 := 449) (p4 := 451) (p5 := 452) (kp (i := 79) rfl (by decide)) (by decide) (by decide) rfl rfl dX12_init_447 rfl (fun _ _ h => aw_iconst (v := 2) (by decide) dX12_init_448 h) (fun _ _ h => aw_bipush (v := 114) (by decide) dX12_init_449 h) dX12_init_451 rfl ?_
  refine aw_cst (k := 3) (v := 101) (p2 := 453) (p3 := 454) (p4 := 456) (p5 := 457) (kp (i := 79) rfl (by decide)) (by decide) (by decide) rfl rfl dX12_init_452 rfl (fun _ _ h => aw_iconst (v := 3) (by decide) dX12_init_453 h) (fun _ _ h => aw_bipush (v := 101) (by decide) dX12_init_454 h) dX12_init_456 rfl ?_
  refine aw_cst (k := 4) (v := 100) (p2 := 458) (p3 := 459) (p4 := 461) (p5 := 462) (kp (i := 79) rfl (by decide)) (by decide) (by decide) rfl rfl dX12_init_457 rfl (fun _ _ h => aw_iconst (v := 4) (by decide) dX12_init_458 h) (fun _ _ h => aw_bipush (v := 100) (by decide) dX12_init_459 h) dX12_init_461 rfl ?_
  refine aw_cst (k := 5) (v := 32) (p2 := 463) (p3 := 464) (p4 := 466) (p5 := 467) (kp (i := 79) rfl (by decide)) (by decide) (by decide) rfl rfl dX12_init_462 rfl (fun _ _ h => aw_iconst (v := 5) (by decide) dX12_init_463 h) (fun _ _ h => aw_bipush (v := 32) (by decide) dX12_init_464 h) dX12_init_466 rfl ?_
  refine aw_cst (k := 6) (v := 32) (p2 := 468) (p3 := 470) (p4 := 472) (p5 := 473) (kp (i := 79) rfl (by decide)) (by decide) (by decide) rfl rfl dX12_init_467 rfl (fun _ _ h => aw_bipush (v := 6) (by decide) dX12_init_468 h) (fun _ _ h => aw_bipush (v := 32) (by decide) dX12_init_470 h) dX12_init_472 rfl ?_
  refine aw_cst (k := 7) (v := 32) (p2 := 474) (p3 := 476) (p4 := 478) (p5 := 479) (kp (i := 79) rfl (by decide)) (by decide) (by decide) rfl rfl dX12_init_473 rfl (fun _ _ h => aw_bipush (v := 7) (by decide) dX12_init_474 h) (fun _ _ h => aw_bipush (v := 32) (by decide) dX12_init_476 h) dX12_init_478 rfl ?_
  refine aw_cst (k := 8) (v := 115) (p2 := 480) (p3 := 482) (p4 := 484) (p5 := 485) (kp (i := 79) rfl (by decide)) (by decide) (by decide) rfl rfl dX12_init_479 rfl (fun _ _ h => aw_bipush (v := 8) (by decide) dX12_init_480 h) (fun _ _ h => aw_bipush (v := 115) (by decide) dX12_init_482 h) dX12_init_484 rfl ?_
  refine aw_cst (k := 9) (v := 116) (p2 := 486) (p3 := 488) (p4 := 490) (p5 := 491) (kp (i := 79) rfl (by decide)) (by decide) (by decide) rfl rfl dX12_init_485 rfl (fun _ _ h => aw_bipush (v := 9) (by decide) dX12_init_486 h) (fun _ _ h => aw_bipush (v := 116) (by decide) dX12_init_488 h) dX12_init_490 rfl ?_
  refine aw_cst (k := 10) (v := 114) (p2 := 492) (p3 := 494) (p4 := 496) (p5 := 497) (kp (i := 79) rfl (by decide)) (by decide) (by decide) rfl rfl dX12_init_491 rfl (fun _ _ h => aw_bipush (v := 10) (by decide) dX12_init_492 h) (fun _ _ h => aw_bipush (v := 114) (by decide) dX12_init_494 h) dX12_init_496 rfl ?_
  refine aw_cst (k := 11) (v := 111) (p2 := 498) (p3 := 500) (p4 := 502) (p5 := 503) (kp (i := 79) rfl (by decide)) (by decide) (by decide) rfl rfl dX12_init_497 rfl (fun _ _ h => aw_bipush (v := 11) (by decide) dX12_init_498 h) (fun _ _ h => aw_bipush (v := 111) (by decide) dX12_init_500 h) dX12_init_502 rfl ?_
  refine aw_cst (k := 12) (v := 110) (p2 := 504) (p3 := 506) (p4 := 508) (p5 := 509) (kp (i := 79) rfl (by decide)) (by decide) (by decide) rfl rfl dX12_init_503 rfl (fun _ _ h => aw_bipush (v := 12) (by decide) dX12_init_504 h) (fun _ _ h => aw_bipush (v := 110) (by decide) dX12_init_506 h) dX12_init_508 rfl ?_
  refine aw_cst (k := 13) (v := 103) (p2 := 510) (p3 := 512) (p4 := 514) (p5 := 515) (kp (i := 79) rfl (by decide)) (by decide) (by decide) rfl rfl dX12_init_509 rfl (fun _ _ h => aw_bipush (v := 13) (by decide) dX12_init_510 h) (fun _ _ h => aw_bipush (v := 103) (by decide) dX12_init_512 h) dX12_init_514 rfl ?_
  refine aw_cst (k := 14) (v := 32) (p2 := 516) (p3 := 518) (p4 := 520) (p5 := 521) (kp (i := 79) rfl (by decide)) (by decide) (by decide) rfl rfl dX12_init_515 rfl (fun _ _ h => aw_bipush (v := 14) (by decide) dX12_init_516 h) (fun _ _ h => aw_bipush (v := 32) (by decide) dX12_init_518 h) dX12_init_520 rfl ?_
  refine aw_cst (k := 15) (v := 32) (p2 := 522) (p3 := 524) (p4 := 526) (p5 := 527) (kp (i := 79) rfl (by decide)) (by decide) (by decide) rfl rfl dX12_init_521 rfl (fun _ _ h => aw_bipush (v := 15) (by decide) dX12_init_522 h) (fun _ _ h => aw_bipush (v := 32) (by decide) dX12_init_524 h) dX12_init_526 rfl ?_
  refine aw_cst (k := 16) (v := 111) (p2 := 528) (p3 := 530) (p4 := 532) (p5 := 533) (kp (i := 79) rfl (by decide)) (by decide) (by decide) rfl rfl dX12_init_527 rfl (fun _ _ h => aw_bipush (v := 16) (by decide) dX12_init_528 h) (fun _ _ h => aw_bipush (v := 111) (by decide) dX12_init_530 h) dX12_init_532 rfl ?_
  refine aw_cst (k := 17) (v := 110) (p2 := 534) (p3 := 536) (p4 := 538) (p5 := 539) (kp (i := 79) rfl (by decide)) (by decide) (by decide) rfl rfl dX12_init_533 rfl (fun _ _ h => aw_bipush (v := 17) (by decide) dX12_init_534 h) (fun _ _ h => aw_bipush (v := 110) (by decide) dX12_init_536 h) dX12_init_538 rfl ?_
  refine aw_cst (k := 18) (v := 32) (p2 := 540) (p3 := 542) (p4 := 544) (p5 := 545) (kp (i := 79) rfl (by decide)) (by decide) (by decide) rfl rfl dX12_init_539 rfl (fun _ _ h => aw_bipush (v := 18) (by decide) dX12_init_540 h) (fun _ _ h => aw_bipush (v := 32) (by decide) dX12_init_542 h) dX12_init_544 rfl ?_
  refine aw_cst (k := 19) (v := 32) (p2 := 546) (p3 := 548) (p4 := 550) (p5 := 551) (kp (i := 79) rfl (by decide)) (by decide) (by decide) rfl rfl dX12_init_545 rfl (fun _ _ h => aw_bipush (v := 19) (by decide) dX12_init_546 h) (fun _ _ h => aw_bipush (v := 32) (by decide) dX12_init_548 h) dX12_init_550 rfl ?_
  refine aw_cst (k := 20) (v := 32) (p2 := 552) (p3 := 554) (p4 := 556) (p5 := 557) (kp (i := 79) rfl (by decide)) (by decide) (by decide) rfl rfl dX12_init_551 rfl (fun _ _ h => aw_bipush (v := 20) (by decide) dX12_init_552 h) (fun _ _ h => aw_bipush (v := 32) (by decide) dX12_init_554 h) dX12_init_556 rfl ?_
  refine aw_cst (k := 21) (v := 32) (p2 := 558) (p3 := 560) (p4 := 562) (p5 := 563) (kp (i := 79) rfl (by decide)) (by decide) (by decide) rfl rfl dX12_init_557 rfl (fun _ _ h => aw_bipush (v := 21) (by decide) dX12_init_558 h) (fun _ _ h => aw_bipush (v := 32) (by decide) dX12_init_560 h) dX12_init_562 rfl ?_
  refine aw_cst (k := 22) (v := 32) (p2 := 564) (p3 := 566) (p4 := 568) (p5 := 569) (kp (i := 79) rfl (by decide)) (by decide) (by decide) rfl rfl dX12_init_563 rfl (fun _ _ h => aw_bipush (v := 22) (by decide) dX12_init_564 h) (fun _ _ h => aw_bipush (v := 32) (by decide) dX12_init_566 h) dX12_init_568 rfl ?_
  refine aw_cst (k := 23) (v := 32) (p2 := 570) (p3 := 572) (p4 := 574) (p5 := 575) (kp (i := 79) rfl (by decide)) (by decide) (by decide) rfl rfl dX12_init_569 rfl (fun _ _ h => aw_bipush (v := 23) (by decide) dX12_init_570 h) (fun _ _ h => aw_bipush (v := 32) (by decide) dX12_init_572 h) dX12_init_574 rfl ?_
  rw [show rp lMor (23 + 1) = cMore from rp_all lMor]
  refine aw_putR pX12_32_12i (kp kM (by decide)) rfl (fun _ => rfl) (fun _ => rfl) dX12_init_575 ?_
  show AW Sc mX12_init 578 _ _ _ (stC ν78 79 13 cMore) _ Q
  generalize hν79 : stC ν78 79 13 cMore = ν79
  refine aw_aload_n rfl dX12_init_578 ?_
  refine aw_bipush (v := 32) (by decide) dX12_init_579 ?_
  refine aw_newCP (m := 80) (N := 32) (4, 208) rfl (by decide) rfl ⟨ble rfl, ble rfl⟩ dX12_init_581 ?_
  rw [rp_0 ν79 80 lOth]
  show AW Sc mX12_init 583 _ _ (Kp 81) _ _ Q
  refine aw_cst (k := 0) (v := 112) (p2 := 584) (p3 := 585) (p4 := 587) (p5 := 588) (kp (i := 80) rfl (by decide)) (by decide) (by decide) rfl rfl dX12_init_583 rfl (fun _ _ h => aw_iconst (v := 0) (by decide) dX12_init_584 h) (fun _ _ h => aw_bipush (v := 112) (by decide) dX12_init_585 h) dX12_init_587 rfl ?_
  refine aw_cst (k := 1) (v := 108) (p2 := 589) (p3 := 590) (p4 := 592) (p5 := 593) (kp (i := 80) rfl (by decide)) (by decide) (by decide) rfl rfl dX12_init_588 rfl (fun _ _ h => aw_iconst (v := 1) (by decide) dX12_init_589 h) (fun _ _ h => aw_bipush (v := 108) (by decide) dX12_init_590 h) dX12_init_592 rfl ?_
  refine aw_cst (k := 2) (v := 97) (p2 := 594) (p3 := 595) (p4 := 597) (p5 := 598) (kp (i := 80) rfl (by decide)) (by decide) (by decide) rfl rfl dX12_init_593 rfl (fun _ _ h => aw_iconst (v := 2) (by decide) dX12_init_594 h) (fun _ _ h => aw_bipush (v := 97) (by decide) dX12_init_595 h) dX12_init_597 rfl ?_
  refine aw_cst (k := 3) (v := 105) (p2 := 599) (p3 := 600) (p4 := 602) (p5 := 603) (kp (i := 80) rfl (by decide)) (by decide) (by decide) rfl rfl dX12_init_598 rfl (fun _ _ h => aw_iconst (v := 3) (by decide) dX12_init_599 h) (fun _ _ h => aw_bipush (v := 105) (by decide) dX12_init_600 h) dX12_init_602 rfl ?_
  refine aw_cst (k := 4) (v := 110) (p2 := 604) (p3 := 605) (p4 := 607) (p5 := 608) (kp (i := 80) rfl (by decide)) (by decide) (by decide) rfl rfl dX12_init_603 rfl (fun _ _ h => aw_iconst (v := 4) (by decide) dX12_init_604 h) (fun _ _ h => aw_bipush (v := 110) (by decide) dX12_init_605 h) dX12_init_607 rfl ?_
  refine aw_cst (k := 5) (v := 32) (p2 := 609) (p3 := 610) (p4 := 612) (p5 := 613) (kp (i := 80) rfl (by decide)) (by decide) (by decide) rfl rfl dX12_init_608 rfl (fun _ _ h => aw_iconst (v := 5) (by decide) dX12_init_609 h) (fun _ _ h => aw_bipush (v := 32) (by decide) dX12_init_610 h) dX12_init_612 rfl ?_
  refine aw_cst (k := 6) (v := 32) (p2 := 614) (p3 := 616) (p4 := 618) (p5 := 619) (kp (i := 80) rfl (by decide)) (by decide) (by decide) rfl rfl dX12_init_613 rfl (fun _ _ h => aw_bipush (v := 6) (by decide) dX12_init_614 h) (fun _ _ h => aw_bipush (v := 32) (by decide) dX12_init_616 h) dX12_init_618 rfl ?_
  refine aw_cst (k := 7) (v := 32) (p2 := 620) (p3 := 622) (p4 := 624) (p5 := 625) (kp (i := 80) rfl (by decide)) (by decide) (by decide) rfl rfl dX12_init_619 rfl (fun _ _ h => aw_bipush (v := 7) (by decide) dX12_init_620 h) (fun _ _ h => aw_bipush (v := 32) (by decide) dX12_init_622 h) dX12_init_624 rfl ?_
  refine aw_cst (k := 8) (v := 104) (p2 := 626) (p3 := 628) (p4 := 630) (p5 := 631) (kp (i := 80) rfl (by decide)) (by decide) (by decide) rfl rfl dX12_init_625 rfl (fun _ _ h => aw_bipush (v := 8) (by decide) dX12_init_626 h) (fun _ _ h => aw_bipush (v := 104) (by decide) dX12_init_628 h) dX12_init_630 rfl ?_
  refine aw_cst (k := 9) (v := 97) (p2 := 632) (p3 := 634) (p4 := 636) (p5 := 637) (kp (i := 80) rfl (by decide)) (by decide) (by decide) rfl rfl dX12_init_631 rfl (fun _ _ h => aw_bipush (v := 9) (by decide) dX12_init_632 h) (fun _ _ h => aw_bipush (v := 97) (by decide) dX12_init_634 h) dX12_init_636 rfl ?_
  refine aw_cst (k := 10) (v := 114) (p2 := 638) (p3 := 640) (p4 := 642) (p5 := 643) (kp (i := 80) rfl (by decide)) (by decide) (by decide) rfl rfl dX12_init_637 rfl (fun _ _ h => aw_bipush (v := 10) (by decide) dX12_init_638 h) (fun _ _ h => aw_bipush (v := 114) (by decide) dX12_init_640 h) dX12_init_642 rfl ?_
  refine aw_cst (k := 11) (v := 118) (p2 := 644) (p3 := 646) (p4 := 648) (p5 := 649) (kp (i := 80) rfl (by decide)) (by decide) (by decide) rfl rfl dX12_init_643 rfl (fun _ _ h => aw_bipush (v := 11) (by decide) dX12_init_644 h) (fun _ _ h => aw_bipush (v := 118) (by decide) dX12_init_646 h) dX12_init_648 rfl ?_
  refine aw_cst (k := 12) (v := 101) (p2 := 650) (p3 := 652) (p4 := 654) (p5 := 655) (kp (i := 80) rfl (by decide)) (by decide) (by decide) rfl rfl dX12_init_649 rfl (fun _ _ h => aw_bipush (v := 12) (by decide) dX12_init_650 h) (fun _ _ h => aw_bipush (v := 101) (by decide) dX12_init_652 h) dX12_init_654 rfl ?_
  refine aw_cst (k := 13) (v := 115) (p2 := 656) (p3 := 658) (p4 := 660) (p5 := 661) (kp (i := 80) rfl (by decide)) (by decide) (by decide) rfl rfl dX12_init_655 rfl (fun _ _ h => aw_bipush (v := 13) (by decide) dX12_init_656 h) (fun _ _ h => aw_bipush (v := 115) (by decide) dX12_init_658 h) dX12_init_660 rfl ?_
  refine aw_cst (k := 14) (v := 116) (p2 := 662) (p3 := 664) (p4 := 666) (p5 := 667) (kp (i := 80) rfl (by decide)) (by decide) (by decide) rfl rfl dX12_init_661 rfl (fun _ _ h => aw_bipush (v := 14) (by decide) dX12_init_662 h) (fun _ _ h => aw_bipush (v := 116) (by decide) dX12_init_664 h) dX12_init_666 rfl ?_
  refine aw_cst (k := 15) (v := 32) (p2 := 668) (p3 := 670) (p4 := 672) (p5 := 673) (kp (i := 80) rfl (by decide)) (by decide) (by decide) rfl rfl dX12_init_667 rfl (fun _ _ h => aw_bipush (v := 15) (by decide) dX12_init_668 h) (fun _ _ h => aw_bipush (v := 32) (by decide) dX12_init_670 h) dX12_init_672 rfl ?_
  refine aw_cst (k := 16) (v := 107) (p2 := 674) (p3 := 676) (p4 := 678) (p5 := 679) (kp (i := 80) rfl (by decide)) (by decide) (by decide) rfl rfl dX12_init_673 rfl (fun _ _ h => aw_bipush (v := 16) (by decide) dX12_init_674 h) (fun _ _ h => aw_bipush (v := 107) (by decide) dX12_init_676 h) dX12_init_678 rfl ?_
  refine aw_cst (k := 17) (v := 110) (p2 := 680) (p3 := 682) (p4 := 684) (p5 := 685) (kp (i := 80) rfl (by decide)) (by decide) (by decide) rfl rfl dX12_init_679 rfl (fun _ _ h => aw_bipush (v := 17) (by decide) dX12_init_680 h) (fun _ _ h => aw_bipush (v := 110) (by decide) dX12_init_682 h) dX12_init_684 rfl ?_
  refine aw_cst (k := 18) (v := 111) (p2 := 686) (p3 := 688) (p4 := 690) (p5 := 691) (kp (i := 80) rfl (by decide)) (by decide) (by decide) rfl rfl dX12_init_685 rfl (fun _ _ h => aw_bipush (v := 18) (by decide) dX12_init_686 h) (fun _ _ h => aw_bipush (v := 111) (by decide) dX12_init_688 h) dX12_init_690 rfl ?_
  refine aw_cst (k := 19) (v := 116) (p2 := 692) (p3 := 694) (p4 := 696) (p5 := 697) (kp (i := 80) rfl (by decide)) (by decide) (by decide) rfl rfl dX12_init_691 rfl (fun _ _ h => aw_bipush (v := 19) (by decide) dX12_init_692 h) (fun _ _ h => aw_bipush (v := 116) (by decide) dX12_init_694 h) dX12_init_696 rfl ?_
  refine aw_cst (k := 20) (v := 32) (p2 := 698) (p3 := 700) (p4 := 702) (p5 := 703) (kp (i := 80) rfl (by decide)) (by decide) (by decide) rfl rfl dX12_init_697 rfl (fun _ _ h => aw_bipush (v := 20) (by decide) dX12_init_698 h) (fun _ _ h => aw_bipush (v := 32) (by decide) dX12_init_700 h) dX12_init_702 rfl ?_
  refine aw_cst (k := 21) (v := 32) (p2 := 704) (p3 := 706) (p4 := 708) (p5 := 709) (kp (i := 80) rfl (by decide)) (by decide) (by decide) rfl rfl dX12_init_703 rfl (fun _ _ h => aw_bipush (v := 21) (by decide) dX12_init_704 h) (fun _ _ h => aw_bipush (v := 32) (by decide) dX12_init_706 h) dX12_init_708 rfl ?_
  refine aw_cst (k := 22) (v := 32) (p2 := 710) (p3 := 712) (p4 := 714) (p5 := 715) (kp (i := 80) rfl (by decide)) (by decide) (by decide) rfl rfl dX12_init_709 rfl (fun _ _ h => aw_bipush (v := 22) (by decide) dX12_init_710 h) (fun _ _ h => aw_bipush (v := 32) (by decide) dX12_init_712 h) dX12_init_714 rfl ?_
  refine aw_cst (k := 23) (v := 32) (p2 := 716) (p3 := 718) (p4 := 720) (p5 := 721) (kp (i := 80) rfl (by decide)) (by decide) (by decide) rfl rfl dX12_init_715 rfl (fun _ _ h => aw_bipush (v := 23) (by decide) dX12_init_716 h) (fun _ _ h => aw_bipush (v := 32) (by decide) dX12_init_718 h) dX12_init_720 rfl ?_
  refine aw_cst (k := 24) (v := 115) (p2 := 722) (p3 := 724) (p4 := 726) (p5 := 727) (kp (i := 80) rfl (by decide)) (by decide) (by decide) rfl rfl dX12_init_721 rfl (fun _ _ h => aw_bipush (v := 24) (by decide) dX12_init_722 h) (fun _ _ h => aw_bipush (v := 115) (by decide) dX12_init_724 h) dX12_init_726 rfl ?_
  refine aw_cst (k := 25) (v := 108) (p2 := 728) (p3 := 730) (p4 := 732) (p5 := 733) (kp (i := 80) rfl (by decide)) (by decide) (by decide) rfl rfl dX12_init_727 rfl (fun _ _ h => aw_bipush (v := 25) (by decide) dX12_init_728 h) (fun _ _ h => aw_bipush (v := 108) (by decide) dX12_init_730 h) dX12_init_732 rfl ?_
  refine aw_cst (k := 26) (v := 97) (p2 := 734) (p3 := 736) (p4 := 738) (p5 := 739) (kp (i := 80) rfl (by decide)) (by decide) (by decide) rfl rfl dX12_init_733 rfl (fun _ _ h => aw_bipush (v := 26) (by decide) dX12_init_734 h) (fun _ _ h => aw_bipush (v := 97) (by decide) dX12_init_736 h) dX12_init_738 rfl ?_
  refine aw_cst (k := 27) (v := 99) (p2 := 740) (p3 := 742) (p4 := 744) (p5 := 745) (kp (i := 80) rfl (by decide)) (by decide) (by decide) rfl rfl dX12_init_739 rfl (fun _ _ h => aw_bipush (v := 27) (by decide) dX12_init_740 h) (fun _ _ h => aw_bipush (v := 99) (by decide) dX12_init_742 h) dX12_init_744 rfl ?_
  refine aw_cst (k := 28) (v := 107) (p2 := 746) (p3 := 748) (p4 := 750) (p5 := 751) (kp (i := 80) rfl (by decide)) (by decide) (by decide) rfl rfl dX12_init_745 rfl (fun _ _ h => aw_bipush (v := 28) (by decide) dX12_init_746 h) (fun _ _ h => aw_bipush (v := 107) (by decide) dX12_init_748 h) dX12_init_750 rfl ?_
  refine aw_cst (k := 29) (v := 32) (p2 := 752) (p3 := 754) (p4 := 756) (p5 := 757) (kp (i := 80) rfl (by decide)) (by decide) (by decide) rfl rfl dX12_init_751 rfl (fun _ _ h => aw_bipush (v := 29) (by decide) dX12_init_752 h) (fun _ _ h => aw_bipush (v := 32) (by decide) dX12_init_754 h) dX12_init_756 rfl ?_
  refine aw_cst (k := 30) (v := 32) (p2 := 758) (p3 := 760) (p4 := 762) (p5 := 763) (kp (i := 80) rfl (by decide)) (by decide) (by decide) rfl rfl dX12_init_757 rfl (fun _ _ h => aw_bipush (v := 30) (by decide) dX12_init_758 h) (fun _ _ h => aw_bipush (v := 32) (by decide) dX12_init_760 h) dX12_init_762 rfl ?_
  refine aw_cst (k := 31) (v := 32) (p2 := 764) (p3 := 766) (p4 := 768) (p5 := 769) (kp (i := 80) rfl (by decide)) (by decide) (by decide) rfl rfl dX12_init_763 rfl (fun _ _ h => aw_bipush (v := 31) (by decide) dX12_init_764 h) (fun _ _ h => aw_bipush (v := 32) (by decide) dX12_init_766 h) dX12_init_768 rfl ?_
  rw [show rp lOth (31 + 1) = cOthers from rp_all lOth]
  refine aw_putR pX12_35_12i (kp kM (by decide)) rfl (fun _ => rfl) (fun _ => rfl) dX12_init_769 ?_
  show AW Sc mX12_init 772 _ _ _ (stC ν79 80 14 cOthers) _ Q
  generalize hν80 : stC ν79 80 14 cOthers = ν80
  refine aw_aload_n rfl dX12_init_772 ?_
  refine aw_iconst (v := 4) (by decide) dX12_init_773 ?_
  refine aw_newIP (m := 81) (N := 4) (3, 204) rfl (by decide) rfl ⟨ble rfl, ble rfl⟩ dX12_init_774 ?_
  refine aw_putR pX12_38_12i (kp kM (by decide)) rfl (fun _ => rfl) (fun _ => rfl) dX12_init_776 ?_
  show AW Sc mX12_init 779 _ _ _ (stA ν80 81 15) _ Q
  generalize hν81 : stA ν80 81 15 = ν81
  refine aw_aload_n rfl dX12_init_779 ?_
  refine aw_iconst (v := 4) (by decide) dX12_init_780 ?_
  refine aw_newIP (m := 82) (N := 4) (2, 200) rfl (by decide) rfl ⟨ble rfl, ble rfl⟩ dX12_init_781 ?_
  refine aw_putR pX12_41_12i (kp kM (by decide)) rfl (fun _ => rfl) (fun _ => rfl) dX12_init_783 ?_
  show AW Sc mX12_init 786 _ _ _ (stA ν81 82 16) _ Q
  generalize hν82 : stA ν81 82 16 = ν82
  refine aw_aload_n rfl dX12_init_786 ?_
  refine aw_sipush (v := 160) (by decide) dX12_init_787 ?_
  refine aw_newJP (m := 83) (N := 160) (1, 40) rfl (by decide) rfl ⟨ble rfl, ble rfl⟩ dX12_init_790 ?_
  refine aw_putR pX12_44_12i (kp kM (by decide)) rfl (fun _ => rfl) (fun _ => rfl) dX12_init_792 ?_
  show AW Sc mX12_init 795 _ _ _ (stA ν82 83 17) _ Q
  generalize hν83 : stA ν82 83 17 = ν83
  refine aw_aload_n rfl dX12_init_795 ?_
  refine aw_bipush (v := 40) (by decide) dX12_init_796 ?_
  refine aw_newJP (m := 84) (N := 40) (0, 0) rfl (by decide) rfl ⟨ble rfl, ble rfl⟩ dX12_init_798 ?_
  refine aw_putR pX12_48_12i (kp kM (by decide)) rfl (fun _ => rfl) (fun _ => rfl) dX12_init_800 ?_
  show AW Sc mX12_init 803 _ _ _ (stA ν83 84 18) _ Q
  generalize hν84 : stA ν83 84 18 = ν84
  have e : ν84 = mEnd μ := by
    subst hν84 hν83 hν82 hν81 hν80 hν79 hν78 hν77 hν76 hν75 hν74 hν73 hν72
    rfl
  rw [e]
  clear e hν84
  have r0 : (mEnd μ).2.2 71 0 = some 72 := (mEnd_mb h3 h6).1.1
  refine aw_aload_n rfl dX12_init_803 ?_
  refine aw_getR gX12_9_12 kM rfl (r0) dX12_init_804 ?_
  refine aw_iconst (v := 2) (by decide) dX12_init_807 ?_
  refine aw_iconst (v := 3) (by decide) dX12_init_808 ?_
  refine aw_iastoreN kS (c := 2) rfl (by decide) (by decide) dX12_init_809 ?_
  refine aw_aload_n rfl dX12_init_810 ?_
  refine aw_getR gX12_9_12 kM rfl (r0) dX12_init_811 ?_
  refine aw_iconst (v := 3) (by decide) dX12_init_814 ?_
  refine aw_bipush (v := 32) (by decide) dX12_init_815 ?_
  refine aw_iastoreN kS (c := 3) rfl (by decide) (by decide) dX12_init_817 ?_
  refine aw_return dX12_init_818 rfl ?_
  exact hQ _ mEnd_sm (mEnd_mb h3 h6)
end Ctor3
