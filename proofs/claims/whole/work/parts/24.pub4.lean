/-! THE MODEL'S CALLS, 4: what is best -/
abbrev OB : Type := Option (Nat × Int32)
def stepB (o : OB) (k : Nat) (v : Int32) : OB := match o with
  | none => some (k, v)
  | some q => if q.2 < v then some (k, v) else some q
def bestF (ok : Nat → Bool) (val : Nat → Int32) : Nat → OB
  | 0 => none
  | k + 1 => if ok k then stepB (bestF ok val k) k (val k) else bestF ok val k
def oI (o : OB) : Int32 := match o with
  | none => -1
  | some q => nI q.1
def oW (o : OB) : Int32 := match o with
  | none => 0
  | some q => q.2
theorem bestF_lt {ok : Nat → Bool} {val : Nat → Int32} : ∀ {k : Nat} {q : Nat × Int32}, bestF ok val k = some q → q.1 < k
  | 0, _, h => by cases h
  | k + 1, q, h => by
    unfold bestF at h
    split at h
    · cases hb : bestF ok val k with
      | none => rw [hb] at h; cases h; exact Nat.lt_succ_self k
      | some c =>
        have hc := bestF_lt hb
        rw [hb] at h
        unfold stepB at h
        dsimp only at h
        split at h
        · cases h; exact Nat.lt_succ_self k
        · cases h; omega
    · have := bestF_lt h
      omega
def ansB (S : SG) (o : OB) : Int32 × SG := match o with
  | none => fnd S 3
  | some q => (nI q.1, S)
def sp_spell (x t : Int32) (S : SG) : Int32 × SG := if isP S x && in1 t 1 60 then
    (if S.1 (5 + 5 * ix x + 2) = 0 then fnd S 4 else ansB S (bestF (fun k => mayR S.1 k (ix x)) (fun k => tow (S.1 (5 + 5 * ix x + 1)) (goesN (mny S.1) (ix t) (relS S.1 k (ix x)))) (mny S.1))) else fnd S 0
def sp_kind (x t : Int32) (S : SG) : Int32 × SG := if isP S x && in1 t 1 60 then
    (oI (bestF (fun _ => true) (fun k => tow (S.1 (5 + 5 * ix x + 1)) (goesN (mny S.1) (ix t) (upd S.1 (5 + 5 * ix x) (nI k)))) 6), S) else fnd S 0
def sp_week (d t : Int32) (S : SG) : Int32 × SG := if in1 d 0 1 && in1 t 1 100 then
    (oI (bestF (fun _ => true) (fun k => tow d (goesN (mny S.1) (ix t) (upd S.1 3 (S.1 3 ^^^ ((1 : Int32) <<< (nI k &&& 31)))))) 8), S) else fnd S 0
def fUp (p : Nat → Bool) : Nat → Nat → Option Nat
  | 0, _ => none
  | j + 1, k => if p k then some k else fUp p j (k + 1)
def fDn (p : Nat → Bool) : Nat → Option Nat
  | 0 => none
  | j + 1 => if p j then some j else fDn p j
def ansO (S : SG) (o : Option Nat) : Int32 × SG := match o with
  | none => fnd S 3
  | some k => (nI k, S)
def sp_strong (x t v : Int32) (S : SG) : Int32 × SG := if isP S x && (in1 t 1 60 && in1 v (-9999) 9999) then
    ansO S (fUp (fun k => decide (v ≤ tow (S.1 (5 + 5 * ix x + 1)) (goesN (mny S.1) (ix t) (upd S.1 (5 + 5 * ix x + 4) (nI k))))) 20 1) else fnd S 0
def sp_bears (x t : Int32) (S : SG) : Int32 × SG := if isP S x && in1 t 1 60 then
    ansO S (fDn (fun k => decide (goesN (mny S.1) (ix t) (upd S.1 (5 + 5 * ix x + 3) (nI k)) (5 + 5 * ix x + 2) = 1)) 100) else fnd S 0
section Pub4
variable {Sc : SCR} {μ μ0 : Mem} {n : Nat × Nat} {Q : PQ} {S : SG} {s : Nat → Int32}
theorem q_spell {x t : Int32} (h : MJ μ0 μ S) (hW : WF S) (hQ : ∀ μ', MJ μ0 μ' (sp_spell x t S).2 → Q (some (.int (sp_spell x t S).1)) K0 μ') : AM Sc mX12_spell [.ref 71, .int x, .int t] K0 μ n Q := by
  refine AM.of rfl (ble rfl) ?_
  have hs := h.hs
  have hM := h.hM
  obtain ⟨h4, hm, -⟩ := hW.1
  unfold sp_spell at hQ
  have bad : (isP S x && in1 t 1 60) = false → AW Sc mX12_spell 18 [(0, .ref 71), (1, .int x), (2, .int t)] [] K0 μ n Q := by
    intro e
    rw [e] at hQ
    refine aw_aload_n rfl dX12_spell_18 ?_
    refine aw_iconst (v := 0) (by decide) dX12_spell_19 ?_
    refine aw_v1 kX12_118 ⟨ble rfl, ble rfl⟩ (rcM) (ble rfl) dX12_spell_20 (q_no h rfl (by decide) (fun μ' h' => ?_))
    refine aw_iret dX12_spell_23 rfl ?_
    exact hQ μ' h'
  refine aw_aload_n rfl dX12_spell_0 ?_
  refine aw_iload_n rfl dX12_spell_1 ?_
  refine aw_v1 kX12_134 ⟨ble rfl, ble rfl⟩ (rcM) (ble rfl) dX12_spell_2 (g_isPerson h ?_)
  refine aw_zeq 18 rfl dX12_spell_5 (fun c => ?_) (fun c => ?_)
  · exact bad (by rw [c]; rfl)
  · refine aw_iload_n rfl dX12_spell_8 ?_
    refine aw_iconst (v := 1) (by decide) dX12_spell_9 ?_
    refine aw_bipush (v := 60) (by decide) dX12_spell_10 ?_
    refine aw_s3 kX12_52 ⟨ble rfl, ble rfl⟩ (ble rfl) dX12_spell_12 (k_in1 ?_)
    refine aw_zne 24 rfl dX12_spell_15 (fun c2 => ?_) (fun c2 => ?_)
    · rw [c, c2] at hQ
      obtain ⟨k, hk1, hk, hx⟩ := in1_t (a := 1) (b := 60) (by decide) (by decide) c2
      obtain ⟨p, hp, hxp, hip⟩ := per_t h4 hm c
      have hix : ix t = k := by rw [hx]; exact ix_nI (by omega)
      rw [hix, hip] at hQ
      simp only [Bool.and_self, if_true] at hQ
      refine aw_aload_n rfl dX12_spell_24 ?_
      refine aw_iload_n rfl dX12_spell_25 ?_
      refine aw_iconst (v := 2) (by decide) dX12_spell_26 ?_
      refine aw_v2 kX12_60 ⟨ble rfl, ble rfl⟩ (rcM) (ble rfl) dX12_spell_27 (g_get hM hs hxp (j := 2) rfl (by omega) (by decide) ?_)
      refine aw_if_ne 39 rfl dX12_spell_30 (fun c3 => ?_) (fun c3 => ?_)
      · rw [if_neg c3] at hQ
        clear bad
        generalize hT : bestF _ _ _ = T at hQ
        have loop : ∀ j i (ν : Mem), i + j = mny S.1 → MJ μ0 ν S → AW Sc mX12_spell 47 [(0, .ref 71), (1, .int x), (2, .int t), (3, .int (oI (bestF (fun k => mayR S.1 k p) (fun z => tow (S.1 (5 + 5 * p + 1)) (goesN (mny S.1) k (relS S.1 z p))) i))), (4, .int (oW (bestF (fun k => mayR S.1 k p) (fun z => tow (S.1 (5 + 5 * p + 1)) (goesN (mny S.1) k (relS S.1 z p))) i))), (5, .int (nI i))] [] K0 ν n Q := by
          intro j
          induction j with
          | zero =>
            intro i ν hi h'
            have hM := h'.hM
            refine aw_iload rfl dX12_spell_47 ?_
            refine aw_aload_n rfl dX12_spell_49 ?_
            refine aw_getR gX12_9_12 kM rfl (hM.s) dX12_spell_50 ?_
            refine aw_iconst (v := 4) (by decide) dX12_spell_53 ?_
            refine aw_ialoadN kS (c := 4) rfl (by decide) (by decide) dX12_spell_54 ?_
            rw [h'.hs, h4]
            refine aw_icmp_ge 142 rfl dX12_spell_55 (fun _ => ?_) (fun c_ => absurd (nI_le (by omega) (by omega)) c_)
            rw [show i = mny S.1 by omega, hT]
            refine aw_iload_n rfl dX12_spell_142 ?_
            cases T with
            | none =>
              refine aw_if_ge 154 rfl dX12_spell_143 (fun c_ => absurd c_ ((by decide))) (fun _ => ?_)
              refine aw_aload_n rfl dX12_spell_146 ?_
              refine aw_iconst (v := 3) (by decide) dX12_spell_147 ?_
              refine aw_v1 kX12_118 ⟨ble rfl, ble rfl⟩ (rcM) (ble rfl) dX12_spell_148 (q_no h' (k := 3) rfl (by decide) (fun μ' h' => ?_))
              refine aw_goto 155 rfl dX12_spell_151 ?_
              refine aw_iret dX12_spell_155 rfl ?_
              exact hQ μ' h'
            | some q =>
              have hq := bestF_lt hT
              refine aw_if_ge 154 rfl dX12_spell_143 (fun _ => ?_) (fun c_ => absurd (nI_pos' (by omega)) c_)
              refine aw_iload_n rfl dX12_spell_154 ?_
              refine aw_iret dX12_spell_155 rfl ?_
              exact hQ _ h'
          | succ j ih =>
            intro i ν hi h'
            have hs' := h'.hs
            have hM' := h'.hM
            have hM := h'.hM
            refine aw_iload rfl dX12_spell_47 ?_
            refine aw_aload_n rfl dX12_spell_49 ?_
            refine aw_getR gX12_9_12 kM rfl (hM.s) dX12_spell_50 ?_
            refine aw_iconst (v := 4) (by decide) dX12_spell_53 ?_
            refine aw_ialoadN kS (c := 4) rfl (by decide) (by decide) dX12_spell_54 ?_
            rw [hs', h4]
            refine aw_icmp_ge 142 rfl dX12_spell_55 (fun c_ => absurd c_ (nI_ge (by omega) (by omega))) (fun _ => ?_)
            refine aw_aload_n rfl dX12_spell_58 ?_
            refine aw_iload rfl dX12_spell_59 ?_
            refine aw_iload_n rfl dX12_spell_61 ?_
            refine aw_v2 kX12_137 ⟨ble rfl, ble rfl⟩ (rcM) (ble rfl) dX12_spell_62 (k_mayRelieve hM' hs' (a := i) rfl hxp (by omega) (by omega) ?_)
            have ih' := fun ν => ih (i + 1) ν (by omega)
            rw [bestF] at ih'
            generalize hB : bestF (fun k => mayR S.1 k p) (fun z => tow (S.1 (5 + 5 * p + 1)) (goesN (mny S.1) k (relS S.1 z p))) i = B at ih' ⊢
            refine aw_zeq 136 rfl dX12_spell_65 (fun c4 => ?_) (fun c4 => ?_)
            · rw [c4] at ih'
              refine aw_iinc rfl (v := 1) (by decide) (ble rfl) dX12_spell_136 ?_
              refine aw_goto 47 rfl dX12_spell_139 ?_
              rw [nI_1]
              exact ih' ν h'
            · rw [c4] at ih'
              refine aw_aload_n rfl dX12_spell_68 ?_
              refine aw_v0 kX12_145 ⟨ble rfl, ble rfl⟩ (rcM) (ble rfl) dX12_spell_69 (k_setsAside hM' hs' ?_)
              refine aw_aload_n rfl dX12_spell_72 ?_
              refine aw_iload rfl dX12_spell_73 ?_
              refine aw_iload_n rfl dX12_spell_75 ?_
              refine aw_v2 kX12_141 ⟨ble rfl, ble rfl⟩ (rcM) (ble rfl) dX12_spell_76 (k_relieves (s := S.1) hM' (by rw [rowI_ne _ _ (by decide)]; exact hs') (a := i) rfl hxp (by omega) (by omega) ?_)
              refine aw_aload_n rfl dX12_spell_79 ?_
              refine aw_aload_n rfl dX12_spell_80 ?_
              refine aw_iload_n rfl dX12_spell_81 ?_
              refine aw_iconst (v := 1) (by decide) dX12_spell_82 ?_
              refine aw_v2 kX12_60 ⟨ble rfl, ble rfl⟩ (rcM) (ble rfl) dX12_spell_83 (g_get hM' (rowI_get _ _ _) hxp (j := 1) rfl (by omega) (by decide) ?_)
              refine aw_iload_n rfl dX12_spell_86 ?_
              refine aw_v2 kX12_148 ⟨ble rfl, ble rfl⟩ (rcM) (ble rfl) dX12_spell_87 (k_towardsBy (a := S.1) hM' (rowI_get _ _ _) (by rw [rowI_ne _ _ (by decide), rowI_get]) (by rw [relS, upd_ne (by omega), upd_ne (by omega)]; exact h4) hm hx (by omega) ?_)
              refine aw_istore (ble rfl) dX12_spell_90 ?_
              rw [rowI_rowI]
              have e1 : relS S.1 i p (5 + 5 * p + 1) = S.1 (5 + 5 * p + 1) := by rw [relS, upd_ne (by omega), upd_ne (by omega)]
              rw [e1]
              simp only [if_true] at ih'
              generalize tow (S.1 (5 + 5 * p + 1)) (goesN (mny S.1) k (relS S.1 i p)) = v at ih' ⊢
              have h2 := (h'.asd S.1).row' (s := S.1) rfl
              generalize rowI (rowI ν 74 S.1) 72 S.1 = ν2 at h2 ⊢
              have yes : stepB B i v = some (i, v) → AW Sc mX12_spell 103 [(0, .ref 71), (1, .int x), (2, .int t), (3, .int (oI B)), (4, .int (oW B)), (5, .int (nI i)), (6, .int v)] [] K0 ν2 n Q := by
                intro e
                rw [e] at ih'
                refine aw_iconst (v := 1) (by decide) dX12_spell_103 ?_
                refine aw_goto 108 rfl dX12_spell_104 ?_
                refine aw_istore (ble rfl) dX12_spell_108 ?_
                refine aw_iload rfl dX12_spell_110 ?_
                refine aw_if_eq 120 rfl dX12_spell_112 (fun c_ => absurd c_ ((by decide))) (fun _ => ?_)
                refine aw_iload rfl dX12_spell_115 ?_
                refine aw_goto 121 rfl dX12_spell_117 ?_
                refine aw_istore_n (ble rfl) dX12_spell_121 ?_
                refine aw_iload rfl dX12_spell_122 ?_
                refine aw_if_eq 132 rfl dX12_spell_124 (fun c_ => absurd c_ ((by decide))) (fun _ => ?_)
                refine aw_iload rfl dX12_spell_127 ?_
                refine aw_goto 134 rfl dX12_spell_129 ?_
                refine aw_istore (ble rfl) dX12_spell_134 ?_
                refine aw_iinc rfl (v := 1) (by decide) (ble rfl) dX12_spell_136 ?_
                refine aw_goto 47 rfl dX12_spell_139 ?_
                refine aw_keep [0, 1, 2, 3, 4, 5] ?_
                rw [nI_1]
                exact ih' ν2 h2
              refine aw_iload_n rfl dX12_spell_92 ?_
              cases B with
              | none =>
                refine aw_if_lt 103 rfl dX12_spell_93 (fun _ => ?_) (fun c_ => absurd ((by decide)) c_)
                exact yes rfl
              | some q =>
                have hq := bestF_lt hB
                refine aw_if_lt 103 rfl dX12_spell_93 (fun c_ => absurd c_ (nI_pos (by omega))) (fun _ => ?_)
                refine aw_iload rfl dX12_spell_96 ?_
                refine aw_iload rfl dX12_spell_98 ?_
                refine aw_icmp_le 107 rfl dX12_spell_100 (fun c5 => ?_) (fun c5 => ?_)
                · have e : stepB (some q) i v = some q := if_neg (Int32.not_lt.mpr c5)
                  rw [e] at ih'
                  refine aw_iconst (v := 0) (by decide) dX12_spell_107 ?_
                  refine aw_istore (ble rfl) dX12_spell_108 ?_
                  refine aw_iload rfl dX12_spell_110 ?_
                  refine aw_if_eq 120 rfl dX12_spell_112 (fun _ => ?_) (fun c_ => absurd (rfl) c_)
                  refine aw_iload_n rfl dX12_spell_120 ?_
                  refine aw_istore_n (ble rfl) dX12_spell_121 ?_
                  refine aw_iload rfl dX12_spell_122 ?_
                  refine aw_if_eq 132 rfl dX12_spell_124 (fun _ => ?_) (fun c_ => absurd (rfl) c_)
                  refine aw_iload rfl dX12_spell_132 ?_
                  refine aw_istore (ble rfl) dX12_spell_134 ?_
                  refine aw_iinc rfl (v := 1) (by decide) (ble rfl) dX12_spell_136 ?_
                  refine aw_goto 47 rfl dX12_spell_139 ?_
                  refine aw_keep [0, 1, 2, 3, 4, 5] ?_
                  rw [nI_1]
                  exact ih' ν2 h2
                · exact yes (if_pos (Int32.not_le.mp c5))
        refine aw_iconst (v := (-1)) (by decide) dX12_spell_39 ?_
        refine aw_istore_n (ble rfl) dX12_spell_40 ?_
        refine aw_iconst (v := 0) (by decide) dX12_spell_41 ?_
        refine aw_istore (ble rfl) dX12_spell_42 ?_
        refine aw_iconst (v := 0) (by decide) dX12_spell_44 ?_
        refine aw_istore (ble rfl) dX12_spell_45 ?_
        exact loop (mny S.1) 0 μ (by omega) h
      · rw [if_pos c3] at hQ
        refine aw_aload_n rfl dX12_spell_33 ?_
        refine aw_iconst (v := 4) (by decide) dX12_spell_34 ?_
        refine aw_v1 kX12_118 ⟨ble rfl, ble rfl⟩ (rcM) (ble rfl) dX12_spell_35 (q_no h (k := 4) rfl (by decide) (fun μ' h' => ?_))
        refine aw_iret dX12_spell_38 rfl ?_
        exact hQ μ' h'
    · exact bad (by rw [c2, Bool.and_false])
theorem q_kind {x t : Int32} (h : MJ μ0 μ S) (hW : WF S) (hQ : ∀ μ', MJ μ0 μ' (sp_kind x t S).2 → Q (some (.int (sp_kind x t S).1)) K0 μ') : AM Sc mX12_kind [.ref 71, .int x, .int t] K0 μ n Q := by
  refine AM.of rfl (ble rfl) ?_
  have hs := h.hs
  have hM := h.hM
  obtain ⟨h4, hm, -⟩ := hW.1
  unfold sp_kind at hQ
  have bad : (isP S x && in1 t 1 60) = false → AW Sc mX12_kind 18 [(0, .ref 71), (1, .int x), (2, .int t)] [] K0 μ n Q := by
    intro e
    rw [e] at hQ
    refine aw_aload_n rfl dX12_kind_18 ?_
    refine aw_iconst (v := 0) (by decide) dX12_kind_19 ?_
    refine aw_v1 kX12_118 ⟨ble rfl, ble rfl⟩ (rcM) (ble rfl) dX12_kind_20 (q_no h rfl (by decide) (fun μ' h' => ?_))
    refine aw_iret dX12_kind_23 rfl ?_
    exact hQ μ' h'
  refine aw_aload_n rfl dX12_kind_0 ?_
  refine aw_iload_n rfl dX12_kind_1 ?_
  refine aw_v1 kX12_134 ⟨ble rfl, ble rfl⟩ (rcM) (ble rfl) dX12_kind_2 (g_isPerson h ?_)
  refine aw_zeq 18 rfl dX12_kind_5 (fun c => ?_) (fun c => ?_)
  · exact bad (by rw [c]; rfl)
  · refine aw_iload_n rfl dX12_kind_8 ?_
    refine aw_iconst (v := 1) (by decide) dX12_kind_9 ?_
    refine aw_bipush (v := 60) (by decide) dX12_kind_10 ?_
    refine aw_s3 kX12_52 ⟨ble rfl, ble rfl⟩ (ble rfl) dX12_kind_12 (k_in1 ?_)
    refine aw_zne 24 rfl dX12_kind_15 (fun c2 => ?_) (fun c2 => ?_)
    · rw [c, c2] at hQ
      obtain ⟨k, hk1, hk, hx⟩ := in1_t (a := 1) (b := 60) (by decide) (by decide) c2
      obtain ⟨p, hp, hxp, hip⟩ := per_t h4 hm c
      have hix : ix t = k := by rw [hx]; exact ix_nI (by omega)
      rw [hix, hip] at hQ
      simp only [Bool.and_self, if_true] at hQ
      clear bad
      have loop : ∀ j i (ν : Mem), i + j = 6 → MJ μ0 ν S → AW Sc mX12_kind 32 [(0, .ref 71), (1, .int x), (2, .int t), (3, .int (oI (bestF (fun _ => true) (fun z => tow (S.1 (5 + 5 * p + 1)) (goesN (mny S.1) k (upd S.1 (5 + 5 * p) (nI z)))) i))), (4, .int (oW (bestF (fun _ => true) (fun z => tow (S.1 (5 + 5 * p + 1)) (goesN (mny S.1) k (upd S.1 (5 + 5 * p) (nI z)))) i))), (5, .int (nI i))] [] K0 ν n Q := by
        intro j
        induction j with
        | zero =>
          intro i ν hi h'
          refine aw_iload rfl dX12_kind_32 ?_
          refine aw_bipush (v := 6) (by decide) dX12_kind_34 ?_
          refine aw_icmp_ge 114 rfl dX12_kind_36 (fun _ => ?_) (fun c_ => absurd (nI_le (a := 6) (by omega) (by omega)) c_)
          rw [show i = 6 by omega]
          refine aw_iload_n rfl dX12_kind_114 ?_
          refine aw_iret dX12_kind_115 rfl ?_
          exact hQ _ h'
        | succ j ih =>
          intro i ν hi h'
          have hs' := h'.hs
          have hM' := h'.hM
          have hM := h'.hM
          refine aw_iload rfl dX12_kind_32 ?_
          refine aw_bipush (v := 6) (by decide) dX12_kind_34 ?_
          refine aw_icmp_ge 114 rfl dX12_kind_36 (fun c_ => absurd c_ (nI_ge (b := 6) (by omega) (by omega))) (fun _ => ?_)
          have ih' := fun ν => ih (i + 1) ν (by omega)
          rw [bestF] at ih'
          generalize hB : bestF (fun _ => true) (fun z => tow (S.1 (5 + 5 * p + 1)) (goesN (mny S.1) k (upd S.1 (5 + 5 * p) (nI z)))) i = B at ih' ⊢
          refine aw_aload_n rfl dX12_kind_39 ?_
          refine aw_v0 kX12_145 ⟨ble rfl, ble rfl⟩ (rcM) (ble rfl) dX12_kind_40 (k_setsAside hM' hs' ?_)
          refine aw_aload_n rfl dX12_kind_43 ?_
          refine aw_iload_n rfl dX12_kind_44 ?_
          refine aw_iconst (v := 0) (by decide) dX12_kind_45 ?_
          refine aw_iload rfl dX12_kind_46 ?_
          refine aw_v3 kX12_88 ⟨ble rfl, ble rfl⟩ (rcM) (ble rfl) dX12_kind_48 (g_puts (s := S.1) hM' (by rw [rowI_ne _ _ (by decide)]; exact hs') hxp (j := 0) rfl (by omega) (by decide) ?_)
          refine aw_aload_n rfl dX12_kind_51 ?_
          refine aw_aload_n rfl dX12_kind_52 ?_
          refine aw_iload_n rfl dX12_kind_53 ?_
          refine aw_iconst (v := 1) (by decide) dX12_kind_54 ?_
          refine aw_v2 kX12_60 ⟨ble rfl, ble rfl⟩ (rcM) (ble rfl) dX12_kind_55 (g_get hM' (rowI_get _ _ _) hxp (j := 1) rfl (by omega) (by decide) ?_)
          refine aw_iload_n rfl dX12_kind_58 ?_
          refine aw_v2 kX12_148 ⟨ble rfl, ble rfl⟩ (rcM) (ble rfl) dX12_kind_59 (k_towardsBy (a := S.1) hM' (rowI_get _ _ _) (by rw [rowI_ne _ _ (by decide), rowI_get]) (by rw [upd_ne (by omega)]; exact h4) hm hx (by omega) ?_)
          refine aw_istore (ble rfl) dX12_kind_62 ?_
          rw [rowI_rowI]
          have e1 : upd S.1 (5 + 5 * p + 0) (nI i) (5 + 5 * p + 1) = S.1 (5 + 5 * p + 1) := upd_ne (by omega)
          rw [e1]
          simp only [if_true] at ih'
          show AW Sc mX12_kind 64 (lset1 _ 6 (.int (tow (S.1 (5 + 5 * p + 1)) (goesN (mny S.1) k (upd S.1 (5 + 5 * p) (nI i)))))) _ _ _ n Q
          generalize tow (S.1 (5 + 5 * p + 1)) (goesN (mny S.1) k (upd S.1 (5 + 5 * p) (nI i))) = v at ih' ⊢
          have h2 := (h'.asd S.1).row' (s := S.1) rfl
          generalize rowI (rowI ν 74 S.1) 72 S.1 = ν2 at h2 ⊢
          have yes : stepB B i v = some (i, v) → AW Sc mX12_kind 75 [(0, .ref 71), (1, .int x), (2, .int t), (3, .int (oI B)), (4, .int (oW B)), (5, .int (nI i)), (6, .int v)] [] K0 ν2 n Q := by
            intro e
            rw [e] at ih'
            refine aw_iconst (v := 1) (by decide) dX12_kind_75 ?_
            refine aw_goto 80 rfl dX12_kind_76 ?_
            refine aw_istore (ble rfl) dX12_kind_80 ?_
            refine aw_iload rfl dX12_kind_82 ?_
            refine aw_if_eq 92 rfl dX12_kind_84 (fun c_ => absurd c_ ((by decide))) (fun _ => ?_)
            refine aw_iload rfl dX12_kind_87 ?_
            refine aw_goto 93 rfl dX12_kind_89 ?_
            refine aw_istore_n (ble rfl) dX12_kind_93 ?_
            refine aw_iload rfl dX12_kind_94 ?_
            refine aw_if_eq 104 rfl dX12_kind_96 (fun c_ => absurd c_ ((by decide))) (fun _ => ?_)
            refine aw_iload rfl dX12_kind_99 ?_
            refine aw_goto 106 rfl dX12_kind_101 ?_
            refine aw_istore (ble rfl) dX12_kind_106 ?_
            refine aw_iinc rfl (v := 1) (by decide) (ble rfl) dX12_kind_108 ?_
            refine aw_goto 32 rfl dX12_kind_111 ?_
            refine aw_keep [0, 1, 2, 3, 4, 5] ?_
            rw [nI_1]
            exact ih' ν2 h2
          refine aw_iload_n rfl dX12_kind_64 ?_
          cases B with
          | none =>
            refine aw_if_lt 75 rfl dX12_kind_65 (fun _ => ?_) (fun c_ => absurd ((by decide)) c_)
            exact yes rfl
          | some q =>
            have hq := bestF_lt hB
            refine aw_if_lt 75 rfl dX12_kind_65 (fun c_ => absurd c_ (nI_pos (by omega))) (fun _ => ?_)
            refine aw_iload rfl dX12_kind_68 ?_
            refine aw_iload rfl dX12_kind_70 ?_
            refine aw_icmp_le 79 rfl dX12_kind_72 (fun c5 => ?_) (fun c5 => ?_)
            · have e : stepB (some q) i v = some q := if_neg (Int32.not_lt.mpr c5)
              rw [e] at ih'
              refine aw_iconst (v := 0) (by decide) dX12_kind_79 ?_
              refine aw_istore (ble rfl) dX12_kind_80 ?_
              refine aw_iload rfl dX12_kind_82 ?_
              refine aw_if_eq 92 rfl dX12_kind_84 (fun _ => ?_) (fun c_ => absurd (rfl) c_)
              refine aw_iload_n rfl dX12_kind_92 ?_
              refine aw_istore_n (ble rfl) dX12_kind_93 ?_
              refine aw_iload rfl dX12_kind_94 ?_
              refine aw_if_eq 104 rfl dX12_kind_96 (fun _ => ?_) (fun c_ => absurd (rfl) c_)
              refine aw_iload rfl dX12_kind_104 ?_
              refine aw_istore (ble rfl) dX12_kind_106 ?_
              refine aw_iinc rfl (v := 1) (by decide) (ble rfl) dX12_kind_108 ?_
              refine aw_goto 32 rfl dX12_kind_111 ?_
              refine aw_keep [0, 1, 2, 3, 4, 5] ?_
              rw [nI_1]
              exact ih' ν2 h2
            · exact yes (if_pos (Int32.not_le.mp c5))
      refine aw_iconst (v := (-1)) (by decide) dX12_kind_24 ?_
      refine aw_istore_n (ble rfl) dX12_kind_25 ?_
      refine aw_iconst (v := 0) (by decide) dX12_kind_26 ?_
      refine aw_istore (ble rfl) dX12_kind_27 ?_
      refine aw_iconst (v := 0) (by decide) dX12_kind_29 ?_
      refine aw_istore (ble rfl) dX12_kind_30 ?_
      exact loop 6 0 μ (by omega) h
    · exact bad (by rw [c2, Bool.and_false])
theorem q_week {d t : Int32} (h : MJ μ0 μ S) (hW : WF S) (hQ : ∀ μ', MJ μ0 μ' (sp_week d t S).2 → Q (some (.int (sp_week d t S).1)) K0 μ') : AM Sc mX12_week [.ref 71, .int d, .int t] K0 μ n Q := by
  refine AM.of rfl (ble rfl) ?_
  have hs := h.hs
  have hM := h.hM
  obtain ⟨h4, hm, -⟩ := hW.1
  unfold sp_week at hQ
  have bad : (in1 d 0 1 && in1 t 1 100) = false → AW Sc mX12_week 17 [(0, .ref 71), (1, .int d), (2, .int t)] [] K0 μ n Q := by
    intro e
    rw [e] at hQ
    refine aw_aload_n rfl dX12_week_17 ?_
    refine aw_iconst (v := 0) (by decide) dX12_week_18 ?_
    refine aw_v1 kX12_118 ⟨ble rfl, ble rfl⟩ (rcM) (ble rfl) dX12_week_19 (q_no h rfl (by decide) (fun μ' h' => ?_))
    refine aw_iret dX12_week_22 rfl ?_
    exact hQ μ' h'
  refine aw_iload_n rfl dX12_week_0 ?_
  refine aw_s1 kX12_127 ⟨ble rfl, ble rfl⟩ (ble rfl) dX12_week_1 (k_isSide ?_)
  refine aw_zeq 17 rfl dX12_week_4 (fun c => ?_) (fun c => ?_)
  · exact bad (by rw [c]; rfl)
  · refine aw_iload_n rfl dX12_week_7 ?_
    refine aw_iconst (v := 1) (by decide) dX12_week_8 ?_
    refine aw_bipush (v := 100) (by decide) dX12_week_9 ?_
    refine aw_s3 kX12_52 ⟨ble rfl, ble rfl⟩ (ble rfl) dX12_week_11 (k_in1 ?_)
    refine aw_zne 23 rfl dX12_week_14 (fun c2 => ?_) (fun c2 => ?_)
    · rw [c, c2] at hQ
      obtain ⟨k, hk1, hk, hx⟩ := in1_t (a := 1) (b := 100) (by decide) (by decide) c2
      have hix : ix t = k := by rw [hx]; exact ix_nI (by omega)
      rw [hix] at hQ
      simp only [Bool.and_self, if_true] at hQ
      clear bad
      have loop : ∀ j i (ν : Mem), i + j = 8 → MJ μ0 ν S → AW Sc mX12_week 31 [(0, .ref 71), (1, .int d), (2, .int t), (3, .int (oI (bestF (fun _ => true) (fun z => tow d (goesN (mny S.1) k (upd S.1 3 (S.1 3 ^^^ ((1 : Int32) <<< (nI z &&& 31)))))) i))), (4, .int (oW (bestF (fun _ => true) (fun z => tow d (goesN (mny S.1) k (upd S.1 3 (S.1 3 ^^^ ((1 : Int32) <<< (nI z &&& 31)))))) i))), (5, .int (nI i))] [] K0 ν n Q := by
        intro j
        induction j with
        | zero =>
          intro i ν hi h'
          refine aw_iload rfl dX12_week_31 ?_
          refine aw_bipush (v := 8) (by decide) dX12_week_33 ?_
          refine aw_icmp_ge 113 rfl dX12_week_35 (fun _ => ?_) (fun c_ => absurd (nI_le (a := 8) (by omega) (by omega)) c_)
          rw [show i = 8 by omega]
          refine aw_iload_n rfl dX12_week_113 ?_
          refine aw_iret dX12_week_114 rfl ?_
          exact hQ _ h'
        | succ j ih =>
          intro i ν hi h'
          have hs' := h'.hs
          have hM' := h'.hM
          have hM := h'.hM
          refine aw_iload rfl dX12_week_31 ?_
          refine aw_bipush (v := 8) (by decide) dX12_week_33 ?_
          refine aw_icmp_ge 113 rfl dX12_week_35 (fun c_ => absurd c_ (nI_ge (b := 8) (by omega) (by omega))) (fun _ => ?_)
          have ih' := fun ν => ih (i + 1) ν (by omega)
          rw [bestF] at ih'
          generalize hB : bestF (fun _ => true) (fun z => tow d (goesN (mny S.1) k (upd S.1 3 (S.1 3 ^^^ ((1 : Int32) <<< (nI z &&& 31)))))) i = B at ih' ⊢
          refine aw_aload_n rfl dX12_week_38 ?_
          refine aw_v0 kX12_145 ⟨ble rfl, ble rfl⟩ (rcM) (ble rfl) dX12_week_39 (k_setsAside hM' hs' ?_)
          refine aw_aload_n rfl dX12_week_42 ?_
          refine aw_getR gX12_9_12 kM rfl (hM.s) dX12_week_43 ?_
          refine aw_iconst (v := 3) (by decide) dX12_week_46 ?_
          refine aw_dup2 rfl rfl dX12_week_47 ?_
          refine aw_ialoadN kS (c := 3) rfl (by decide) (by decide) dX12_week_48 ?_
          refine aw_iconst (v := 1) (by decide) dX12_week_49 ?_
          refine aw_iload rfl dX12_week_50 ?_
          refine aw_ishl dX12_week_52 ?_
          refine aw_ixor dX12_week_53 ?_
          refine aw_iastoreN kS (c := 3) rfl (by decide) (by decide) dX12_week_54 ?_
          have e0 : pI (rowI ν 74 S.1) 72 3 ((rowI ν 74 S.1).1 72 3 ^^^ (1 : Int32) <<< (nI i &&& 31)) = rowI (rowI ν 74 S.1) 72 (upd S.1 3 (S.1 3 ^^^ (1 : Int32) <<< (nI i &&& 31))) := by
            show rowI (rowI ν 74 S.1) 72 (upd ((rowI ν 74 S.1).1 72) 3 _) = _
            rw [rowI_ne _ _ (by decide), hs']
          rw [e0]
          refine aw_aload_n rfl dX12_week_55 ?_
          refine aw_iload_n rfl dX12_week_56 ?_
          refine aw_iload_n rfl dX12_week_57 ?_
          refine aw_v2 kX12_148 ⟨ble rfl, ble rfl⟩ (rcM) (ble rfl) dX12_week_58 (k_towardsBy (a := S.1) hM' (rowI_get _ _ _) (by rw [rowI_ne _ _ (by decide), rowI_get]) (by rw [upd_ne (by omega)]; exact h4) hm hx (by omega) ?_)
          refine aw_istore (ble rfl) dX12_week_61 ?_
          rw [rowI_rowI]
          simp only [if_true] at ih'
          generalize tow d (goesN (mny S.1) k (upd S.1 3 (S.1 3 ^^^ ((1 : Int32) <<< (nI i &&& 31))))) = v at ih' ⊢
          have h2 := (h'.asd S.1).row' (s := S.1) rfl
          generalize rowI (rowI ν 74 S.1) 72 S.1 = ν2 at h2 ⊢
          have yes : stepB B i v = some (i, v) → AW Sc mX12_week 74 [(0, .ref 71), (1, .int d), (2, .int t), (3, .int (oI B)), (4, .int (oW B)), (5, .int (nI i)), (6, .int v)] [] K0 ν2 n Q := by
            intro e
            rw [e] at ih'
            refine aw_iconst (v := 1) (by decide) dX12_week_74 ?_
            refine aw_goto 79 rfl dX12_week_75 ?_
            refine aw_istore (ble rfl) dX12_week_79 ?_
            refine aw_iload rfl dX12_week_81 ?_
            refine aw_if_eq 91 rfl dX12_week_83 (fun c_ => absurd c_ ((by decide))) (fun _ => ?_)
            refine aw_iload rfl dX12_week_86 ?_
            refine aw_goto 92 rfl dX12_week_88 ?_
            refine aw_istore_n (ble rfl) dX12_week_92 ?_
            refine aw_iload rfl dX12_week_93 ?_
            refine aw_if_eq 103 rfl dX12_week_95 (fun c_ => absurd c_ ((by decide))) (fun _ => ?_)
            refine aw_iload rfl dX12_week_98 ?_
            refine aw_goto 105 rfl dX12_week_100 ?_
            refine aw_istore (ble rfl) dX12_week_105 ?_
            refine aw_iinc rfl (v := 1) (by decide) (ble rfl) dX12_week_107 ?_
            refine aw_goto 31 rfl dX12_week_110 ?_
            refine aw_keep [0, 1, 2, 3, 4, 5] ?_
            rw [nI_1]
            exact ih' ν2 h2
          refine aw_iload_n rfl dX12_week_63 ?_
          cases B with
          | none =>
            refine aw_if_lt 74 rfl dX12_week_64 (fun _ => ?_) (fun c_ => absurd ((by decide)) c_)
            exact yes rfl
          | some q =>
            have hq := bestF_lt hB
            refine aw_if_lt 74 rfl dX12_week_64 (fun c_ => absurd c_ (nI_pos (by omega))) (fun _ => ?_)
            refine aw_iload rfl dX12_week_67 ?_
            refine aw_iload rfl dX12_week_69 ?_
            refine aw_icmp_le 78 rfl dX12_week_71 (fun c5 => ?_) (fun c5 => ?_)
            · have e : stepB (some q) i v = some q := if_neg (Int32.not_lt.mpr c5)
              rw [e] at ih'
              refine aw_iconst (v := 0) (by decide) dX12_week_78 ?_
              refine aw_istore (ble rfl) dX12_week_79 ?_
              refine aw_iload rfl dX12_week_81 ?_
              refine aw_if_eq 91 rfl dX12_week_83 (fun _ => ?_) (fun c_ => absurd (rfl) c_)
              refine aw_iload_n rfl dX12_week_91 ?_
              refine aw_istore_n (ble rfl) dX12_week_92 ?_
              refine aw_iload rfl dX12_week_93 ?_
              refine aw_if_eq 103 rfl dX12_week_95 (fun _ => ?_) (fun c_ => absurd (rfl) c_)
              refine aw_iload rfl dX12_week_103 ?_
              refine aw_istore (ble rfl) dX12_week_105 ?_
              refine aw_iinc rfl (v := 1) (by decide) (ble rfl) dX12_week_107 ?_
              refine aw_goto 31 rfl dX12_week_110 ?_
              refine aw_keep [0, 1, 2, 3, 4, 5] ?_
              rw [nI_1]
              exact ih' ν2 h2
            · exact yes (if_pos (Int32.not_le.mp c5))
      refine aw_iconst (v := (-1)) (by decide) dX12_week_23 ?_
      refine aw_istore_n (ble rfl) dX12_week_24 ?_
      refine aw_iconst (v := 0) (by decide) dX12_week_25 ?_
      refine aw_istore (ble rfl) dX12_week_26 ?_
      refine aw_iconst (v := 0) (by decide) dX12_week_28 ?_
      refine aw_istore (ble rfl) dX12_week_29 ?_
      exact loop 8 0 μ (by omega) h
    · exact bad (by rw [c2, Bool.and_false])
theorem q_strong {x t v : Int32} (h : MJ μ0 μ S) (hW : WF S) (hQ : ∀ μ', MJ μ0 μ' (sp_strong x t v S).2 → Q (some (.int (sp_strong x t v S).1)) K0 μ') : AM Sc mX12_strong [.ref 71, .int x, .int t, .int v] K0 μ n Q := by
  refine AM.of rfl (ble rfl) ?_
  have hs := h.hs
  have hM := h.hM
  obtain ⟨h4, hm, -⟩ := hW.1
  unfold sp_strong at hQ
  have bad : (isP S x && (in1 t 1 60 && in1 v (-9999) 9999)) = false → AW Sc mX12_strong 25 [(0, .ref 71), (1, .int x), (2, .int t), (3, .int v)] [] K0 μ n Q := by
    intro e
    rw [e] at hQ
    refine aw_aload_n rfl dX12_strong_25 ?_
    refine aw_iconst (v := 0) (by decide) dX12_strong_26 ?_
    refine aw_v1 kX12_118 ⟨ble rfl, ble rfl⟩ (rcM) (ble rfl) dX12_strong_27 (q_no h rfl (by decide) (fun μ' h' => ?_))
    refine aw_iret dX12_strong_30 rfl ?_
    exact hQ μ' h'
  refine aw_aload_n rfl dX12_strong_0 ?_
  refine aw_iload_n rfl dX12_strong_1 ?_
  refine aw_v1 kX12_134 ⟨ble rfl, ble rfl⟩ (rcM) (ble rfl) dX12_strong_2 (g_isPerson h ?_)
  refine aw_zeq 25 rfl dX12_strong_5 (fun c => ?_) (fun c => ?_)
  · exact bad (by rw [c]; rfl)
  · refine aw_iload_n rfl dX12_strong_8 ?_
    refine aw_iconst (v := 1) (by decide) dX12_strong_9 ?_
    refine aw_bipush (v := 60) (by decide) dX12_strong_10 ?_
    refine aw_s3 kX12_52 ⟨ble rfl, ble rfl⟩ (ble rfl) dX12_strong_12 (k_in1 ?_)
    refine aw_zeq 25 rfl dX12_strong_15 (fun c2 => ?_) (fun c2 => ?_)
    · exact bad (by rw [c2, Bool.false_and, Bool.and_false])
    · refine aw_iload_n rfl dX12_strong_18 ?_
      refine aw_s1 kX12_121 ⟨ble rfl, ble rfl⟩ (ble rfl) dX12_strong_19 (k_isKnot ?_)
      refine aw_zne 31 rfl dX12_strong_22 (fun c3 => ?_) (fun c3 => ?_)
      · rw [c, c2, c3] at hQ
        obtain ⟨k, hk1, hk, hx⟩ := in1_t (a := 1) (b := 60) (by decide) (by decide) c2
        obtain ⟨p, hp, hxp, hip⟩ := per_t h4 hm c
        have hix : ix t = k := by rw [hx]; exact ix_nI (by omega)
        rw [hix, hip] at hQ
        simp only [Bool.and_self, if_true] at hQ
        clear bad
        generalize hT : fUp _ 20 1 = T at hQ
        have loop : ∀ j i (ν : Mem), i + j = 21 → MJ μ0 ν S → fUp (fun z => decide (v ≤ tow (S.1 (5 + 5 * p + 1)) (goesN (mny S.1) k (upd S.1 (5 + 5 * p + 4) (nI z))))) j i = T → AW Sc mX12_strong 34 [(0, .ref 71), (1, .int x), (2, .int t), (3, .int v), (4, .int (nI i))] [] K0 ν n Q := by
          intro j
          induction j with
          | zero =>
            intro i ν hi h' e
            cases e
            refine aw_iload rfl dX12_strong_34 ?_
            refine aw_bipush (v := 20) (by decide) dX12_strong_36 ?_
            refine aw_icmp_gt 77 rfl dX12_strong_38 (fun _ => ?_) (fun c_ => absurd (nI_lt (a := 20) (by omega) (by omega)) c_)
            refine aw_aload_n rfl dX12_strong_77 ?_
            refine aw_iconst (v := 3) (by decide) dX12_strong_78 ?_
            refine aw_v1 kX12_118 ⟨ble rfl, ble rfl⟩ (rcM) (ble rfl) dX12_strong_79 (q_no h' (k := 3) rfl (by decide) (fun μ' h' => ?_))
            refine aw_iret dX12_strong_82 rfl ?_
            exact hQ μ' h'
          | succ j ih =>
            intro i ν hi h' e
            have hs' := h'.hs
            have hM' := h'.hM
            have hM := h'.hM
            rw [fUp] at e
            refine aw_iload rfl dX12_strong_34 ?_
            refine aw_bipush (v := 20) (by decide) dX12_strong_36 ?_
            refine aw_icmp_gt 77 rfl dX12_strong_38 (fun c_ => absurd c_ (nI_nlt (b := i) (a := 20) (by omega) (by omega))) (fun _ => ?_)
            refine aw_aload_n rfl dX12_strong_41 ?_
            refine aw_v0 kX12_145 ⟨ble rfl, ble rfl⟩ (rcM) (ble rfl) dX12_strong_42 (k_setsAside hM' hs' ?_)
            refine aw_aload_n rfl dX12_strong_45 ?_
            refine aw_iload_n rfl dX12_strong_46 ?_
            refine aw_iconst (v := 4) (by decide) dX12_strong_47 ?_
            refine aw_iload rfl dX12_strong_48 ?_
            refine aw_v3 kX12_88 ⟨ble rfl, ble rfl⟩ (rcM) (ble rfl) dX12_strong_50 (g_puts (s := S.1) hM' (by rw [rowI_ne _ _ (by decide)]; exact hs') hxp (j := 4) rfl (by omega) (by decide) ?_)
            refine aw_aload_n rfl dX12_strong_53 ?_
            refine aw_aload_n rfl dX12_strong_54 ?_
            refine aw_iload_n rfl dX12_strong_55 ?_
            refine aw_iconst (v := 1) (by decide) dX12_strong_56 ?_
            refine aw_v2 kX12_60 ⟨ble rfl, ble rfl⟩ (rcM) (ble rfl) dX12_strong_57 (g_get hM' (rowI_get _ _ _) hxp (j := 1) rfl (by omega) (by decide) ?_)
            refine aw_iload_n rfl dX12_strong_60 ?_
            refine aw_v2 kX12_148 ⟨ble rfl, ble rfl⟩ (rcM) (ble rfl) dX12_strong_61 (k_towardsBy (a := S.1) hM' (rowI_get _ _ _) (by rw [rowI_ne _ _ (by decide), rowI_get]) (by rw [upd_ne (by omega)]; exact h4) hm hx (by omega) ?_)
            refine aw_iload_n rfl dX12_strong_64 ?_
            rw [rowI_rowI]
            have e1 : upd S.1 (5 + 5 * p + 4) (nI i) (5 + 5 * p + 1) = S.1 (5 + 5 * p + 1) := upd_ne (by omega)
            rw [e1]
            have h2 := (h'.asd S.1).row' (s := S.1) rfl
            generalize rowI (rowI ν 74 S.1) 72 S.1 = ν2 at h2 ⊢
            refine aw_icmp_lt 71 rfl dX12_strong_65 (fun c4 => ?_) (fun c4 => ?_)
            · rw [decide_eq_false (Int32.not_le.mpr c4), if_neg (by decide)] at e
              refine aw_iinc rfl (v := 1) (by decide) (ble rfl) dX12_strong_71 ?_
              refine aw_goto 34 rfl dX12_strong_74 ?_
              rw [nI_1]
              exact ih (i + 1) ν2 (by omega) h2 e
            · rw [decide_eq_true (Int32.not_lt.mp c4), if_pos rfl] at e
              cases e
              refine aw_iload rfl dX12_strong_68 ?_
              refine aw_iret dX12_strong_70 rfl ?_
              exact hQ _ h2
        refine aw_iconst (v := 1) (by decide) dX12_strong_31 ?_
        refine aw_istore (ble rfl) dX12_strong_32 ?_
        exact loop 20 1 μ (by omega) h hT
      · exact bad (by rw [c3, Bool.and_false, Bool.and_false])
theorem q_bears {x t : Int32} (h : MJ μ0 μ S) (hW : WF S) (hQ : ∀ μ', MJ μ0 μ' (sp_bears x t S).2 → Q (some (.int (sp_bears x t S).1)) K0 μ') : AM Sc mX12_bears [.ref 71, .int x, .int t] K0 μ n Q := by
  refine AM.of rfl (ble rfl) ?_
  have hs := h.hs
  have hM := h.hM
  obtain ⟨h4, hm, -⟩ := hW.1
  unfold sp_bears at hQ
  have bad : (isP S x && in1 t 1 60) = false → AW Sc mX12_bears 18 [(0, .ref 71), (1, .int x), (2, .int t)] [] K0 μ n Q := by
    intro e
    rw [e] at hQ
    refine aw_aload_n rfl dX12_bears_18 ?_
    refine aw_iconst (v := 0) (by decide) dX12_bears_19 ?_
    refine aw_v1 kX12_118 ⟨ble rfl, ble rfl⟩ (rcM) (ble rfl) dX12_bears_20 (q_no h rfl (by decide) (fun μ' h' => ?_))
    refine aw_iret dX12_bears_23 rfl ?_
    exact hQ μ' h'
  refine aw_aload_n rfl dX12_bears_0 ?_
  refine aw_iload_n rfl dX12_bears_1 ?_
  refine aw_v1 kX12_134 ⟨ble rfl, ble rfl⟩ (rcM) (ble rfl) dX12_bears_2 (g_isPerson h ?_)
  refine aw_zeq 18 rfl dX12_bears_5 (fun c => ?_) (fun c => ?_)
  · exact bad (by rw [c]; rfl)
  · refine aw_iload_n rfl dX12_bears_8 ?_
    refine aw_iconst (v := 1) (by decide) dX12_bears_9 ?_
    refine aw_bipush (v := 60) (by decide) dX12_bears_10 ?_
    refine aw_s3 kX12_52 ⟨ble rfl, ble rfl⟩ (ble rfl) dX12_bears_12 (k_in1 ?_)
    refine aw_zne 24 rfl dX12_bears_15 (fun c2 => ?_) (fun c2 => ?_)
    · rw [c, c2] at hQ
      obtain ⟨k, hk1, hk, hx⟩ := in1_t (a := 1) (b := 60) (by decide) (by decide) c2
      obtain ⟨p, hp, hxp, hip⟩ := per_t h4 hm c
      have hix : ix t = k := by rw [hx]; exact ix_nI (by omega)
      rw [hix, hip] at hQ
      simp only [Bool.and_self, if_true] at hQ
      clear bad
      generalize hT : fDn _ 100 = T at hQ
      have loop : ∀ i (ν : Mem) (y : Int32), i ≤ 100 → y = nI i - 1 → MJ μ0 ν S → fDn (fun z => decide (goesN (mny S.1) k (upd S.1 (5 + 5 * p + 3) (nI z)) (5 + 5 * p + 2) = 1)) i = T → AW Sc mX12_bears 27 [(0, .ref 71), (1, .int x), (2, .int t), (3, .int y)] [] K0 ν n Q := by
        intro i
        induction i with
        | zero =>
          intro ν y hi hy h' e
          cases e
          subst hy
          refine aw_iload_n rfl dX12_bears_27 ?_
          refine aw_if_lt 81 rfl dX12_bears_28 (fun _ => ?_) (fun c_ => absurd ((by decide)) c_)
          refine aw_aload_n rfl dX12_bears_81 ?_
          refine aw_iconst (v := 3) (by decide) dX12_bears_82 ?_
          refine aw_v1 kX12_118 ⟨ble rfl, ble rfl⟩ (rcM) (ble rfl) dX12_bears_83 (q_no h' (k := 3) rfl (by decide) (fun μ' h' => ?_))
          refine aw_iret dX12_bears_86 rfl ?_
          exact hQ μ' h'
        | succ i ih =>
          intro ν y hi hy h' e
          rw [nI_pred] at hy
          subst hy
          have hs' := h'.hs
          have hM' := h'.hM
          have hM := h'.hM
          rw [fDn] at e
          refine aw_iload_n rfl dX12_bears_27 ?_
          refine aw_if_lt 81 rfl dX12_bears_28 (fun c_ => absurd c_ (nI_pos (by omega))) (fun _ => ?_)
          refine aw_aload_n rfl dX12_bears_31 ?_
          refine aw_v0 kX12_145 ⟨ble rfl, ble rfl⟩ (rcM) (ble rfl) dX12_bears_32 (k_setsAside hM' hs' ?_)
          refine aw_aload_n rfl dX12_bears_35 ?_
          refine aw_iload_n rfl dX12_bears_36 ?_
          refine aw_iconst (v := 3) (by decide) dX12_bears_37 ?_
          refine aw_iload_n rfl dX12_bears_38 ?_
          refine aw_v3 kX12_88 ⟨ble rfl, ble rfl⟩ (rcM) (ble rfl) dX12_bears_39 (g_puts (s := S.1) hM' (by rw [rowI_ne _ _ (by decide)]; exact hs') hxp (j := 3) rfl (by omega) (by decide) ?_)
          refine aw_aload_n rfl dX12_bears_42 ?_
          refine aw_iload_n rfl dX12_bears_43 ?_
          refine aw_v1 kX12_106 ⟨ble rfl, ble rfl⟩ (rcM) (ble rfl) dX12_bears_44 (k_goes hM' (rowI_get _ _ _) (by rw [upd_ne (by omega)]; exact h4) hm hx (by omega) ?_)
          refine aw_aload_n rfl dX12_bears_47 ?_
          refine aw_iload_n rfl dX12_bears_48 ?_
          refine aw_iconst (v := 2) (by decide) dX12_bears_49 ?_
          refine aw_v2 kX12_60 ⟨ble rfl, ble rfl⟩ (rcM) (ble rfl) dX12_bears_50 (g_get hM' (rowI_get _ _ _) hxp (j := 2) rfl (by omega) (by decide) ?_)
          refine aw_iconst (v := 1) (by decide) dX12_bears_53 ?_
          rw [rowI_rowI]
          have h2 := (h'.asd S.1).row' (s := S.1) rfl
          refine aw_icmp_ne 61 rfl dX12_bears_54 (fun c4 => ?_) (fun c4 => ?_)
          · rw [decide_eq_false c4, if_neg (by decide)] at e
            refine aw_iconst (v := 0) (by decide) dX12_bears_61 ?_
            refine aw_istore (ble rfl) dX12_bears_62 ?_
            refine aw_aload_n rfl dX12_bears_64 ?_
            refine aw_v0 kX12_112 ⟨ble rfl, ble rfl⟩ (rcM) (ble rfl) dX12_bears_65 (k_laysBack (a := S.1) hM' (by rw [rowI_ne _ _ (by decide), rowI_get]) ?_)
            rw [rowI_rowI]
            refine aw_iload rfl dX12_bears_68 ?_
            refine aw_if_eq 75 rfl dX12_bears_70 (fun _ => ?_) (fun c_ => absurd (rfl) c_)
            refine aw_iinc rfl (v := (-1)) (by decide) (ble rfl) dX12_bears_75 ?_
            refine aw_goto 27 rfl dX12_bears_78 ?_
            refine aw_keep [0, 1, 2, 3] ?_
            exact ih _ (nI i + -1) (by omega) (by rw [Int32.sub_eq_add_neg]) h2 e
          · rw [decide_eq_true c4, if_pos rfl] at e
            cases e
            refine aw_iconst (v := 1) (by decide) dX12_bears_57 ?_
            refine aw_goto 62 rfl dX12_bears_58 ?_
            refine aw_istore (ble rfl) dX12_bears_62 ?_
            refine aw_aload_n rfl dX12_bears_64 ?_
            refine aw_v0 kX12_112 ⟨ble rfl, ble rfl⟩ (rcM) (ble rfl) dX12_bears_65 (k_laysBack (a := S.1) hM' (by rw [rowI_ne _ _ (by decide), rowI_get]) ?_)
            rw [rowI_rowI]
            refine aw_iload rfl dX12_bears_68 ?_
            refine aw_if_eq 75 rfl dX12_bears_70 (fun c_ => absurd c_ ((by decide))) (fun _ => ?_)
            refine aw_iload_n rfl dX12_bears_73 ?_
            refine aw_iret dX12_bears_74 rfl ?_
            exact hQ _ h2
      refine aw_bipush (v := 99) (by decide) dX12_bears_24 ?_
      refine aw_istore_n (ble rfl) dX12_bears_26 ?_
      exact loop 100 μ 99 (by omega) (by decide) h hT
    · exact bad (by rw [c2, Bool.and_false])
end Pub4
