/-! THE CLASS, 23: fewest, feed -/
theorem fa_or (a b : Nat) : nI a ||| nI b = nI (a ||| b) := by
  apply Int32.toBitVec_inj.1
  show BitVec.ofNat 32 a ||| BitVec.ofNat 32 b = BitVec.ofNat 32 (a ||| b)
  apply BitVec.eq_of_getLsbD_eq
  intro i hi
  simp [BitVec.getLsbD_ofNat, Nat.testBit_or, hi]
theorem sub_and {x y : Int32} (h : x &&& (y ^^^ -1) = 0) : x &&& y = x := by
  have e1 : (-1 : Int32).toBitVec = BitVec.allOnes 32 := by decide
  have hb : x.toBitVec &&& (y.toBitVec ^^^ (-1 : Int32).toBitVec) = 0#32 := congrArg Int32.toBitVec h
  rw [e1] at hb
  apply Int32.toBitVec_inj.1
  show x.toBitVec &&& y.toBitVec = x.toBitVec
  apply BitVec.eq_of_getLsbD_eq
  intro i hi
  have h2 := congrArg (fun b => b.getLsbD i) hb
  simp only [BitVec.getLsbD_and, BitVec.getLsbD_xor, BitVec.getLsbD_allOnes, hi, decide_true, BitVec.getLsbD_zero, Bool.xor_true] at h2 ⊢
  generalize x.toBitVec.getLsbD i = p at h2 ⊢
  generalize y.toBitVec.getLsbD i = q at h2 ⊢
  cases p <;> cases q <;> simp_all
theorem sub_le {a o : Nat} (ha : a < 2 ^ 31) (ho : o < 2 ^ 31) (h : nI a &&& (nI o ^^^ -1) = 0) : a ≤ o := by
  have e := sub_and h
  rw [fa_and] at e
  have e := congrArg ix e
  have hl : a &&& o ≤ o := Nat.and_le_right
  rw [ix_nI (by omega), ix_nI ha] at e
  omega
theorem shl2p : ∀ k : Nat, k < 10 → (1 : Int32) <<< (nI k &&& 31) = nI (2 ^ k) := by decide
theorem offS_b (s : Nat → Int32) (d : Int32) : ∀ k, k ≤ 10 → ∃ o : Nat, o < 2 ^ k ∧ offS s d k = nI o
  | 0, _ => ⟨0, by decide, rfl⟩
  | k + 1, hk => by
    obtain ⟨o, ho, e⟩ := offS_b s d k (by omega)
    have hp : 2 ^ k < 2 ^ (k + 1) := Nat.pow_lt_pow_right (by decide) (by omega)
    rw [offS, e]
    split
    · rw [shl2p k (by omega), fa_or]
      exact ⟨o ||| 2 ^ k, Nat.or_lt_two_pow (by omega) hp, rfl⟩
    · exact ⟨o, by omega, Int32.or_zero⟩
theorem sumF_o {s : Nat → Int32} {a o : Int32} : ∀ k, sumF s a o k = o + sumF s a 0 k
  | 0 => by rw [sumF, sumF, Int32.add_zero]
  | k + 1 => by rw [sumF, sumF, sumF_o k, Int32.add_assoc]
theorem sumF_b {s : Nat → Int32} (hW : WFs s) (a : Int32) : ∀ k, k ≤ mny s → ∃ c : Nat, c ≤ 44 * k ∧ sumF s a 0 k = nI c
  | 0, _ => ⟨0, by omega, rfl⟩
  | k + 1, hk => by
    obtain ⟨c, hc, e⟩ := sumF_b hW a k (by omega)
    obtain ⟨d, hd, e2⟩ := pulls_b (hW.2.2.2.2 k (by omega))
    rw [sumF, e]
    split
    · rw [e2]
      exact ⟨c + d, by omega, nI_add c d⟩
    · exact ⟨c, by omega, Int32.add_zero _⟩
theorem lead_iff {p q c : Nat} (hp : p ≤ 440) (hq : q ≤ 440) (hc : c ≤ 440) : nI q < nI p + nI c ↔ ¬ (nI p - nI q) + nI c ≤ 0 := by
  have e1 : (nI p - nI q).toInt = p - q := by rw [fb_subI (by rw [nI_toInt (by omega), nI_toInt (by omega)]; omega) (by rw [nI_toInt (by omega), nI_toInt (by omega)]; omega), nI_toInt (by omega), nI_toInt (by omega)]
  have e2 : (nI p - nI q + nI c).toInt = p - q + c := by rw [fb_addI (by rw [e1, nI_toInt (by omega)]; omega) (by rw [e1, nI_toInt (by omega)]; omega), e1, nI_toInt (by omega)]
  rw [nI_add, fa_lt, fa_le, e2, nI_toInt (by omega), nI_toInt (by omega)]
  show _ ↔ ¬ _ ≤ (0 : Int)
  omega
theorem bestF_cut {ok : Nat → Bool} {val : Nat → Int32} {o : Nat} (h : ∀ a, o < a → ok a = false) : ∀ d, bestF ok val (o + 1 + d) = bestF ok val (o + 1)
  | 0 => rfl
  | d + 1 => by
    rw [← Nat.add_assoc, bestF, h (o + 1 + d) (by omega), if_neg (by decide), bestF_cut h d]
theorem h255 : ∀ i : Nat, i < 32 → (255#32).getLsbD i = decide (i < 8) := by decide
theorem ush8 (x : Int32) {l : Nat} (h : l < 4) : (x.toUInt32 >>> ((8 * nI l).toUInt32 &&& Int32.toUInt32 31)).toInt32 &&& 255 = (x >>> (8 * nI l &&& 31)) &&& 255 := by
  have key : ∀ k : Nat, k ≤ 24 → (x.toBitVec >>> k) &&& 255#32 = (x.toBitVec.sshiftRight k) &&& 255#32 := by
    intro k hk
    apply BitVec.eq_of_getLsbD_eq
    intro i hi
    rw [BitVec.getLsbD_and, BitVec.getLsbD_and, h255 i hi]
    by_cases h8 : i < 8
    · simp [BitVec.getLsbD_sshiftRight, show k + i < 32 by omega, show ¬ 32 ≤ i by omega]
    · simp [h8]
  have hl : l = 0 ∨ l = 1 ∨ l = 2 ∨ l = 3 := by omega
  apply Int32.toBitVec_inj.1
  rcases hl with rfl | rfl | rfl | rfl
  · exact key 0 (by omega)
  · exact key 8 (by omega)
  · exact key 16 (by omega)
  · exact key 24 (by omega)
section CIs4
variable {μ0 μ μ' : Mem} {S : SG}
/-- one byte more on the tape -/
theorem CI.tadd (hW : mny S.1 ≤ 10) (hk : S.2.2.1 = true → mny S.2.2.2.1 ≤ 10) (h : CI μ0 μ S) {v : Int32} {c : Nat} (hc : S.2.2.2.2.2.1 = c) : CI μ0 (pI (pI μ 60 c v) 59 1 (nI (c + 1))) (tM1 S (upd S.2.2.2.2.1 c v) (c + 1)) := by
  obtain ⟨a, x, cc, d, e, f', t1, t2, t3, t4, t5⟩ := h
  show CI μ0 (rowI (rowI μ 60 (upd (μ.1 60) c v)) 59 (upd ((rowI μ 60 (upd (μ.1 60) c v)).1 59) 1 (nI (c + 1)))) _
  refine ⟨fun q hq => ?_, x, fun j k hj hk => ?_, (d.rowO g1 hW (by omega)).rowO g1 hW (by omega), fun e' => ((e e').rowO g39 (hk e') (by omega)).rowO g39 (hk e') (by omega), ?_, fun k hk => ?_, ?_, fun k hk => ?_, fun i hi => ?_, t5⟩
  · rw [rowI_ne _ _ (by omega), rowI_ne _ _ (by omega)]; exact a q hq
  · rw [rowI_ne _ _ (by rcases hj with rfl | rfl | rfl <;> omega), rowI_ne _ _ (by rcases hj with rfl | rfl | rfl <;> omega)]; exact cc j k hj hk
  · rw [rowI_ne _ _ (by omega), rowI_ne _ _ (by omega)]; exact f'
  · rw [rowI_ne _ _ (by omega), rowI_ne _ _ (by omega)]; exact t1 k hk
  · rw [rowI_get, upd_eq]; rfl
  · rw [rowI_ne _ _ (by omega), rowI_get]
    show upd (μ.1 60) c v k = upd S.2.2.2.2.1 c v k
    by_cases e : k = c
    · subst e; rw [upd_eq, upd_eq]
    · rw [upd_ne e, upd_ne e]; exact t3 k hk
  · rw [rowI_ne _ _ (by omega), rowI_ne _ _ (by omega)]; exact t4 i hi
end CIs4
section Cls23
variable {Sc : SCR} {μ μ0 : Mem} {n : Nat × Nat} {Q : PQ} {S : SG}
theorem rcTp : Rcv K0 "EndlessTug$Tape" 59 := Rcv.ob kTp rfl
theorem c_add {x : Int32} {c : Nat} (hr : μ.2.2 59 0 = some 60) (hz : μ.1 59 1 = nI c) (hc : c < 120) (hQ : Q none K0 (pI (pI μ 60 c x) 59 1 (nI (c + 1)))) : AM Sc mX9_add [.ref 59, .int x] K0 μ n Q := by
  refine AM.of rfl (ble rfl) ?_
  refine aw_aload_n rfl dX9_add_0 ?_
  refine aw_getI gX9_15_9 kTp rfl dX9_add_1 ?_
  refine aw_bipush (v := 120) (by decide) dX9_add_4 ?_
  rw [hz]
  refine aw_icmp_ge 29 rfl dX9_add_6 (fun c_ => absurd c_ (nI_ge (b := 120) hc (by omega))) (fun _ => ?_)
  refine aw_aload_n rfl dX9_add_9 ?_
  refine aw_getR gX9_9_9 kTp rfl (hr) dX9_add_10 ?_
  refine aw_aload_n rfl dX9_add_13 ?_
  refine aw_getI gX9_15_9 kTp rfl dX9_add_14 ?_
  refine aw_iload_n rfl dX9_add_17 ?_
  refine aw_iastoreN kBy hz hc (by decide) dX9_add_18 ?_
  have e : (pI μ 60 c x).1 59 1 = nI c := (congrFun (pI_ne _ _ _ (by decide)) 1).trans hz
  refine aw_aload_n rfl dX9_add_19 ?_
  refine aw_dup rfl dX9_add_20 ?_
  refine aw_getI gX9_15_9 kTp rfl dX9_add_21 ?_
  refine aw_iconst (v := 1) (by decide) dX9_add_24 ?_
  refine aw_iadd dX9_add_25 ?_
  refine aw_putI (pX9_15_9 _) kTp rfl rfl rfl dX9_add_26 ?_
  refine aw_return dX9_add_29 rfl ?_
  rw [e, nI_1]
  exact hQ
theorem e_feed {b t : Int32} (h : CI μ0 μ S) (hW : WF S) (hQ : ∀ μ', CI μ0 μ' (sp_feed b t S).2 → Q (some (.int (sp_feed b t S).1)) K0 μ') : AM Sc mX11_feed [.ref 0, .int b, .int t] K0 μ n Q := by
  refine AM.of rfl (ble rfl) ?_
  have hX := h.hX
  have hN := hW.2.2.1
  unfold sp_feed at hQ
  refine aw_iload_n rfl dX11_feed_0 ?_
  refine aw_iconst (v := 1) (by decide) dX11_feed_1 ?_
  refine aw_iconst (v := 4) (by decide) dX11_feed_2 ?_
  refine aw_s3 kX11_47 ⟨ble rfl, ble rfl⟩ (ble rfl) dX11_feed_3 (c_isWithin ?_)
  refine aw_zne 16 rfl dX11_feed_6 (fun c => ?_) (fun c => ?_)
  · rw [if_pos c] at hQ
    obtain ⟨k, hk1, hk, hx⟩ := in1_t (a := 1) (b := 4) (by decide) (by decide) c
    have hix : ix t = k := by rw [hx]; exact ix_nI (by omega)
    rw [hix] at hQ
    refine aw_aload_n rfl dX11_feed_16 ?_
    refine aw_getR gX11_32_11 kX rfl (hX.tape) dX11_feed_17 ?_
    refine aw_getI gX11_209_9 kTp rfl dX11_feed_20 ?_
    refine aw_iload_n rfl dX11_feed_23 ?_
    refine aw_iadd dX11_feed_24 ?_
    refine aw_bipush (v := 120) (by decide) dX11_feed_25 ?_
    rw [h.2.2.2.2.2.2.2.1]
    refine aw_icmp_le 37 rfl dX11_feed_27 (fun c2 => ?_) (fun c2 => ?_)
    · rw [if_pos c2] at hQ
      have hck : S.2.2.2.2.2.1 + k ≤ 120 := by
        rw [hx, nI_add, fa_le, nI_toInt (by omega)] at c2
        have c2 : ((S.2.2.2.2.2.1 + k : Nat) : Int) ≤ 120 := c2
        omega
      have loop : ∀ j i (ν : Mem), i + j = k → CI μ0 ν (tM1 S (feedT S.2.2.2.2.1 S.2.2.2.2.2.1 b k i) (S.2.2.2.2.2.1 + i)) → AW Sc mX11_feed 41 [(0, .ref 0), (1, .int b), (2, .int t), (3, .int (nI j - 1))] [] K0 ν n Q := by
        intro j
        induction j with
        | zero =>
          intro i ν hi h'
          have hX := h'.hX
          refine aw_iload_n rfl dX11_feed_41 ?_
          refine aw_if_lt 68 rfl dX11_feed_42 (fun _ => ?_) (fun c_ => absurd ((by decide)) c_)
          refine aw_aload_n rfl dX11_feed_68 ?_
          refine aw_getR gX11_32_11 kX rfl (hX.tape) dX11_feed_69 ?_
          refine aw_getI gX11_209_9 kTp rfl dX11_feed_72 ?_
          refine aw_iret dX11_feed_75 rfl ?_
          rw [h'.2.2.2.2.2.2.2.1]
          obtain rfl : i = k := by omega
          exact hQ _ h'
        | succ j ih =>
          intro i ν hi h'
          have hX := h'.hX
          rw [nI_pred]
          refine aw_iload_n rfl dX11_feed_41 ?_
          refine aw_if_lt 68 rfl dX11_feed_42 (fun c_ => absurd c_ (nI_pos (by omega))) (fun _ => ?_)
          refine aw_aload_n rfl dX11_feed_45 ?_
          refine aw_getR gX11_32_11 kX rfl (hX.tape) dX11_feed_46 ?_
          refine aw_iload_n rfl dX11_feed_49 ?_
          refine aw_bipush (v := 8) (by decide) dX11_feed_50 ?_
          refine aw_iload_n rfl dX11_feed_52 ?_
          refine aw_imul dX11_feed_53 ?_
          refine aw_iushr dX11_feed_54 ?_
          refine aw_sipush (v := 255) (by decide) dX11_feed_55 ?_
          refine aw_iand dX11_feed_58 ?_
          rw [show (8 : Int32) * nI j = 8 * nI (k - 1 - i) by rw [show k - 1 - i = j by omega], ush8 b (by omega)]
          refine aw_v1 kX11_210 ⟨ble rfl, ble rfl⟩ (rcTp) (ble rfl) dX11_feed_59 (c_add (c := S.2.2.2.2.2.1 + i) hX.2.2.1 h'.2.2.2.2.2.2.2.1 (by omega) ?_)
          have h2 := CI.tadd (S := tM1 S (feedT S.2.2.2.2.1 S.2.2.2.2.2.1 b k i) (S.2.2.2.2.2.1 + i)) hW.1.2.1 (fun e => (hW.2.1 e).2.1) h' (v := (b >>> (8 * nI (k - 1 - i) &&& 31)) &&& 255) rfl
          refine aw_iinc rfl (v := (-1)) (by decide) (ble rfl) dX11_feed_62 ?_
          refine aw_goto 41 rfl dX11_feed_65 ?_
          rw [show nI j + (-1) = nI j - 1 from (Int32.sub_eq_add_neg ..).symm]
          exact ih (i + 1) _ (by omega) h2
      refine aw_iload_n rfl dX11_feed_37 ?_
      refine aw_iconst (v := 1) (by decide) dX11_feed_38 ?_
      refine aw_isub dX11_feed_39 ?_
      refine aw_istore_n (ble rfl) dX11_feed_40 ?_
      have l0 := loop k 0 μ (by omega) h
      rw [← hx] at l0
      exact l0
    · rw [if_neg c2] at hQ
      refine aw_aload_n rfl dX11_feed_30 ?_
      refine aw_ldc (v := (-1000000002)) w_404 dX11_feed_31 ?_
      refine aw_v1 kX11_52 ⟨ble rfl, ble rfl⟩ (rcX) (ble rfl) dX11_feed_33 (e_finding (k := 1) h hW (by decide) (by decide) (fun μ' h' => ?_))
      refine aw_iret dX11_feed_36 rfl ?_
      exact hQ μ' h'
  · rw [if_neg (by rw [c]; decide)] at hQ
    refine aw_aload_n rfl dX11_feed_9 ?_
    refine aw_ldc (v := (-1000000001)) w_316 dX11_feed_10 ?_
    refine aw_v1 kX11_52 ⟨ble rfl, ble rfl⟩ (rcX) (ble rfl) dX11_feed_12 (e_finding (k := 0) h hW (by decide) (by decide) (fun μ' h' => ?_))
    refine aw_iret dX11_feed_15 rfl ?_
    exact hQ μ' h'
theorem e_fewest {d : Int32} (h : CI μ0 μ S) (hW : WF S) (hQ : ∀ μ', CI μ0 μ' (sp_fewest d S).2 → Q (some (.int (sp_fewest d S).1)) K0 μ') : AM Sc mX11_fewest [.ref 0, .int d] K0 μ n Q := by
  refine AM.of rfl (ble rfl) ?_
  have hX := h.hX
  have hga := h.ga
  obtain ⟨h4, hm, -⟩ := hW.1
  unfold sp_fewest at hQ
  refine aw_iload_n rfl dX11_fewest_0 ?_
  refine aw_s1 kX11_93 ⟨ble rfl, ble rfl⟩ (ble rfl) dX11_fewest_1 (c_isSide ?_)
  refine aw_zne 14 rfl dX11_fewest_4 (fun c => ?_) (fun c => ?_)
  · rw [if_pos c] at hQ
    obtain ⟨o, ho, eo⟩ := offS_b S.1 d (mny S.1) hm
    have hp10 : 2 ^ mny S.1 ≤ 2 ^ 10 := Nat.pow_le_pow_right (by decide) hm
    have hp10 : 2 ^ mny S.1 ≤ 1024 := hp10
    obtain ⟨p, hp, ep⟩ := sideP_b hW.1 d (mny S.1) (Nat.le_refl _)
    obtain ⟨q, hq, eq⟩ := sideP_b hW.1 (1 - d) (mny S.1) (Nat.le_refl _)
    have hok : ∀ a, fwOk S.1 d (mny S.1) a = (decide (nI a &&& (nI o ^^^ -1) = 0) && decide (¬ (nI p - nI q) + sumF S.1 (nI a) 0 (mny S.1) ≤ 0)) := by
      intro a
      unfold fwOk
      rw [eo, ep, eq, sumF_o]
      obtain ⟨cc, hcc, ecc⟩ := sumF_b hW.1 (nI a) (mny S.1) (Nat.le_refl _)
      rw [ecc]
      congr 1
      exact decide_eq_decide.mpr (lead_iff (by omega) (by omega) (by omega))
    have hcut : ∀ a, o < a → a < 2 ^ mny S.1 → fwOk S.1 d (mny S.1) a = false := by
      intro a ha ha2
      rw [hok, decide_eq_false (fun z => by have := sub_le (by omega) (by omega) z; omega), Bool.false_and]
    have ecut : bestF (fwOk S.1 d (mny S.1)) fwV (2 ^ mny S.1) = bestF (fwOk S.1 d (mny S.1)) fwV (o + 1) := by
      have : ∀ k, o + 1 + k ≤ 2 ^ mny S.1 → bestF (fwOk S.1 d (mny S.1)) fwV (o + 1 + k) = bestF (fwOk S.1 d (mny S.1)) fwV (o + 1) := by
        intro k
        induction k with
        | zero => intro _; rfl
        | succ k ih =>
          intro hk
          rw [← Nat.add_assoc, bestF, hcut (o + 1 + k) (by omega) (by omega), if_neg (by decide)]
          exact ih (by omega)
      have := this (2 ^ mny S.1 - (o + 1)) (by omega)
      rwa [show o + 1 + (2 ^ mny S.1 - (o + 1)) = 2 ^ mny S.1 by omega] at this
    rw [ecut] at hQ
    generalize fwOk S.1 d (mny S.1) = ok at hQ hok
    have ho4 : o < 1024 := by omega
    have loop : ∀ j i (ν : Mem), i + j = o + 1 → CI μ0 ν S → BH (ν.1 58) (bestF ok fwV i) → AW Sc mX11_fewest 53 [(0, .ref 0), (1, .int d), (2, .int (nI p - nI q)), (3, .int (nI o)), (4, .int (nI i))] [] K0 ν n Q := by
      intro j
      induction j with
      | zero =>
        intro i ν hi hν hb
        refine aw_iload rfl dX11_fewest_53 ?_
        refine aw_iload_n rfl dX11_fewest_55 ?_
        refine aw_icmp_gt 115 rfl dX11_fewest_56 (fun _ => ?_) (fun c_ => absurd (nI_lt (by omega) (by omega)) c_)
        obtain rfl : i = o + 1 := by omega
        refine aw_aload_n rfl dX11_fewest_115 ?_
        refine aw_v0 kX11_187 ⟨ble rfl, ble rfl⟩ (rcX) (ble rfl) dX11_fewest_116 (e_bestOrNone hν hW hb (fun μ' h' => ?_))
        refine aw_iret dX11_fewest_119 rfl ?_
        exact hQ μ' h'
      | succ j ih =>
        intro i ν hi hν hb
        have hX := hν.hX
        refine aw_iload rfl dX11_fewest_53 ?_
        refine aw_iload_n rfl dX11_fewest_55 ?_
        refine aw_icmp_gt 115 rfl dX11_fewest_56 (fun c_ => absurd c_ (nI_nlt (by omega) (by omega))) (fun _ => ?_)
        have next : ∀ ν z, CI μ0 ν S → BH (ν.1 58) (bestF ok fwV (i + 1)) → AW Sc mX11_fewest 109 [(0, .ref 0), (1, .int d), (2, .int (nI p - nI q)), (3, .int (nI o)), (4, .int (nI i)), (5, .int z)] [] K0 ν n Q := by
          intro ν z hν hb
          refine aw_iinc rfl (v := 1) (by decide) (ble rfl) dX11_fewest_109 ?_
          refine aw_goto 53 rfl dX11_fewest_112 ?_
          rw [nI_1]
          refine aw_keep [0, 1, 2, 3, 4] ?_
          exact ih (i + 1) ν (by omega) hν hb
        rw [bestF, hok] at next
        refine aw_iload rfl dX11_fewest_59 ?_
        refine aw_iload_n rfl dX11_fewest_61 ?_
        refine aw_iconst (v := (-1)) (by decide) dX11_fewest_62 ?_
        refine aw_ixor dX11_fewest_63 ?_
        refine aw_iand dX11_fewest_64 ?_
        refine aw_if_ne 72 rfl dX11_fewest_65 (fun c2 => ?_) (fun c2 => ?_)
        · rw [decide_eq_false c2, Bool.false_and, if_neg (by decide)] at next
          refine aw_iconst (v := 0) (by decide) dX11_fewest_72 ?_
          refine aw_istore (ble rfl) dX11_fewest_73 ?_
          refine aw_iload rfl dX11_fewest_75 ?_
          refine aw_if_eq 109 rfl dX11_fewest_77 (fun _ => ?_) (fun c_ => absurd ((by decide)) c_)
          exact next ν _ hν hb
        · rw [decide_eq_true c2, Bool.true_and] at next
          refine aw_iconst (v := 1) (by decide) dX11_fewest_68 ?_
          refine aw_goto 73 rfl dX11_fewest_69 ?_
          refine aw_istore (ble rfl) dX11_fewest_73 ?_
          refine aw_iload rfl dX11_fewest_75 ?_
          refine aw_if_eq 109 rfl dX11_fewest_77 (fun c_ => absurd c_ ((by decide))) (fun _ => ?_)
          refine aw_iload_n rfl dX11_fewest_80 ?_
          refine aw_aload_n rfl dX11_fewest_81 ?_
          refine aw_getR gX11_10_11 kX rfl (hX.green) dX11_fewest_82 ?_
          refine aw_iload rfl dX11_fewest_85 ?_
          refine aw_v1 kX11_196 ⟨ble rfl, ble rfl⟩ (rcG g1) (ble rfl) dX11_fewest_87 (c_pullOfSet g1 hν.ga hW.1 ?_)
          refine aw_iadd dX11_fewest_90 ?_
          refine aw_if_le 109 rfl dX11_fewest_91 (fun c3 => ?_) (fun c3 => ?_)
          · rw [decide_eq_false (fun z => z c3), if_neg (by decide)] at next
            exact next ν _ hν hb
          · rw [decide_eq_true c3, if_pos rfl] at next
            refine aw_aload_n rfl dX11_fewest_94 ?_
            refine aw_getR gX11_25_11 kX rfl (hX.best) dX11_fewest_95 ?_
            refine aw_iload rfl dX11_fewest_98 ?_
            refine aw_iload rfl dX11_fewest_100 ?_
            refine aw_s1 kX11_199 ⟨ble rfl, ble rfl⟩ (ble rfl) dX11_fewest_102 (c_bitCount (a := i) rfl (by omega) ?_)
            refine aw_ineg dX11_fewest_105 ?_
            refine aw_v2 kX11_184 ⟨ble rfl, ble rfl⟩ (rcBest) (ble rfl) dX11_fewest_106 (c_offer hb (k := i) rfl (fun f hf => ?_))
            refine next _ _ (hν.bst hW f) ?_
            rw [rowI_get]
            exact hf
    refine aw_aload_n rfl dX11_fewest_14 ?_
    refine aw_getR gX11_10_11 kX rfl (hX.green) dX11_fewest_15 ?_
    refine aw_iload_n rfl dX11_fewest_18 ?_
    refine aw_v1 kX11_86 ⟨ble rfl, ble rfl⟩ (rcG g1) (ble rfl) dX11_fewest_19 (c_pullOf g1 hga hW.1 ?_)
    refine aw_aload_n rfl dX11_fewest_22 ?_
    refine aw_getR gX11_10_11 kX rfl (hX.green) dX11_fewest_23 ?_
    refine aw_iconst (v := 1) (by decide) dX11_fewest_26 ?_
    refine aw_iload_n rfl dX11_fewest_27 ?_
    refine aw_isub dX11_fewest_28 ?_
    refine aw_v1 kX11_86 ⟨ble rfl, ble rfl⟩ (rcG g1) (ble rfl) dX11_fewest_29 (c_pullOf g1 hga hW.1 ?_)
    rw [ep, eq]
    refine aw_isub dX11_fewest_32 ?_
    refine aw_istore_n (ble rfl) dX11_fewest_33 ?_
    refine aw_aload_n rfl dX11_fewest_34 ?_
    refine aw_getR gX11_10_11 kX rfl (hX.green) dX11_fewest_35 ?_
    refine aw_iload_n rfl dX11_fewest_38 ?_
    refine aw_v1 kX11_193 ⟨ble rfl, ble rfl⟩ (rcG g1) (ble rfl) dX11_fewest_39 (c_setOff g1 hga hW.1 ?_)
    rw [eo]
    refine aw_istore_n (ble rfl) dX11_fewest_42 ?_
    refine aw_aload_n rfl dX11_fewest_43 ?_
    refine aw_getR gX11_25_11 kX rfl (hX.best) dX11_fewest_44 ?_
    refine aw_v0 kX11_181 ⟨ble rfl, ble rfl⟩ (rcBest) (ble rfl) dX11_fewest_47 (c_clear (fun f hf1 _ => ?_))
    refine aw_iconst (v := 0) (by decide) dX11_fewest_50 ?_
    refine aw_istore (ble rfl) dX11_fewest_51 ?_
    exact loop (o + 1) 0 _ (by omega) (h.bst hW f) (by rw [rowI_get]; exact hf1)
  · rw [if_neg (by rw [c]; decide)] at hQ
    refine aw_aload_n rfl dX11_fewest_7 ?_
    refine aw_ldc (v := (-1000000001)) w_316 dX11_fewest_8 ?_
    refine aw_v1 kX11_52 ⟨ble rfl, ble rfl⟩ (rcX) (ble rfl) dX11_fewest_10 (e_finding (k := 0) h hW (by decide) (by decide) (fun μ' h' => ?_))
    refine aw_iret dX11_fewest_13 rfl ?_
    exact hQ μ' h'
end Cls23
