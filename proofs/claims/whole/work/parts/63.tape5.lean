/-! THE TAPE OF THE CLASS, 5: tell, green -/
section Tp5
variable {Sc : SCR} {μ μ0 ν : Mem} {n : Nat × Nat} {Q : PQ} {S : SG} {s : Nat → Int32} {i p : Nat} {so st en tk : Int32}
theorem c_tell (h : CI μ0 μ S) (hW : WF S) (h2 : GA μ 20 s) (hs : WFs s) (hQ : ∀ ν tk, TQ μ0 S (rdAll S.2.2.2.2.1 S.2.2.2.2.2.1 120 1 0 s).2.2.2 ν (rdAll S.2.2.2.2.1 S.2.2.2.2.2.1 120 1 0 s).2.2.1 tk → (rdAll S.2.2.2.2.1 S.2.2.2.2.2.1 120 1 0 s).2.1 ≤ 121 → (rdAll S.2.2.2.2.1 S.2.2.2.2.2.1 120 1 0 s).2.2.1 ≤ S.2.2.2.2.2.1 → Q (some (.int (if (rdAll S.2.2.2.2.1 S.2.2.2.2.2.1 120 1 0 s).1 then nI (rdAll S.2.2.2.2.1 S.2.2.2.2.2.1 120 1 0 s).2.1 else -1 - nI (skp S.2.2.2.2.1 S.2.2.2.2.2.1 (rdAll S.2.2.2.2.1 S.2.2.2.2.2.1 120 1 0 s).2.2.1)))) K0 ν) : AM Sc mX9_tell [.ref 59, .ref 20] K0 μ n Q := by
  refine AM.of rfl (ble rfl) ?_
  generalize hR : rdAll S.2.2.2.2.1 S.2.2.2.2.2.1 120 1 0 s = R at hQ
  have bad : ∀ (k p : Nat) (s : Nat → Int32) (ν : Mem) (tk : Int32) lv, (false, k, p, s) = R → k ≤ 121 → p ≤ S.2.2.2.2.2.1 → TQ μ0 S s ν p tk → AW Sc mX9_tell 58 ((0, .ref 59) :: lv) [] K0 ν n Q := by
    intro k p s ν tk lv e hk hp g
    subst e
    refine aw_iconst (v := (-1)) (by decide) dX9_tell_58 ?_
    refine aw_aload_n rfl dX9_tell_59 ?_
    refine aw_getI gX9_32_9 kTp rfl dX9_tell_60 ?_
    rw [g.h3]
    refine aw_isub dX9_tell_63 ?_
    refine aw_iret dX9_tell_64 rfl ?_
    exact hQ ν tk g hk hp
  have loop : ∀ (f k p : Nat) (s : Nat → Int32) (ν : Mem) (tk : Int32), k + f = 121 → 1 ≤ k → p ≤ S.2.2.2.2.2.1 → rdAll S.2.2.2.2.1 S.2.2.2.2.2.1 f k p s = R → TQ μ0 S s ν p tk → AW Sc mX9_tell 11 [(0, .ref 59), (1, .ref 20), (2, .int (nI k))] [] K0 ν n Q := by
    intro f
    induction f with
    | zero =>
      intro k p s ν tk hk hk1 hp e g
      obtain rfl : k = 121 := by omega
      refine aw_iload_n rfl dX9_tell_11 ?_
      refine aw_bipush (v := 120) (by decide) dX9_tell_12 ?_
      refine aw_icmp_gt 58 rfl dX9_tell_14 (fun _ => ?_) (fun c_ => absurd ((by decide)) c_)
      exact bad 121 p s ν tk _ e (by omega) hp g
    | succ f ih =>
      intro k p s ν tk hk hk1 hp e g
      have hok := rdItem_ok (b := S.2.2.2.2.1) hp g.ws
      rw [rdAll] at e
      refine aw_iload_n rfl dX9_tell_11 ?_
      refine aw_bipush (v := 120) (by decide) dX9_tell_12 ?_
      refine aw_icmp_gt 58 rfl dX9_tell_14 (fun c_ => absurd c_ (nI_nlt (a := 120) (b := k) (by omega) (by omega))) (fun _ => ?_)
      refine aw_aload_n rfl dX9_tell_17 ?_
      refine aw_aload_n rfl dX9_tell_18 ?_
      refine aw_v1 kX9_25 ⟨ble rfl, ble rfl⟩ (rcTp) (ble rfl) dX9_tell_19 (c_takeItem g hp (fun ν2 tk2 g2 => ?_))
      generalize rdItem S.2.2.2.2.1 S.2.2.2.2.2.1 p s = r at e g2 hok ⊢
      obtain ⟨gd, p', s'⟩ := r
      obtain ⟨w1, w2, w3⟩ := hok
      have w3 : p' ≤ S.2.2.2.2.2.1 := w3
      have g4 : TQ μ0 S s' ν2 p' tk2 := g2
      clear g2
      simp only at e
      have h4 := tkp_le S.2.2.2.2.1 S.2.2.2.2.2.1 p'
      refine aw_zne 28 rfl dX9_tell_22 (fun c => ?_) (fun c => ?_)
      · have c : gd = true := c
        subst c
        rw [if_pos rfl] at e
        refine aw_aload_n rfl dX9_tell_28 ?_
        refine aw_getI gX9_29_9 kTp rfl dX9_tell_29 ?_
        rw [g4.h2]
        by_cases h0 : tkp S.2.2.2.2.1 S.2.2.2.2.2.1 p' = 0
        · rw [if_pos h0] at e
          rw [h0]
          refine aw_if_ne 37 rfl dX9_tell_32 (fun c_ => absurd (rfl) c_) (fun _ => ?_)
          subst e
          refine aw_iload_n rfl dX9_tell_35 ?_
          refine aw_iret dX9_tell_36 rfl ?_
          exact hQ ν2 tk2 g4 (by show k ≤ 121; omega) w3
        · rw [if_neg h0] at e
          refine aw_if_ne 37 rfl dX9_tell_32 (fun _ => ?_) (fun c_ => absurd c_ ((fun z => h0 (by have := congrArg ix z; rw [ix_nI (by omega)] at this; exact this))))
          refine aw_aload_n rfl dX9_tell_37 ?_
          refine aw_getI gX9_29_9 kTp rfl dX9_tell_38 ?_
          refine aw_iconst (v := 3) (by decide) dX9_tell_41 ?_
          rw [g4.h2]
          by_cases h3 : tkp S.2.2.2.2.1 S.2.2.2.2.2.1 p' = 3
          · rw [if_pos h3] at e
            rw [h3]
            refine aw_icmp_eq 48 rfl dX9_tell_42 (fun _ => ?_) (fun c_ => absurd (rfl) c_)
            have hle := (enp_ge (b := S.2.2.2.2.1) w3).2
            refine aw_aload_n rfl dX9_tell_48 ?_
            refine aw_v0 kX9_22 ⟨ble rfl, ble rfl⟩ (rcTp) (ble rfl) dX9_tell_49 (c_lookAtNext g4 hle (fun ν3 g3 => ?_))
            refine aw_iinc rfl (v := 1) (by decide) (ble rfl) dX9_tell_52 ?_
            refine aw_goto 11 rfl dX9_tell_55 ?_
            rw [nI_1]
            exact ih (k + 1) _ s' ν3 tk2 (by omega) (by omega) hle e g3
          · rw [if_neg h3] at e
            refine aw_icmp_eq 48 rfl dX9_tell_42 (fun c_ => absurd c_ ((fun z => h3 (by have := congrArg ix z; rw [ix_nI (by omega)] at this; exact this)))) (fun _ => ?_)
            refine aw_goto 58 rfl dX9_tell_45 ?_
            exact bad k p' s' ν2 tk2 _ e (by omega) w3 g4
      · have c : gd = false := c
        subst c
        rw [if_neg (by decide)] at e
        refine aw_goto 58 rfl dX9_tell_25 ?_
        exact bad k p' s' ν2 tk2 _ e (by omega) w3 g4
  refine aw_aload_n rfl dX9_tell_0 ?_
  refine aw_iconst (v := 0) (by decide) dX9_tell_1 ?_
  refine aw_putI (pX9_19_9 _) kTp rfl rfl rfl dX9_tell_2 ?_
  have f0 : TT μ0 S s (pI μ 59 4 0) _ _ (nI 0) _ := (show TT μ0 S s μ _ _ _ _ from ⟨⟨h, hW⟩, ⟨h2, hs⟩, rfl, rfl, rfl, rfl⟩).u4 0
  generalize pI μ 59 4 0 = μ1 at f0 ⊢
  refine aw_aload_n rfl dX9_tell_5 ?_
  refine aw_v0 kX9_22 ⟨ble rfl, ble rfl⟩ (rcTp) (ble rfl) dX9_tell_6 (c_lookAtNext f0 (Nat.zero_le _) (fun ν g => ?_))
  refine aw_iconst (v := 1) (by decide) dX9_tell_9 ?_
  refine aw_istore_n (ble rfl) dX9_tell_10 ?_
  exact loop 120 1 0 s ν _ rfl (Nat.le_refl _) (Nat.zero_le _) hR g
theorem e_green (h : CI μ0 μ S) (hW : WF S) (hQ : ∀ μ', CI μ0 μ' (sp_green S).2 → Q (some (.int (sp_green S).1)) K0 μ') : AM Sc mX11_green [.ref 0] K0 μ n Q := by
  refine AM.of rfl (ble rfl) ?_
  have hX := h.hX
  have hN := hW.2.2.1
  unfold sp_green at hQ
  refine aw_aload_n rfl dX11_green_0 ?_
  refine aw_getR gX11_16_11 kX rfl (hX.trial) dX11_green_1 ?_
  refine aw_aload_n rfl dX11_green_4 ?_
  refine aw_getR gX11_10_11 kX rfl (hX.green) dX11_green_5 ?_
  refine aw_v1 kX11_170 ⟨ble rfl, ble rfl⟩ (rcG g20) (ble rfl) dX11_green_8 (c_become g20 g1 (by decide) hX.2.1.2.1 h.ga hW.1 (fun μ1 F1 h1 => ?_))
  have i1 := h.tr hW F1
  have hX := i1.hX
  refine aw_aload_n rfl dX11_green_11 ?_
  refine aw_getR gX11_32_11 kX rfl (hX.tape) dX11_green_12 ?_
  refine aw_aload_n rfl dX11_green_15 ?_
  refine aw_getR gX11_16_11 kX rfl (hX.trial) dX11_green_16 ?_
  refine aw_v1 kX11_213 ⟨ble rfl, ble rfl⟩ (rcTp) (ble rfl) dX11_green_19 (c_tell i1 hW h1 hW.1 (fun ν tk g hk hp => ?_))
  generalize rdAll S.2.2.2.2.1 S.2.2.2.2.2.1 120 1 0 S.1 = R at hQ g hk hp ⊢
  have i2 := g.ci
  have hX := i2.hX
  have h2 := g.ga
  have ws2 := g.ws
  have hsk := (skp_le (b := S.2.2.2.2.1) hp).2
  refine aw_istore_n (ble rfl) dX11_green_22 ?_
  refine aw_aload_n rfl dX11_green_23 ?_
  refine aw_getR gX11_32_11 kX rfl (hX.tape) dX11_green_24 ?_
  refine aw_iconst (v := 0) (by decide) dX11_green_27 ?_
  refine aw_putI (pX11_209_9 _) kTp rfl rfl rfl dX11_green_28 ?_
  have i3 := i2.trw hW (upd (ν.1 59) 1 0) 0 upd_eq
  have h3 : GA (pI ν 59 1 0) 20 R.2.2.2 := h2.rowO (f := upd (ν.1 59) 1 0) g20 ws2.2.1 (by omega)
  have i3 : CI μ0 (pI ν 59 1 0) (tM1 S S.2.2.2.2.1 0) := i3
  generalize pI ν 59 1 0 = ν3 at i3 h3 ⊢
  have hX := i3.hX
  refine aw_iload_n rfl dX11_green_31 ?_
  cases hR : R.1 with
  | true =>
    rw [hR] at hQ
    rw [if_pos rfl] at hQ ⊢
    refine aw_if_lt 46 rfl dX11_green_32 (fun c_ => absurd c_ (nI_pos (by omega))) (fun _ => ?_)
    refine aw_aload_n rfl dX11_green_35 ?_
    refine aw_getR gX11_10_11 kX rfl (hX.green) dX11_green_36 ?_
    refine aw_aload_n rfl dX11_green_39 ?_
    refine aw_getR gX11_16_11 kX rfl (hX.trial) dX11_green_40 ?_
    refine aw_v1 kX11_170 ⟨ble rfl, ble rfl⟩ (rcG g1) (ble rfl) dX11_green_43 (c_become g1 g20 (by decide) hX.2.1.1 h3 ws2 (fun ν4 F4 h4 => ?_))
    have i4 := CI.gr (S := tM1 S S.2.2.2.2.1 0) ⟨hW.1, hW.2.1, Nat.zero_le _, hW.2.2.2⟩ i3 F4 h4
    refine aw_iload_n rfl dX11_green_46 ?_
    refine aw_iret dX11_green_47 rfl ?_
    exact hQ ν4 i4
  | false =>
    rw [hR] at hQ
    rw [if_neg (by decide)] at hQ ⊢
    have hlt : -1 - nI (skp S.2.2.2.2.1 S.2.2.2.2.2.1 R.2.2.1) < 0 := by
      rw [fa_lt, fb_subI (by rw [nI_toInt (by omega)]; show (-2147483648 : Int) ≤ -1 - _; omega) (by rw [nI_toInt (by omega)]; show (-1 : Int) - _ < 2147483648; omega), nI_toInt (by omega)]
      show (-1 : Int) - _ < 0
      omega
    refine aw_if_lt 46 rfl dX11_green_32 (fun _ => ?_) (fun c_ => absurd (hlt) c_)
    refine aw_iload_n rfl dX11_green_46 ?_
    refine aw_iret dX11_green_47 rfl ?_
    exact hQ ν3 i3
end Tp5
