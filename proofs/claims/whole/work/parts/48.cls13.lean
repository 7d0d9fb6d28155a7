/-! THE CLASS, 13: turn, as, set -/
section Cls13
variable {Sc : SCR} {μ μ0 : Mem} {n : Nat × Nat} {Q : PQ} {S : SG} {s : Nat → Int32} {g : Nat}
theorem v_num {M : MD} {pc j k : Nat} {lv : List (Nat × Value)} {st : List Value} (hj : gOk j) (hk : k < 6) (hc : M.1.cls = "EndlessTug") (hn : μ.1 (j + 3 + k) 0 = nI k) (d : decode M.2.1 pc = .ok (.getfield 120, 3)) (hQ : AW Sc M (pc + 3) lv (.int (nI k) :: st) K0 μ n Q) : AW Sc M pc lv (.ref (j + 3 + k) :: st) K0 μ n Q := by
  have hr := kMan hj hk
  rw [← hn] at hQ
  have hk6 : k = 0 ∨ k = 1 ∨ k = 2 ∨ k = 3 ∨ k = 4 ∨ k = 5 := by omega
  rcases hk6 with rfl | rfl | rfl | rfl | rfl | rfl
  · exact aw_getI (hc ▸ gX11_120_3) hr rfl d hQ
  · exact aw_getI (hc ▸ gX11_120_7) hr rfl d hQ
  · exact aw_getI (hc ▸ gX11_120_1) hr rfl d hQ
  · exact aw_getI (hc ▸ gX11_120_10) hr rfl d hQ
  · exact aw_getI (hc ▸ gX11_120_5) hr rfl d hQ
  · exact aw_getI (hc ▸ gX11_120_8) hr rfl d hQ
theorem Fr.kd {q k : Nat} {v : Option Nat} (h : g + 9 ≤ q ∧ q < g + 19) : Fr g μ (pR μ q k v) := ⟨fun _ _ _ => rfl, rfl, fun p b => pR_ne _ _ _ (by rintro rfl; exact b h)⟩
theorem GA.kd {j c k : Nat} (hj : gOk j) (hc : c < 6) (h : GA μ g s) (hk : k < 10) : GA (pR μ (g + 9 + k) 0 (some (j + 3 + c))) g (upd s (5 + 5 * k) (nI c)) := by
  have F : Fr g μ (pR μ (g + 9 + k) 0 (some (j + 3 + c))) := Fr.kd ⟨by omega, by omega⟩
  refine ⟨h.1.fr F, ?_, fun i hi => ?_⟩
  · unfold GH
    rw [upd_ne (by omega), upd_ne (by omega), upd_ne (by omega), upd_ne (by omega), upd_ne (by omega)]
    exact h.2.1
  · rw [mny_upd (by omega)] at hi
    obtain ⟨a, b⟩ := h.2.2 i hi
    refine ⟨?_, ?_⟩
    · unfold FP
      rw [upd_ne (by omega), upd_ne (by omega), upd_ne (by omega), upd_ne (by omega)]
      exact a
    · by_cases e : i = k
      · subst e
        exact ⟨j, c, hj, hc, upd_eq, pR_get _ _ _ _⟩
      · unfold KR
        rw [upd_ne (by omega), pR_ne _ _ _ (by omega)]
        exact b
theorem GA.slot {c k : Nat} {v : Int32} (h : GA μ g s) (hk : k < mny s) (hc : c = 1 ∨ c = 2 ∨ c = 3 ∨ c = 4) : GA (pI μ (g + 9 + k) c v) g (upd s (5 + 5 * k + c) v) := by
  obtain ⟨f1, f2, f3, f4⟩ := (h.2.2 k hk).1
  refine h.per (f := upd (μ.1 (g + 9 + k)) c v) (fun j hj => upd_ne (by omega)) ?_
  rcases hc with rfl | rfl | rfl | rfl
  · refine ⟨?_, ?_, ?_, ?_⟩
    · rw [upd_eq, upd_eq]
    · rw [upd_ne (by decide), upd_ne (by omega)]; exact f2
    · rw [upd_ne (by decide), upd_ne (by omega)]; exact f3
    · rw [upd_ne (by decide), upd_ne (by omega)]; exact f4
  · refine ⟨?_, ?_, ?_, ?_⟩
    · rw [upd_ne (by decide), upd_ne (by omega)]; exact f1
    · rw [upd_eq, upd_eq]
    · rw [upd_ne (by decide), upd_ne (by omega)]; exact f3
    · rw [upd_ne (by decide), upd_ne (by omega)]; exact f4
  · refine ⟨?_, ?_, ?_, ?_⟩
    · rw [upd_ne (by decide), upd_ne (by omega)]; exact f1
    · rw [upd_ne (by decide), upd_ne (by omega)]; exact f2
    · rw [upd_eq, upd_eq]
    · rw [upd_ne (by decide), upd_ne (by omega)]; exact f4
  · refine ⟨?_, ?_, ?_, ?_⟩
    · rw [upd_ne (by decide), upd_ne (by omega)]; exact f1
    · rw [upd_ne (by decide), upd_ne (by omega)]; exact f2
    · rw [upd_ne (by decide), upd_ne (by omega)]; exact f3
    · rw [upd_eq, upd_eq]
theorem frSlot {c k : Nat} {v : Int32} (hk : k < 10) : Fr g μ (pI μ (g + 9 + k) c v) := Fr.row (f := upd (μ.1 (g + 9 + k)) c v) (Or.inr (by omega))
theorem e_turn {x k : Int32} (h : CI μ0 μ S) (hW : WF S) (hQ : ∀ μ', CI μ0 μ' (sp_turn x k S).2 → Q (some (.int (sp_turn x k S).1)) K0 μ') : AM Sc mX11_turn [.ref 0, .int x, .int k] K0 μ n Q := by
  refine AM.of rfl (ble rfl) ?_
  have hX := h.hX
  have hga := h.ga
  obtain ⟨h4, hm, -⟩ := hW.1
  unfold sp_turn at hQ
  have bad : (isP S x && in1 k 0 5) = false → AW Sc mX11_turn 18 [(0, .ref 0), (1, .int x), (2, .int k)] [] K0 μ n Q := by
    intro e
    rw [e] at hQ
    refine aw_aload_n rfl dX11_turn_18 ?_
    refine aw_ldc (v := (-1000000001)) w_316 dX11_turn_19 ?_
    refine aw_v1 kX11_52 ⟨ble rfl, ble rfl⟩ (rcX) (ble rfl) dX11_turn_21 (e_finding (k := 0) h hW (by decide) (by decide) (fun μ' h' => ?_))
    refine aw_iret dX11_turn_24 rfl ?_
    exact hQ μ' h'
  refine aw_aload_n rfl dX11_turn_0 ?_
  refine aw_getR gX11_10_11 kX rfl (hX.green) dX11_turn_1 ?_
  refine aw_iload_n rfl dX11_turn_4 ?_
  refine aw_v1 kX11_107 ⟨ble rfl, ble rfl⟩ (rcG g1) (ble rfl) dX11_turn_5 (c_has g1 hga hW.1 ?_)
  refine aw_zeq 18 rfl dX11_turn_8 (fun c => ?_) (fun c => ?_)
  · exact bad (by unfold isP; rw [c]; rfl)
  · refine aw_iload_n rfl dX11_turn_11 ?_
    refine aw_s1 kX11_89 ⟨ble rfl, ble rfl⟩ (ble rfl) dX11_turn_12 (c_isKind ?_)
    refine aw_zne 25 rfl dX11_turn_15 (fun c2 => ?_) (fun c2 => ?_)
    · have e : (isP S x && in1 k 0 5) = true := by unfold isP; rw [c, c2]; rfl
      rw [e] at hQ
      simp only [if_true] at hQ
      obtain ⟨p, hp, hxp, hip⟩ := per_t h4 hm c
      obtain ⟨kd, -, hkd, hkk⟩ := in1_t (a := 0) (b := 5) (by decide) (by decide) c2
      rw [hip] at hQ
      obtain ⟨hf, jj, c9, hj, hk6, hsk, hrk⟩ := hga.2.2 p hp
      refine aw_aload_n rfl dX11_turn_25 ?_
      refine aw_getR gX11_10_11 kX rfl (hX.green) dX11_turn_26 ?_
      refine aw_getR gX11_110_2 kG1 rfl (hga.1.2.1) dX11_turn_29 ?_
      refine aw_iload_n rfl dX11_turn_32 ?_
      refine aw_aaloadN (kGp g1) (fun _ => rfl) hxp (by omega) (by decide) (hga.pe (by omega)) dX11_turn_33 ?_
      refine aw_astore_n (ble rfl) dX11_turn_34 ?_
      refine aw_aload_n rfl dX11_turn_35 ?_
      refine aw_getR gX11_114_4 (kP g1 (i := p) (by omega)) rfl (hrk) dX11_turn_36 ?_
      refine v_num hj hk6 rfl (h.2.2.1 jj c9 hj hk6) dX11_turn_39 ?_
      refine aw_istore (ble rfl) dX11_turn_42 ?_
      refine aw_aload_n rfl dX11_turn_44 ?_
      refine aw_aload_n rfl dX11_turn_45 ?_
      refine aw_getR gX11_10_11 kX rfl (hX.green) dX11_turn_46 ?_
      refine aw_getR gX11_149_2 kG1 rfl (hga.1.1) dX11_turn_49 ?_
      refine aw_iload_n rfl dX11_turn_52 ?_
      refine aw_aaloadN (kGk g1) (fun _ => rfl) hkk (by omega) (by decide) (hga.1.2.2.1 kd (by omega)) dX11_turn_53 ?_
      refine aw_putR (pX11_114_4 _) (kP g1 (i := p) (by omega)) rfl (fun _ => rfl) (fun _ => rfl) dX11_turn_54 ?_
      refine aw_iload rfl dX11_turn_57 ?_
      refine aw_iret dX11_turn_59 rfl ?_
      rw [← hsk]
      have h2 := hga.kd (j := 1) (c := kd) (k := p) g1 (by omega) (by omega)
      rw [hkk] at hQ
      exact hQ _ (h.gr hW (Fr.kd ⟨by omega, by omega⟩) h2)
    · exact bad (by rw [c2, Bool.and_false])
theorem e_as {x k : Int32} (h : CI μ0 μ S) (hW : WF S) (hQ : ∀ μ', CI μ0 μ' (sp_as x k S).2 → Q (some (.int (sp_as x k S).1)) K0 μ') : AM Sc mX11_as [.ref 0, .int x, .int k] K0 μ n Q := by
  refine AM.of rfl (ble rfl) ?_
  have hX := h.hX
  have hga := h.ga
  obtain ⟨h4, hm, -⟩ := hW.1
  unfold sp_as at hQ
  have bad : (isP S x && in1 k 0 5) = false → AW Sc mX11_as 18 [(0, .ref 0), (1, .int x), (2, .int k)] [] K0 μ n Q := by
    intro e
    rw [e] at hQ
    refine aw_aload_n rfl dX11_as_18 ?_
    refine aw_ldc (v := (-1000000001)) w_316 dX11_as_19 ?_
    refine aw_v1 kX11_52 ⟨ble rfl, ble rfl⟩ (rcX) (ble rfl) dX11_as_21 (e_finding (k := 0) h hW (by decide) (by decide) (fun μ' h' => ?_))
    refine aw_iret dX11_as_24 rfl ?_
    exact hQ μ' h'
  refine aw_aload_n rfl dX11_as_0 ?_
  refine aw_getR gX11_10_11 kX rfl (hX.green) dX11_as_1 ?_
  refine aw_iload_n rfl dX11_as_4 ?_
  refine aw_v1 kX11_107 ⟨ble rfl, ble rfl⟩ (rcG g1) (ble rfl) dX11_as_5 (c_has g1 hga hW.1 ?_)
  refine aw_zeq 18 rfl dX11_as_8 (fun c => ?_) (fun c => ?_)
  · exact bad (by unfold isP; rw [c]; rfl)
  · refine aw_iload_n rfl dX11_as_11 ?_
    refine aw_s1 kX11_89 ⟨ble rfl, ble rfl⟩ (ble rfl) dX11_as_12 (c_isKind ?_)
    refine aw_zne 25 rfl dX11_as_15 (fun c2 => ?_) (fun c2 => ?_)
    · have e : (isP S x && in1 k 0 5) = true := by unfold isP; rw [c, c2]; rfl
      rw [e] at hQ
      simp only [if_true] at hQ
      obtain ⟨p, hp, hxp, hip⟩ := per_t h4 hm c
      rw [hip] at hQ
      obtain ⟨hf, jj, c9, hj, hk6, hsk, hrk⟩ := hga.2.2 p hp
      rw [hsk] at hQ
      refine aw_aload_n rfl dX11_as_25 ?_
      refine aw_getR gX11_10_11 kX rfl (hX.green) dX11_as_26 ?_
      refine aw_getR gX11_110_2 kG1 rfl (hga.1.2.1) dX11_as_29 ?_
      refine aw_iload_n rfl dX11_as_32 ?_
      refine aw_aaloadN (kGp g1) (fun _ => rfl) hxp (by omega) (by decide) (hga.pe (by omega)) dX11_as_33 ?_
      refine aw_astore_n (ble rfl) dX11_as_34 ?_
      refine aw_aload_n rfl dX11_as_35 ?_
      refine aw_getR gX11_114_4 (kP g1 (i := p) (by omega)) rfl (hrk) dX11_as_36 ?_
      refine aw_iload_n rfl dX11_as_39 ?_
      refine v_isOfE hj hk6 rfl ⟨⟨ble rfl, ble rfl⟩, ⟨ble rfl, ble rfl⟩, ⟨ble rfl, ble rfl⟩, ⟨ble rfl, ble rfl⟩, ⟨ble rfl, ble rfl⟩, ⟨ble rfl, ble rfl⟩⟩ (ble rfl) dX11_as_40 ?_
      refine aw_zne 53 rfl dX11_as_43 (fun c3 => ?_) (fun c3 => ?_)
      · rw [if_pos c3] at hQ
        refine aw_aload_n rfl dX11_as_53 ?_
        refine aw_getI gX11_134_4 (kP g1 (i := p) (by omega)) rfl dX11_as_54 ?_
        refine aw_iret dX11_as_57 rfl ?_
        rw [hf.2.2.2]
        exact hQ _ h
      · rw [if_neg (by rw [c3]; decide)] at hQ
        refine aw_aload_n rfl dX11_as_46 ?_
        refine aw_ldc (v := (-1000000003)) w_502 dX11_as_47 ?_
        refine aw_v1 kX11_52 ⟨ble rfl, ble rfl⟩ (rcX) (ble rfl) dX11_as_49 (e_finding (k := 2) h hW (by decide) (by decide) (fun μ' h' => ?_))
        refine aw_iret dX11_as_52 rfl ?_
        exact hQ μ' h'
    · exact bad (by rw [c2, Bool.and_false])
end Cls13
