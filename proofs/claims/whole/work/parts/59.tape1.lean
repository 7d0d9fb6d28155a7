/-! THE TAPE OF THE CLASS, 1: String's length and charAt, sorts, the token that is looked at -/
section Tp1
variable {Sc : SCR} {μ μ0 ν ν' : Mem} {n : Nat × Nat} {Q : PQ} {S : SG} {s s' : Nat → Int32} {i : Nat}
theorem aw_former2 {M : MD} {pc idx : Nat} {lv : List (Nat × Value)} {st : List Value} {K : List kd} (hw : Cond.fieldLink M.1.cls idx "jdk/internal/util/Preconditions" "SIOOBE_FORMATTER" "Ljava/util/function/BiFunction;" ∈ ws0) (d : decode M.2.1 pc = .ok (.getstatic idx, 3)) (h : ∀ v, v = Value.null ∨ v = Value.ref 499 → AW Sc M (pc + 3) lv (v :: st) K μ n Q) : AW Sc M pc lv st K μ n Q := by
  intro p l e R s m args below meth c H locs cells slots Qf G ls hC hD hn hl hr
  rcases hD.2.2.2.2.2.2.2.2.2.2.1 with h4 | h4
  · exact va_gets hC.1 hC.2.1 h4 hD.2.2.1 hC.2.2.2.1 (hC.2.2.2.2.1 _ hw) (fun _ h => h) d (h .null (Or.inl rfl) p l e R s m args below meth c H locs cells slots Qf G ls hC hD hn hl hr)
  · exact va_gets hC.1 hC.2.1 h4 hD.2.2.1 hC.2.2.2.1 (hC.2.2.2.2.1 _ hw) (fun _ h => h) d (h (.ref 499) (Or.inr rfl) p l e R s m args below meth c H locs cells slots Qf G ls hC hD hn hl hr)
theorem rcStr (hi : i < 15) : Rcv K0 "java/lang/String" (400 + i) := Or.inr ⟨i, hi, rfl, rfl⟩
theorem j_coder (hi : i < 15) (hQ : Q (some (.int 0)) K0 μ) : AM Sc mJ0_coder_7d493 [.ref (400 + i)] K0 μ n Q := by
  refine AM.of rfl (ble rfl) ?_
  refine aw_compact w_691 dJ0_coder_7d493_0 ?_
  refine aw_if_eq 13 rfl dJ0_coder_7d493_3 (fun c_ => absurd c_ ((by decide))) (fun _ => ?_)
  refine aw_aload_n rfl dJ0_coder_7d493_6 ?_
  refine aw_strC i hi w_1264 dJ0_coder_7d493_7 ?_
  refine aw_goto 14 rfl dJ0_coder_7d493_10 ?_
  exact aw_ireturn dJ0_coder_7d493_14 ⟨.byte, rfl, rfl⟩ hQ
theorem j_latin (hi : i < 15) (hQ : Q (some (.int (bI true))) K0 μ) : AM Sc mJ0_isLatin1_aae02 [.ref (400 + i)] K0 μ n Q := by
  refine AM.of rfl (ble rfl) ?_
  refine aw_compact w_691 dJ0_isLatin1_aae02_0 ?_
  refine aw_if_eq 17 rfl dJ0_isLatin1_aae02_3 (fun c_ => absurd c_ ((by decide))) (fun _ => ?_)
  refine aw_aload_n rfl dJ0_isLatin1_aae02_6 ?_
  refine aw_strC i hi w_1264 dJ0_isLatin1_aae02_7 ?_
  refine aw_if_ne 17 rfl dJ0_isLatin1_aae02_10 (fun c_ => absurd (rfl) c_) (fun _ => ?_)
  refine aw_iconst (v := 1) (by decide) dJ0_isLatin1_aae02_13 ?_
  refine aw_goto 18 rfl dJ0_isLatin1_aae02_14 ?_
  exact aw_zret (b := true) rfl dJ0_isLatin1_aae02_18 rfl hQ
theorem shr_0 : ∀ i : Nat, i < 15 → nI (sLen.getD i 0) >>> ((0 : Int32) &&& 31) = nI (sLen.getD i 0) := by decide +kernel
theorem j_length (hi : i < 15) (hQ : Q (some (.int (nI (sLen.getD i 0)))) K0 μ) : AM Sc mJ0_length_8abf5 [.ref (400 + i)] K0 μ n Q := by
  refine AM.of rfl (ble rfl) ?_
  refine aw_aload_n rfl dJ0_length_8abf5_0 ?_
  refine aw_strV i hi w_1263 dJ0_length_8abf5_1 ?_
  refine aw_strL i hi dJ0_length_8abf5_4 ?_
  refine aw_aload_n rfl dJ0_length_8abf5_5 ?_
  refine aw_v0 kJ0_335 ⟨ble rfl, ble rfl⟩ (rcStr hi) (ble rfl) dJ0_length_8abf5_6 (j_coder hi ?_)
  refine aw_ishr dJ0_length_8abf5_9 ?_
  refine aw_iret dJ0_length_8abf5_10 rfl ?_
  rw [shr_0 i hi]
  exact hQ
theorem j_chk {a b : Int32} {v : Value} (ha : ¬ a < 0) (hb : a < b) (hv : v = Value.null ∨ v = Value.ref 499) (hQ : Q (some (.int a)) K0 μ) : AM Sc mJ3_checkIndex_8e157 [.int a, .int b, v] K0 μ n Q := by
  rcases hv with rfl | rfl
  · refine AM.of rfl (ble rfl) ?_
    refine aw_iload_n rfl dJ3_checkIndex_8e157_0 ?_
    refine aw_if_lt 9 rfl dJ3_checkIndex_8e157_1 (fun c_ => absurd c_ (ha)) (fun _ => ?_)
    refine aw_iload_n rfl dJ3_checkIndex_8e157_4 ?_
    refine aw_iload_n rfl dJ3_checkIndex_8e157_5 ?_
    refine aw_icmp_lt 16 rfl dJ3_checkIndex_8e157_6 (fun _ => ?_) (fun c_ => absurd (hb) c_)
    refine aw_iload_n rfl dJ3_checkIndex_8e157_16 ?_
    refine aw_iret dJ3_checkIndex_8e157_17 rfl ?_
    exact hQ
  · refine AM.of rfl (ble rfl) ?_
    refine aw_iload_n rfl dJ3_checkIndex_8e157_0 ?_
    refine aw_if_lt 9 rfl dJ3_checkIndex_8e157_1 (fun c_ => absurd c_ (ha)) (fun _ => ?_)
    refine aw_iload_n rfl dJ3_checkIndex_8e157_4 ?_
    refine aw_iload_n rfl dJ3_checkIndex_8e157_5 ?_
    refine aw_icmp_lt 16 rfl dJ3_checkIndex_8e157_6 (fun _ => ?_) (fun c_ => absurd (hb) c_)
    refine aw_iload_n rfl dJ3_checkIndex_8e157_16 ?_
    refine aw_iret dJ3_checkIndex_8e157_17 rfl ?_
    exact hQ
theorem j_chkS {a b : Int32} (ha : ¬ a < 0) (hb : a < b) (hQ : Q none K0 μ) : AM Sc mJ0_checkIndex_df160 [.int a, .int b] K0 μ n Q := by
  refine AM.of rfl (ble rfl) ?_
  refine aw_iload_n rfl dJ0_checkIndex_df160_0 ?_
  refine aw_iload_n rfl dJ0_checkIndex_df160_1 ?_
  refine aw_former2 w_707 dJ0_checkIndex_df160_2 (fun v hv => ?_)
  refine aw_s3 kJ0_1059 ⟨ble rfl, ble rfl⟩ (ble rfl) dJ0_checkIndex_df160_5 (j_chk ha hb hv ?_)
  refine aw_pop rfl dJ0_checkIndex_df160_8 ?_
  refine aw_return dJ0_checkIndex_df160_9 rfl ?_
  exact hQ
theorem byt_c : ∀ i : Nat, i < 15 → ∀ c : Nat, c < 8 → (((sByt.getD i []).getD c 0 &&& 255).toUInt32 % 65536).toInt32 = (sByt.getD i []).getD c 0 ∧ narrow .char (.int ((sByt.getD i []).getD c 0)) = .int ((sByt.getD i []).getD c 0) := by decide +kernel
theorem len_8 : ∀ i : Nat, i < 15 → sLen.getD i 0 ≤ 8 ∧ 1 ≤ sLen.getD i 0 ∧ (sByt.getD i []).length = sLen.getD i 0 := by decide +kernel
theorem j_char1 {c : Nat} {j : Int32} (hi : i < 15) (hj : j = nI c) (hc : c < sLen.getD i 0) (hQ : Q (some (.int ((sByt.getD i []).getD c 0))) K0 μ) : AM Sc mJ1_charAt_3b067 [.ref (450 + i), .int j] K0 μ n Q := by
  subst hj
  refine AM.of rfl (ble rfl) ?_
  have h8 := (len_8 i hi).1
  refine aw_iload_n rfl dJ1_charAt_3b067_0 ?_
  refine aw_aload_n rfl dJ1_charAt_3b067_1 ?_
  refine aw_strL i hi dJ1_charAt_3b067_2 ?_
  refine aw_s2 kJ1_9 ⟨ble rfl, ble rfl⟩ (ble rfl) dJ1_charAt_3b067_3 (j_chkS (nI_pos (by omega)) (nI_lt hc (by omega)) ?_)
  refine aw_aload_n rfl dJ1_charAt_3b067_6 ?_
  refine aw_iload_n rfl dJ1_charAt_3b067_7 ?_
  refine aw_strB i hi (vp_in_nI hc (by omega)) dJ1_charAt_3b067_8 ?_
  rw [nI_clamp (by omega)]
  refine aw_sipush (v := 255) (by decide) dJ1_charAt_3b067_9 ?_
  refine aw_iand dJ1_charAt_3b067_12 ?_
  refine aw_i2c dJ1_charAt_3b067_13 ?_
  obtain ⟨e1, e2⟩ := byt_c i hi c (by omega)
  rw [e1]
  exact aw_ireturn dJ1_charAt_3b067_14 ⟨.char, rfl, e2⟩ hQ
theorem j_char {c : Nat} {j : Int32} (hi : i < 15) (hj : j = nI c) (hc : c < sLen.getD i 0) (hQ : Q (some (.int ((sByt.getD i []).getD c 0))) K0 μ) : AM Sc mJ0_charAt_5068e [.ref (400 + i), .int j] K0 μ n Q := by
  refine AM.of rfl (ble rfl) ?_
  have h8 := (len_8 i hi).1
  refine aw_aload_n rfl dJ0_charAt_5068e_0 ?_
  refine aw_v0 kJ0_492 ⟨ble rfl, ble rfl⟩ (rcStr hi) (ble rfl) dJ0_charAt_5068e_1 (j_latin hi ?_)
  refine aw_if_eq 16 rfl dJ0_charAt_5068e_4 (fun c_ => absurd c_ ((show ¬ bI true = 0 by decide))) (fun _ => ?_)
  refine aw_aload_n rfl dJ0_charAt_5068e_7 ?_
  refine aw_strV i hi w_1263 dJ0_charAt_5068e_8 ?_
  refine aw_iload_n rfl dJ0_charAt_5068e_11 ?_
  refine aw_s2 kJ0_495 ⟨ble rfl, ble rfl⟩ (ble rfl) dJ0_charAt_5068e_12 (j_char1 hi hj hc ?_)
  obtain ⟨e1, e2⟩ := byt_c i hi c (by omega)
  exact aw_ireturn dJ0_charAt_5068e_15 ⟨.char, rfl, e2⟩ hQ
theorem c_sortOf {x : Int32} (hQ : Q (some (.int (nI (srt x)))) K0 μ) : AM Sc mX9_sortOf [.int x] K0 μ n Q := by
  refine AM.of rfl (ble rfl) ?_
  unfold srt ltr dgt in1 at hQ
  have nxt2 : (decide ((97 : Int32) ≤ x) && decide (x ≤ 122)) = false → (decide ((48 : Int32) ≤ x) && decide (x ≤ 57)) = false → AW Sc mX9_sortOf 28 [(0, .int x)] [] K0 μ n Q := by
    intro e1 e2
    rw [e1, e2, if_neg (by decide), if_neg (by decide)] at hQ
    refine aw_iload_n rfl dX9_sortOf_28 ?_
    refine aw_bipush (v := 59) (by decide) dX9_sortOf_29 ?_
    refine aw_icmp_ne 38 rfl dX9_sortOf_31 (fun c => ?_) (fun c => ?_)
    · rw [if_neg c] at hQ
      refine aw_iconst (v := 4) (by decide) dX9_sortOf_38 ?_
      refine aw_iret dX9_sortOf_39 rfl ?_
      exact hQ
    · rw [if_pos c] at hQ
      refine aw_iconst (v := 3) (by decide) dX9_sortOf_34 ?_
      refine aw_goto 39 rfl dX9_sortOf_35 ?_
      refine aw_iret dX9_sortOf_39 rfl ?_
      exact hQ
  have nxt1 : (decide ((97 : Int32) ≤ x) && decide (x ≤ 122)) = false → AW Sc mX9_sortOf 14 [(0, .int x)] [] K0 μ n Q := by
    intro e1
    refine aw_iload_n rfl dX9_sortOf_14 ?_
    refine aw_bipush (v := 48) (by decide) dX9_sortOf_15 ?_
    refine aw_icmp_lt 28 rfl dX9_sortOf_17 (fun c => ?_) (fun c => ?_)
    · exact nxt2 e1 (by rw [decide_eq_false (Int32.not_le.mpr c)]; rfl)
    · refine aw_iload_n rfl dX9_sortOf_20 ?_
      refine aw_bipush (v := 57) (by decide) dX9_sortOf_21 ?_
      refine aw_icmp_gt 28 rfl dX9_sortOf_23 (fun c2 => ?_) (fun c2 => ?_)
      · exact nxt2 e1 (by rw [decide_eq_false (Int32.not_le.mpr c2), Bool.and_false])
      · rw [e1, decide_eq_true (Int32.not_lt.mp c), decide_eq_true (Int32.not_lt.mp c2), if_neg (by decide), if_pos (by decide)] at hQ
        refine aw_iconst (v := 2) (by decide) dX9_sortOf_26 ?_
        refine aw_iret dX9_sortOf_27 rfl ?_
        exact hQ
  refine aw_iload_n rfl dX9_sortOf_0 ?_
  refine aw_bipush (v := 97) (by decide) dX9_sortOf_1 ?_
  refine aw_icmp_lt 14 rfl dX9_sortOf_3 (fun c => ?_) (fun c => ?_)
  · exact nxt1 (by rw [decide_eq_false (Int32.not_le.mpr c)]; rfl)
  · refine aw_iload_n rfl dX9_sortOf_6 ?_
    refine aw_bipush (v := 122) (by decide) dX9_sortOf_7 ?_
    refine aw_icmp_gt 14 rfl dX9_sortOf_9 (fun c2 => ?_) (fun c2 => ?_)
    · exact nxt1 (by rw [decide_eq_false (Int32.not_le.mpr c2), Bool.and_false])
    · rw [decide_eq_true (Int32.not_lt.mp c), decide_eq_true (Int32.not_lt.mp c2), if_pos (by decide)] at hQ
      refine aw_iconst (v := 1) (by decide) dX9_sortOf_12 ?_
      refine aw_iret dX9_sortOf_13 rfl ?_
      exact hQ
theorem srt_le (c : Int32) : 1 ≤ srt c ∧ srt c ≤ 4 := by
  unfold srt
  split
  · decide
  · split
    · decide
    · split <;> decide
theorem srt_1 (c : Int32) : srt c = 1 ↔ ltr c = true := by
  unfold srt
  split
  · next h => exact ⟨fun _ => h, fun _ => rfl⟩
  · next h =>
    refine ⟨fun z => ?_, fun z => absurd z h⟩
    split at z
    · cases z
    · split at z <;> cases z
theorem dgt_ltr {c : Int32} (h : dgt c = true) : ltr c = false := by
  obtain ⟨t, t1, t2, rfl⟩ := dgt_t h
  unfold ltr in1
  rw [decide_eq_false (show ¬ (97 : Int32) ≤ nI t from nI_ge (b := 97) (by omega) (by omega))]
  rfl
theorem srt_2 (c : Int32) : srt c = 2 ↔ dgt c = true := by
  refine ⟨fun z => ?_, fun z => ?_⟩
  · unfold srt at z
    split at z
    · cases z
    · split at z
      · assumption
      · split at z <;> cases z
  · unfold srt
    rw [dgt_ltr z, z]
    rfl
/-- the class holds S, the trial green holds s; the tape looks at a token: its sort, start and end; taken -/
def TT (μ0 : Mem) (S : SG) (s : Nat → Int32) (ν : Mem) (so st en tk : Int32) : Prop := (CI μ0 ν S ∧ WF S) ∧ (GA ν 20 s ∧ WFs s) ∧ ν.1 59 2 = so ∧ ν.1 59 3 = st ∧ ν.1 59 4 = en ∧ ν.1 59 5 = tk
variable {so st en tk : Int32}
theorem TT.up {k : Nat} {x : Int32} (h : TT μ0 S s ν so st en tk) (hk : k ≠ 1) : (CI μ0 (pI ν 59 k x) S ∧ WF S) ∧ (GA (pI ν 59 k x) 20 s ∧ WFs s) := by
  obtain ⟨⟨h1, hW⟩, ⟨h2, hs⟩, -⟩ := h
  exact ⟨⟨h1.trw hW (upd (ν.1 59) k x) S.2.2.2.2.2.1 ((upd_ne (fun z => hk z.symm)).trans h1.2.2.2.2.2.2.2.1), hW⟩, ⟨h2.rowO (f := upd (ν.1 59) k x) g20 hs.2.1 (by omega), hs⟩⟩
theorem TT.u2 (h : TT μ0 S s ν so st en tk) (x : Int32) : TT μ0 S s (pI ν 59 2 x) x st en tk := by
  obtain ⟨a, b⟩ := h.up (k := 2) (x := x) (by decide)
  refine ⟨a, b, ?_, ?_, ?_, ?_⟩
  all_goals rw [pI_row]
  · exact upd_eq
  · rw [upd_ne (by decide)]; exact h.2.2.2.1
  · rw [upd_ne (by decide)]; exact h.2.2.2.2.1
  · rw [upd_ne (by decide)]; exact h.2.2.2.2.2
theorem TT.u3 (h : TT μ0 S s ν so st en tk) (x : Int32) : TT μ0 S s (pI ν 59 3 x) so x en tk := by
  obtain ⟨a, b⟩ := h.up (k := 3) (x := x) (by decide)
  refine ⟨a, b, ?_, ?_, ?_, ?_⟩
  all_goals rw [pI_row]
  · rw [upd_ne (by decide)]; exact h.2.2.1
  · exact upd_eq
  · rw [upd_ne (by decide)]; exact h.2.2.2.2.1
  · rw [upd_ne (by decide)]; exact h.2.2.2.2.2
theorem TT.u4 (h : TT μ0 S s ν so st en tk) (x : Int32) : TT μ0 S s (pI ν 59 4 x) so st x tk := by
  obtain ⟨a, b⟩ := h.up (k := 4) (x := x) (by decide)
  refine ⟨a, b, ?_, ?_, ?_, ?_⟩
  all_goals rw [pI_row]
  · rw [upd_ne (by decide)]; exact h.2.2.1
  · rw [upd_ne (by decide)]; exact h.2.2.2.1
  · exact upd_eq
  · rw [upd_ne (by decide)]; exact h.2.2.2.2.2
theorem TT.u5 (h : TT μ0 S s ν so st en tk) (x : Int32) : TT μ0 S s (pI ν 59 5 x) so st en x := by
  obtain ⟨a, b⟩ := h.up (k := 5) (x := x) (by decide)
  refine ⟨a, b, ?_, ?_, ?_, ?_⟩
  all_goals rw [pI_row]
  · rw [upd_ne (by decide)]; exact h.2.2.1
  · rw [upd_ne (by decide)]; exact h.2.2.2.1
  · rw [upd_ne (by decide)]; exact h.2.2.2.2.1
  · exact upd_eq
/-- the trial green changes -/
theorem TT.fr (h : TT μ0 S s ν so st en tk) (F : Fr 20 ν ν') (h2 : GA ν' 20 s') (hs : WFs s') : TT μ0 S s' ν' so st en tk := by
  obtain ⟨⟨h1, hW⟩, -, h3, h4, h5, h6⟩ := h
  refine ⟨⟨h1.tr hW F, hW⟩, ⟨h2, hs⟩, ?_, ?_, ?_, ?_⟩
  all_goals rw [F.1 59 (by decide) (by decide)]
  all_goals assumption
theorem TT.ci (h : TT μ0 S s ν so st en tk) : CI μ0 ν S := h.1.1
theorem TT.wf (h : TT μ0 S s ν so st en tk) : WF S := h.1.2
theorem TT.ga (h : TT μ0 S s ν so st en tk) : GA ν 20 s := h.2.1.1
theorem TT.ws (h : TT μ0 S s ν so st en tk) : WFs s := h.2.1.2
theorem TT.h2 (h : TT μ0 S s ν so st en tk) : ν.1 59 2 = so := h.2.2.1
theorem TT.h3 (h : TT μ0 S s ν so st en tk) : ν.1 59 3 = st := h.2.2.2.1
theorem TT.h4 (h : TT μ0 S s ν so st en tk) : ν.1 59 4 = en := h.2.2.2.2.1
theorem TT.h5 (h : TT μ0 S s ν so st en tk) : ν.1 59 5 = tk := h.2.2.2.2.2
theorem TT.hr (h : TT μ0 S s ν so st en tk) : ν.2.2 59 0 = some 60 := h.1.1.hX.2.2.1
theorem TT.hn (h : TT μ0 S s ν so st en tk) : ν.1 59 1 = nI S.2.2.2.2.2.1 := h.1.1.2.2.2.2.2.2.2.1
theorem TT.hb (h : TT μ0 S s ν so st en tk) {k : Nat} (hk : k < 120) : ν.1 60 k = S.2.2.2.2.1 k := h.1.1.2.2.2.2.2.2.2.2.1 k hk
theorem TT.hN (h : TT μ0 S s ν so st en tk) : S.2.2.2.2.2.1 ≤ 120 := h.1.2.2.2.1
/-- the token that begins behind p is looked at -/
def TQ (μ0 : Mem) (S : SG) (s : Nat → Int32) (ν : Mem) (p : Nat) (tk : Int32) : Prop := TT μ0 S s ν (nI (tkp S.2.2.2.2.1 S.2.2.2.2.2.1 p)) (nI (skp S.2.2.2.2.1 S.2.2.2.2.2.1 p)) (nI (enp S.2.2.2.2.1 S.2.2.2.2.2.1 p)) tk
end Tp1
