section SMALL
variable {G : cm_G} {M : cm_M} {c i a b v lo hi : Int} {S : sS} {Q : Option cm_V → cm_G → cm_M → Prop}
theorem p_isWithin (hv : cm_in v) (hl : cm_in lo) (hh : cm_in hi) (K1 : lo ≤ v ∧ v ≤ hi → Q (some (0, 1)) G M) (K0 : ¬ (lo ≤ v ∧ v ≤ hi) → Q (some (0, 0)) G M) : Go 61 0 [some (0, v), some (0, lo), some (0, hi)] [] G M Q := by
  simp (disch := omega) only [g61_0, g61_1, g61_2, g61_5, g61_6, g61_7, g61_10, g61_11, g61_14, g61_15, Option.toList_some, Option.toList_none, List.cons_append, List.nil_append, true_and, and_true, true_or, or_true, eq_self, ci0, ci1, cin6, forall_const, not_true_eq_false, not_false_eq_true, fimp, timp, i10, i01, cm_rne, and_assoc, eq_true hv, eq_true hl, eq_true hh]
  exact ⟨fun h => K0 (by omega), fun h => ⟨fun h2 => K0 (by omega), fun h2 => K1 (by omega)⟩⟩
theorem p_isGroup (hv : cm_in v) (K1 : 0 ≤ v ∧ v ≤ 7 → Q (some (0, 1)) G M) (K0 : ¬ (0 ≤ v ∧ v ≤ 7) → Q (some (0, 0)) G M) : Go 62 0 [some (0, v)] [] G M Q := by
  simp (disch := omega) only [g62_0, g62_1, g62_2, g62_7, Option.toList_some, Option.toList_none, List.cons_append, List.nil_append, true_and, and_true, true_or, or_true, eq_self, ci0, ci1, cin6, forall_const, not_true_eq_false, not_false_eq_true, fimp, timp, i10, i01, cm_rne, and_assoc]
  refine c62_4 (by decide) (p_isWithin hv cn0 (by decide) (fun h => ?_) (fun h => ?_)) <;> simp (disch := omega) only [g62_0, g62_1, g62_2, g62_7, Option.toList_some, Option.toList_none, List.cons_append, List.nil_append, true_and, and_true, true_or, or_true, eq_self, ci0, ci1, cin6, forall_const, not_true_eq_false, not_false_eq_true, fimp, timp, i10, i01, cm_rne, and_assoc]
  · exact K1 h
  · exact K0 h
theorem p_isSpeed (hv : cm_in v) (K1 : 1 ≤ v ∧ v ≤ 30 → Q (some (0, 1)) G M) (K0 : ¬ (1 ≤ v ∧ v ≤ 30) → Q (some (0, 0)) G M) : Go 63 0 [some (0, v)] [] G M Q := by
  simp (disch := omega) only [g63_0, g63_1, g63_2, g63_7, Option.toList_some, Option.toList_none, List.cons_append, List.nil_append, true_and, and_true, true_or, or_true, eq_self, ci0, ci1, cin6, forall_const, not_true_eq_false, not_false_eq_true, fimp, timp, i10, i01, cm_rne, and_assoc]
  refine c63_4 (by decide) (p_isWithin hv cn1 (by decide) (fun h => ?_) (fun h => ?_)) <;> simp (disch := omega) only [g63_0, g63_1, g63_2, g63_7, Option.toList_some, Option.toList_none, List.cons_append, List.nil_append, true_and, and_true, true_or, or_true, eq_self, ci0, ci1, cin6, forall_const, not_true_eq_false, not_false_eq_true, fimp, timp, i10, i01, cm_rne, and_assoc]
  · exact K1 h
  · exact K0 h
theorem p_holds (hc : isC G c) (hR : rC M c S) (hv : vS S) (hi : cm_in i) (K1 : 0 ≤ i ∧ i < sN S → Q (some (0, 1)) G M) (K0 : ¬ (0 ≤ i ∧ i < sN S) → Q (some (0, 0)) G M) : Go 30 0 [some (2, c), some (0, i)] [] G M Q := by
  obtain ⟨h0, hs, ⟨e0, e1, e2, e3, e4⟩, a1, a2, a3, a4, a5⟩ := hc
  have hn : cm_in (sN S) := by have := hv.1; have := hv.2.1; constructor <;> omega
  simp (disch := omega) only [g30_0, g30_1, g30_4, g30_5, g30_6, g30_9, g30_12, g30_13, g30_16, g30_17, Option.toList_some, Option.toList_none, List.cons_append, List.nil_append, true_and, and_true, true_or, or_true, eq_self, ci0, ci1, cin6, forall_const, not_true_eq_false, not_false_eq_true, fimp, timp, i10, i01, cm_rne, and_assoc, hs, hR.1, eq_true hi, eq_true hn]
  exact ⟨fun h => K0 (by omega), fun h => ⟨fun h2 => K0 (by omega), fun h2 => K1 (by omega)⟩⟩
theorem p_heightOf (hc : isC G c) (hR : rC M c S) (hv : vS S) (hi : 0 ≤ i ∧ i < sN S) (K : Q (some (0, sH S i)) G M) : Go 31 0 [some (2, c), some (0, i)] [] G M Q := by
  obtain ⟨h0, hs, ⟨e0, e1, e2, e3, e4⟩, a1, a2, a3, a4, a5⟩ := hc
  obtain ⟨r1, r2, r3⟩ := hR
  obtain ⟨v1, v2, v3, v4, v5, v6⟩ := hv
  obtain ⟨w1, w2, -⟩ := v6 i hi.1 hi.2
  simp (disch := omega) only [g31_0, g31_1, g31_4, g31_5, g31_32, g31_33, g31_34, g31_35, g31_38, g31_39, g31_40, g31_41, g31_42, Option.toList_some, Option.toList_none, List.cons_append, List.nil_append, true_and, and_true, true_or, or_true, eq_self, ci0, ci1, cin6, forall_const, not_true_eq_false, not_false_eq_true, fimp, timp, i10, i01, cm_rne, and_assoc, hs, e0, e1, a1, a2, (r3 i hi.1 hi.2).1]
  refine ⟨by omega, by omega, ?_⟩
  unfold sH at K
  by_cases k1 : sK S i = 1
  · rw [if_pos k1] at K
    refine go_lookup hq31 k31_6 (show cm_in (sK S i) by omega) (by decide) (tgt := 32) (by rw [k1]; decide) ?_
    simp (disch := omega) only [g31_0, g31_1, g31_4, g31_5, g31_32, g31_33, g31_34, g31_35, g31_38, g31_39, g31_40, g31_41, g31_42, Option.toList_some, Option.toList_none, List.cons_append, List.nil_append, true_and, and_true, true_or, or_true, eq_self, ci0, ci1, cin6, forall_const, not_true_eq_false, not_false_eq_true, fimp, timp, i10, i01, cm_rne, and_assoc]
    exact K
  · rw [if_neg k1] at K
    by_cases k2 : sK S i = 2
    · rw [if_pos k2] at K
      refine go_lookup hq31 k31_6 (show cm_in (sK S i) by omega) (by decide) (tgt := 34) (by rw [k2]; decide) ?_
      simp (disch := omega) only [g31_0, g31_1, g31_4, g31_5, g31_32, g31_33, g31_34, g31_35, g31_38, g31_39, g31_40, g31_41, g31_42, Option.toList_some, Option.toList_none, List.cons_append, List.nil_append, true_and, and_true, true_or, or_true, eq_self, ci0, ci1, cin6, forall_const, not_true_eq_false, not_false_eq_true, fimp, timp, i10, i01, cm_rne, and_assoc, hs, e0, a1, r2 2 (by decide) (by decide)]
      exact ⟨by decide, by decide, K⟩
    · rw [if_neg k2] at K
      refine go_lookup hq31 k31_6 (show cm_in (sK S i) by omega) (by decide) (tgt := 41) (by
        have : sK S i = 0 ∨ sK S i = 3 := by omega
        rcases this with h | h <;> rw [h] <;> decide) ?_
      simp (disch := omega) only [g31_0, g31_1, g31_4, g31_5, g31_32, g31_33, g31_34, g31_35, g31_38, g31_39, g31_40, g31_41, g31_42, Option.toList_some, Option.toList_none, List.cons_append, List.nil_append, true_and, and_true, true_or, or_true, eq_self, ci0, ci1, cin6, forall_const, not_true_eq_false, not_false_eq_true, fimp, timp, i10, i01, cm_rne, and_assoc]
      exact K
theorem p_exchangeIn {r : Int} (hr : 0 ≤ r) (hl : ∀ M, cm_al 1 G M r = 40) (ha : 0 ≤ a ∧ a < 40) (hb : 0 ≤ b ∧ b < 40) (K : Q none G (cm_sw M r a b)) : Go 35 0 [some (2, r), some (0, a), some (0, b), none] [] G M Q := by
  simp (disch := omega) only [g35_0, g35_1, g35_2, g35_3, g35_4, g35_5, g35_6, g35_7, g35_8, g35_9, g35_10, g35_11, g35_12, g35_13, g35_14, Option.toList_some, Option.toList_none, List.cons_append, List.nil_append, true_and, and_true, true_or, or_true, eq_self, ci0, ci1, cin6, forall_const, not_true_eq_false, not_false_eq_true, fimp, timp, i10, i01, cm_rne, and_assoc, hl]
  (repeat' apply And.intro) <;> first | omega | exact K
end SMALL
