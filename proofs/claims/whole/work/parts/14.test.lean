theorem p_holds {G : cm_G} {M : cm_M} {c i : Int} {S : sS} {Q : Option cm_V → cm_G → cm_M → Prop} (hc : isC G c) (hR : rC M c S) (hv : vS S) (hi : cm_in i) (K : Q (some (0, if 0 ≤ i ∧ i < sN S then 1 else 0)) G M) : Go 30 0 [some (2, c), some (0, i)] [] G M Q := by
  obtain ⟨h0, hs, ⟨e0, e1, e2, e3, e4⟩, a1, a2, a3, a4, a5⟩ := hc
  simp only [g30_0, g30_1, g30_4, g30_5, g30_6, g30_9, g30_12, g30_13, g30_16, g30_17, Option.toList_some, Option.toList_none, List.cons_append, List.nil_append, true_and, and_true, eq_self, hs, hR.1]
  sorry
theorem p_heightOf {G : cm_G} {M : cm_M} {c i : Int} {S : sS} {Q : Option cm_V → cm_G → cm_M → Prop} (hc : isC G c) (hR : rC M c S) (hv : vS S) (hi : 0 ≤ i ∧ i < sN S) (K : Q (some (0, sH S i)) G M) : Go 31 0 [some (2, c), some (0, i)] [] G M Q := by
  obtain ⟨h0, hs, ⟨e0, e1, e2, e3, e4⟩, a1, a2, a3, a4, a5⟩ := hc
  simp only [g31_0, g31_1, g31_4, g31_5, g31_32, g31_33, g31_34, g31_35, g31_38, g31_39, g31_40, g31_41, g31_42, Option.toList_some, Option.toList_none, List.cons_append, List.nil_append, true_and, and_true, eq_self, hs, hR.1, e0, e1, a1, a2]
  sorry
