/-! ===== the class: more changes ===== -/
theorem eqS.rf {S : sS} : eqS S S := ⟨rfl, fun _ _ _ => rfl, fun _ _ _ => ⟨rfl, rfl, rfl, rfl⟩⟩
section CLASS2
variable {G : cm_G} {M : cm_M} {i j t v w g h s n k u a b : Int} {S : sS} {A : sA} {H : Int → sS} {Q : Option cm_V → cm_G → cm_M → Prop}
theorem p_move (hX : isX G) (hA : rXA M A) (hv : vA A) (ha : cm_in a) (hb : cm_in b) (K : ∀ M', rXA M' (rMove A a b).2 → fr M M' 0 81 → Q (some (0, (rMove A a b).1)) G M') : Go 50 0 [some (2, 0), some (0, a), some (0, b), none] [] G M Q := by
  have hX' := hX
  obtain ⟨x0, ⟨q0, q1, q2, q3, q4, q5, q6⟩, xc, xk, xt, xu, xp, xh, xl⟩ := hX
  have cs := xc.2.1
  have ks := xk.2.1
  have hA' := hA
  obtain ⟨b1, b2, b3, b4, b5⟩ := hA
  unfold rMove at K
  have bad : ¬ ((0 ≤ a ∧ a < sN (aS A)) ∧ 0 ≤ b ∧ b < sN (aS A)) → Q (some (0, -1)) G M := fun z => by
    rw [ite'_n z] at K
    exact K M hA' fr.rf
  simp (disch := omega) only [g50_0, g50_1, g50_4, g50_8, g50_11, g50_12, g50_15, g50_19, g50_22, g50_23, g50_24, g50_25, g50_31, g50_32, g50_38, g50_39, g50_40, g50_43, g50_44, g50_50, g50_51, g50_54, g50_55, g50_59, g50_60, g50_66, g50_69, g50_70, g50_76, g50_77, g50_78, g50_79, Option.toList_some, Option.toList_none, List.cons_append, List.nil_append, true_and, and_true, true_or, or_true, eq_self, ci0, ci1, cin6, forall_const, not_true_eq_false, not_false_eq_true, fimp, timp, i10, i01, cm_rne, and_assoc, x0, q0]
  refine c50_5 (by decide) cs (p_holds xc b1 hv.1 ha (fun h1 => ?_) (fun h1 => ?_)) <;> simp (disch := omega) only [g50_0, g50_1, g50_4, g50_8, g50_11, g50_12, g50_15, g50_19, g50_22, g50_23, g50_24, g50_25, g50_31, g50_32, g50_38, g50_39, g50_40, g50_43, g50_44, g50_50, g50_51, g50_54, g50_55, g50_59, g50_60, g50_66, g50_69, g50_70, g50_76, g50_77, g50_78, g50_79, Option.toList_some, Option.toList_none, List.cons_append, List.nil_append, true_and, and_true, true_or, or_true, eq_self, ci0, ci1, cin6, forall_const, not_true_eq_false, not_false_eq_true, fimp, timp, i10, i01, cm_rne, and_assoc, x0, q0]
  · refine c50_16 (by decide) cs (p_holds xc b1 hv.1 hb (fun h2 => ?_) (fun h2 => ?_)) <;> simp (disch := omega) only [g50_0, g50_1, g50_4, g50_8, g50_11, g50_12, g50_15, g50_19, g50_22, g50_23, g50_24, g50_25, g50_31, g50_32, g50_38, g50_39, g50_40, g50_43, g50_44, g50_50, g50_51, g50_54, g50_55, g50_59, g50_60, g50_66, g50_69, g50_70, g50_76, g50_77, g50_78, g50_79, Option.toList_some, Option.toList_none, List.cons_append, List.nil_append, true_and, and_true, true_or, or_true, eq_self, ci0, ci1, cin6, forall_const, not_true_eq_false, not_false_eq_true, fimp, timp, i10, i01, cm_rne, and_assoc, x0, q1]
    · rw [ite'_p ⟨h1, h2⟩] at K
      have hab := aI_b hv.1
      have hvm := vS_mv hv.1 h1 h2
      have hab2 := aI_b hvm
      refine c50_28 (by decide) ks (p_follow xk hv.1 b1 (fun M1 fol1 g1 f1 => ?_))
      obtain ⟨k1, k2⟩ := rXA_k hA' (f1.wd (by omega) (by omega)) g1
      simp (disch := omega) only [g50_0, g50_1, g50_4, g50_8, g50_11, g50_12, g50_15, g50_19, g50_22, g50_23, g50_24, g50_25, g50_31, g50_32, g50_38, g50_39, g50_40, g50_43, g50_44, g50_50, g50_51, g50_54, g50_55, g50_59, g50_60, g50_66, g50_69, g50_70, g50_76, g50_77, g50_78, g50_79, Option.toList_some, Option.toList_none, List.cons_append, List.nil_append, true_and, and_true, true_or, or_true, eq_self, ci0, ci1, cin6, forall_const, not_true_eq_false, not_false_eq_true, fimp, timp, i10, i01, cm_rne, and_assoc, x0, q1]
      refine c50_35 (by decide) ks (p_ticksInAll xk hv.1 k1.1 fol1 ?_)
      simp (disch := omega) only [g50_0, g50_1, g50_4, g50_8, g50_11, g50_12, g50_15, g50_19, g50_22, g50_23, g50_24, g50_25, g50_31, g50_32, g50_38, g50_39, g50_40, g50_43, g50_44, g50_50, g50_51, g50_54, g50_55, g50_59, g50_60, g50_66, g50_69, g50_70, g50_76, g50_77, g50_78, g50_79, Option.toList_some, Option.toList_none, List.cons_append, List.nil_append, true_and, and_true, true_or, or_true, eq_self, ci0, ci1, cin6, forall_const, not_true_eq_false, not_false_eq_true, fimp, timp, i10, i01, cm_rne, and_assoc, x0, q5, q0]
      refine c50_47 (by decide) xh.1 (p_remember hX' k1.1 hv.1 k1.2.1 (fun M2 r2 f2 => ?_))
      have hR2 : rC M2 2 (aS A) := k1.1.fr f2 (by omega)
      simp (disch := omega) only [g50_0, g50_1, g50_4, g50_8, g50_11, g50_12, g50_15, g50_19, g50_22, g50_23, g50_24, g50_25, g50_31, g50_32, g50_38, g50_39, g50_40, g50_43, g50_44, g50_50, g50_51, g50_54, g50_55, g50_59, g50_60, g50_66, g50_69, g50_70, g50_76, g50_77, g50_78, g50_79, Option.toList_some, Option.toList_none, List.cons_append, List.nil_append, true_and, and_true, true_or, or_true, eq_self, ci0, ci1, cin6, forall_const, not_true_eq_false, not_false_eq_true, fimp, timp, i10, i01, cm_rne, and_assoc, x0, q0]
      refine c50_56 (by decide) cs (p_carry xc hR2 hv.1 h1 h2 (fun M3 r3 f3 => ?_))
      simp (disch := omega) only [g50_0, g50_1, g50_4, g50_8, g50_11, g50_12, g50_15, g50_19, g50_22, g50_23, g50_24, g50_25, g50_31, g50_32, g50_38, g50_39, g50_40, g50_43, g50_44, g50_50, g50_51, g50_54, g50_55, g50_59, g50_60, g50_66, g50_69, g50_70, g50_76, g50_77, g50_78, g50_79, Option.toList_some, Option.toList_none, List.cons_append, List.nil_append, true_and, and_true, true_or, or_true, eq_self, ci0, ci1, cin6, forall_const, not_true_eq_false, not_false_eq_true, fimp, timp, i10, i01, cm_rne, and_assoc, x0, q1]
      refine c50_63 (by decide) ks (p_follow xk hvm r3 (fun M4 fol4 hR4 f4 => ?_))
      simp (disch := omega) only [g50_0, g50_1, g50_4, g50_8, g50_11, g50_12, g50_15, g50_19, g50_22, g50_23, g50_24, g50_25, g50_31, g50_32, g50_38, g50_39, g50_40, g50_43, g50_44, g50_50, g50_51, g50_54, g50_55, g50_59, g50_60, g50_66, g50_69, g50_70, g50_76, g50_77, g50_78, g50_79, Option.toList_some, Option.toList_none, List.cons_append, List.nil_append, true_and, and_true, true_or, or_true, eq_self, ci0, ci1, cin6, forall_const, not_true_eq_false, not_false_eq_true, fimp, timp, i10, i01, cm_rne, and_assoc, x0, q1]
      refine c50_73 (Nat.le_of_ble_eq_true rfl) ks (p_ticksInAll xk hvm hR4 fol4 ?_)
      simp (disch := omega) only [g50_0, g50_1, g50_4, g50_8, g50_11, g50_12, g50_15, g50_19, g50_22, g50_23, g50_24, g50_25, g50_31, g50_32, g50_38, g50_39, g50_40, g50_43, g50_44, g50_50, g50_51, g50_54, g50_55, g50_59, g50_60, g50_66, g50_69, g50_70, g50_76, g50_77, g50_78, g50_79, Option.toList_some, Option.toList_none, List.cons_append, List.nil_append, true_and, and_true, true_or, or_true, eq_self, ci0, ci1, cin6, forall_const, not_true_eq_false, not_false_eq_true, fimp, timp, i10, i01, cm_rne, and_assoc]
      (repeat' apply And.intro) <;> (try omega) <;> (try (intro hx; exfalso; omega))
      obtain ⟨z1, z2⟩ := rXA_chg k1 r2 f2 ((f3.wd (by omega) (by omega)).tr (f4.wd (by omega) (by omega))) hR4
      exact K M4 z1 (k2.tr z2)
    · exact bad (fun z => h2 z.2)
  · exact bad (fun z => h1 z.1)
theorem p_drop (hX : isX G) (hA : rXA M A) (hv : vA A) (ha : cm_in a) (K : ∀ M', rXA M' (rDrop A a).2 → fr M M' 0 81 → Q (some (0, (rDrop A a).1)) G M') : Go 51 0 [some (2, 0), some (0, a)] [] G M Q := by
  have hX' := hX
  obtain ⟨x0, ⟨q0, q1, q2, q3, q4, q5, q6⟩, xc, xk, xt, xu, xp, xh, xl⟩ := hX
  have cs := xc.2.1
  have hA' := hA
  obtain ⟨b1, b2, b3, b4, b5⟩ := hA
  unfold rDrop at K
  simp (disch := omega) only [g51_0, g51_1, g51_4, g51_8, g51_11, g51_12, g51_13, g51_14, g51_17, g51_18, g51_24, g51_25, g51_28, g51_32, g51_33, g51_36, g51_39, Option.toList_some, Option.toList_none, List.cons_append, List.nil_append, true_and, and_true, true_or, or_true, eq_self, ci0, ci1, cin6, forall_const, not_true_eq_false, not_false_eq_true, fimp, timp, i10, i01, cm_rne, and_assoc, x0, q0]
  refine c51_5 (by decide) cs (p_holds xc b1 hv.1 ha (fun h1 => ?_) (fun h1 => ?_)) <;> simp (disch := omega) only [g51_0, g51_1, g51_4, g51_8, g51_11, g51_12, g51_13, g51_14, g51_17, g51_18, g51_24, g51_25, g51_28, g51_32, g51_33, g51_36, g51_39, Option.toList_some, Option.toList_none, List.cons_append, List.nil_append, true_and, and_true, true_or, or_true, eq_self, ci0, ci1, cin6, forall_const, not_true_eq_false, not_false_eq_true, fimp, timp, i10, i01, cm_rne, and_assoc, x0, q0, q5]
  · rw [ite'_p h1] at K
    refine c51_21 (by decide) xh.1 (p_remember hX' b1 hv.1 b2 (fun M1 r1 f1 => ?_))
    have hR1 : rC M1 2 (aS A) := b1.fr f1 (by omega)
    simp (disch := omega) only [g51_0, g51_1, g51_4, g51_8, g51_11, g51_12, g51_13, g51_14, g51_17, g51_18, g51_24, g51_25, g51_28, g51_32, g51_33, g51_36, g51_39, Option.toList_some, Option.toList_none, List.cons_append, List.nil_append, true_and, and_true, true_or, or_true, eq_self, ci0, ci1, cin6, forall_const, not_true_eq_false, not_false_eq_true, fimp, timp, i10, i01, cm_rne, and_assoc, x0, q0]
    refine c51_29 (by decide) cs (p_remove xc hR1 hv.1 h1 (fun M2 r2 f2 => ?_))
    have en : sN (sCut (sMv (aS A) a (sN (aS A) - 1))) = sN (aS A) - 1 := by
      show sN (sMv (aS A) a (sN (aS A) - 1)) - 1 = _
      rw [sMv_n]
    have r5 := r2.1
    rw [en] at r5
    simp (disch := omega) only [g51_0, g51_1, g51_4, g51_8, g51_11, g51_12, g51_13, g51_14, g51_17, g51_18, g51_24, g51_25, g51_28, g51_32, g51_33, g51_36, g51_39, Option.toList_some, Option.toList_none, List.cons_append, List.nil_append, true_and, and_true, true_or, or_true, eq_self, ci0, ci1, cin6, forall_const, not_true_eq_false, not_false_eq_true, fimp, timp, i10, i01, cm_rne, and_assoc, x0, q0, cs, r5]
    obtain ⟨z1, z2⟩ := rXA_chg hA' r1 f1 (f2.wd (by omega) (by omega)) r2
    exact K M2 z1 z2
  · rw [ite'_n h1] at K
    exact K M hA' fr.rf
end CLASS2
