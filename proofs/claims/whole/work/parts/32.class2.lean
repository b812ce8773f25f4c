/-! ===== the class: more changes ===== -/
theorem eqS.rf {S : sS} : eqS S S := ⟨rfl, fun _ _ _ => rfl, fun _ _ _ => ⟨rfl, rfl, rfl, rfl⟩⟩
section CLASS2
variable {G : cm_G} {M : cm_M} {i j t v w g h s n k u a b : Int} {S : sS} {A : sA} {H : Int → sS} {Q : Option cm_V → cm_G → cm_M → Prop}
theorem p_move (hX : isX G) (hA : rXA M A) (hv : vA A) (ha : cm_in a) (hb : cm_in b) (K : ∀ M', rXA M' (rMove A a b).2 → fr M M' 0 81 → Q (some (0, (rMove A a b).1)) G M') : Go 60 0 [some (2, 0), some (0, a), some (0, b), none] [] G M Q := by
  have hX' := hX
  obtain ⟨x0, ⟨q0, q1, q2, q3, q4, q5, q6⟩, xc, xk, xt, xu, xp, xh, xl⟩ := hX
  have cs := xc.2.1
  have ks := xk.2.1
  have hA' := hA
  obtain ⟨b1, b2, b3, b4, b5⟩ := hA
  unfold rMove at K
  have bad : ¬ ((0 ≤ a ∧ a < sN (aS A)) ∧ 0 ≤ b ∧ b < sN (aS A)) → Q (some (0, -1)) G M := fun z => by
    rw [ite'_n z] at K
    exact K M hA' fr.rf
  simp (disch := omega) only [g60_0, g60_1, g60_4, g60_8, g60_11, g60_12, g60_15, g60_19, g60_22, g60_23, g60_24, g60_25, g60_31, g60_32, g60_38, g60_39, g60_40, g60_43, g60_44, g60_50, g60_51, g60_54, g60_55, g60_59, g60_60, g60_66, g60_69, g60_70, g60_76, g60_77, g60_78, g60_79, Option.toList_some, Option.toList_none, List.cons_append, List.nil_append, true_and, and_true, true_or, or_true, eq_self, ci0, ci1, cin6, forall_const, not_true_eq_false, not_false_eq_true, fimp, timp, i10, i01, cm_rne, and_assoc, x0, q0]
  refine c60_5 (by decide) cs (p_holds xc b1 hv.1 ha (fun h1 => ?_) (fun h1 => ?_)) <;> simp (disch := omega) only [g60_0, g60_1, g60_4, g60_8, g60_11, g60_12, g60_15, g60_19, g60_22, g60_23, g60_24, g60_25, g60_31, g60_32, g60_38, g60_39, g60_40, g60_43, g60_44, g60_50, g60_51, g60_54, g60_55, g60_59, g60_60, g60_66, g60_69, g60_70, g60_76, g60_77, g60_78, g60_79, Option.toList_some, Option.toList_none, List.cons_append, List.nil_append, true_and, and_true, true_or, or_true, eq_self, ci0, ci1, cin6, forall_const, not_true_eq_false, not_false_eq_true, fimp, timp, i10, i01, cm_rne, and_assoc, x0, q0]
  · refine c60_16 (by decide) cs (p_holds xc b1 hv.1 hb (fun h2 => ?_) (fun h2 => ?_)) <;> simp (disch := omega) only [g60_0, g60_1, g60_4, g60_8, g60_11, g60_12, g60_15, g60_19, g60_22, g60_23, g60_24, g60_25, g60_31, g60_32, g60_38, g60_39, g60_40, g60_43, g60_44, g60_50, g60_51, g60_54, g60_55, g60_59, g60_60, g60_66, g60_69, g60_70, g60_76, g60_77, g60_78, g60_79, Option.toList_some, Option.toList_none, List.cons_append, List.nil_append, true_and, and_true, true_or, or_true, eq_self, ci0, ci1, cin6, forall_const, not_true_eq_false, not_false_eq_true, fimp, timp, i10, i01, cm_rne, and_assoc, x0, q1]
    · rw [ite'_p ⟨h1, h2⟩] at K
      have hab := aI_b hv.1
      have hvm := vS_mv hv.1 h1 h2
      have hab2 := aI_b hvm
      refine c60_28 (by decide) ks (p_follow xk hv.1 b1 (fun M1 fol1 g1 f1 => ?_))
      obtain ⟨k1, k2⟩ := rXA_k hA' (f1.wd (by omega) (by omega)) g1
      simp (disch := omega) only [g60_0, g60_1, g60_4, g60_8, g60_11, g60_12, g60_15, g60_19, g60_22, g60_23, g60_24, g60_25, g60_31, g60_32, g60_38, g60_39, g60_40, g60_43, g60_44, g60_50, g60_51, g60_54, g60_55, g60_59, g60_60, g60_66, g60_69, g60_70, g60_76, g60_77, g60_78, g60_79, Option.toList_some, Option.toList_none, List.cons_append, List.nil_append, true_and, and_true, true_or, or_true, eq_self, ci0, ci1, cin6, forall_const, not_true_eq_false, not_false_eq_true, fimp, timp, i10, i01, cm_rne, and_assoc, x0, q1]
      refine c60_35 (by decide) ks (p_ticksInAll xk hv.1 k1.1 fol1 ?_)
      simp (disch := omega) only [g60_0, g60_1, g60_4, g60_8, g60_11, g60_12, g60_15, g60_19, g60_22, g60_23, g60_24, g60_25, g60_31, g60_32, g60_38, g60_39, g60_40, g60_43, g60_44, g60_50, g60_51, g60_54, g60_55, g60_59, g60_60, g60_66, g60_69, g60_70, g60_76, g60_77, g60_78, g60_79, Option.toList_some, Option.toList_none, List.cons_append, List.nil_append, true_and, and_true, true_or, or_true, eq_self, ci0, ci1, cin6, forall_const, not_true_eq_false, not_false_eq_true, fimp, timp, i10, i01, cm_rne, and_assoc, x0, q5, q0]
      refine c60_47 (by decide) xh.1 (p_remember hX' k1.1 hv.1 k1.2.1 (fun M2 r2 f2 => ?_))
      have hR2 : rC M2 2 (aS A) := k1.1.fr f2 (by omega)
      simp (disch := omega) only [g60_0, g60_1, g60_4, g60_8, g60_11, g60_12, g60_15, g60_19, g60_22, g60_23, g60_24, g60_25, g60_31, g60_32, g60_38, g60_39, g60_40, g60_43, g60_44, g60_50, g60_51, g60_54, g60_55, g60_59, g60_60, g60_66, g60_69, g60_70, g60_76, g60_77, g60_78, g60_79, Option.toList_some, Option.toList_none, List.cons_append, List.nil_append, true_and, and_true, true_or, or_true, eq_self, ci0, ci1, cin6, forall_const, not_true_eq_false, not_false_eq_true, fimp, timp, i10, i01, cm_rne, and_assoc, x0, q0]
      refine c60_56 (by decide) cs (p_carry xc hR2 hv.1 h1 h2 (fun M3 r3 f3 => ?_))
      simp (disch := omega) only [g60_0, g60_1, g60_4, g60_8, g60_11, g60_12, g60_15, g60_19, g60_22, g60_23, g60_24, g60_25, g60_31, g60_32, g60_38, g60_39, g60_40, g60_43, g60_44, g60_50, g60_51, g60_54, g60_55, g60_59, g60_60, g60_66, g60_69, g60_70, g60_76, g60_77, g60_78, g60_79, Option.toList_some, Option.toList_none, List.cons_append, List.nil_append, true_and, and_true, true_or, or_true, eq_self, ci0, ci1, cin6, forall_const, not_true_eq_false, not_false_eq_true, fimp, timp, i10, i01, cm_rne, and_assoc, x0, q1]
      refine c60_63 (by decide) ks (p_follow xk hvm r3 (fun M4 fol4 hR4 f4 => ?_))
      simp (disch := omega) only [g60_0, g60_1, g60_4, g60_8, g60_11, g60_12, g60_15, g60_19, g60_22, g60_23, g60_24, g60_25, g60_31, g60_32, g60_38, g60_39, g60_40, g60_43, g60_44, g60_50, g60_51, g60_54, g60_55, g60_59, g60_60, g60_66, g60_69, g60_70, g60_76, g60_77, g60_78, g60_79, Option.toList_some, Option.toList_none, List.cons_append, List.nil_append, true_and, and_true, true_or, or_true, eq_self, ci0, ci1, cin6, forall_const, not_true_eq_false, not_false_eq_true, fimp, timp, i10, i01, cm_rne, and_assoc, x0, q1]
      refine c60_73 (Nat.le_of_ble_eq_true rfl) ks (p_ticksInAll xk hvm hR4 fol4 ?_)
      simp (disch := omega) only [g60_0, g60_1, g60_4, g60_8, g60_11, g60_12, g60_15, g60_19, g60_22, g60_23, g60_24, g60_25, g60_31, g60_32, g60_38, g60_39, g60_40, g60_43, g60_44, g60_50, g60_51, g60_54, g60_55, g60_59, g60_60, g60_66, g60_69, g60_70, g60_76, g60_77, g60_78, g60_79, Option.toList_some, Option.toList_none, List.cons_append, List.nil_append, true_and, and_true, true_or, or_true, eq_self, ci0, ci1, cin6, forall_const, not_true_eq_false, not_false_eq_true, fimp, timp, i10, i01, cm_rne, and_assoc]
      (repeat' apply And.intro) <;> (try omega) <;> (try (intro hx; exfalso; omega))
      obtain ⟨z1, z2⟩ := rXA_chg k1 r2 f2 ((f3.wd (by omega) (by omega)).tr (f4.wd (by omega) (by omega))) hR4
      exact K M4 z1 (k2.tr z2)
    · exact bad (fun z => h2 z.2)
  · exact bad (fun z => h1 z.1)
theorem p_drop (hX : isX G) (hA : rXA M A) (hv : vA A) (ha : cm_in a) (K : ∀ M', rXA M' (rDrop A a).2 → fr M M' 0 81 → Q (some (0, (rDrop A a).1)) G M') : Go 61 0 [some (2, 0), some (0, a)] [] G M Q := by
  have hX' := hX
  obtain ⟨x0, ⟨q0, q1, q2, q3, q4, q5, q6⟩, xc, xk, xt, xu, xp, xh, xl⟩ := hX
  have cs := xc.2.1
  have hA' := hA
  obtain ⟨b1, b2, b3, b4, b5⟩ := hA
  unfold rDrop at K
  simp (disch := omega) only [g61_0, g61_1, g61_4, g61_8, g61_11, g61_12, g61_13, g61_14, g61_17, g61_18, g61_24, g61_25, g61_28, g61_32, g61_33, g61_36, g61_39, Option.toList_some, Option.toList_none, List.cons_append, List.nil_append, true_and, and_true, true_or, or_true, eq_self, ci0, ci1, cin6, forall_const, not_true_eq_false, not_false_eq_true, fimp, timp, i10, i01, cm_rne, and_assoc, x0, q0]
  refine c61_5 (by decide) cs (p_holds xc b1 hv.1 ha (fun h1 => ?_) (fun h1 => ?_)) <;> simp (disch := omega) only [g61_0, g61_1, g61_4, g61_8, g61_11, g61_12, g61_13, g61_14, g61_17, g61_18, g61_24, g61_25, g61_28, g61_32, g61_33, g61_36, g61_39, Option.toList_some, Option.toList_none, List.cons_append, List.nil_append, true_and, and_true, true_or, or_true, eq_self, ci0, ci1, cin6, forall_const, not_true_eq_false, not_false_eq_true, fimp, timp, i10, i01, cm_rne, and_assoc, x0, q0, q5]
  · rw [ite'_p h1] at K
    refine c61_21 (by decide) xh.1 (p_remember hX' b1 hv.1 b2 (fun M1 r1 f1 => ?_))
    have hR1 : rC M1 2 (aS A) := b1.fr f1 (by omega)
    simp (disch := omega) only [g61_0, g61_1, g61_4, g61_8, g61_11, g61_12, g61_13, g61_14, g61_17, g61_18, g61_24, g61_25, g61_28, g61_32, g61_33, g61_36, g61_39, Option.toList_some, Option.toList_none, List.cons_append, List.nil_append, true_and, and_true, true_or, or_true, eq_self, ci0, ci1, cin6, forall_const, not_true_eq_false, not_false_eq_true, fimp, timp, i10, i01, cm_rne, and_assoc, x0, q0]
    refine c61_29 (by decide) cs (p_remove xc hR1 hv.1 h1 (fun M2 r2 f2 => ?_))
    have en : sN (sCut (sMv (aS A) a (sN (aS A) - 1))) = sN (aS A) - 1 := by
      show sN (sMv (aS A) a (sN (aS A) - 1)) - 1 = _
      rw [sMv_n]
    have r5 := r2.1
    rw [en] at r5
    simp (disch := omega) only [g61_0, g61_1, g61_4, g61_8, g61_11, g61_12, g61_13, g61_14, g61_17, g61_18, g61_24, g61_25, g61_28, g61_32, g61_33, g61_36, g61_39, Option.toList_some, Option.toList_none, List.cons_append, List.nil_append, true_and, and_true, true_or, or_true, eq_self, ci0, ci1, cin6, forall_const, not_true_eq_false, not_false_eq_true, fimp, timp, i10, i01, cm_rne, and_assoc, x0, q0, cs, r5]
    obtain ⟨z1, z2⟩ := rXA_chg hA' r1 f1 (f2.wd (by omega) (by omega)) r2
    exact K M2 z1 z2
  · rw [ite'_n h1] at K
    exact K M hA' fr.rf
theorem p_turn (hX : isX G) (hA : rXA M A) (hv : vA A) (hg : cm_in g) (hk : cm_in k) (K : ∀ M', rXA M' (rTurn A g k).2 → fr M M' 0 81 → Q (some (0, (rTurn A g k).1)) G M') : Go 62 0 [some (2, 0), some (0, g), some (0, k), none, none] [] G M Q := by
  have hX' := hX
  obtain ⟨x0, ⟨q0, q1, q2, q3, q4, q5, q6⟩, xc, xk, xt, xu, xp, xh, xl⟩ := hX
  have xc' := xc
  obtain ⟨c0, cs, ⟨cf0, cf1, cf2, cf3, cf4⟩, ca0, ca1, ca2, ca3, ca4⟩ := xc
  have hA' := hA
  obtain ⟨b1, b2, b3, b4, b5⟩ := hA
  have hn := hv.1.2.1
  have hn0 := hv.1.1
  unfold rTurn at K
  simp (disch := omega) only [g62_0, g62_4, g62_7, g62_8, g62_9, g62_14, g62_17, g62_19, g62_20, g62_21, g62_24, g62_28, g62_29, g62_30, g62_33, g62_37, g62_40, g62_42, g62_43, g62_44, g62_47, g62_48, g62_54, g62_55, g62_59, g62_60, g62_63, g62_64, g62_67, g62_71, g62_74, g62_77, g62_78, g62_81, g62_84, g62_85, g62_86, Option.toList_some, Option.toList_none, List.cons_append, List.nil_append, true_and, and_true, true_or, or_true, eq_self, ci0, ci1, cin6, forall_const, not_true_eq_false, not_false_eq_true, fimp, timp, i10, i01, cm_rne, and_assoc]
  refine c62_1 (by decide) (p_isGroup hg (fun h1 => ?_) (fun h1 => ?_)) <;> simp (disch := omega) only [g62_0, g62_4, g62_7, g62_8, g62_9, g62_14, g62_17, g62_19, g62_20, g62_21, g62_24, g62_28, g62_29, g62_30, g62_33, g62_37, g62_40, g62_42, g62_43, g62_44, g62_47, g62_48, g62_54, g62_55, g62_59, g62_60, g62_63, g62_64, g62_67, g62_71, g62_74, g62_77, g62_78, g62_81, g62_84, g62_85, g62_86, Option.toList_some, Option.toList_none, List.cons_append, List.nil_append, true_and, and_true, true_or, or_true, eq_self, ci0, ci1, cin6, forall_const, not_true_eq_false, not_false_eq_true, fimp, timp, i10, i01, cm_rne, and_assoc]
  · refine c62_11 (Nat.le_of_ble_eq_true rfl) (p_isWithin hk cn1 ⟨by decide, by decide⟩ (fun h2 => ?_) (fun h2 => ?_)) <;> simp (disch := omega) only [g62_0, g62_4, g62_7, g62_8, g62_9, g62_14, g62_17, g62_19, g62_20, g62_21, g62_24, g62_28, g62_29, g62_30, g62_33, g62_37, g62_40, g62_42, g62_43, g62_44, g62_47, g62_48, g62_54, g62_55, g62_59, g62_60, g62_63, g62_64, g62_67, g62_71, g62_74, g62_77, g62_78, g62_81, g62_84, g62_85, g62_86, Option.toList_some, Option.toList_none, List.cons_append, List.nil_append, true_and, and_true, true_or, or_true, eq_self, ci0, ci1, cin6, forall_const, not_true_eq_false, not_false_eq_true, fimp, timp, i10, i01, cm_rne, and_assoc, x0, q0]
    · rw [ite'_p ⟨h1, h2⟩] at K
      refine c62_25 (by decide) cs (p_firstNameOf xc' b1 hv.1 hg (fun r hr => ?_))
      have er : r = nameAt (aS A) g := fstOf_e hr
      have hrb : r = -6 ∨ (0 ≤ r ∧ r < sN (aS A)) := by
        rcases hr with ⟨z1, z2, -⟩ | ⟨z, -⟩
        · exact Or.inr ⟨z1, z2⟩
        · exact Or.inl z
      have K2 : ∀ M', rXA M' (ite' (r = -6) (-5, A) (sM (rotN (aS A) g k.toNat) r, chg A (rotN (aS A) g k.toNat))).2 → fr M M' 0 81 → Q (some (0, (ite' (r = -6) (-5, A) (sM (rotN (aS A) g k.toNat) r, chg A (rotN (aS A) g k.toNat))).1)) G M' := by
        rw [er]
        exact K
      simp (disch := omega) only [g62_0, g62_4, g62_7, g62_8, g62_9, g62_14, g62_17, g62_19, g62_20, g62_21, g62_24, g62_28, g62_29, g62_30, g62_33, g62_37, g62_40, g62_42, g62_43, g62_44, g62_47, g62_48, g62_54, g62_55, g62_59, g62_60, g62_63, g62_64, g62_67, g62_71, g62_74, g62_77, g62_78, g62_81, g62_84, g62_85, g62_86, Option.toList_some, Option.toList_none, List.cons_append, List.nil_append, true_and, and_true, true_or, or_true, eq_self, ci0, ci1, cin6, forall_const, not_true_eq_false, not_false_eq_true, fimp, timp, i10, i01, cm_rne, and_assoc, x0, q0]
      refine c62_34 (by decide) cs (p_holds xc' b1 hv.1 (by constructor <;> omega) (fun h3 => ?_) (fun h3 => ?_)) <;> simp (disch := omega) only [g62_0, g62_4, g62_7, g62_8, g62_9, g62_14, g62_17, g62_19, g62_20, g62_21, g62_24, g62_28, g62_29, g62_30, g62_33, g62_37, g62_40, g62_42, g62_43, g62_44, g62_47, g62_48, g62_54, g62_55, g62_59, g62_60, g62_63, g62_64, g62_67, g62_71, g62_74, g62_77, g62_78, g62_81, g62_84, g62_85, g62_86, Option.toList_some, Option.toList_none, List.cons_append, List.nil_append, true_and, and_true, true_or, or_true, eq_self, ci0, ci1, cin6, forall_const, not_true_eq_false, not_false_eq_true, fimp, timp, i10, i01, cm_rne, and_assoc, x0, q0, q5]
      · rw [ite'_n (by omega)] at K2
        refine c62_51 (by decide) xh.1 (p_remember hX' b1 hv.1 b2 (fun M1 r1 f1 => ?_))
        have hR1 : rC M1 2 (aS A) := b1.fr f1 (by omega)
        simp (disch := omega) only [g62_0, g62_4, g62_7, g62_8, g62_9, g62_14, g62_17, g62_19, g62_20, g62_21, g62_24, g62_28, g62_29, g62_30, g62_33, g62_37, g62_40, g62_42, g62_43, g62_44, g62_47, g62_48, g62_54, g62_55, g62_59, g62_60, g62_63, g62_64, g62_67, g62_71, g62_74, g62_77, g62_78, g62_81, g62_84, g62_85, g62_86, Option.toList_some, Option.toList_none, List.cons_append, List.nil_append, true_and, and_true, true_or, or_true, eq_self, ci0, ci1, cin6, forall_const, not_true_eq_false, not_false_eq_true, fimp, timp, i10, i01, cm_rne, and_assoc]
        refine go_loop (σ := cm_M) (fun i _ => [some (2, 0), some (0, g), some (0, k), some (0, r), some (0, i)]) (fun s => s) (fun i s => rC s 2 (rotN (aS A) g i.toNat) ∧ fr M1 s 2 7) k (fun i s hi0 hik hRs ih => ?_) (fun s hRs => ?_) 0 M1 (by omega) (by omega) ⟨hR1, fr.rf⟩
        · obtain ⟨u1, u2⟩ := hRs
          rw [g62_57]
          simp (disch := omega) only [g62_0, g62_4, g62_7, g62_8, g62_9, g62_14, g62_17, g62_19, g62_20, g62_21, g62_24, g62_28, g62_29, g62_30, g62_33, g62_37, g62_40, g62_42, g62_43, g62_44, g62_47, g62_48, g62_54, g62_55, g62_59, g62_60, g62_63, g62_64, g62_67, g62_71, g62_74, g62_77, g62_78, g62_81, g62_84, g62_85, g62_86, Option.toList_some, Option.toList_none, List.cons_append, List.nil_append, true_and, and_true, true_or, or_true, eq_self, ci0, ci1, cin6, forall_const, not_true_eq_false, not_false_eq_true, fimp, timp, i10, i01, cm_rne, and_assoc, x0, q0]
          (repeat' apply And.intro) <;> (try omega) <;> (try (intro hx; exfalso; omega))
          intro _
          refine c62_68 (by decide) cs (p_rotate xc' u1 (vS_rotN hv.1 h1 _) h1 (fun M2 r2 f2 => ?_))
          simp (disch := omega) only [g62_0, g62_4, g62_7, g62_8, g62_9, g62_14, g62_17, g62_19, g62_20, g62_21, g62_24, g62_28, g62_29, g62_30, g62_33, g62_37, g62_40, g62_42, g62_43, g62_44, g62_47, g62_48, g62_54, g62_55, g62_59, g62_60, g62_63, g62_64, g62_67, g62_71, g62_74, g62_77, g62_78, g62_81, g62_84, g62_85, g62_86, Option.toList_some, Option.toList_none, List.cons_append, List.nil_append, true_and, and_true, true_or, or_true, eq_self, ci0, ci1, cin6, forall_const, not_true_eq_false, not_false_eq_true, fimp, timp, i10, i01, cm_rne, and_assoc]
          refine ih M2 ⟨?_, u2.tr (f2.wd (by omega) (by omega))⟩
          rw [show (i + 1).toNat = i.toNat + 1 by omega]
          exact r2
        · obtain ⟨u1, u2⟩ := hRs
          have en := (rotN_n (aS A) g k.toNat).1
          rw [g62_57]
          simp (disch := omega) only [g62_0, g62_4, g62_7, g62_8, g62_9, g62_14, g62_17, g62_19, g62_20, g62_21, g62_24, g62_28, g62_29, g62_30, g62_33, g62_37, g62_40, g62_42, g62_43, g62_44, g62_47, g62_48, g62_54, g62_55, g62_59, g62_60, g62_63, g62_64, g62_67, g62_71, g62_74, g62_77, g62_78, g62_81, g62_84, g62_85, g62_86, Option.toList_some, Option.toList_none, List.cons_append, List.nil_append, true_and, and_true, true_or, or_true, eq_self, ci0, ci1, cin6, forall_const, not_true_eq_false, not_false_eq_true, fimp, timp, i10, i01, cm_rne, and_assoc, x0, q0, cs, cf3, ca3]
          (repeat' apply And.intro) <;> (try omega) <;> (try (intro hx; exfalso; omega))
          intro _
          (repeat' apply And.intro) <;> (try omega) <;> (try (intro hx; exfalso; omega))
          rw [(u1.2.2 r h3.1 (by rw [en]; exact h3.2)).2.2.1]
          obtain ⟨z1, z2⟩ := rXA_chg hA' r1 f1 (u2.wd (by omega) (by omega)) u1
          exact K2 s z1 z2
      · rw [ite'_p (by omega)] at K2
        exact K2 M hA' fr.rf
    · rw [ite'_n (fun z => h2 z.2)] at K
      exact K M hA' fr.rf
  · rw [ite'_n (fun z => h1 z.1)] at K
    exact K M hA' fr.rf
theorem p_undo (hX : isX G) (hA : rXA M A) (hv : vA A) (K : ∀ M', rXA M' (rUndo A).2 → fr M M' 0 81 → Q (some (0, (rUndo A).1)) G M') : Go 75 0 [some (2, 0)] [] G M Q := by
  obtain ⟨x0, ⟨q0, q1, q2, q3, q4, q5, q6⟩, xc, xk, xt, xu, xp, ⟨y0, y1, y2, y3⟩, xl⟩ := hX
  have hA' := hA
  obtain ⟨b1, ⟨c1, c2, c3, c4⟩, b3, b4, b5⟩ := hA
  unfold rUndo at K
  simp (disch := omega) only [g75_0, g75_1, g75_4, g75_7, g75_10, g75_12, g75_13, g75_14, g75_17, g75_18, g75_24, g75_25, g75_28, g75_31, Option.toList_some, Option.toList_none, List.cons_append, List.nil_append, true_and, and_true, true_or, or_true, eq_self, ci0, ci1, cin6, forall_const, not_true_eq_false, not_false_eq_true, fimp, timp, i10, i01, cm_rne, and_assoc, x0, q5, q0, y0, c1]
  (repeat' apply And.intro) <;> (try omega) <;> (try (intro hx; exfalso; omega))
  · intro hne
    rw [ite'_n hne] at K
    refine c75_21 (by decide) y0 ?_
    have hm : (M 29 2 + (aH A - 1)).tmod 6 = (M 29 2 + (aH A - 1)) % 6 := Int.tmod_eq_emod_of_nonneg (by omega)
    have hb : 0 ≤ (M 29 2 + (aH A - 1)) % 6 ∧ (M 29 2 + (aH A - 1)) % 6 < 6 := by omega
    obtain ⟨z1, z2⟩ := y3 _ hb.1 hb.2
    have e1 : cm_up M 29 1 (aH A - 1) 29 1 = aH A - 1 := cm_up_s _ _ _ _
    have e2 : cm_up M 29 1 (aH A - 1) 29 2 = M 29 2 := cm_up_n _ (Or.inr (by decide))
    simp (disch := omega) only [g44_0, g44_1, g44_4, g44_7, g44_8, g44_8b, g44_9, g44_12, g44_13, g44_14, g44_17, g44_18, g44_19, g44_22, g44_23, g44_26, g44_27, g44_30, g44_31, g44_33, g44_34, g44_38, Option.toList_some, Option.toList_none, List.cons_append, List.nil_append, true_and, and_true, true_or, or_true, eq_self, ci0, ci1, cin6, forall_const, not_true_eq_false, not_false_eq_true, fimp, timp, i10, i01, cm_rne, and_assoc, y0, y1, y2, c1, e1, e2, hm, z1]
    (repeat' apply And.intro) <;> (try omega) <;> (try (intro hx; exfalso; omega))
    intro _
    (repeat' apply And.intro) <;> (try omega) <;> (try (intro hx; exfalso; omega))
    have hH := c4 (aH A - 1) (by omega) (by omega)
    have hvH := hv.2.1.2 (aH A - 1) (by omega) (by omega)
    have fu : fr M (cm_up M 29 1 (aH A - 1)) 29 29 := fun k hk => cm_rne (by omega)
    refine c44_35 (by decide) xc.2.1 (p_takeFrom xc z2 (hH.fr fu (by omega)) (by omega) ⟨hvH.1, hvH.2.1⟩ (fun M1 r1 f1 => ?_))
    have e3 : M1 29 1 = aH A - 1 := by rw [f1 29 (by omega)]; exact e1
    have e4 : M1 29 2 = M 29 2 := by rw [f1 29 (by omega)]; exact e2
    simp (disch := omega) only [g44_0, g44_1, g44_4, g44_7, g44_8, g44_8b, g44_9, g44_12, g44_13, g44_14, g44_17, g44_18, g44_19, g44_22, g44_23, g44_26, g44_27, g44_30, g44_31, g44_33, g44_34, g44_38, g75_0, g75_1, g75_4, g75_7, g75_10, g75_12, g75_13, g75_14, g75_17, g75_18, g75_24, g75_25, g75_28, g75_31, Option.toList_some, Option.toList_none, List.cons_append, List.nil_append, true_and, and_true, true_or, or_true, eq_self, ci0, ci1, cin6, forall_const, not_true_eq_false, not_false_eq_true, fimp, timp, i10, i01, cm_rne, and_assoc, x0, q5, y0, e3]
    refine K M1 ⟨r1, ⟨e3, ?_, by rw [e4]; exact c3, fun j a b => ?_⟩, fun s a b => ?_, ?_, fun k a b => ?_⟩ (fun k hk => by rw [f1 k (by omega), fu k (by omega)])
    · show 0 ≤ aH A - 1 ∧ aH A - 1 ≤ 6
      omega
    · have b : j < aH A - 1 := b
      rw [e4]
      exact ((c4 j a (by omega)).fr fu (by omega)).fr f1 (by omega)
    · rw [f1 69 (by omega), fu 69 (by omega)]
      exact ⟨(b3 s a b).1, fun z => (((b3 s a b).2 z).fr fu (by omega)).fr f1 (by omega)⟩
    · rw [f1 27 (by omega), fu 27 (by omega)]; exact b4
    · rw [f1 28 (by omega), fu 28 (by omega)]; exact b5 k a b
  · intro he
    rw [ite'_p he] at K
    exact K M hA' fr.rf
theorem p_save (hX : isX G) (hA : rXA M A) (hv : vA A) (hs : cm_in s) (K : ∀ M', rXA M' (rSave A s).2 → fr M M' 0 81 → Q (some (0, (rSave A s).1)) G M') : Go 76 0 [some (2, 0), some (0, s)] [] G M Q := by
  obtain ⟨x0, ⟨q0, q1, q2, q3, q4, q5, q6⟩, xc, xk, xt, xu, xp, xh, ⟨y0, y1, y2, y3, y4, y5⟩⟩ := hX
  have cs := xc.2.1
  have hA' := hA
  obtain ⟨b1, ⟨c1, c2, c3, c4⟩, b3, b4, b5⟩ := hA
  have hn := hv.1.2.1
  have hn0 := hv.1.1
  unfold rSave at K
  simp (disch := omega) only [g76_0, g76_4, g76_7, g76_9, g76_10, g76_11, g76_14, g76_17, g76_18, g76_19, g76_20, g76_26, g76_27, g76_30, g76_33, g76_34, g76_35, g76_36, g76_37, g76_40, g76_43, Option.toList_some, Option.toList_none, List.cons_append, List.nil_append, true_and, and_true, true_or, or_true, eq_self, ci0, ci1, cin6, forall_const, not_true_eq_false, not_false_eq_true, fimp, timp, i10, i01, cm_rne, and_assoc]
  refine c76_1 (by decide) (p_isSlot hs (fun h1 => ?_) (fun h1 => ?_)) <;> simp (disch := omega) only [g76_0, g76_4, g76_7, g76_9, g76_10, g76_11, g76_14, g76_17, g76_18, g76_19, g76_20, g76_26, g76_27, g76_30, g76_33, g76_34, g76_35, g76_36, g76_37, g76_40, g76_43, Option.toList_some, Option.toList_none, List.cons_append, List.nil_append, true_and, and_true, true_or, or_true, eq_self, ci0, ci1, cin6, forall_const, not_true_eq_false, not_false_eq_true, fimp, timp, i10, i01, cm_rne, and_assoc]
  · rw [ite'_p h1] at K
    obtain ⟨z1, z2⟩ := y5 s h1.1 (by omega)
    simp (disch := omega) only [g76_0, g76_4, g76_7, g76_9, g76_10, g76_11, g76_14, g76_17, g76_18, g76_19, g76_20, g76_26, g76_27, g76_30, g76_33, g76_34, g76_35, g76_36, g76_37, g76_40, g76_43, Option.toList_some, Option.toList_none, List.cons_append, List.nil_append, true_and, and_true, true_or, or_true, eq_self, ci0, ci1, cin6, forall_const, not_true_eq_false, not_false_eq_true, fimp, timp, i10, i01, cm_rne, and_assoc, x0, q6, q0, y0, y1, y3, z1]
    (repeat' apply And.intro) <;> (try omega) <;> (try (intro hx; exfalso; omega))
    refine c76_23 (by decide) z2.2.1 (p_takeFrom z2 xc b1 (by omega) ⟨hn0, hn⟩ (fun M1 r1 f1 => ?_))
    have hR1 : rC M1 2 (aS A) := b1.fr f1 (by omega)
    have fu : fr M1 (cm_up M1 69 s 1) 69 69 := fun k hk => cm_rne (by omega)
    simp (disch := omega) only [g76_0, g76_4, g76_7, g76_9, g76_10, g76_11, g76_14, g76_17, g76_18, g76_19, g76_20, g76_26, g76_27, g76_30, g76_33, g76_34, g76_35, g76_36, g76_37, g76_40, g76_43, Option.toList_some, Option.toList_none, List.cons_append, List.nil_append, true_and, and_true, true_or, or_true, eq_self, ci0, ci1, cin6, forall_const, not_true_eq_false, not_false_eq_true, fimp, timp, i10, i01, cm_rne, and_assoc, x0, q6, q0, y0, y2, y4, cs, hR1.1]
    (repeat' apply And.intro) <;> (try omega) <;> (try (intro hx; exfalso; omega))
    refine K _ ⟨hR1.fr fu (by omega), ⟨?_, c2, ?_, fun j a b => ?_⟩, fun t a b => ?_, ?_, fun k a b => ?_⟩ (fun k hk => by rw [fu k (by omega), f1 k (by omega)])
    · rw [fu 29 (by omega), f1 29 (by omega)]; exact c1
    · rw [fu 29 (by omega), f1 29 (by omega)]; exact c3
    · rw [fu 29 (by omega), f1 29 (by omega)]
      have b : j < aH A := b
      exact ((c4 j a b).fr f1 (by omega)).fr fu (by omega)
    · rw [cm_req, f1 69 (by omega)]
      show (if t = s then 1 else M 69 t) = (if t = s then 1 else aF A t) ∧ ((if t = s then 1 else aF A t) = 1 → rC _ _ (if t = s then aS A else aL A t))
      by_cases ht : t = s
      · simp only [if_pos ht]
        refine ⟨trivial, fun _ => ?_⟩
        rw [ht]
        exact r1.fr fu (by omega)
      · simp only [if_neg ht]
        obtain ⟨w1, w2⟩ := b3 t a b
        exact ⟨w1, fun z => ((w2 z).fr f1 (by omega)).fr fu (by omega)⟩
    · rw [fu 27 (by omega), f1 27 (by omega)]; exact b4
    · rw [fu 28 (by omega), f1 28 (by omega)]; exact b5 k a b
  · rw [ite'_n h1] at K
    exact K M hA' fr.rf
theorem p_restore (hX : isX G) (hA : rXA M A) (hv : vA A) (hs : cm_in s) (K : ∀ M', rXA M' (rRestore A s).2 → fr M M' 0 81 → Q (some (0, (rRestore A s).1)) G M') : Go 77 0 [some (2, 0), some (0, s)] [] G M Q := by
  have hX' := hX
  obtain ⟨x0, ⟨q0, q1, q2, q3, q4, q5, q6⟩, xc, xk, xt, xu, xp, xh, ⟨y0, y1, y2, y3, y4, y5⟩⟩ := hX
  have cs := xc.2.1
  have hA' := hA
  obtain ⟨b1, b2, b3, b4, b5⟩ := hA
  unfold rRestore at K
  simp (disch := omega) only [g77_0, g77_4, g77_7, g77_9, g77_10, g77_11, g77_14, g77_17, g77_18, g77_19, g77_22, g77_24, g77_25, g77_26, g77_29, g77_30, g77_36, g77_37, g77_40, g77_41, g77_44, g77_47, g77_48, g77_52, g77_53, g77_56, g77_59, Option.toList_some, Option.toList_none, List.cons_append, List.nil_append, true_and, and_true, true_or, or_true, eq_self, ci0, ci1, cin6, forall_const, not_true_eq_false, not_false_eq_true, fimp, timp, i10, i01, cm_rne, and_assoc]
  refine c77_1 (by decide) (p_isSlot hs (fun h1 => ?_) (fun h1 => ?_)) <;> simp (disch := omega) only [g77_0, g77_4, g77_7, g77_9, g77_10, g77_11, g77_14, g77_17, g77_18, g77_19, g77_22, g77_24, g77_25, g77_26, g77_29, g77_30, g77_36, g77_37, g77_40, g77_41, g77_44, g77_47, g77_48, g77_52, g77_53, g77_56, g77_59, Option.toList_some, Option.toList_none, List.cons_append, List.nil_append, true_and, and_true, true_or, or_true, eq_self, ci0, ci1, cin6, forall_const, not_true_eq_false, not_false_eq_true, fimp, timp, i10, i01, cm_rne, and_assoc]
  · rw [ite'_p h1] at K
    obtain ⟨z1, z2⟩ := y5 s h1.1 (by omega)
    obtain ⟨w1, w2⟩ := b3 s h1.1 (by omega)
    have hf := (hv.2.2.1 s h1.1 (by omega)).1
    simp (disch := omega) only [g77_0, g77_4, g77_7, g77_9, g77_10, g77_11, g77_14, g77_17, g77_18, g77_19, g77_22, g77_24, g77_25, g77_26, g77_29, g77_30, g77_36, g77_37, g77_40, g77_41, g77_44, g77_47, g77_48, g77_52, g77_53, g77_56, g77_59, Option.toList_some, Option.toList_none, List.cons_append, List.nil_append, true_and, and_true, true_or, or_true, eq_self, ci0, ci1, cin6, forall_const, not_true_eq_false, not_false_eq_true, fimp, timp, i10, i01, cm_rne, and_assoc, x0, q6, q0, q5, y0, y2, y4, w1]
    (repeat' apply And.intro) <;> (try omega) <;> (try (intro hx; exfalso; omega))
    · intro hne
      have h11 : aF A s = 1 := by omega
      have hvl := (hv.2.2.1 s h1.1 (by omega)).2 h11
      rw [ite'_p h11] at K
      refine c77_33 (by decide) xh.1 (p_remember hX' b1 hv.1 b2 (fun M1 r1 f1 => ?_))
      simp (disch := omega) only [g77_0, g77_4, g77_7, g77_9, g77_10, g77_11, g77_14, g77_17, g77_18, g77_19, g77_22, g77_24, g77_25, g77_26, g77_29, g77_30, g77_36, g77_37, g77_40, g77_41, g77_44, g77_47, g77_48, g77_52, g77_53, g77_56, g77_59, Option.toList_some, Option.toList_none, List.cons_append, List.nil_append, true_and, and_true, true_or, or_true, eq_self, ci0, ci1, cin6, forall_const, not_true_eq_false, not_false_eq_true, fimp, timp, i10, i01, cm_rne, and_assoc, x0, q6, q0, y0, y1, y3, z1]
      (repeat' apply And.intro) <;> (try omega) <;> (try (intro hx; exfalso; omega))
      refine c77_49 (by decide) cs (p_takeFrom xc z2 ((w2 h11).fr f1 (by omega)) (by omega) ⟨hvl.1, hvl.2.1⟩ (fun M2 r2 f2 => ?_))
      simp (disch := omega) only [g77_0, g77_4, g77_7, g77_9, g77_10, g77_11, g77_14, g77_17, g77_18, g77_19, g77_22, g77_24, g77_25, g77_26, g77_29, g77_30, g77_36, g77_37, g77_40, g77_41, g77_44, g77_47, g77_48, g77_52, g77_53, g77_56, g77_59, Option.toList_some, Option.toList_none, List.cons_append, List.nil_append, true_and, and_true, true_or, or_true, eq_self, ci0, ci1, cin6, forall_const, not_true_eq_false, not_false_eq_true, fimp, timp, i10, i01, cm_rne, and_assoc, x0, q0, cs, r2.1]
      obtain ⟨k1, k2⟩ := rXA_chg hA' r1 f1 (f2.wd (by omega) (by omega)) r2
      exact K M2 k1 k2
    · intro he
      rw [ite'_n (by omega)] at K
      exact K M hA' fr.rf
  · rw [ite'_n h1] at K
    exact K M hA' fr.rf
end CLASS2
