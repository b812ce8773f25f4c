/-! ===== the class: what if ===== -/
section CLASS4
variable {G : cm_G} {M : cm_M} {c i j t v w g h s n k u a b : Int} {S : sS} {A : sA} {H : Int → sS} {Q : Option cm_V → cm_G → cm_M → Prop}
theorem rC_set {M : cm_M} (hR : rC M c S) : rC (cm_up M (c + 1) i v) c (sSet S i v) := by
  obtain ⟨w1, w2, w3⟩ := hR
  refine ⟨by rw [cm_rne (by omega)]; exact w1, fun j a b => ?_, fun j a b => ?_⟩
  · rw [cm_req]
    show (if j = i then v else M (c + 1) j) = if j = i then v else sT S j
    by_cases hj : j = i
    · rw [if_pos hj, if_pos hj]
    · rw [if_neg hj, if_neg hj]; exact w2 j a b
  · rw [cm_rne (by omega), cm_rne (by omega), cm_rne (by omega), cm_rne (by omega)]
    exact w3 j a b
theorem p_seenIf (hX : isX G) (hA : rXA M A) (hv : vA A) (hi : cm_in i) (hw : cm_in v) (K : ∀ M', rXA M' A → fr M M' 0 81 → Q (some (0, xIf (aS A) i v)) G M') : Go 58 0 [some (2, 0), some (0, i), some (0, v)] [] G M Q := by
  obtain ⟨x0, ⟨q0, q1, q2, q3, q4, q5, q6⟩, xc, xk, xt, xu, xp, xh, xl⟩ := hX
  have cs := xc.2.1
  have xt' := xt
  have xu' := xu
  obtain ⟨t0, ts, ⟨tf0, tf1, tf2, tf3, tf4⟩, ta0, ta1, ta2, ta3, ta4⟩ := xt
  obtain ⟨u0, us, ⟨e0, e1, e2, e3, e5, e6, e7⟩, ⟨ka1, ka2, ka3, ka4, ka5, ka6⟩, -, -⟩ := xu
  have hA' := hA
  obtain ⟨b1, b2, b3, b4, b5⟩ := hA
  have hn := hv.1.2.1
  have hn0 := hv.1.1
  unfold xIf at K
  simp (disch := omega) only [g58_0, g58_1, g58_4, g58_8, g58_11, g58_12, g58_13, g58_17, g58_20, g58_22, g58_23, g58_24, g58_27, g58_28, g58_34, g58_35, g58_38, g58_41, g58_42, g58_43, g58_44, g58_45, g58_51, g58_52, g58_55, g58_58, g58_59, g58_60, Option.toList_some, Option.toList_none, List.cons_append, List.nil_append, true_and, and_true, true_or, or_true, eq_self, ci0, ci1, cin6, forall_const, not_true_eq_false, not_false_eq_true, fimp, timp, i10, i01, cm_rne, and_assoc, x0, q0]
  refine c58_5 (by decide) cs (p_holds xc b1 hv.1 hi (fun h1 => ?_) (fun h1 => ?_)) <;> simp (disch := omega) only [g58_0, g58_1, g58_4, g58_8, g58_11, g58_12, g58_13, g58_17, g58_20, g58_22, g58_23, g58_24, g58_27, g58_28, g58_34, g58_35, g58_38, g58_41, g58_42, g58_43, g58_44, g58_45, g58_51, g58_52, g58_55, g58_58, g58_59, g58_60, Option.toList_some, Option.toList_none, List.cons_append, List.nil_append, true_and, and_true, true_or, or_true, eq_self, ci0, ci1, cin6, forall_const, not_true_eq_false, not_false_eq_true, fimp, timp, i10, i01, cm_rne, and_assoc]
  · rw [ite'_p h1] at K
    refine c58_14 (by decide) (p_isSpeed hw (fun h2 => ?_) (fun h2 => ?_)) <;> simp (disch := omega) only [g58_0, g58_1, g58_4, g58_8, g58_11, g58_12, g58_13, g58_17, g58_20, g58_22, g58_23, g58_24, g58_27, g58_28, g58_34, g58_35, g58_38, g58_41, g58_42, g58_43, g58_44, g58_45, g58_51, g58_52, g58_55, g58_58, g58_59, g58_60, Option.toList_some, Option.toList_none, List.cons_append, List.nil_append, true_and, and_true, true_or, or_true, eq_self, ci0, ci1, cin6, forall_const, not_true_eq_false, not_false_eq_true, fimp, timp, i10, i01, cm_rne, and_assoc, x0, q0, q2]
    · rw [ite'_p h2] at K
      have hvs : vS (sSet (aS A) 1 v) := vS_set hv.1 ⟨by omega, by rw [if_neg (by omega)]; exact h2.1, by rw [if_neg (by omega), if_pos rfl]; exact h2.2⟩
      refine c58_31 (by decide) ts (p_takeFrom xt' xc b1 (by omega) ⟨hn0, hn⟩ (fun M1 r1 f1 => ?_))
      simp (disch := omega) only [g58_0, g58_1, g58_4, g58_8, g58_11, g58_12, g58_13, g58_17, g58_20, g58_22, g58_23, g58_24, g58_27, g58_28, g58_34, g58_35, g58_38, g58_41, g58_42, g58_43, g58_44, g58_45, g58_51, g58_52, g58_55, g58_58, g58_59, g58_60, Option.toList_some, Option.toList_none, List.cons_append, List.nil_append, true_and, and_true, true_or, or_true, eq_self, ci0, ci1, cin6, forall_const, not_true_eq_false, not_false_eq_true, fimp, timp, i10, i01, cm_rne, and_assoc, x0, q2, q3, ts, tf0, ta0]
      (repeat' apply And.intro) <;> (try omega) <;> (try (intro hx; exfalso; omega))
      have r2 := rC_set (i := 1) (v := v) r1
      refine c58_48 (by decide) us (p_follow xu' hvs r2 (fun M2 fo _ f2 => ?_))
      have ff : fr M M2 14 26 := ((f1.wd (by omega) (by omega)).tr (fun k hk => cm_rne (by omega))).tr (f2.wd (by omega) (by omega))
      obtain ⟨k1, k2⟩ := rXA_q hA' ff
      have K1 := K M2 k1 k2
      simp (disch := omega) only [g58_0, g58_1, g58_4, g58_8, g58_11, g58_12, g58_13, g58_17, g58_20, g58_22, g58_23, g58_24, g58_27, g58_28, g58_34, g58_35, g58_38, g58_41, g58_42, g58_43, g58_44, g58_45, g58_51, g58_52, g58_55, g58_58, g58_59, g58_60, Option.toList_some, Option.toList_none, List.cons_append, List.nil_append, true_and, and_true, true_or, or_true, eq_self, ci0, ci1, cin6, forall_const, not_true_eq_false, not_false_eq_true, fimp, timp, i10, i01, cm_rne, and_assoc, x0, q3, us, e3, ka3, (fo.1 i h1.1 h1.2).2.2]
      (repeat' apply And.intro) <;> (try omega) <;> (try (intro hx; exfalso; omega))
    · rw [ite'_n h2] at K
      exact K M hA' fr.rf
  · rw [ite'_n h1] at K
    exact K M hA' fr.rf
theorem p_blame (hX : isX G) (hA : rXA M A) (hv : vA A) (hw : cm_in w) (K : ∀ M', rXA M' A → fr M M' 0 81 → Q (some (0, xBlame (aS A) w)) G M') : Go 56 0 [some (2, 0), some (0, w), none, none, none, none, none] [] G M Q := by
  obtain ⟨x0, ⟨q0, q1, q2, q3, q4, q5, q6⟩, xc, xk, xt, xu, xp, xh, xl⟩ := hX
  have xt' := xt
  obtain ⟨t0, ts, ⟨tf0, tf1, tf2, tf3, tf4⟩, ta0, ta1, ta2, ta3, ta4⟩ := xt
  have us := xu.2.1
  have hA' := hA
  obtain ⟨b1, b2, b3, b4, b5⟩ := hA
  have hn := hv.1.2.1
  have hn0 := hv.1.1
  unfold xBlame at K
  simp (disch := omega) only [g56_0, g56_1, g56_2, g56_6, g56_9, g56_11, g56_12, g56_13, g56_16, g56_17, g56_23, g56_25, g56_26, g56_28, g56_29, g56_30, g56_34, g56_35, g56_38, g56_41, g56_44, g56_45, g56_48, g56_51, g56_53, g56_54, g56_56, g56_58, g56_61, g56_62, g56_65, g56_68, g56_70, g56_71, g56_72, g56_73, g56_79, g56_80, g56_86, g56_88, g56_89, g56_91, g56_94, g56_96, g56_97, g56_100, g56_102, g56_103, g56_105, g56_106, g56_107, g56_110, g56_113, g56_115, g56_117, g56_118, g56_121, g56_124, g56_125, g56_128, g56_129, g56_132, g56_133, Option.toList_some, Option.toList_none, List.cons_append, List.nil_append, true_and, and_true, true_or, or_true, eq_self, ci0, ci1, cin6, forall_const, not_true_eq_false, not_false_eq_true, fimp, timp, i10, i01, cm_rne, and_assoc]
  refine c56_3 (Nat.le_of_ble_eq_true rfl) (p_isWithin hw cn0 cn1 (fun h1 => ?_) (fun h1 => ?_)) <;> simp (disch := omega) only [g56_0, g56_1, g56_2, g56_6, g56_9, g56_11, g56_12, g56_13, g56_16, g56_17, g56_23, g56_25, g56_26, g56_28, g56_29, g56_30, g56_34, g56_35, g56_38, g56_41, g56_44, g56_45, g56_48, g56_51, g56_53, g56_54, g56_56, g56_58, g56_61, g56_62, g56_65, g56_68, g56_70, g56_71, g56_72, g56_73, g56_79, g56_80, g56_86, g56_88, g56_89, g56_91, g56_94, g56_96, g56_97, g56_100, g56_102, g56_103, g56_105, g56_106, g56_107, g56_110, g56_113, g56_115, g56_117, g56_118, g56_121, g56_124, g56_125, g56_128, g56_129, g56_132, g56_133, Option.toList_some, Option.toList_none, List.cons_append, List.nil_append, true_and, and_true, true_or, or_true, eq_self, ci0, ci1, cin6, forall_const, not_true_eq_false, not_false_eq_true, fimp, timp, i10, i01, cm_rne, and_assoc, x0, q0, q2]
  · rw [ite'_p h1] at K
    refine c56_20 (by decide) ts (p_takeFrom xt' xc b1 (by omega) ⟨hn0, hn⟩ (fun M1 r1 f1 => ?_))
    simp (disch := omega) only [g56_0, g56_1, g56_2, g56_6, g56_9, g56_11, g56_12, g56_13, g56_16, g56_17, g56_23, g56_25, g56_26, g56_28, g56_29, g56_30, g56_34, g56_35, g56_38, g56_41, g56_44, g56_45, g56_48, g56_51, g56_53, g56_54, g56_56, g56_58, g56_61, g56_62, g56_65, g56_68, g56_70, g56_71, g56_72, g56_73, g56_79, g56_80, g56_86, g56_88, g56_89, g56_91, g56_94, g56_96, g56_97, g56_100, g56_102, g56_103, g56_105, g56_106, g56_107, g56_110, g56_113, g56_115, g56_117, g56_118, g56_121, g56_124, g56_125, g56_128, g56_129, g56_132, g56_133, Option.toList_some, Option.toList_none, List.cons_append, List.nil_append, true_and, and_true, true_or, or_true, eq_self, ci0, ci1, cin6, forall_const, not_true_eq_false, not_false_eq_true, fimp, timp, i10, i01, cm_rne, and_assoc]
    refine go_loop (σ := Option cm_V × Option cm_V × cm_M) (fun i s => [some (2, 0), some (0, w), some (0, (fP (bstep (aS A)) (-6, -6) i.toNat).1), some (0, (fP (bstep (aS A)) (-6, -6) i.toNat).2), some (0, i), s.1, s.2.1]) (fun s => s.2.2) (fun i s => fr M s.2.2 14 26 ∧ rC s.2.2 15 (aS A)) (sN (aS A)) (fun i s hi0 hin hRs ih => ?_) (fun s hRs => ?_) 0 (none, none, M1) (by omega) hn0 ⟨f1.wd (by omega) (by omega), r1⟩
    · obtain ⟨x5, x6, s⟩ := s
      obtain ⟨u2, u3⟩ := hRs
      dsimp only at u2 u3 ⊢
      have wv := hv.1.2.2.2.2.2 i hi0 hin
      have hbb := bstep_b hv.1 i.toNat
      have stp : fP (bstep (aS A)) (-6, -6) (i + 1).toNat = bstep (aS A) i (fP (bstep (aS A)) (-6, -6) i.toNat) := fP_s _ _ hi0
      rw [stp] at ih
      generalize fP (bstep (aS A)) (-6, -6) i.toNat = p at *
      unfold bstep at ih
      have hvc : vS (sCue (aS A) i 0) := cue0 hv.1
      have hsb := sprA_b hvc
      rw [g56_32]
      simp (disch := omega) only [g56_0, g56_1, g56_2, g56_6, g56_9, g56_11, g56_12, g56_13, g56_16, g56_17, g56_23, g56_25, g56_26, g56_28, g56_29, g56_30, g56_34, g56_35, g56_38, g56_41, g56_44, g56_45, g56_48, g56_51, g56_53, g56_54, g56_56, g56_58, g56_61, g56_62, g56_65, g56_68, g56_70, g56_71, g56_72, g56_73, g56_79, g56_80, g56_86, g56_88, g56_89, g56_91, g56_94, g56_96, g56_97, g56_100, g56_102, g56_103, g56_105, g56_106, g56_107, g56_110, g56_113, g56_115, g56_117, g56_118, g56_121, g56_124, g56_125, g56_128, g56_129, g56_132, g56_133, Option.toList_some, Option.toList_none, List.cons_append, List.nil_append, true_and, and_true, true_or, or_true, eq_self, ci0, ci1, cin6, forall_const, not_true_eq_false, not_false_eq_true, fimp, timp, i10, i01, cm_rne, and_assoc, x0, q2, q3, ts, tf4, ta4, u3.1, (u3.2.2 i hi0 hin).2.2.2]
      (repeat' apply And.intro) <;> (try omega) <;> (try (intro hx; exfalso; omega))
      intro _
      (repeat' apply And.intro) <;> (try omega) <;> (try (intro hx; exfalso; omega))
      · intro hz
        rw [if_pos hz] at ih
        exact ih (_, _, s) ⟨u2, u3⟩
      · intro hz
        rw [if_neg hz] at ih
        (repeat' apply And.intro) <;> (try omega) <;> (try (intro hx; exfalso; omega))
        have hR1 : rC (cm_up s (15 + 5) i 0) 15 (sCue (aS A) i 0) := rC_cue u3
        refine c56_76 (by decide) us (p_follow xu hvc hR1 (fun M2 fo hR2 f2 => ?_))
        have hR3 : rC (cm_up M2 (15 + 5) i (sC (aS A) i)) 15 (aS A) := rC_eq (rC_cue hR2) eqS_cueB
        have fs : fr M (cm_up M2 (15 + 5) i (sC (aS A) i)) 14 26 := ((u2.tr (fun k hk => cm_rne (by omega))).tr (f2.wd (by omega) (by omega))).tr (fun k hk => cm_rne (by omega))
        simp (disch := omega) only [g56_0, g56_1, g56_2, g56_6, g56_9, g56_11, g56_12, g56_13, g56_16, g56_17, g56_23, g56_25, g56_26, g56_28, g56_29, g56_30, g56_34, g56_35, g56_38, g56_41, g56_44, g56_45, g56_48, g56_51, g56_53, g56_54, g56_56, g56_58, g56_61, g56_62, g56_65, g56_68, g56_70, g56_71, g56_72, g56_73, g56_79, g56_80, g56_86, g56_88, g56_89, g56_91, g56_94, g56_96, g56_97, g56_100, g56_102, g56_103, g56_105, g56_106, g56_107, g56_110, g56_113, g56_115, g56_117, g56_118, g56_121, g56_124, g56_125, g56_128, g56_129, g56_132, g56_133, Option.toList_some, Option.toList_none, List.cons_append, List.nil_append, true_and, and_true, true_or, or_true, eq_self, ci0, ci1, cin6, forall_const, not_true_eq_false, not_false_eq_true, fimp, timp, i10, i01, cm_rne, and_assoc, x0, q3]
        refine c56_83 (by decide) us (p_spreadsInAll xu hvc hR2 fo ?_)
        simp (disch := omega) only [g56_0, g56_1, g56_2, g56_6, g56_9, g56_11, g56_12, g56_13, g56_16, g56_17, g56_23, g56_25, g56_26, g56_28, g56_29, g56_30, g56_34, g56_35, g56_38, g56_41, g56_44, g56_45, g56_48, g56_51, g56_53, g56_54, g56_56, g56_58, g56_61, g56_62, g56_65, g56_68, g56_70, g56_71, g56_72, g56_73, g56_79, g56_80, g56_86, g56_88, g56_89, g56_91, g56_94, g56_96, g56_97, g56_100, g56_102, g56_103, g56_105, g56_106, g56_107, g56_110, g56_113, g56_115, g56_117, g56_118, g56_121, g56_124, g56_125, g56_128, g56_129, g56_132, g56_133, Option.toList_some, Option.toList_none, List.cons_append, List.nil_append, true_and, and_true, true_or, or_true, eq_self, ci0, ci1, cin6, forall_const, not_true_eq_false, not_false_eq_true, fimp, timp, i10, i01, cm_rne, and_assoc, x0, q2, ts, tf4, ta4]
        (repeat' apply And.intro) <;> (try omega) <;> (try (intro hx; exfalso; omega))
        · intro h6
          rw [if_pos (Or.inl h6)] at ih
          (repeat' apply And.intro) <;> (try omega) <;> (try (intro hx; exfalso; omega))
          exact ih (_, _, _) ⟨fs, hR3⟩
        · intro h6
          (repeat' apply And.intro) <;> (try omega) <;> (try (intro hx; exfalso; omega))
          · intro h7
            rw [if_neg (by omega)] at ih
            (repeat' apply And.intro) <;> (try omega) <;> (try (intro hx; exfalso; omega))
            exact ih (_, _, _) ⟨fs, hR3⟩
          · intro h7
            rw [if_pos (Or.inr h7)] at ih
            (repeat' apply And.intro) <;> (try omega) <;> (try (intro hx; exfalso; omega))
            exact ih (_, _, _) ⟨fs, hR3⟩
    · obtain ⟨x5, x6, s⟩ := s
      obtain ⟨u2, u3⟩ := hRs
      dsimp only at u2 u3 ⊢
      obtain ⟨k1, k2⟩ := rXA_q hA' u2
      have K1 := K s k1 k2
      rw [g56_32]
      simp (disch := omega) only [g56_0, g56_1, g56_2, g56_6, g56_9, g56_11, g56_12, g56_13, g56_16, g56_17, g56_23, g56_25, g56_26, g56_28, g56_29, g56_30, g56_34, g56_35, g56_38, g56_41, g56_44, g56_45, g56_48, g56_51, g56_53, g56_54, g56_56, g56_58, g56_61, g56_62, g56_65, g56_68, g56_70, g56_71, g56_72, g56_73, g56_79, g56_80, g56_86, g56_88, g56_89, g56_91, g56_94, g56_96, g56_97, g56_100, g56_102, g56_103, g56_105, g56_106, g56_107, g56_110, g56_113, g56_115, g56_117, g56_118, g56_121, g56_124, g56_125, g56_128, g56_129, g56_132, g56_133, Option.toList_some, Option.toList_none, List.cons_append, List.nil_append, true_and, and_true, true_or, or_true, eq_self, ci0, ci1, cin6, forall_const, not_true_eq_false, not_false_eq_true, fimp, timp, i10, i01, cm_rne, and_assoc, x0, q2, ts, u3.1]
      (repeat' apply And.intro) <;> (try omega) <;> (try (intro hx; exfalso; omega))
      intro _
      (repeat' apply And.intro) <;> (try omega) <;> (try (intro hx; exfalso; omega))
      · intro hz
        rw [if_neg hz] at K1
        exact K1
      · intro hz
        rw [if_pos hz] at K1
        exact K1
  · rw [ite'_n h1] at K
    exact K M hA' fr.rf
theorem p_speedFor (hX : isX G) (hA : rXA M A) (hv : vA A) (ht : cm_in t) (K : ∀ M', rXA M' A → fr M M' 0 81 → Q (some (0, xFor (aS A) t)) G M') : Go 57 0 [some (2, 0), some (0, t), none] [] G M Q := by
  obtain ⟨x0, ⟨q0, q1, q2, q3, q4, q5, q6⟩, xc, xk, xt, xu, xp, xh, xl⟩ := hX
  have xt' := xt
  obtain ⟨t0, ts, ⟨tf0, tf1, tf2, tf3, tf4⟩, ta0, ta1, ta2, ta3, ta4⟩ := xt
  have us := xu.2.1
  have hA' := hA
  obtain ⟨b1, b2, b3, b4, b5⟩ := hA
  have hn := hv.1.2.1
  have hn0 := hv.1.1
  unfold xFor at K
  simp (disch := omega) only [g57_0, g57_1, g57_2, g57_8, g57_11, g57_13, g57_14, g57_15, g57_18, g57_19, g57_25, g57_26, g57_32, g57_34, g57_36, g57_37, g57_40, g57_41, g57_44, g57_47, g57_48, g57_49, g57_50, g57_51, g57_57, g57_58, g57_61, g57_65, g57_68, g57_69, g57_70, g57_73, g57_76, g57_78, Option.toList_some, Option.toList_none, List.cons_append, List.nil_append, true_and, and_true, true_or, or_true, eq_self, ci0, ci1, cin6, forall_const, not_true_eq_false, not_false_eq_true, fimp, timp, i10, i01, cm_rne, and_assoc]
  refine c57_5 (Nat.le_of_ble_eq_true rfl) (p_isWithin ht cn1 ⟨by decide, by decide⟩ (fun h1 => ?_) (fun h1 => ?_)) <;> simp (disch := omega) only [g57_0, g57_1, g57_2, g57_8, g57_11, g57_13, g57_14, g57_15, g57_18, g57_19, g57_25, g57_26, g57_32, g57_34, g57_36, g57_37, g57_40, g57_41, g57_44, g57_47, g57_48, g57_49, g57_50, g57_51, g57_57, g57_58, g57_61, g57_65, g57_68, g57_69, g57_70, g57_73, g57_76, g57_78, Option.toList_some, Option.toList_none, List.cons_append, List.nil_append, true_and, and_true, true_or, or_true, eq_self, ci0, ci1, cin6, forall_const, not_true_eq_false, not_false_eq_true, fimp, timp, i10, i01, cm_rne, and_assoc, x0, q0, q2]
  · rw [ite'_p h1] at K
    refine c57_22 (by decide) ts (p_takeFrom xt' xc b1 (by omega) ⟨hn0, hn⟩ (fun M1 r1 f1 => ?_))
    simp (disch := omega) only [g57_0, g57_1, g57_2, g57_8, g57_11, g57_13, g57_14, g57_15, g57_18, g57_19, g57_25, g57_26, g57_32, g57_34, g57_36, g57_37, g57_40, g57_41, g57_44, g57_47, g57_48, g57_49, g57_50, g57_51, g57_57, g57_58, g57_61, g57_65, g57_68, g57_69, g57_70, g57_73, g57_76, g57_78, Option.toList_some, Option.toList_none, List.cons_append, List.nil_append, true_and, and_true, true_or, or_true, eq_self, ci0, ci1, cin6, forall_const, not_true_eq_false, not_false_eq_true, fimp, timp, i10, i01, cm_rne, and_assoc, x0, q2]
    refine c57_29 (by decide) ts (p_dropCues xt' r1 hv.1 (fun M2 r2 f2 => ?_))
    have f12 : fr M M2 14 26 := (f1.wd (by omega) (by omega)).tr (f2.wd (by omega) (by omega))
    simp (disch := omega) only [g57_0, g57_1, g57_2, g57_8, g57_11, g57_13, g57_14, g57_15, g57_18, g57_19, g57_25, g57_26, g57_32, g57_34, g57_36, g57_37, g57_40, g57_41, g57_44, g57_47, g57_48, g57_49, g57_50, g57_51, g57_57, g57_58, g57_61, g57_65, g57_68, g57_69, g57_70, g57_73, g57_76, g57_78, Option.toList_some, Option.toList_none, List.cons_append, List.nil_append, true_and, and_true, true_or, or_true, eq_self, ci0, ci1, cin6, forall_const, not_true_eq_false, not_false_eq_true, fimp, timp, i10, i01, cm_rne, and_assoc]
    refine go_loopD (σ := cm_M) (fun v _ => [some (2, 0), some (0, t), some (0, v)]) (fun s => s) (fun v s => v ≤ 30 ∧ fr M s 14 26 ∧ (∃ c, rC s 15 (sFast (aS A) c)) ∧ ∀ x, v < x → x ≤ 30 → ¬ shows (sFast (aS A) x) t) 0 (fun v s hi0 hRs ih => ?_) (fun s hRs => ?_) 30 M2 (by omega) ⟨by omega, f12, ⟨sT (aS A) 1, rC_eq r2 ⟨rfl, fun j _ _ => ?_, fun j _ _ => ⟨rfl, rfl, rfl, rfl⟩⟩⟩, fun x a b => absurd a (by omega)⟩
    · obtain ⟨w1, w2, ⟨c, w3⟩, w5⟩ := hRs
      have hvf := vS_fast hv.1 (v := v) (by omega)
      have hR3 : rC (cm_up s (15 + 1) 1 v) 15 (sFast (aS A) v) := by
        refine rC_eq (rC_set (i := 1) (v := v) w3) ⟨rfl, fun j a b => ?_, fun j a b => ⟨rfl, rfl, rfl, rfl⟩⟩
        show (if j = 1 then v else if j = 1 then c else sT (aS A) j) = if j = 1 then v else sT (aS A) j
        omega
      rw [g57_35]
      simp (disch := omega) only [g57_0, g57_1, g57_2, g57_8, g57_11, g57_13, g57_14, g57_15, g57_18, g57_19, g57_25, g57_26, g57_32, g57_34, g57_36, g57_37, g57_40, g57_41, g57_44, g57_47, g57_48, g57_49, g57_50, g57_51, g57_57, g57_58, g57_61, g57_65, g57_68, g57_69, g57_70, g57_73, g57_76, g57_78, Option.toList_some, Option.toList_none, List.cons_append, List.nil_append, true_and, and_true, true_or, or_true, eq_self, ci0, ci1, cin6, forall_const, not_true_eq_false, not_false_eq_true, fimp, timp, i10, i01, cm_rne, and_assoc, x0, q2, q3, ts, tf0, ta0]
      (repeat' apply And.intro) <;> (try omega) <;> (try (intro hx; exfalso; omega))
      intro _
      (repeat' apply And.intro) <;> (try omega) <;> (try (intro hx; exfalso; omega))
      refine c57_54 (by decide) us (p_follow xu hvf hR3 (fun M3 fo hR4 f3 => ?_))
      have fs : fr M M3 14 26 := (w2.tr (fun k hk => cm_rne (by omega))).tr (f3.wd (by omega) (by omega))
      simp (disch := omega) only [g57_0, g57_1, g57_2, g57_8, g57_11, g57_13, g57_14, g57_15, g57_18, g57_19, g57_25, g57_26, g57_32, g57_34, g57_36, g57_37, g57_40, g57_41, g57_44, g57_47, g57_48, g57_49, g57_50, g57_51, g57_57, g57_58, g57_61, g57_65, g57_68, g57_69, g57_70, g57_73, g57_76, g57_78, Option.toList_some, Option.toList_none, List.cons_append, List.nil_append, true_and, and_true, true_or, or_true, eq_self, ci0, ci1, cin6, forall_const, not_true_eq_false, not_false_eq_true, fimp, timp, i10, i01, cm_rne, and_assoc, x0, q3]
      refine c57_62 (by decide) us (p_showsNamesFor xu hvf hR4 fo ht (fun hz => ?_) (fun hz => ?_)) <;> simp (disch := omega) only [g57_0, g57_1, g57_2, g57_8, g57_11, g57_13, g57_14, g57_15, g57_18, g57_19, g57_25, g57_26, g57_32, g57_34, g57_36, g57_37, g57_40, g57_41, g57_44, g57_47, g57_48, g57_49, g57_50, g57_51, g57_57, g57_58, g57_61, g57_65, g57_68, g57_69, g57_70, g57_73, g57_76, g57_78, Option.toList_some, Option.toList_none, List.cons_append, List.nil_append, true_and, and_true, true_or, or_true, eq_self, ci0, ci1, cin6, forall_const, not_true_eq_false, not_false_eq_true, fimp, timp, i10, i01, cm_rne, and_assoc]
      · obtain ⟨k1, k2⟩ := rXA_q hA' fs
        have K1 := K M3 k1 k2
        have e : v = lstOf (fun v => 1 ≤ v ∧ shows (sFast (aS A) v) t) 31 := lstOf_e (Or.inl ⟨by omega, by omega, ⟨by omega, hz⟩, fun j a b c => w5 j a (by omega) c.2⟩)
        rw [e]
        exact K1
      · refine ih M3 ⟨by omega, fs, ⟨v, hR4⟩, fun x a b c => ?_⟩
        by_cases hx : x = v
        · rw [hx] at c; exact hz c
        · exact w5 x (by omega) b c
    · obtain ⟨w1, w2, w3, w5⟩ := hRs
      obtain ⟨k1, k2⟩ := rXA_q hA' w2
      have K1 := K s k1 k2
      have e : -6 = lstOf (fun v => 1 ≤ v ∧ shows (sFast (aS A) v) t) 31 := lstOf_e (Or.inr ⟨rfl, fun j a b c => w5 j (by omega) (by omega) c.2⟩)
      rw [← e] at K1
      rw [g57_35]
      simp (disch := omega) only [g57_0, g57_1, g57_2, g57_8, g57_11, g57_13, g57_14, g57_15, g57_18, g57_19, g57_25, g57_26, g57_32, g57_34, g57_36, g57_37, g57_40, g57_41, g57_44, g57_47, g57_48, g57_49, g57_50, g57_51, g57_57, g57_58, g57_61, g57_65, g57_68, g57_69, g57_70, g57_73, g57_76, g57_78, Option.toList_some, Option.toList_none, List.cons_append, List.nil_append, true_and, and_true, true_or, or_true, eq_self, ci0, ci1, cin6, forall_const, not_true_eq_false, not_false_eq_true, fimp, timp, i10, i01, cm_rne, and_assoc]
      (repeat' apply And.intro) <;> (try omega) <;> (try (intro hx; exfalso; omega))
      exact fun _ => K1
    · show sT (aS A) j = if j = 1 then sT (aS A) 1 else sT (aS A) j
      by_cases hj : j = 1
      · rw [if_pos hj, hj]
      · rw [if_neg hj]
  · rw [ite'_n h1] at K
    exact K M hA' fr.rf
end CLASS4
