/-! ===== the class: what if ===== -/
section CLASS4
variable {G : cm_G} {M : cm_M} {c i j t v w g h s n k u a b : Int} {S : sS} {A : sA} {H : Int → sS} {Q : Option cm_V → cm_G → cm_M → Prop}
theorem rC_set {M : cm_M} (hR : rC M c S) : rC (cm_up M (c + 1) i v) c (sSet S i v) := by
  obtain ⟨w1, w2, w3⟩ := hR
  refine ⟨by rw [cm_rne (by omega)]; exact w1, fun j a b => ?_, fun j a b => ?_⟩
  · rw [cm_req]
    show (if j = i then v else M (c + 1) j) = if j = i then v else sT S j
    by_cases hj : j = i
    · rw [if_pos hj, if_pos hj]
    · rw [if_neg hj, if_neg hj]; exact w2 j a b
  · rw [cm_rne (by omega), cm_rne (by omega), cm_rne (by omega), cm_rne (by omega)]
    exact w3 j a b
theorem p_seenIf (hX : isX G) (hA : rXA M A) (hv : vA A) (hi : cm_in i) (hw : cm_in v) (K : ∀ M', rXA M' A → fr M M' 0 81 → Q (some (0, xIf (aS A) i v)) G M') : Go 70 0 [some (2, 0), some (0, i), some (0, v)] [] G M Q := by
  obtain ⟨x0, ⟨q0, q1, q2, q3, q4, q5, q6⟩, xc, xk, xt, xu, xp, xh, xl⟩ := hX
  have cs := xc.2.1
  have xt' := xt
  have xu' := xu
  obtain ⟨t0, ts, ⟨tf0, tf1, tf2, tf3, tf4⟩, ta0, ta1, ta2, ta3, ta4⟩ := xt
  obtain ⟨u0, us, ⟨e0, e1, e2, e3, e5, e6, e7⟩, ⟨ka1, ka2, ka3, ka4, ka5, ka6⟩, -, -⟩ := xu
  have hA' := hA
  obtain ⟨b1, b2, b3, b4, b5⟩ := hA
  have hn := hv.1.2.1
  have hn0 := hv.1.1
  unfold xIf at K
  simp (disch := omega) only [g70_0, g70_1, g70_4, g70_8, g70_11, g70_12, g70_13, g70_17, g70_20, g70_22, g70_23, g70_24, g70_27, g70_28, g70_34, g70_35, g70_38, g70_41, g70_42, g70_43, g70_44, g70_45, g70_51, g70_52, g70_55, g70_58, g70_59, g70_60, Option.toList_some, Option.toList_none, List.cons_append, List.nil_append, true_and, and_true, true_or, or_true, eq_self, ci0, ci1, cin6, forall_const, not_true_eq_false, not_false_eq_true, fimp, timp, i10, i01, cm_rne, and_assoc, x0, q0]
  refine c70_5 (by decide) cs (p_holds xc b1 hv.1 hi (fun h1 => ?_) (fun h1 => ?_)) <;> simp (disch := omega) only [g70_0, g70_1, g70_4, g70_8, g70_11, g70_12, g70_13, g70_17, g70_20, g70_22, g70_23, g70_24, g70_27, g70_28, g70_34, g70_35, g70_38, g70_41, g70_42, g70_43, g70_44, g70_45, g70_51, g70_52, g70_55, g70_58, g70_59, g70_60, Option.toList_some, Option.toList_none, List.cons_append, List.nil_append, true_and, and_true, true_or, or_true, eq_self, ci0, ci1, cin6, forall_const, not_true_eq_false, not_false_eq_true, fimp, timp, i10, i01, cm_rne, and_assoc]
  · rw [ite'_p h1] at K
    refine c70_14 (by decide) (p_isSpeed hw (fun h2 => ?_) (fun h2 => ?_)) <;> simp (disch := omega) only [g70_0, g70_1, g70_4, g70_8, g70_11, g70_12, g70_13, g70_17, g70_20, g70_22, g70_23, g70_24, g70_27, g70_28, g70_34, g70_35, g70_38, g70_41, g70_42, g70_43, g70_44, g70_45, g70_51, g70_52, g70_55, g70_58, g70_59, g70_60, Option.toList_some, Option.toList_none, List.cons_append, List.nil_append, true_and, and_true, true_or, or_true, eq_self, ci0, ci1, cin6, forall_const, not_true_eq_false, not_false_eq_true, fimp, timp, i10, i01, cm_rne, and_assoc, x0, q0, q2]
    · rw [ite'_p h2] at K
      have hvs : vS (sSet (aS A) 1 v) := vS_set hv.1 ⟨by omega, by rw [if_neg (by omega)]; exact h2.1, by rw [if_neg (by omega), if_pos rfl]; exact h2.2⟩
      refine c70_31 (by decide) ts (p_takeFrom xt' xc b1 (by omega) ⟨hn0, hn⟩ (fun M1 r1 f1 => ?_))
      simp (disch := omega) only [g70_0, g70_1, g70_4, g70_8, g70_11, g70_12, g70_13, g70_17, g70_20, g70_22, g70_23, g70_24, g70_27, g70_28, g70_34, g70_35, g70_38, g70_41, g70_42, g70_43, g70_44, g70_45, g70_51, g70_52, g70_55, g70_58, g70_59, g70_60, Option.toList_some, Option.toList_none, List.cons_append, List.nil_append, true_and, and_true, true_or, or_true, eq_self, ci0, ci1, cin6, forall_const, not_true_eq_false, not_false_eq_true, fimp, timp, i10, i01, cm_rne, and_assoc, x0, q2, q3, ts, tf0, ta0]
      (repeat' apply And.intro) <;> (try omega) <;> (try (intro hx; exfalso; omega))
      have r2 := rC_set (i := 1) (v := v) r1
      refine c70_48 (by decide) us (p_follow xu' hvs r2 (fun M2 fo _ f2 => ?_))
      have ff : fr M M2 14 26 := ((f1.wd (by omega) (by omega)).tr (fun k hk => cm_rne (by omega))).tr (f2.wd (by omega) (by omega))
      obtain ⟨k1, k2⟩ := rXA_q hA' ff
      have K1 := K M2 k1 k2
      simp (disch := omega) only [g70_0, g70_1, g70_4, g70_8, g70_11, g70_12, g70_13, g70_17, g70_20, g70_22, g70_23, g70_24, g70_27, g70_28, g70_34, g70_35, g70_38, g70_41, g70_42, g70_43, g70_44, g70_45, g70_51, g70_52, g70_55, g70_58, g70_59, g70_60, Option.toList_some, Option.toList_none, List.cons_append, List.nil_append, true_and, and_true, true_or, or_true, eq_self, ci0, ci1, cin6, forall_const, not_true_eq_false, not_false_eq_true, fimp, timp, i10, i01, cm_rne, and_assoc, x0, q3, us, e3, ka3, (fo.1 i h1.1 h1.2).2.2]
      (repeat' apply And.intro) <;> (try omega) <;> (try (intro hx; exfalso; omega))
    · rw [ite'_n h2] at K
      exact K M hA' fr.rf
  · rw [ite'_n h1] at K
    exact K M hA' fr.rf
theorem p_bestCue (hX : isX G) (hA : rXA M A) (hv : vA A) (hi : cm_in i) (hg : cm_in g) (hw : cm_in w) (K : ∀ M', rXA M' A → fr M M' 0 81 → Q (some (0, xBest (aS A) i g w)) G M') : Go 71 0 [some (2, 0), some (0, i), some (0, g), some (0, w), none, none, none, none] [] G M Q := by
  obtain ⟨x0, ⟨q0, q1, q2, q3, q4, q5, q6⟩, xc, xk, xt, xu, xp, xh, xl⟩ := hX
  have cs := xc.2.1
  have xt' := xt
  obtain ⟨t0, ts, ⟨tf0, tf1, tf2, tf3, tf4⟩, ta0, ta1, ta2, ta3, ta4⟩ := xt
  have us := xu.2.1
  have hA' := hA
  obtain ⟨b1, b2, b3, b4, b5⟩ := hA
  have hn := hv.1.2.1
  have hn0 := hv.1.1
  unfold xBest at K
  simp (disch := omega) only [g71_0, g71_1, g71_4, g71_8, g71_11, g71_12, g71_13, g71_17, g71_20, g71_21, g71_22, g71_26, g71_29, g71_31, g71_32, g71_33, g71_36, g71_37, g71_43, g71_45, g71_47, g71_49, g71_51, g71_53, g71_57, g71_58, g71_61, g71_62, g71_65, g71_68, g71_69, g71_71, g71_72, g71_73, g71_79, g71_80, g71_83, g71_87, g71_89, g71_91, g71_93, g71_96, g71_98, g71_100, g71_103, g71_105, g71_107, g71_109, g71_111, g71_114, g71_117, g71_118, g71_121, g71_123, g71_126, g71_128, Option.toList_some, Option.toList_none, List.cons_append, List.nil_append, true_and, and_true, true_or, or_true, eq_self, ci0, ci1, cin6, forall_const, not_true_eq_false, not_false_eq_true, fimp, timp, i10, i01, cm_rne, and_assoc, x0, q0]
  refine c71_5 (by decide) cs (p_holds xc b1 hv.1 hi (fun h1 => ?_) (fun h1 => ?_)) <;> simp (disch := omega) only [g71_0, g71_1, g71_4, g71_8, g71_11, g71_12, g71_13, g71_17, g71_20, g71_21, g71_22, g71_26, g71_29, g71_31, g71_32, g71_33, g71_36, g71_37, g71_43, g71_45, g71_47, g71_49, g71_51, g71_53, g71_57, g71_58, g71_61, g71_62, g71_65, g71_68, g71_69, g71_71, g71_72, g71_73, g71_79, g71_80, g71_83, g71_87, g71_89, g71_91, g71_93, g71_96, g71_98, g71_100, g71_103, g71_105, g71_107, g71_109, g71_111, g71_114, g71_117, g71_118, g71_121, g71_123, g71_126, g71_128, Option.toList_some, Option.toList_none, List.cons_append, List.nil_append, true_and, and_true, true_or, or_true, eq_self, ci0, ci1, cin6, forall_const, not_true_eq_false, not_false_eq_true, fimp, timp, i10, i01, cm_rne, and_assoc]
  · rw [ite'_p h1] at K
    refine c71_14 (by decide) (p_isGroup hg (fun h2 => ?_) (fun h2 => ?_)) <;> simp (disch := omega) only [g71_0, g71_1, g71_4, g71_8, g71_11, g71_12, g71_13, g71_17, g71_20, g71_21, g71_22, g71_26, g71_29, g71_31, g71_32, g71_33, g71_36, g71_37, g71_43, g71_45, g71_47, g71_49, g71_51, g71_53, g71_57, g71_58, g71_61, g71_62, g71_65, g71_68, g71_69, g71_71, g71_72, g71_73, g71_79, g71_80, g71_83, g71_87, g71_89, g71_91, g71_93, g71_96, g71_98, g71_100, g71_103, g71_105, g71_107, g71_109, g71_111, g71_114, g71_117, g71_118, g71_121, g71_123, g71_126, g71_128, Option.toList_some, Option.toList_none, List.cons_append, List.nil_append, true_and, and_true, true_or, or_true, eq_self, ci0, ci1, cin6, forall_const, not_true_eq_false, not_false_eq_true, fimp, timp, i10, i01, cm_rne, and_assoc]
    · refine c71_23 (Nat.le_of_ble_eq_true rfl) (p_isWithin hw cn0 cn1 (fun h3 => ?_) (fun h3 => ?_)) <;> simp (disch := omega) only [g71_0, g71_1, g71_4, g71_8, g71_11, g71_12, g71_13, g71_17, g71_20, g71_21, g71_22, g71_26, g71_29, g71_31, g71_32, g71_33, g71_36, g71_37, g71_43, g71_45, g71_47, g71_49, g71_51, g71_53, g71_57, g71_58, g71_61, g71_62, g71_65, g71_68, g71_69, g71_71, g71_72, g71_73, g71_79, g71_80, g71_83, g71_87, g71_89, g71_91, g71_93, g71_96, g71_98, g71_100, g71_103, g71_105, g71_107, g71_109, g71_111, g71_114, g71_117, g71_118, g71_121, g71_123, g71_126, g71_128, Option.toList_some, Option.toList_none, List.cons_append, List.nil_append, true_and, and_true, true_or, or_true, eq_self, ci0, ci1, cin6, forall_const, not_true_eq_false, not_false_eq_true, fimp, timp, i10, i01, cm_rne, and_assoc, x0, q0, q2]
      · rw [ite'_p ⟨h2, h3⟩] at K
        refine c71_40 (by decide) ts (p_takeFrom xt' xc b1 (by omega) ⟨hn0, hn⟩ (fun M1 r1 f1 => ?_))
        simp (disch := omega) only [g71_0, g71_1, g71_4, g71_8, g71_11, g71_12, g71_13, g71_17, g71_20, g71_21, g71_22, g71_26, g71_29, g71_31, g71_32, g71_33, g71_36, g71_37, g71_43, g71_45, g71_47, g71_49, g71_51, g71_53, g71_57, g71_58, g71_61, g71_62, g71_65, g71_68, g71_69, g71_71, g71_72, g71_73, g71_79, g71_80, g71_83, g71_87, g71_89, g71_91, g71_93, g71_96, g71_98, g71_100, g71_103, g71_105, g71_107, g71_109, g71_111, g71_114, g71_117, g71_118, g71_121, g71_123, g71_126, g71_128, Option.toList_some, Option.toList_none, List.cons_append, List.nil_append, true_and, and_true, true_or, or_true, eq_self, ci0, ci1, cin6, forall_const, not_true_eq_false, not_false_eq_true, fimp, timp, i10, i01, cm_rne, and_assoc]
        refine go_loopD (σ := Option cm_V × cm_M) (fun v s => [some (2, 0), some (0, i), some (0, g), some (0, w), some (0, (cUp (aS A) i g v).1), some (0, (cUp (aS A) i g v).2), some (0, v), s.1]) (fun s => s.2) (fun v s => v ≤ 30 ∧ fr M s.2 14 26 ∧ ∃ c, rC s.2 15 (sCue (aS A) i c)) 0 (fun v s hi0 hRs ih => ?_) (fun s hRs => ?_) 30 (none, M1) (by omega) ⟨by omega, f1.wd (by omega) (by omega), sC (aS A) i, rC_eq r1 ⟨rfl, fun j _ _ => rfl, fun j _ _ => ⟨rfl, rfl, rfl, ?_⟩⟩⟩
        · obtain ⟨x7, s⟩ := s
          obtain ⟨u1, u2, c, u3⟩ := hRs
          dsimp only at u1 u2 u3 ⊢
          have hbb := cUp_b hv.1 (i := i) (g := g) (30 - v).toNat (by omega)
          rw [show (30 : Int) - ((30 - v).toNat : Int) = v by omega] at hbb
          have stp := cUp_s (S := aS A) (i := i) (g := g) u1
          have hvc : vS (sCue (aS A) i v) := vS_cue hv.1 (by omega)
          have hsp := (spr_b hvc g).1
          rw [g71_55]
          simp (disch := omega) only [g71_0, g71_1, g71_4, g71_8, g71_11, g71_12, g71_13, g71_17, g71_20, g71_21, g71_22, g71_26, g71_29, g71_31, g71_32, g71_33, g71_36, g71_37, g71_43, g71_45, g71_47, g71_49, g71_51, g71_53, g71_57, g71_58, g71_61, g71_62, g71_65, g71_68, g71_69, g71_71, g71_72, g71_73, g71_79, g71_80, g71_83, g71_87, g71_89, g71_91, g71_93, g71_96, g71_98, g71_100, g71_103, g71_105, g71_107, g71_109, g71_111, g71_114, g71_117, g71_118, g71_121, g71_123, g71_126, g71_128, Option.toList_some, Option.toList_none, List.cons_append, List.nil_append, true_and, and_true, true_or, or_true, eq_self, ci0, ci1, cin6, forall_const, not_true_eq_false, not_false_eq_true, fimp, timp, i10, i01, cm_rne, and_assoc, x0, q2, q3, ts, tf4, ta4]
          (repeat' apply And.intro) <;> (try omega) <;> (try (intro hx; exfalso; omega))
          intro _
          (repeat' apply And.intro) <;> (try omega) <;> (try (intro hx; exfalso; omega))
          have hR1 : rC (cm_up s (15 + 5) i v) 15 (sCue (aS A) i v) := rC_eq (rC_cue u3) eqS_cue
          refine c71_76 (by decide) us (p_follow xu hvc hR1 (fun M2 fo hR2 f2 => ?_))
          have fs : fr M M2 14 26 := (u2.tr (fun k hk => cm_rne (by omega))).tr (f2.wd (by omega) (by omega))
          simp (disch := omega) only [g71_0, g71_1, g71_4, g71_8, g71_11, g71_12, g71_13, g71_17, g71_20, g71_21, g71_22, g71_26, g71_29, g71_31, g71_32, g71_33, g71_36, g71_37, g71_43, g71_45, g71_47, g71_49, g71_51, g71_53, g71_57, g71_58, g71_61, g71_62, g71_65, g71_68, g71_69, g71_71, g71_72, g71_73, g71_79, g71_80, g71_83, g71_87, g71_89, g71_91, g71_93, g71_96, g71_98, g71_100, g71_103, g71_105, g71_107, g71_109, g71_111, g71_114, g71_117, g71_118, g71_121, g71_123, g71_126, g71_128, Option.toList_some, Option.toList_none, List.cons_append, List.nil_append, true_and, and_true, true_or, or_true, eq_self, ci0, ci1, cin6, forall_const, not_true_eq_false, not_false_eq_true, fimp, timp, i10, i01, cm_rne, and_assoc, x0, q3]
          refine c71_84 (by decide) us (p_spreadOf xu hvc hR2 fo hg ?_)
          rw [stp] at ih
          generalize cUp (aS A) i g v = p at *
          unfold cstep at ih
          simp (disch := omega) only [g71_0, g71_1, g71_4, g71_8, g71_11, g71_12, g71_13, g71_17, g71_20, g71_21, g71_22, g71_26, g71_29, g71_31, g71_32, g71_33, g71_36, g71_37, g71_43, g71_45, g71_47, g71_49, g71_51, g71_53, g71_57, g71_58, g71_61, g71_62, g71_65, g71_68, g71_69, g71_71, g71_72, g71_73, g71_79, g71_80, g71_83, g71_87, g71_89, g71_91, g71_93, g71_96, g71_98, g71_100, g71_103, g71_105, g71_107, g71_109, g71_111, g71_114, g71_117, g71_118, g71_121, g71_123, g71_126, g71_128, Option.toList_some, Option.toList_none, List.cons_append, List.nil_append, true_and, and_true, true_or, or_true, eq_self, ci0, ci1, cin6, forall_const, not_true_eq_false, not_false_eq_true, fimp, timp, i10, i01, cm_rne, and_assoc]
          (repeat' apply And.intro) <;> (try omega) <;> (try (intro hx; exfalso; omega))
          · intro h6
            rw [if_pos (Or.inl h6)] at ih
            exact ih (_, M2) ⟨by omega, fs, v, hR2⟩
          · intro h6
            (repeat' apply And.intro) <;> (try omega) <;> (try (intro hx; exfalso; omega))
            · intro h7
              rw [if_neg (by omega)] at ih
              exact ih (_, M2) ⟨by omega, fs, v, hR2⟩
            · intro h7
              rw [if_pos (Or.inr h7)] at ih
              exact ih (_, M2) ⟨by omega, fs, v, hR2⟩
        · obtain ⟨x7, s⟩ := s
          obtain ⟨u1, u2, c, u3⟩ := hRs
          dsimp only at u1 u2 u3 ⊢
          obtain ⟨k1, k2⟩ := rXA_q hA' u2
          have K1 := K s k1 k2
          rw [g71_55]
          simp (disch := omega) only [g71_0, g71_1, g71_4, g71_8, g71_11, g71_12, g71_13, g71_17, g71_20, g71_21, g71_22, g71_26, g71_29, g71_31, g71_32, g71_33, g71_36, g71_37, g71_43, g71_45, g71_47, g71_49, g71_51, g71_53, g71_57, g71_58, g71_61, g71_62, g71_65, g71_68, g71_69, g71_71, g71_72, g71_73, g71_79, g71_80, g71_83, g71_87, g71_89, g71_91, g71_93, g71_96, g71_98, g71_100, g71_103, g71_105, g71_107, g71_109, g71_111, g71_114, g71_117, g71_118, g71_121, g71_123, g71_126, g71_128, Option.toList_some, Option.toList_none, List.cons_append, List.nil_append, true_and, and_true, true_or, or_true, eq_self, ci0, ci1, cin6, forall_const, not_true_eq_false, not_false_eq_true, fimp, timp, i10, i01, cm_rne, and_assoc]
          (repeat' apply And.intro) <;> (try omega) <;> (try (intro hx; exfalso; omega))
          intro _
          (repeat' apply And.intro) <;> (try omega) <;> (try (intro hx; exfalso; omega))
          · intro hz
            rw [if_neg hz] at K1
            exact K1
          · intro hz
            rw [if_pos hz] at K1
            exact K1
        · show sC (aS A) j = if j = i then sC (aS A) i else sC (aS A) j
          by_cases hj : j = i
          · rw [if_pos hj, hj]
          · rw [if_neg hj]
      · rw [ite'_n (fun z => h3 z.2)] at K
        exact K M hA' fr.rf
    · rw [ite'_n (fun z => h2 z.1)] at K
      exact K M hA' fr.rf
  · rw [ite'_n h1] at K
    exact K M hA' fr.rf
theorem p_blame (hX : isX G) (hA : rXA M A) (hv : vA A) (hw : cm_in w) (K : ∀ M', rXA M' A → fr M M' 0 81 → Q (some (0, xBlame (aS A) w)) G M') : Go 68 0 [some (2, 0), some (0, w), none, none, none, none, none] [] G M Q := by
  obtain ⟨x0, ⟨q0, q1, q2, q3, q4, q5, q6⟩, xc, xk, xt, xu, xp, xh, xl⟩ := hX
  have xt' := xt
  obtain ⟨t0, ts, ⟨tf0, tf1, tf2, tf3, tf4⟩, ta0, ta1, ta2, ta3, ta4⟩ := xt
  have us := xu.2.1
  have hA' := hA
  obtain ⟨b1, b2, b3, b4, b5⟩ := hA
  have hn := hv.1.2.1
  have hn0 := hv.1.1
  unfold xBlame at K
  simp (disch := omega) only [g68_0, g68_1, g68_2, g68_6, g68_9, g68_11, g68_12, g68_13, g68_16, g68_17, g68_23, g68_25, g68_26, g68_28, g68_29, g68_30, g68_34, g68_35, g68_38, g68_41, g68_44, g68_45, g68_48, g68_51, g68_53, g68_54, g68_56, g68_58, g68_61, g68_62, g68_65, g68_68, g68_70, g68_71, g68_72, g68_73, g68_79, g68_80, g68_86, g68_88, g68_89, g68_91, g68_94, g68_96, g68_97, g68_100, g68_102, g68_103, g68_105, g68_106, g68_107, g68_110, g68_113, g68_115, g68_117, g68_118, g68_121, g68_124, g68_125, g68_128, g68_129, g68_132, g68_133, Option.toList_some, Option.toList_none, List.cons_append, List.nil_append, true_and, and_true, true_or, or_true, eq_self, ci0, ci1, cin6, forall_const, not_true_eq_false, not_false_eq_true, fimp, timp, i10, i01, cm_rne, and_assoc]
  refine c68_3 (Nat.le_of_ble_eq_true rfl) (p_isWithin hw cn0 cn1 (fun h1 => ?_) (fun h1 => ?_)) <;> simp (disch := omega) only [g68_0, g68_1, g68_2, g68_6, g68_9, g68_11, g68_12, g68_13, g68_16, g68_17, g68_23, g68_25, g68_26, g68_28, g68_29, g68_30, g68_34, g68_35, g68_38, g68_41, g68_44, g68_45, g68_48, g68_51, g68_53, g68_54, g68_56, g68_58, g68_61, g68_62, g68_65, g68_68, g68_70, g68_71, g68_72, g68_73, g68_79, g68_80, g68_86, g68_88, g68_89, g68_91, g68_94, g68_96, g68_97, g68_100, g68_102, g68_103, g68_105, g68_106, g68_107, g68_110, g68_113, g68_115, g68_117, g68_118, g68_121, g68_124, g68_125, g68_128, g68_129, g68_132, g68_133, Option.toList_some, Option.toList_none, List.cons_append, List.nil_append, true_and, and_true, true_or, or_true, eq_self, ci0, ci1, cin6, forall_const, not_true_eq_false, not_false_eq_true, fimp, timp, i10, i01, cm_rne, and_assoc, x0, q0, q2]
  · rw [ite'_p h1] at K
    refine c68_20 (by decide) ts (p_takeFrom xt' xc b1 (by omega) ⟨hn0, hn⟩ (fun M1 r1 f1 => ?_))
    simp (disch := omega) only [g68_0, g68_1, g68_2, g68_6, g68_9, g68_11, g68_12, g68_13, g68_16, g68_17, g68_23, g68_25, g68_26, g68_28, g68_29, g68_30, g68_34, g68_35, g68_38, g68_41, g68_44, g68_45, g68_48, g68_51, g68_53, g68_54, g68_56, g68_58, g68_61, g68_62, g68_65, g68_68, g68_70, g68_71, g68_72, g68_73, g68_79, g68_80, g68_86, g68_88, g68_89, g68_91, g68_94, g68_96, g68_97, g68_100, g68_102, g68_103, g68_105, g68_106, g68_107, g68_110, g68_113, g68_115, g68_117, g68_118, g68_121, g68_124, g68_125, g68_128, g68_129, g68_132, g68_133, Option.toList_some, Option.toList_none, List.cons_append, List.nil_append, true_and, and_true, true_or, or_true, eq_self, ci0, ci1, cin6, forall_const, not_true_eq_false, not_false_eq_true, fimp, timp, i10, i01, cm_rne, and_assoc]
    refine go_loop (σ := Option cm_V × Option cm_V × cm_M) (fun i s => [some (2, 0), some (0, w), some (0, (fP (bstep (aS A)) (-6, -6) i.toNat).1), some (0, (fP (bstep (aS A)) (-6, -6) i.toNat).2), some (0, i), s.1, s.2.1]) (fun s => s.2.2) (fun i s => fr M s.2.2 14 26 ∧ rC s.2.2 15 (aS A)) (sN (aS A)) (fun i s hi0 hin hRs ih => ?_) (fun s hRs => ?_) 0 (none, none, M1) (by omega) hn0 ⟨f1.wd (by omega) (by omega), r1⟩
    · obtain ⟨x5, x6, s⟩ := s
      obtain ⟨u2, u3⟩ := hRs
      dsimp only at u2 u3 ⊢
      have wv := hv.1.2.2.2.2.2 i hi0 hin
      have hbb := bstep_b hv.1 i.toNat
      have stp : fP (bstep (aS A)) (-6, -6) (i + 1).toNat = bstep (aS A) i (fP (bstep (aS A)) (-6, -6) i.toNat) := fP_s _ _ hi0
      rw [stp] at ih
      generalize fP (bstep (aS A)) (-6, -6) i.toNat = p at *
      unfold bstep at ih
      have hvc : vS (sCue (aS A) i 0) := cue0 hv.1
      have hsb := sprA_b hvc
      rw [g68_32]
      simp (disch := omega) only [g68_0, g68_1, g68_2, g68_6, g68_9, g68_11, g68_12, g68_13, g68_16, g68_17, g68_23, g68_25, g68_26, g68_28, g68_29, g68_30, g68_34, g68_35, g68_38, g68_41, g68_44, g68_45, g68_48, g68_51, g68_53, g68_54, g68_56, g68_58, g68_61, g68_62, g68_65, g68_68, g68_70, g68_71, g68_72, g68_73, g68_79, g68_80, g68_86, g68_88, g68_89, g68_91, g68_94, g68_96, g68_97, g68_100, g68_102, g68_103, g68_105, g68_106, g68_107, g68_110, g68_113, g68_115, g68_117, g68_118, g68_121, g68_124, g68_125, g68_128, g68_129, g68_132, g68_133, Option.toList_some, Option.toList_none, List.cons_append, List.nil_append, true_and, and_true, true_or, or_true, eq_self, ci0, ci1, cin6, forall_const, not_true_eq_false, not_false_eq_true, fimp, timp, i10, i01, cm_rne, and_assoc, x0, q2, q3, ts, tf4, ta4, u3.1, (u3.2.2 i hi0 hin).2.2.2]
      (repeat' apply And.intro) <;> (try omega) <;> (try (intro hx; exfalso; omega))
      intro _
      (repeat' apply And.intro) <;> (try omega) <;> (try (intro hx; exfalso; omega))
      · intro hz
        rw [if_pos hz] at ih
        exact ih (_, _, s) ⟨u2, u3⟩
      · intro hz
        rw [if_neg hz] at ih
        (repeat' apply And.intro) <;> (try omega) <;> (try (intro hx; exfalso; omega))
        have hR1 : rC (cm_up s (15 + 5) i 0) 15 (sCue (aS A) i 0) := rC_cue u3
        refine c68_76 (by decide) us (p_follow xu hvc hR1 (fun M2 fo hR2 f2 => ?_))
        have hR3 : rC (cm_up M2 (15 + 5) i (sC (aS A) i)) 15 (aS A) := rC_eq (rC_cue hR2) eqS_cueB
        have fs : fr M (cm_up M2 (15 + 5) i (sC (aS A) i)) 14 26 := ((u2.tr (fun k hk => cm_rne (by omega))).tr (f2.wd (by omega) (by omega))).tr (fun k hk => cm_rne (by omega))
        simp (disch := omega) only [g68_0, g68_1, g68_2, g68_6, g68_9, g68_11, g68_12, g68_13, g68_16, g68_17, g68_23, g68_25, g68_26, g68_28, g68_29, g68_30, g68_34, g68_35, g68_38, g68_41, g68_44, g68_45, g68_48, g68_51, g68_53, g68_54, g68_56, g68_58, g68_61, g68_62, g68_65, g68_68, g68_70, g68_71, g68_72, g68_73, g68_79, g68_80, g68_86, g68_88, g68_89, g68_91, g68_94, g68_96, g68_97, g68_100, g68_102, g68_103, g68_105, g68_106, g68_107, g68_110, g68_113, g68_115, g68_117, g68_118, g68_121, g68_124, g68_125, g68_128, g68_129, g68_132, g68_133, Option.toList_some, Option.toList_none, List.cons_append, List.nil_append, true_and, and_true, true_or, or_true, eq_self, ci0, ci1, cin6, forall_const, not_true_eq_false, not_false_eq_true, fimp, timp, i10, i01, cm_rne, and_assoc, x0, q3]
        refine c68_83 (by decide) us (p_spreadsInAll xu hvc hR2 fo ?_)
        simp (disch := omega) only [g68_0, g68_1, g68_2, g68_6, g68_9, g68_11, g68_12, g68_13, g68_16, g68_17, g68_23, g68_25, g68_26, g68_28, g68_29, g68_30, g68_34, g68_35, g68_38, g68_41, g68_44, g68_45, g68_48, g68_51, g68_53, g68_54, g68_56, g68_58, g68_61, g68_62, g68_65, g68_68, g68_70, g68_71, g68_72, g68_73, g68_79, g68_80, g68_86, g68_88, g68_89, g68_91, g68_94, g68_96, g68_97, g68_100, g68_102, g68_103, g68_105, g68_106, g68_107, g68_110, g68_113, g68_115, g68_117, g68_118, g68_121, g68_124, g68_125, g68_128, g68_129, g68_132, g68_133, Option.toList_some, Option.toList_none, List.cons_append, List.nil_append, true_and, and_true, true_or, or_true, eq_self, ci0, ci1, cin6, forall_const, not_true_eq_false, not_false_eq_true, fimp, timp, i10, i01, cm_rne, and_assoc, x0, q2, ts, tf4, ta4]
        (repeat' apply And.intro) <;> (try omega) <;> (try (intro hx; exfalso; omega))
        · intro h6
          rw [if_pos (Or.inl h6)] at ih
          (repeat' apply And.intro) <;> (try omega) <;> (try (intro hx; exfalso; omega))
          exact ih (_, _, _) ⟨fs, hR3⟩
        · intro h6
          (repeat' apply And.intro) <;> (try omega) <;> (try (intro hx; exfalso; omega))
          · intro h7
            rw [if_neg (by omega)] at ih
            (repeat' apply And.intro) <;> (try omega) <;> (try (intro hx; exfalso; omega))
            exact ih (_, _, _) ⟨fs, hR3⟩
          · intro h7
            rw [if_pos (Or.inr h7)] at ih
            (repeat' apply And.intro) <;> (try omega) <;> (try (intro hx; exfalso; omega))
            exact ih (_, _, _) ⟨fs, hR3⟩
    · obtain ⟨x5, x6, s⟩ := s
      obtain ⟨u2, u3⟩ := hRs
      dsimp only at u2 u3 ⊢
      obtain ⟨k1, k2⟩ := rXA_q hA' u2
      have K1 := K s k1 k2
      rw [g68_32]
      simp (disch := omega) only [g68_0, g68_1, g68_2, g68_6, g68_9, g68_11, g68_12, g68_13, g68_16, g68_17, g68_23, g68_25, g68_26, g68_28, g68_29, g68_30, g68_34, g68_35, g68_38, g68_41, g68_44, g68_45, g68_48, g68_51, g68_53, g68_54, g68_56, g68_58, g68_61, g68_62, g68_65, g68_68, g68_70, g68_71, g68_72, g68_73, g68_79, g68_80, g68_86, g68_88, g68_89, g68_91, g68_94, g68_96, g68_97, g68_100, g68_102, g68_103, g68_105, g68_106, g68_107, g68_110, g68_113, g68_115, g68_117, g68_118, g68_121, g68_124, g68_125, g68_128, g68_129, g68_132, g68_133, Option.toList_some, Option.toList_none, List.cons_append, List.nil_append, true_and, and_true, true_or, or_true, eq_self, ci0, ci1, cin6, forall_const, not_true_eq_false, not_false_eq_true, fimp, timp, i10, i01, cm_rne, and_assoc, x0, q2, ts, u3.1]
      (repeat' apply And.intro) <;> (try omega) <;> (try (intro hx; exfalso; omega))
      intro _
      (repeat' apply And.intro) <;> (try omega) <;> (try (intro hx; exfalso; omega))
      · intro hz
        rw [if_neg hz] at K1
        exact K1
      · intro hz
        rw [if_pos hz] at K1
        exact K1
  · rw [ite'_n h1] at K
    exact K M hA' fr.rf
theorem p_speedFor (hX : isX G) (hA : rXA M A) (hv : vA A) (ht : cm_in t) (K : ∀ M', rXA M' A → fr M M' 0 81 → Q (some (0, xFor (aS A) t)) G M') : Go 69 0 [some (2, 0), some (0, t), none] [] G M Q := by
  obtain ⟨x0, ⟨q0, q1, q2, q3, q4, q5, q6⟩, xc, xk, xt, xu, xp, xh, xl⟩ := hX
  have xt' := xt
  obtain ⟨t0, ts, ⟨tf0, tf1, tf2, tf3, tf4⟩, ta0, ta1, ta2, ta3, ta4⟩ := xt
  have us := xu.2.1
  have hA' := hA
  obtain ⟨b1, b2, b3, b4, b5⟩ := hA
  have hn := hv.1.2.1
  have hn0 := hv.1.1
  unfold xFor at K
  simp (disch := omega) only [g69_0, g69_1, g69_2, g69_8, g69_11, g69_13, g69_14, g69_15, g69_18, g69_19, g69_25, g69_26, g69_32, g69_34, g69_36, g69_37, g69_40, g69_41, g69_44, g69_47, g69_48, g69_49, g69_50, g69_51, g69_57, g69_58, g69_61, g69_65, g69_68, g69_69, g69_70, g69_73, g69_76, g69_78, Option.toList_some, Option.toList_none, List.cons_append, List.nil_append, true_and, and_true, true_or, or_true, eq_self, ci0, ci1, cin6, forall_const, not_true_eq_false, not_false_eq_true, fimp, timp, i10, i01, cm_rne, and_assoc]
  refine c69_5 (Nat.le_of_ble_eq_true rfl) (p_isWithin ht cn1 ⟨by decide, by decide⟩ (fun h1 => ?_) (fun h1 => ?_)) <;> simp (disch := omega) only [g69_0, g69_1, g69_2, g69_8, g69_11, g69_13, g69_14, g69_15, g69_18, g69_19, g69_25, g69_26, g69_32, g69_34, g69_36, g69_37, g69_40, g69_41, g69_44, g69_47, g69_48, g69_49, g69_50, g69_51, g69_57, g69_58, g69_61, g69_65, g69_68, g69_69, g69_70, g69_73, g69_76, g69_78, Option.toList_some, Option.toList_none, List.cons_append, List.nil_append, true_and, and_true, true_or, or_true, eq_self, ci0, ci1, cin6, forall_const, not_true_eq_false, not_false_eq_true, fimp, timp, i10, i01, cm_rne, and_assoc, x0, q0, q2]
  · rw [ite'_p h1] at K
    refine c69_22 (by decide) ts (p_takeFrom xt' xc b1 (by omega) ⟨hn0, hn⟩ (fun M1 r1 f1 => ?_))
    simp (disch := omega) only [g69_0, g69_1, g69_2, g69_8, g69_11, g69_13, g69_14, g69_15, g69_18, g69_19, g69_25, g69_26, g69_32, g69_34, g69_36, g69_37, g69_40, g69_41, g69_44, g69_47, g69_48, g69_49, g69_50, g69_51, g69_57, g69_58, g69_61, g69_65, g69_68, g69_69, g69_70, g69_73, g69_76, g69_78, Option.toList_some, Option.toList_none, List.cons_append, List.nil_append, true_and, and_true, true_or, or_true, eq_self, ci0, ci1, cin6, forall_const, not_true_eq_false, not_false_eq_true, fimp, timp, i10, i01, cm_rne, and_assoc, x0, q2]
    refine c69_29 (by decide) ts (p_dropCues xt' r1 hv.1 (fun M2 r2 f2 => ?_))
    have f12 : fr M M2 14 26 := (f1.wd (by omega) (by omega)).tr (f2.wd (by omega) (by omega))
    simp (disch := omega) only [g69_0, g69_1, g69_2, g69_8, g69_11, g69_13, g69_14, g69_15, g69_18, g69_19, g69_25, g69_26, g69_32, g69_34, g69_36, g69_37, g69_40, g69_41, g69_44, g69_47, g69_48, g69_49, g69_50, g69_51, g69_57, g69_58, g69_61, g69_65, g69_68, g69_69, g69_70, g69_73, g69_76, g69_78, Option.toList_some, Option.toList_none, List.cons_append, List.nil_append, true_and, and_true, true_or, or_true, eq_self, ci0, ci1, cin6, forall_const, not_true_eq_false, not_false_eq_true, fimp, timp, i10, i01, cm_rne, and_assoc]
    refine go_loopD (σ := cm_M) (fun v _ => [some (2, 0), some (0, t), some (0, v)]) (fun s => s) (fun v s => v ≤ 30 ∧ fr M s 14 26 ∧ (∃ c, rC s 15 (sFast (aS A) c)) ∧ ∀ x, v < x → x ≤ 30 → ¬ shows (sFast (aS A) x) t) 0 (fun v s hi0 hRs ih => ?_) (fun s hRs => ?_) 30 M2 (by omega) ⟨by omega, f12, ⟨sT (aS A) 1, rC_eq r2 ⟨rfl, fun j _ _ => ?_, fun j _ _ => ⟨rfl, rfl, rfl, rfl⟩⟩⟩, fun x a b => absurd a (by omega)⟩
    · obtain ⟨w1, w2, ⟨c, w3⟩, w5⟩ := hRs
      have hvf := vS_fast hv.1 (v := v) (by omega)
      have hR3 : rC (cm_up s (15 + 1) 1 v) 15 (sFast (aS A) v) := by
        refine rC_eq (rC_set (i := 1) (v := v) w3) ⟨rfl, fun j a b => ?_, fun j a b => ⟨rfl, rfl, rfl, rfl⟩⟩
        show (if j = 1 then v else if j = 1 then c else sT (aS A) j) = if j = 1 then v else sT (aS A) j
        omega
      rw [g69_35]
      simp (disch := omega) only [g69_0, g69_1, g69_2, g69_8, g69_11, g69_13, g69_14, g69_15, g69_18, g69_19, g69_25, g69_26, g69_32, g69_34, g69_36, g69_37, g69_40, g69_41, g69_44, g69_47, g69_48, g69_49, g69_50, g69_51, g69_57, g69_58, g69_61, g69_65, g69_68, g69_69, g69_70, g69_73, g69_76, g69_78, Option.toList_some, Option.toList_none, List.cons_append, List.nil_append, true_and, and_true, true_or, or_true, eq_self, ci0, ci1, cin6, forall_const, not_true_eq_false, not_false_eq_true, fimp, timp, i10, i01, cm_rne, and_assoc, x0, q2, q3, ts, tf0, ta0]
      (repeat' apply And.intro) <;> (try omega) <;> (try (intro hx; exfalso; omega))
      intro _
      (repeat' apply And.intro) <;> (try omega) <;> (try (intro hx; exfalso; omega))
      refine c69_54 (by decide) us (p_follow xu hvf hR3 (fun M3 fo hR4 f3 => ?_))
      have fs : fr M M3 14 26 := (w2.tr (fun k hk => cm_rne (by omega))).tr (f3.wd (by omega) (by omega))
      simp (disch := omega) only [g69_0, g69_1, g69_2, g69_8, g69_11, g69_13, g69_14, g69_15, g69_18, g69_19, g69_25, g69_26, g69_32, g69_34, g69_36, g69_37, g69_40, g69_41, g69_44, g69_47, g69_48, g69_49, g69_50, g69_51, g69_57, g69_58, g69_61, g69_65, g69_68, g69_69, g69_70, g69_73, g69_76, g69_78, Option.toList_some, Option.toList_none, List.cons_append, List.nil_append, true_and, and_true, true_or, or_true, eq_self, ci0, ci1, cin6, forall_const, not_true_eq_false, not_false_eq_true, fimp, timp, i10, i01, cm_rne, and_assoc, x0, q3]
      refine c69_62 (by decide) us (p_showsNamesFor xu hvf hR4 fo ht (fun hz => ?_) (fun hz => ?_)) <;> simp (disch := omega) only [g69_0, g69_1, g69_2, g69_8, g69_11, g69_13, g69_14, g69_15, g69_18, g69_19, g69_25, g69_26, g69_32, g69_34, g69_36, g69_37, g69_40, g69_41, g69_44, g69_47, g69_48, g69_49, g69_50, g69_51, g69_57, g69_58, g69_61, g69_65, g69_68, g69_69, g69_70, g69_73, g69_76, g69_78, Option.toList_some, Option.toList_none, List.cons_append, List.nil_append, true_and, and_true, true_or, or_true, eq_self, ci0, ci1, cin6, forall_const, not_true_eq_false, not_false_eq_true, fimp, timp, i10, i01, cm_rne, and_assoc]
      · obtain ⟨k1, k2⟩ := rXA_q hA' fs
        have K1 := K M3 k1 k2
        have e : v = lstOf (fun v => 1 ≤ v ∧ shows (sFast (aS A) v) t) 31 := lstOf_e (Or.inl ⟨by omega, by omega, ⟨by omega, hz⟩, fun j a b c => w5 j a (by omega) c.2⟩)
        rw [e]
        exact K1
      · refine ih M3 ⟨by omega, fs, ⟨v, hR4⟩, fun x a b c => ?_⟩
        by_cases hx : x = v
        · rw [hx] at c; exact hz c
        · exact w5 x (by omega) b c
    · obtain ⟨w1, w2, w3, w5⟩ := hRs
      obtain ⟨k1, k2⟩ := rXA_q hA' w2
      have K1 := K s k1 k2
      have e : -6 = lstOf (fun v => 1 ≤ v ∧ shows (sFast (aS A) v) t) 31 := lstOf_e (Or.inr ⟨rfl, fun j a b c => w5 j (by omega) (by omega) c.2⟩)
      rw [← e] at K1
      rw [g69_35]
      simp (disch := omega) only [g69_0, g69_1, g69_2, g69_8, g69_11, g69_13, g69_14, g69_15, g69_18, g69_19, g69_25, g69_26, g69_32, g69_34, g69_36, g69_37, g69_40, g69_41, g69_44, g69_47, g69_48, g69_49, g69_50, g69_51, g69_57, g69_58, g69_61, g69_65, g69_68, g69_69, g69_70, g69_73, g69_76, g69_78, Option.toList_some, Option.toList_none, List.cons_append, List.nil_append, true_and, and_true, true_or, or_true, eq_self, ci0, ci1, cin6, forall_const, not_true_eq_false, not_false_eq_true, fimp, timp, i10, i01, cm_rne, and_assoc]
      (repeat' apply And.intro) <;> (try omega) <;> (try (intro hx; exfalso; omega))
      exact fun _ => K1
    · show sT (aS A) j = if j = 1 then sT (aS A) 1 else sT (aS A) j
      by_cases hj : j = 1
      · rw [if_pos hj, hj]
      · rw [if_neg hj]
  · rw [ite'_n h1] at K
    exact K M hA' fr.rf
end CLASS4
