/-! ===== the reference: what it counts ===== -/
/-- for how many ticks each line is seen -/
def tks (M : cm_M) (m : Int) (S : sS) : Prop := ∀ i, 0 ≤ i → i < sN S → M (m + 7) i = eI S i
section MODEL2
variable {G : cm_G} {M : cm_M} {m i j t v w g : Int} {S : sS} {Q : Option cm_V → cm_G → cm_M → Prop}
theorem q_namesOf (hM : isM G m) (hR : rM M (m + 1) S) (hv : vS S) (hg : 0 ≤ g ∧ g ≤ 7) (K : Q (some (0, fP (fun i a => if sG S i = g then a + 1 else a) 0 (sN S).toNat)) G M) : Go 100 0 [some (2, m), some (0, g), none, none] [] G M Q := by
  have hM' := hM
  obtain ⟨h0, hs, ⟨e0, e1, e2, e3, e5, e7, e8, e9, e10, e12, e13⟩, a0, a1, a2, a3, a5, a7, a8, a9, a10, a12, a13⟩ := hM
  have hn := hv.2.1
  have hn0 := hv.1
  simp (disch := omega) only [g100_0, g100_1, g100_2, g100_3, g100_5, g100_6, g100_9, g100_10, g100_11, g100_14, g100_15, g100_16, g100_17, g100_21, g100_24, g100_25, g100_28, g100_29, g100_30, g100_31, g100_34, g100_37, g100_38, Option.toList_some, Option.toList_none, List.cons_append, List.nil_append, true_and, and_true, true_or, or_true, eq_self, ci0, ci1, cin6, forall_const, not_true_eq_false, not_false_eq_true, fimp, timp, i10, i01, cm_rne, and_assoc]
  refine go_loop (σ := Int) (fun i s => [some (2, m), some (0, g), some (0, s), some (0, i)]) (fun _ => M) (fun i s => (0 ≤ s ∧ s ≤ i) ∧ s = fP (fun i a => if sG S i = g then a + 1 else a) 0 i.toNat) (sN S) (fun i s hi0 hin hRs ih => ?_) (fun s hRs => ?_) 0 0 (by omega) hn0 ⟨by omega, rfl⟩
  · obtain ⟨hb, hf⟩ := hRs
    rw [g100_4]
    simp (disch := omega) only [g100_0, g100_1, g100_2, g100_3, g100_5, g100_6, g100_9, g100_10, g100_11, g100_14, g100_15, g100_16, g100_17, g100_21, g100_24, g100_25, g100_28, g100_29, g100_30, g100_31, g100_34, g100_37, g100_38, Option.toList_some, Option.toList_none, List.cons_append, List.nil_append, true_and, and_true, true_or, or_true, eq_self, ci0, ci1, cin6, forall_const, not_true_eq_false, not_false_eq_true, fimp, timp, i10, i01, cm_rne, and_assoc, hs, e0, a0, hR.1]
    (repeat' apply And.intro) <;> (try omega) <;> (try (intro hx; exfalso; omega))
    intro _
    refine c100_18 (Nat.le_of_ble_eq_true rfl) hs (q_isNameOf hM' hR hv ⟨hi0, hin⟩ hg (fun hz => ?_) (fun hz => ?_)) <;> simp (disch := omega) only [g100_0, g100_1, g100_2, g100_3, g100_5, g100_6, g100_9, g100_10, g100_11, g100_14, g100_15, g100_16, g100_17, g100_21, g100_24, g100_25, g100_28, g100_29, g100_30, g100_31, g100_34, g100_37, g100_38, Option.toList_some, Option.toList_none, List.cons_append, List.nil_append, true_and, and_true, true_or, or_true, eq_self, ci0, ci1, cin6, forall_const, not_true_eq_false, not_false_eq_true, fimp, timp, i10, i01, cm_rne, and_assoc]
    · (repeat' apply And.intro) <;> (try omega) <;> (try (intro hx; exfalso; omega))
      exact ih _ ⟨by omega, by rw [fP_s _ _ hi0, ← hf, if_pos hz]⟩
    · (repeat' apply And.intro) <;> (try omega) <;> (try (intro hx; exfalso; omega))
      exact ih _ ⟨by omega, by rw [fP_s _ _ hi0, ← hf, if_neg hz]; omega⟩
  · obtain ⟨hb, hf⟩ := hRs
    rw [g100_4]
    simp (disch := omega) only [g100_0, g100_1, g100_2, g100_3, g100_5, g100_6, g100_9, g100_10, g100_11, g100_14, g100_15, g100_16, g100_17, g100_21, g100_24, g100_25, g100_28, g100_29, g100_30, g100_31, g100_34, g100_37, g100_38, Option.toList_some, Option.toList_none, List.cons_append, List.nil_append, true_and, and_true, true_or, or_true, eq_self, ci0, ci1, cin6, forall_const, not_true_eq_false, not_false_eq_true, fimp, timp, i10, i01, cm_rne, and_assoc, hs, e0, a0, hR.1]
    (repeat' apply And.intro) <;> (try omega) <;> (try (intro hx; exfalso; omega))
    intro _
    rw [hf]
    exact K
theorem q_shortest (hM : isM G m) (hR : rM M (m + 1) S) (hv : vS S) (hT : tks M m S) (hg : 0 ≤ g ∧ g ≤ 7) (K : Q (some (0, lsL S g)) G M) : Go 101 0 [some (2, m), some (0, g), none, none] [] G M Q := by
  have hM' := hM
  have hinv := ls_inv hv g
  obtain ⟨h0, hs, ⟨e0, e1, e2, e3, e5, e7, e8, e9, e10, e12, e13⟩, a0, a1, a2, a3, a5, a7, a8, a9, a10, a12, a13⟩ := hM
  have hn := hv.2.1
  have hn0 := hv.1
  simp (disch := omega) only [g101_0, g101_2, g101_3, g101_4, g101_6, g101_7, g101_10, g101_11, g101_12, g101_15, g101_16, g101_17, g101_21, g101_24, g101_25, g101_27, g101_30, g101_31, g101_34, g101_35, g101_36, g101_37, g101_40, g101_41, g101_42, g101_45, g101_46, g101_49, g101_50, g101_51, g101_54, g101_57, g101_58, Option.toList_some, Option.toList_none, List.cons_append, List.nil_append, true_and, and_true, true_or, or_true, eq_self, ci0, ci1, cin6, forall_const, not_true_eq_false, not_false_eq_true, fimp, timp, i10, i01, cm_rne, and_assoc]
  refine go_loop (σ := Int) (fun i s => [some (2, m), some (0, g), some (0, s), some (0, i)]) (fun _ => M) (fun i s => s = fP (lstep S (eI S) g) (-6) i.toNat) (sN S) (fun i s hi0 hin hRs ih => ?_) (fun s hRs => ?_) 0 (-6) (by omega) hn0 rfl
  · have hb := eI_b hv ⟨hi0, hin⟩
    have hz := hinv i.toNat (by omega)
    rw [← hRs] at hz
    have stp := fP_s (lstep S (eI S) g) (-6) hi0
    rw [← hRs] at stp
    rw [g101_5]
    simp (disch := omega) only [g101_0, g101_2, g101_3, g101_4, g101_6, g101_7, g101_10, g101_11, g101_12, g101_15, g101_16, g101_17, g101_21, g101_24, g101_25, g101_27, g101_30, g101_31, g101_34, g101_35, g101_36, g101_37, g101_40, g101_41, g101_42, g101_45, g101_46, g101_49, g101_50, g101_51, g101_54, g101_57, g101_58, Option.toList_some, Option.toList_none, List.cons_append, List.nil_append, true_and, and_true, true_or, or_true, eq_self, ci0, ci1, cin6, forall_const, not_true_eq_false, not_false_eq_true, fimp, timp, i10, i01, cm_rne, and_assoc, hs, e0, a0, hR.1]
    (repeat' apply And.intro) <;> (try omega) <;> (try (intro hx; exfalso; omega))
    intro _
    refine c101_18 (by decide) hs (q_isNameOf hM' hR hv ⟨hi0, hin⟩ hg (fun he => ?_) (fun hne => ?_)) <;> simp (disch := omega) only [g101_0, g101_2, g101_3, g101_4, g101_6, g101_7, g101_10, g101_11, g101_12, g101_15, g101_16, g101_17, g101_21, g101_24, g101_25, g101_27, g101_30, g101_31, g101_34, g101_35, g101_36, g101_37, g101_40, g101_41, g101_42, g101_45, g101_46, g101_49, g101_50, g101_51, g101_54, g101_57, g101_58, Option.toList_some, Option.toList_none, List.cons_append, List.nil_append, true_and, and_true, true_or, or_true, eq_self, ci0, ci1, cin6, forall_const, not_true_eq_false, not_false_eq_true, fimp, timp, i10, i01, cm_rne, and_assoc, hs, e8, a8, hT i hi0 hin]
    · (repeat' apply And.intro) <;> (try omega) <;> (try (intro hx; exfalso; omega))
      · intro h6
        exact ih i (by rw [stp]; unfold lstep; rw [if_pos he, if_pos h6])
      · intro h6
        obtain ⟨z1, z2⟩ : 0 ≤ s ∧ s < i := by
          rcases hz with ⟨z, -⟩ | ⟨z1, z2, -⟩
          · exact absurd z h6
          · omega
        have q4 := hT s z1 (by omega)
        have hb2 := eI_b hv (i := s) (by omega)
        simp (disch := omega) only [g101_0, g101_2, g101_3, g101_4, g101_6, g101_7, g101_10, g101_11, g101_12, g101_15, g101_16, g101_17, g101_21, g101_24, g101_25, g101_27, g101_30, g101_31, g101_34, g101_35, g101_36, g101_37, g101_40, g101_41, g101_42, g101_45, g101_46, g101_49, g101_50, g101_51, g101_54, g101_57, g101_58, Option.toList_some, Option.toList_none, List.cons_append, List.nil_append, true_and, and_true, true_or, or_true, eq_self, ci0, ci1, cin6, forall_const, not_true_eq_false, not_false_eq_true, fimp, timp, i10, i01, cm_rne, and_assoc, hs, e8, a8, hT i hi0 hin, q4]
        (repeat' apply And.intro) <;> (try omega) <;> (try (intro hx; exfalso; omega))
        · intro hlt
          exact ih s (by rw [stp]; unfold lstep; rw [if_pos he, if_neg h6, if_neg (by omega)])
        · intro hge
          exact ih i (by rw [stp]; unfold lstep; rw [if_pos he, if_neg h6, if_pos (by omega)])
    · exact ih s (by rw [stp]; unfold lstep; rw [if_neg hne])
  · rw [g101_5]
    simp (disch := omega) only [g101_0, g101_2, g101_3, g101_4, g101_6, g101_7, g101_10, g101_11, g101_12, g101_15, g101_16, g101_17, g101_21, g101_24, g101_25, g101_27, g101_30, g101_31, g101_34, g101_35, g101_36, g101_37, g101_40, g101_41, g101_42, g101_45, g101_46, g101_49, g101_50, g101_51, g101_54, g101_57, g101_58, Option.toList_some, Option.toList_none, List.cons_append, List.nil_append, true_and, and_true, true_or, or_true, eq_self, ci0, ci1, cin6, forall_const, not_true_eq_false, not_false_eq_true, fimp, timp, i10, i01, cm_rne, and_assoc, hs, e0, a0, hR.1]
    (repeat' apply And.intro) <;> (try omega) <;> (try (intro hx; exfalso; omega))
    intro _
    rw [hRs]
    exact K
theorem q_spread (hM : isM G m) (hR : rM M (m + 1) S) (hv : vS S) (hT : tks M m S) (hg : 0 ≤ g ∧ g ≤ 7) (K : Q (some (0, spr S g)) G M) : Go 102 0 [some (2, m), some (0, g), none, none] [] G M Q := by
  have hM' := hM
  have hinv := ls_inv hv g
  have hsp := spr_b hv g
  have hlb := lsL_b hv g
  obtain ⟨h0, hs, ⟨e0, e1, e2, e3, e5, e7, e8, e9, e10, e12, e13⟩, a0, a1, a2, a3, a5, a7, a8, a9, a10, a12, a13⟩ := hM
  have hn := hv.2.1
  have hn0 := hv.1
  simp (disch := omega) only [g102_0, g102_1, g102_2, g102_3, g102_5, g102_6, g102_9, g102_10, g102_11, g102_14, g102_15, g102_16, g102_20, g102_23, g102_24, g102_27, g102_28, g102_29, g102_30, g102_33, g102_34, g102_37, g102_38, g102_39, g102_42, g102_43, g102_44, g102_47, g102_50, g102_51, g102_55, g102_56, g102_57, g102_59, g102_62, g102_63, g102_66, g102_67, g102_68, g102_71, g102_72, g102_73, g102_74, Option.toList_some, Option.toList_none, List.cons_append, List.nil_append, true_and, and_true, true_or, or_true, eq_self, ci0, ci1, cin6, forall_const, not_true_eq_false, not_false_eq_true, fimp, timp, i10, i01, cm_rne, and_assoc]
  refine go_loop (σ := Int) (fun i s => [some (2, m), some (0, g), some (0, s), some (0, i)]) (fun _ => M) (fun i s => s = fP (mstep S (eI S) g) 0 i.toNat) (sN S) (fun i s hi0 hin hRs ih => ?_) (fun s hRs => ?_) 0 0 (by omega) hn0 rfl
  · have hb := eI_b hv ⟨hi0, hin⟩
    have hz := hinv i.toNat (by omega)
    rw [← hRs] at hz
    have hsb : 0 ≤ s ∧ s ≤ 1801 := by
      rcases hz with ⟨-, z⟩ | ⟨z1, z2, -, z4, z5⟩
      · omega
      · have := eI_b hv (i := fP (lstep S (eI S) g) (-6) i.toNat) (by omega)
        omega
    have stp := fP_s (mstep S (eI S) g) 0 hi0
    rw [← hRs] at stp
    rw [g102_4]
    simp (disch := omega) only [g102_0, g102_1, g102_2, g102_3, g102_5, g102_6, g102_9, g102_10, g102_11, g102_14, g102_15, g102_16, g102_20, g102_23, g102_24, g102_27, g102_28, g102_29, g102_30, g102_33, g102_34, g102_37, g102_38, g102_39, g102_42, g102_43, g102_44, g102_47, g102_50, g102_51, g102_55, g102_56, g102_57, g102_59, g102_62, g102_63, g102_66, g102_67, g102_68, g102_71, g102_72, g102_73, g102_74, Option.toList_some, Option.toList_none, List.cons_append, List.nil_append, true_and, and_true, true_or, or_true, eq_self, ci0, ci1, cin6, forall_const, not_true_eq_false, not_false_eq_true, fimp, timp, i10, i01, cm_rne, and_assoc, hs, e0, a0, hR.1]
    (repeat' apply And.intro) <;> (try omega) <;> (try (intro hx; exfalso; omega))
    intro _
    refine c102_17 (by decide) hs (q_isNameOf hM' hR hv ⟨hi0, hin⟩ hg (fun he => ?_) (fun hne => ?_)) <;> simp (disch := omega) only [g102_0, g102_1, g102_2, g102_3, g102_5, g102_6, g102_9, g102_10, g102_11, g102_14, g102_15, g102_16, g102_20, g102_23, g102_24, g102_27, g102_28, g102_29, g102_30, g102_33, g102_34, g102_37, g102_38, g102_39, g102_42, g102_43, g102_44, g102_47, g102_50, g102_51, g102_55, g102_56, g102_57, g102_59, g102_62, g102_63, g102_66, g102_67, g102_68, g102_71, g102_72, g102_73, g102_74, Option.toList_some, Option.toList_none, List.cons_append, List.nil_append, true_and, and_true, true_or, or_true, eq_self, ci0, ci1, cin6, forall_const, not_true_eq_false, not_false_eq_true, fimp, timp, i10, i01, cm_rne, and_assoc, hs, e8, a8, hT i hi0 hin]
    · (repeat' apply And.intro) <;> (try omega) <;> (try (intro hx; exfalso; omega))
      · intro hlt
        exact ih s (by rw [stp]; unfold mstep; rw [if_pos he, if_neg (by omega)])
      · intro hge
        (repeat' apply And.intro) <;> (try omega) <;> (try (intro hx; exfalso; omega))
        exact ih (eI S i) (by rw [stp]; unfold mstep; rw [if_pos he, if_pos (by omega)])
    · exact ih s (by rw [stp]; unfold mstep; rw [if_neg hne])
  · rw [g102_4]
    simp (disch := omega) only [g102_0, g102_1, g102_2, g102_3, g102_5, g102_6, g102_9, g102_10, g102_11, g102_14, g102_15, g102_16, g102_20, g102_23, g102_24, g102_27, g102_28, g102_29, g102_30, g102_33, g102_34, g102_37, g102_38, g102_39, g102_42, g102_43, g102_44, g102_47, g102_50, g102_51, g102_55, g102_56, g102_57, g102_59, g102_62, g102_63, g102_66, g102_67, g102_68, g102_71, g102_72, g102_73, g102_74, Option.toList_some, Option.toList_none, List.cons_append, List.nil_append, true_and, and_true, true_or, or_true, eq_self, ci0, ci1, cin6, forall_const, not_true_eq_false, not_false_eq_true, fimp, timp, i10, i01, cm_rne, and_assoc, hs, e0, a0, hR.1]
    (repeat' apply And.intro) <;> (try omega) <;> (try (intro hx; exfalso; omega))
    intro _
    refine c102_52 (by decide) hs (q_shortest hM' hR hv hT hg ?_)
    have hm : s = msO S g := hRs
    have hsd : spr S g = msO S g - lsO S g := rfl
    simp (disch := omega) only [g102_0, g102_1, g102_2, g102_3, g102_5, g102_6, g102_9, g102_10, g102_11, g102_14, g102_15, g102_16, g102_20, g102_23, g102_24, g102_27, g102_28, g102_29, g102_30, g102_33, g102_34, g102_37, g102_38, g102_39, g102_42, g102_43, g102_44, g102_47, g102_50, g102_51, g102_55, g102_56, g102_57, g102_59, g102_62, g102_63, g102_66, g102_67, g102_68, g102_71, g102_72, g102_73, g102_74, Option.toList_some, Option.toList_none, List.cons_append, List.nil_append, true_and, and_true, true_or, or_true, eq_self, ci0, ci1, cin6, forall_const, not_true_eq_false, not_false_eq_true, fimp, timp, i10, i01, cm_rne, and_assoc, hs, e8, a8]
    (repeat' apply And.intro) <;> (try omega) <;> (try (intro hx; exfalso; omega))
    · intro hne
      have e : lsO S g = eI S (lsL S g) := if_neg hne
      have hl2 : 0 ≤ lsL S g ∧ lsL S g < sN S := by omega
      have q4 := hT _ hl2.1 hl2.2
      simp (disch := omega) only [g102_0, g102_1, g102_2, g102_3, g102_5, g102_6, g102_9, g102_10, g102_11, g102_14, g102_15, g102_16, g102_20, g102_23, g102_24, g102_27, g102_28, g102_29, g102_30, g102_33, g102_34, g102_37, g102_38, g102_39, g102_42, g102_43, g102_44, g102_47, g102_50, g102_51, g102_55, g102_56, g102_57, g102_59, g102_62, g102_63, g102_66, g102_67, g102_68, g102_71, g102_72, g102_73, g102_74, Option.toList_some, Option.toList_none, List.cons_append, List.nil_append, true_and, and_true, true_or, or_true, eq_self, ci0, ci1, cin6, forall_const, not_true_eq_false, not_false_eq_true, fimp, timp, i10, i01, cm_rne, and_assoc, hs, e8, a8, q4]
      (repeat' apply And.intro) <;> (try omega) <;> (try (intro hx; exfalso; omega))
      rw [show s - eI S (lsL S g) = spr S g by omega]
      exact K
    · intro he
      rw [show (0 : Int) = spr S g by have : lsO S g = 0 := if_pos he; omega]
      exact K
theorem q_firstName (hM : isM G m) (hR : rM M (m + 1) S) (hv : vS S) (hg : 0 ≤ g ∧ g ≤ 7) (K : ∀ r, isFst (fun j => sG S j = g) (sN S) r → Q (some (0, r)) G M) : Go 103 0 [some (2, m), some (0, g), none] [] G M Q := by
  have hM' := hM
  obtain ⟨h0, hs, ⟨e0, e1, e2, e3, e5, e7, e8, e9, e10, e12, e13⟩, a0, a1, a2, a3, a5, a7, a8, a9, a10, a12, a13⟩ := hM
  have hn := hv.2.1
  have hn0 := hv.1
  simp (disch := omega) only [g103_0, g103_1, g103_3, g103_4, g103_7, g103_8, g103_9, g103_12, g103_13, g103_14, g103_18, g103_21, g103_22, g103_23, g103_26, g103_29, g103_31, Option.toList_some, Option.toList_none, List.cons_append, List.nil_append, true_and, and_true, true_or, or_true, eq_self, ci0, ci1, cin6, forall_const, not_true_eq_false, not_false_eq_true, fimp, timp, i10, i01, cm_rne, and_assoc]
  refine go_loop (σ := Unit) (fun i _ => [some (2, m), some (0, g), some (0, i)]) (fun _ => M) (fun i _ => ∀ j, 0 ≤ j → j < i → ¬ sG S j = g) (sN S) (fun i s hi0 hin hRs ih => ?_) (fun s hRs => ?_) 0 () (by omega) hn0 (fun j a b => absurd a (by omega))
  · rw [g103_2]
    simp (disch := omega) only [g103_0, g103_1, g103_3, g103_4, g103_7, g103_8, g103_9, g103_12, g103_13, g103_14, g103_18, g103_21, g103_22, g103_23, g103_26, g103_29, g103_31, Option.toList_some, Option.toList_none, List.cons_append, List.nil_append, true_and, and_true, true_or, or_true, eq_self, ci0, ci1, cin6, forall_const, not_true_eq_false, not_false_eq_true, fimp, timp, i10, i01, cm_rne, and_assoc, hs, e0, a0, hR.1]
    (repeat' apply And.intro) <;> (try omega) <;> (try (intro hx; exfalso; omega))
    intro _
    refine c103_15 (by decide) hs (q_isNameOf hM' hR hv ⟨hi0, hin⟩ hg (fun he => ?_) (fun hne => ?_)) <;> simp (disch := omega) only [g103_0, g103_1, g103_3, g103_4, g103_7, g103_8, g103_9, g103_12, g103_13, g103_14, g103_18, g103_21, g103_22, g103_23, g103_26, g103_29, g103_31, Option.toList_some, Option.toList_none, List.cons_append, List.nil_append, true_and, and_true, true_or, or_true, eq_self, ci0, ci1, cin6, forall_const, not_true_eq_false, not_false_eq_true, fimp, timp, i10, i01, cm_rne, and_assoc]
    · exact K i (Or.inl ⟨hi0, hin, he, hRs⟩)
    · exact ih () (fun j a b => by
        by_cases hj : j = i
        · rw [hj]; exact hne
        · exact hRs j a (by omega))
  · rw [g103_2]
    simp (disch := omega) only [g103_0, g103_1, g103_3, g103_4, g103_7, g103_8, g103_9, g103_12, g103_13, g103_14, g103_18, g103_21, g103_22, g103_23, g103_26, g103_29, g103_31, Option.toList_some, Option.toList_none, List.cons_append, List.nil_append, true_and, and_true, true_or, or_true, eq_self, ci0, ci1, cin6, forall_const, not_true_eq_false, not_false_eq_true, fimp, timp, i10, i01, cm_rne, and_assoc, hs, e0, a0, hR.1]
    (repeat' apply And.intro) <;> (try omega) <;> (try (intro hx; exfalso; omega))
    exact fun _ => K _ (Or.inr ⟨rfl, hRs⟩)
theorem q_leastOf (hi : cm_in i) (K : Q (some (0, if i = 0 then 4 else 1)) G M) : Go 104 0 [some (0, i)] [] G M Q := by
  simp (disch := omega) only [g104_0, g104_1, g104_4, g104_5, g104_8, g104_9, Option.toList_some, Option.toList_none, List.cons_append, List.nil_append, true_and, and_true, true_or, or_true, eq_self, ci0, ci1, cin6, forall_const, not_true_eq_false, not_false_eq_true, fimp, timp, i10, i01, cm_rne, and_assoc]
  (repeat' apply And.intro) <;> (try omega) <;> (try (intro hx; exfalso; omega))
  · intro h; rw [if_neg h] at K; exact K
  · intro h; rw [if_pos h] at K; exact K
theorem q_mostOf (hi : cm_in i) (K : Q (some (0, if i = 0 then 20 else if i = 1 then 30 else 4)) G M) : Go 105 0 [some (0, i)] [] G M Q := by
  simp (disch := omega) only [g105_0, g105_1, g105_4, g105_6, g105_9, g105_10, g105_11, g105_14, g105_16, g105_19, g105_20, Option.toList_some, Option.toList_none, List.cons_append, List.nil_append, true_and, and_true, true_or, or_true, eq_self, ci0, ci1, cin6, forall_const, not_true_eq_false, not_false_eq_true, fimp, timp, i10, i01, cm_rne, and_assoc]
  (repeat' apply And.intro) <;> (try omega) <;> (try (intro hx; exfalso; omega))
  · intro h
    rw [if_neg h] at K
    (repeat' apply And.intro) <;> (try omega) <;> (try (intro hx; exfalso; omega))
    · intro h2; rw [if_neg h2] at K; exact K
    · intro h2; rw [if_pos h2] at K; exact K
  · intro h; rw [if_pos h] at K; exact K
theorem q_unequal (hM : isM G m) (hR : rM M (m + 1) S) (hv : vS S) (hT : tks M m S) (K : Q (some (0, uneq S)) G M) : Go 120 0 [some (2, m), none, none] [] G M Q := by
  have hs := hM.2.1
  simp (disch := omega) only [g120_0, g120_1, g120_2, g120_3, g120_5, g120_7, g120_10, g120_11, g120_12, g120_16, g120_19, g120_20, g120_23, g120_24, g120_25, g120_26, g120_29, g120_32, g120_33, Option.toList_some, Option.toList_none, List.cons_append, List.nil_append, true_and, and_true, true_or, or_true, eq_self, ci0, ci1, cin6, forall_const, not_true_eq_false, not_false_eq_true, fimp, timp, i10, i01, cm_rne, and_assoc]
  refine go_loop (σ := Int) (fun i s => [some (2, m), some (0, s), some (0, i)]) (fun _ => M) (fun i s => (0 ≤ s ∧ s ≤ i) ∧ s = fP (fun g a => if spr S g = 0 then a else a + 1) 0 i.toNat) 8 (fun i s hi0 hin hRs ih => ?_) (fun s hRs => ?_) 0 0 (by omega) (by omega) ⟨by omega, rfl⟩
  · obtain ⟨hb, hf⟩ := hRs
    have hsp := (spr_b hv i).1
    rw [g120_4]
    simp (disch := omega) only [g120_0, g120_1, g120_2, g120_3, g120_5, g120_7, g120_10, g120_11, g120_12, g120_16, g120_19, g120_20, g120_23, g120_24, g120_25, g120_26, g120_29, g120_32, g120_33, Option.toList_some, Option.toList_none, List.cons_append, List.nil_append, true_and, and_true, true_or, or_true, eq_self, ci0, ci1, cin6, forall_const, not_true_eq_false, not_false_eq_true, fimp, timp, i10, i01, cm_rne, and_assoc]
    (repeat' apply And.intro) <;> (try omega) <;> (try (intro hx; exfalso; omega))
    intro _
    refine c120_13 (Nat.le_of_ble_eq_true rfl) hs (q_spread hM hR hv hT (by omega) ?_)
    simp (disch := omega) only [g120_0, g120_1, g120_2, g120_3, g120_5, g120_7, g120_10, g120_11, g120_12, g120_16, g120_19, g120_20, g120_23, g120_24, g120_25, g120_26, g120_29, g120_32, g120_33, Option.toList_some, Option.toList_none, List.cons_append, List.nil_append, true_and, and_true, true_or, or_true, eq_self, ci0, ci1, cin6, forall_const, not_true_eq_false, not_false_eq_true, fimp, timp, i10, i01, cm_rne, and_assoc]
    (repeat' apply And.intro) <;> (try omega) <;> (try (intro hx; exfalso; omega))
    · intro hz
      (repeat' apply And.intro) <;> (try omega) <;> (try (intro hx; exfalso; omega))
      exact ih _ ⟨by omega, by rw [fP_s _ _ hi0, ← hf, if_pos (by omega)]; omega⟩
    · intro hz
      (repeat' apply And.intro) <;> (try omega) <;> (try (intro hx; exfalso; omega))
      exact ih _ ⟨by omega, by rw [fP_s _ _ hi0, ← hf, if_neg (by omega)]⟩
  · rw [g120_4]
    simp (disch := omega) only [g120_0, g120_1, g120_2, g120_3, g120_5, g120_7, g120_10, g120_11, g120_12, g120_16, g120_19, g120_20, g120_23, g120_24, g120_25, g120_26, g120_29, g120_32, g120_33, Option.toList_some, Option.toList_none, List.cons_append, List.nil_append, true_and, and_true, true_or, or_true, eq_self, ci0, ci1, cin6, forall_const, not_true_eq_false, not_false_eq_true, fimp, timp, i10, i01, cm_rne, and_assoc]
    (repeat' apply And.intro) <;> (try omega) <;> (try (intro hx; exfalso; omega))
    intro _
    rw [hRs.2]
    exact K
theorem q_names0 (hM : isM G m) (hR : rM M (m + 1) S) (hv : vS S) (K : Q (some (0, fP (fun i a => if sK S i = 0 then a + 1 else a) 0 (sN S).toNat)) G M) : Go 121 0 [some (2, m), some (0, 0), none, none] [] G M Q := by
  have hM' := hM
  obtain ⟨h0, hs, ⟨e0, e1, e2, e3, e5, e7, e8, e9, e10, e12, e13⟩, a0, a1, a2, a3, a5, a7, a8, a9, a10, a12, a13⟩ := hM
  have hn := hv.2.1
  have hn0 := hv.1
  simp (disch := omega) only [g121_0, g121_1, g121_2, g121_3, g121_5, g121_6, g121_9, g121_10, g121_11, g121_14, g121_15, g121_16, g121_17, g121_21, g121_24, g121_25, g121_28, g121_29, g121_32, g121_33, g121_34, g121_37, g121_38, g121_41, g121_42, g121_43, g121_44, g121_47, g121_50, g121_51, Option.toList_some, Option.toList_none, List.cons_append, List.nil_append, true_and, and_true, true_or, or_true, eq_self, ci0, ci1, cin6, forall_const, not_true_eq_false, not_false_eq_true, fimp, timp, i10, i01, cm_rne, and_assoc]
  refine go_loop (σ := Int) (fun i s => [some (2, m), some (0, 0), some (0, s), some (0, i)]) (fun _ => M) (fun i s => (0 ≤ s ∧ s ≤ i) ∧ s = fP (fun i a => if sK S i = 0 then a + 1 else a) 0 i.toNat) (sN S) (fun i s hi0 hin hRs ih => ?_) (fun s hRs => ?_) 0 0 (by omega) hn0 ⟨by omega, rfl⟩
  · obtain ⟨hb, hf⟩ := hRs
    have w := hv.2.2.2.2.2 i hi0 hin
    rw [g121_4]
    simp (disch := omega) only [g121_0, g121_1, g121_2, g121_3, g121_5, g121_6, g121_9, g121_10, g121_11, g121_14, g121_15, g121_16, g121_17, g121_21, g121_24, g121_25, g121_28, g121_29, g121_32, g121_33, g121_34, g121_37, g121_38, g121_41, g121_42, g121_43, g121_44, g121_47, g121_50, g121_51, Option.toList_some, Option.toList_none, List.cons_append, List.nil_append, true_and, and_true, true_or, or_true, eq_self, ci0, ci1, cin6, forall_const, not_true_eq_false, not_false_eq_true, fimp, timp, i10, i01, cm_rne, and_assoc, hs, e0, a0, hR.1]
    (repeat' apply And.intro) <;> (try omega) <;> (try (intro hx; exfalso; omega))
    intro _
    refine c121_18 (Nat.le_of_ble_eq_true rfl) hs (q_kind hM' hR hv ⟨hi0, hin⟩ ?_)
    simp (disch := omega) only [g121_0, g121_1, g121_2, g121_3, g121_5, g121_6, g121_9, g121_10, g121_11, g121_14, g121_15, g121_16, g121_17, g121_21, g121_24, g121_25, g121_28, g121_29, g121_32, g121_33, g121_34, g121_37, g121_38, g121_41, g121_42, g121_43, g121_44, g121_47, g121_50, g121_51, Option.toList_some, Option.toList_none, List.cons_append, List.nil_append, true_and, and_true, true_or, or_true, eq_self, ci0, ci1, cin6, forall_const, not_true_eq_false, not_false_eq_true, fimp, timp, i10, i01, cm_rne, and_assoc]
    (repeat' apply And.intro) <;> (try omega) <;> (try (intro hx; exfalso; omega))
    · intro hz
      (repeat' apply And.intro) <;> (try omega) <;> (try (intro hx; exfalso; omega))
      exact ih _ ⟨by omega, by rw [fP_s _ _ hi0, ← hf, if_neg hz]; omega⟩
    · intro hz
      (repeat' apply And.intro) <;> (try omega) <;> (try (intro hx; exfalso; omega))
      exact ih _ ⟨by omega, by rw [fP_s _ _ hi0, ← hf, if_pos hz]⟩
  · rw [g121_4]
    simp (disch := omega) only [g121_0, g121_1, g121_2, g121_3, g121_5, g121_6, g121_9, g121_10, g121_11, g121_14, g121_15, g121_16, g121_17, g121_21, g121_24, g121_25, g121_28, g121_29, g121_32, g121_33, g121_34, g121_37, g121_38, g121_41, g121_42, g121_43, g121_44, g121_47, g121_50, g121_51, Option.toList_some, Option.toList_none, List.cons_append, List.nil_append, true_and, and_true, true_or, or_true, eq_self, ci0, ci1, cin6, forall_const, not_true_eq_false, not_false_eq_true, fimp, timp, i10, i01, cm_rne, and_assoc, hs, e0, a0, hR.1]
    (repeat' apply And.intro) <;> (try omega) <;> (try (intro hx; exfalso; omega))
    intro _
    rw [hRs.2]
    exact K
theorem q_names1 (hM : isM G m) (hR : rM M (m + 1) S) (hv : vS S) (hT : tks M m S) (K : Q (some (0, never S)) G M) : Go 121 0 [some (2, m), some (0, 1), none, none] [] G M Q := by
  have hM' := hM
  obtain ⟨h0, hs, ⟨e0, e1, e2, e3, e5, e7, e8, e9, e10, e12, e13⟩, a0, a1, a2, a3, a5, a7, a8, a9, a10, a12, a13⟩ := hM
  have hn := hv.2.1
  have hn0 := hv.1
  simp (disch := omega) only [g121_0, g121_1, g121_2, g121_3, g121_5, g121_6, g121_9, g121_10, g121_11, g121_14, g121_15, g121_16, g121_17, g121_21, g121_24, g121_25, g121_28, g121_29, g121_32, g121_33, g121_34, g121_37, g121_38, g121_41, g121_42, g121_43, g121_44, g121_47, g121_50, g121_51, Option.toList_some, Option.toList_none, List.cons_append, List.nil_append, true_and, and_true, true_or, or_true, eq_self, ci0, ci1, cin6, forall_const, not_true_eq_false, not_false_eq_true, fimp, timp, i10, i01, cm_rne, and_assoc]
  refine go_loop (σ := Int) (fun i s => [some (2, m), some (0, 1), some (0, s), some (0, i)]) (fun _ => M) (fun i s => (0 ≤ s ∧ s ≤ i) ∧ s = fP (fun i a => if sK S i = 0 then (if eI S i = 0 then a + 1 else a) else a) 0 i.toNat) (sN S) (fun i s hi0 hin hRs ih => ?_) (fun s hRs => ?_) 0 0 (by omega) hn0 ⟨by omega, rfl⟩
  · obtain ⟨hb, hf⟩ := hRs
    have w := hv.2.2.2.2.2 i hi0 hin
    have he := eI_b hv ⟨hi0, hin⟩
    rw [g121_4]
    simp (disch := omega) only [g121_0, g121_1, g121_2, g121_3, g121_5, g121_6, g121_9, g121_10, g121_11, g121_14, g121_15, g121_16, g121_17, g121_21, g121_24, g121_25, g121_28, g121_29, g121_32, g121_33, g121_34, g121_37, g121_38, g121_41, g121_42, g121_43, g121_44, g121_47, g121_50, g121_51, Option.toList_some, Option.toList_none, List.cons_append, List.nil_append, true_and, and_true, true_or, or_true, eq_self, ci0, ci1, cin6, forall_const, not_true_eq_false, not_false_eq_true, fimp, timp, i10, i01, cm_rne, and_assoc, hs, e0, a0, hR.1]
    (repeat' apply And.intro) <;> (try omega) <;> (try (intro hx; exfalso; omega))
    intro _
    refine c121_18 (Nat.le_of_ble_eq_true rfl) hs (q_kind hM' hR hv ⟨hi0, hin⟩ ?_)
    simp (disch := omega) only [g121_0, g121_1, g121_2, g121_3, g121_5, g121_6, g121_9, g121_10, g121_11, g121_14, g121_15, g121_16, g121_17, g121_21, g121_24, g121_25, g121_28, g121_29, g121_32, g121_33, g121_34, g121_37, g121_38, g121_41, g121_42, g121_43, g121_44, g121_47, g121_50, g121_51, Option.toList_some, Option.toList_none, List.cons_append, List.nil_append, true_and, and_true, true_or, or_true, eq_self, ci0, ci1, cin6, forall_const, not_true_eq_false, not_false_eq_true, fimp, timp, i10, i01, cm_rne, and_assoc, hs, e8, a8, hT i hi0 hin]
    (repeat' apply And.intro) <;> (try omega) <;> (try (intro hx; exfalso; omega))
    · intro hz
      (repeat' apply And.intro) <;> (try omega) <;> (try (intro hx; exfalso; omega))
      exact ih _ ⟨by omega, by rw [fP_s _ _ hi0, ← hf, if_neg hz]; omega⟩
    · intro hz
      (repeat' apply And.intro) <;> (try omega) <;> (try (intro hx; exfalso; omega))
      · intro h2
        (repeat' apply And.intro) <;> (try omega) <;> (try (intro hx; exfalso; omega))
        exact ih _ ⟨by omega, by rw [fP_s _ _ hi0, ← hf, if_pos hz, if_neg (by omega)]; omega⟩
      · intro h2
        (repeat' apply And.intro) <;> (try omega) <;> (try (intro hx; exfalso; omega))
        exact ih _ ⟨by omega, by rw [fP_s _ _ hi0, ← hf, if_pos hz, if_pos (by omega)]⟩
  · rw [g121_4]
    simp (disch := omega) only [g121_0, g121_1, g121_2, g121_3, g121_5, g121_6, g121_9, g121_10, g121_11, g121_14, g121_15, g121_16, g121_17, g121_21, g121_24, g121_25, g121_28, g121_29, g121_32, g121_33, g121_34, g121_37, g121_38, g121_41, g121_42, g121_43, g121_44, g121_47, g121_50, g121_51, Option.toList_some, Option.toList_none, List.cons_append, List.nil_append, true_and, and_true, true_or, or_true, eq_self, ci0, ci1, cin6, forall_const, not_true_eq_false, not_false_eq_true, fimp, timp, i10, i01, cm_rne, and_assoc, hs, e0, a0, hR.1]
    (repeat' apply And.intro) <;> (try omega) <;> (try (intro hx; exfalso; omega))
    intro _
    rw [hRs.2]
    exact K
theorem q_cues (hM : isM G m) (hR : rM M (m + 1) S) (hv : vS S) (K : Q (some (0, fP (fun i a => if sC S i = 0 then a else a + 1) 0 (sN S).toNat)) G M) : Go 122 0 [some (2, m), none, none] [] G M Q := by
  have hM' := hM
  obtain ⟨h0, hs, ⟨e0, e1, e2, e3, e5, e7, e8, e9, e10, e12, e13⟩, a0, a1, a2, a3, a5, a7, a8, a9, a10, a12, a13⟩ := hM
  have hn := hv.2.1
  have hn0 := hv.1
  simp (disch := omega) only [g122_0, g122_1, g122_2, g122_3, g122_5, g122_6, g122_9, g122_10, g122_11, g122_14, g122_15, g122_16, g122_17, g122_21, g122_24, g122_25, g122_28, g122_29, g122_30, g122_31, g122_34, g122_37, g122_38, Option.toList_some, Option.toList_none, List.cons_append, List.nil_append, true_and, and_true, true_or, or_true, eq_self, ci0, ci1, cin6, forall_const, not_true_eq_false, not_false_eq_true, fimp, timp, i10, i01, cm_rne, and_assoc]
  refine go_loop (σ := Int) (fun i s => [some (2, m), some (0, s), some (0, i)]) (fun _ => M) (fun i s => (0 ≤ s ∧ s ≤ i) ∧ s = fP (fun i a => if sC S i = 0 then a else a + 1) 0 i.toNat) (sN S) (fun i s hi0 hin hRs ih => ?_) (fun s hRs => ?_) 0 0 (by omega) hn0 ⟨by omega, rfl⟩
  · obtain ⟨hb, hf⟩ := hRs
    have w := hv.2.2.2.2.2 i hi0 hin
    rw [g122_4]
    simp (disch := omega) only [g122_0, g122_1, g122_2, g122_3, g122_5, g122_6, g122_9, g122_10, g122_11, g122_14, g122_15, g122_16, g122_17, g122_21, g122_24, g122_25, g122_28, g122_29, g122_30, g122_31, g122_34, g122_37, g122_38, Option.toList_some, Option.toList_none, List.cons_append, List.nil_append, true_and, and_true, true_or, or_true, eq_self, ci0, ci1, cin6, forall_const, not_true_eq_false, not_false_eq_true, fimp, timp, i10, i01, cm_rne, and_assoc, hs, e0, a0, hR.1]
    (repeat' apply And.intro) <;> (try omega) <;> (try (intro hx; exfalso; omega))
    intro _
    refine c122_18 (Nat.le_of_ble_eq_true rfl) hs (q_cu hM' hR hv ⟨hi0, hin⟩ ?_)
    simp (disch := omega) only [g122_0, g122_1, g122_2, g122_3, g122_5, g122_6, g122_9, g122_10, g122_11, g122_14, g122_15, g122_16, g122_17, g122_21, g122_24, g122_25, g122_28, g122_29, g122_30, g122_31, g122_34, g122_37, g122_38, Option.toList_some, Option.toList_none, List.cons_append, List.nil_append, true_and, and_true, true_or, or_true, eq_self, ci0, ci1, cin6, forall_const, not_true_eq_false, not_false_eq_true, fimp, timp, i10, i01, cm_rne, and_assoc]
    (repeat' apply And.intro) <;> (try omega) <;> (try (intro hx; exfalso; omega))
    · intro hz
      (repeat' apply And.intro) <;> (try omega) <;> (try (intro hx; exfalso; omega))
      exact ih _ ⟨by omega, by rw [fP_s _ _ hi0, ← hf, if_pos (by omega)]; omega⟩
    · intro hz
      (repeat' apply And.intro) <;> (try omega) <;> (try (intro hx; exfalso; omega))
      exact ih _ ⟨by omega, by rw [fP_s _ _ hi0, ← hf, if_neg (by omega)]⟩
  · rw [g122_4]
    simp (disch := omega) only [g122_0, g122_1, g122_2, g122_3, g122_5, g122_6, g122_9, g122_10, g122_11, g122_14, g122_15, g122_16, g122_17, g122_21, g122_24, g122_25, g122_28, g122_29, g122_30, g122_31, g122_34, g122_37, g122_38, Option.toList_some, Option.toList_none, List.cons_append, List.nil_append, true_and, and_true, true_or, or_true, eq_self, ci0, ci1, cin6, forall_const, not_true_eq_false, not_false_eq_true, fimp, timp, i10, i01, cm_rne, and_assoc, hs, e0, a0, hR.1]
    (repeat' apply And.intro) <;> (try omega) <;> (try (intro hx; exfalso; omega))
    intro _
    rw [hRs.2]
    exact K
theorem q_allSpreads (hM : isM G m) (hR : rM M (m + 1) S) (hv : vS S) (K : ∀ M', frB M M' m → Q (some (0, sprA S)) G M') : Go 124 0 [some (2, m), none, none] [] G M Q := by
  have hM' := hM
  have hs := hM.2.1
  have h0 := hM.1
  simp (disch := omega) only [g124_0, g124_4, g124_5, g124_6, g124_7, g124_8, g124_10, g124_12, g124_15, g124_16, g124_17, g124_21, g124_22, g124_23, g124_26, g124_29, g124_30, Option.toList_some, Option.toList_none, List.cons_append, List.nil_append, true_and, and_true, true_or, or_true, eq_self, ci0, ci1, cin6, forall_const, not_true_eq_false, not_false_eq_true, fimp, timp, i10, i01, cm_rne, and_assoc]
  refine c124_1 (by decide) hs (q_run hM' hR hv (fun M1 hr pf => ?_))
  have hR1 : rM M1 (m + 1) S := rM_fr hR (pf.1 _ (by omega) (by omega))
  have hT : tks M1 m S := fun i a b => (hr.2 i a b).1
  simp (disch := omega) only [g124_0, g124_4, g124_5, g124_6, g124_7, g124_8, g124_10, g124_12, g124_15, g124_16, g124_17, g124_21, g124_22, g124_23, g124_26, g124_29, g124_30, Option.toList_some, Option.toList_none, List.cons_append, List.nil_append, true_and, and_true, true_or, or_true, eq_self, ci0, ci1, cin6, forall_const, not_true_eq_false, not_false_eq_true, fimp, timp, i10, i01, cm_rne, and_assoc]
  refine go_loop (σ := Int) (fun i s => [some (2, m), some (0, s), some (0, i)]) (fun _ => M1) (fun i s => (0 ≤ s ∧ s ≤ 1801 * i) ∧ s = fP (fun g a => a + spr S g) 0 i.toNat) 8 (fun i s hi0 hin hRs ih => ?_) (fun s hRs => ?_) 0 0 (by omega) (by omega) ⟨by omega, rfl⟩
  · obtain ⟨hb, hf⟩ := hRs
    have hsp := (spr_b hv i).1
    rw [g124_9]
    simp (disch := omega) only [g124_0, g124_4, g124_5, g124_6, g124_7, g124_8, g124_10, g124_12, g124_15, g124_16, g124_17, g124_21, g124_22, g124_23, g124_26, g124_29, g124_30, Option.toList_some, Option.toList_none, List.cons_append, List.nil_append, true_and, and_true, true_or, or_true, eq_self, ci0, ci1, cin6, forall_const, not_true_eq_false, not_false_eq_true, fimp, timp, i10, i01, cm_rne, and_assoc]
    (repeat' apply And.intro) <;> (try omega) <;> (try (intro hx; exfalso; omega))
    intro _
    refine c124_18 (Nat.le_of_ble_eq_true rfl) hs (q_spread hM hR1 hv hT (by omega) ?_)
    simp (disch := omega) only [g124_0, g124_4, g124_5, g124_6, g124_7, g124_8, g124_10, g124_12, g124_15, g124_16, g124_17, g124_21, g124_22, g124_23, g124_26, g124_29, g124_30, Option.toList_some, Option.toList_none, List.cons_append, List.nil_append, true_and, and_true, true_or, or_true, eq_self, ci0, ci1, cin6, forall_const, not_true_eq_false, not_false_eq_true, fimp, timp, i10, i01, cm_rne, and_assoc]
    (repeat' apply And.intro) <;> (try omega) <;> (try (intro hx; exfalso; omega))
    exact ih _ ⟨by omega, by rw [fP_s _ _ hi0, ← hf]⟩
  · rw [g124_9]
    simp (disch := omega) only [g124_0, g124_4, g124_5, g124_6, g124_7, g124_8, g124_10, g124_12, g124_15, g124_16, g124_17, g124_21, g124_22, g124_23, g124_26, g124_29, g124_30, Option.toList_some, Option.toList_none, List.cons_append, List.nil_append, true_and, and_true, true_or, or_true, eq_self, ci0, ci1, cin6, forall_const, not_true_eq_false, not_false_eq_true, fimp, timp, i10, i01, cm_rne, and_assoc]
    (repeat' apply And.intro) <;> (try omega) <;> (try (intro hx; exfalso; omega))
    intro _
    rw [hRs.2]
    exact K M1 pf
theorem q_areSeenFor (hM : isM G m) (hR : rM M (m + 1) S) (hv : vS S) (ht : cm_in t) (K1 : (∀ i, 0 ≤ i → i < sN S → sK S i = 0 → t ≤ eI S i) → ∀ M', frB M M' m → Q (some (0, 1)) G M') (K0 : (¬ ∀ i, 0 ≤ i → i < sN S → sK S i = 0 → t ≤ eI S i) → ∀ M', frB M M' m → Q (some (0, 0)) G M') : Go 126 0 [some (2, m), some (0, t), none, none] [] G M Q := by
  have hM' := hM
  obtain ⟨h0, hs, ⟨e0, e1, e2, e3, e5, e7, e8, e9, e10, e12, e13⟩, a0, a1, a2, a3, a5, a7, a8, a9, a10, a12, a13⟩ := hM
  have hn := hv.2.1
  have hn0 := hv.1
  simp (disch := omega) only [g126_0, g126_4, g126_5, g126_6, g126_7, g126_8, g126_10, g126_11, g126_14, g126_15, g126_16, g126_19, g126_20, g126_23, g126_24, g126_25, g126_29, g126_32, g126_33, g126_36, g126_37, g126_38, g126_39, g126_42, g126_43, g126_46, g126_47, g126_48, g126_51, g126_54, g126_55, Option.toList_some, Option.toList_none, List.cons_append, List.nil_append, true_and, and_true, true_or, or_true, eq_self, ci0, ci1, cin6, forall_const, not_true_eq_false, not_false_eq_true, fimp, timp, i10, i01, cm_rne, and_assoc]
  refine c126_1 (by decide) hs (q_run hM' hR hv (fun M1 hr pf => ?_))
  have hR1 : rM M1 (m + 1) S := rM_fr hR (pf.1 _ (by omega) (by omega))
  have hT : tks M1 m S := fun i a b => (hr.2 i a b).1
  simp (disch := omega) only [g126_0, g126_4, g126_5, g126_6, g126_7, g126_8, g126_10, g126_11, g126_14, g126_15, g126_16, g126_19, g126_20, g126_23, g126_24, g126_25, g126_29, g126_32, g126_33, g126_36, g126_37, g126_38, g126_39, g126_42, g126_43, g126_46, g126_47, g126_48, g126_51, g126_54, g126_55, Option.toList_some, Option.toList_none, List.cons_append, List.nil_append, true_and, and_true, true_or, or_true, eq_self, ci0, ci1, cin6, forall_const, not_true_eq_false, not_false_eq_true, fimp, timp, i10, i01, cm_rne, and_assoc]
  refine go_loop (σ := Int) (fun i s => [some (2, m), some (0, t), some (0, s), some (0, i)]) (fun _ => M1) (fun i s => (s = 1 ∧ ∀ j, 0 ≤ j → j < i → sK S j = 0 → t ≤ eI S j) ∨ (s = 0 ∧ ¬ ∀ j, 0 ≤ j → j < i → sK S j = 0 → t ≤ eI S j)) (sN S) (fun i s hi0 hin hRs ih => ?_) (fun s hRs => ?_) 0 1 (by omega) hn0 (Or.inl ⟨rfl, fun j a b => absurd a (by omega)⟩)
  · have he := eI_b hv ⟨hi0, hin⟩
    have bad : ∀ x : Int, ¬ (∀ j, 0 ≤ j → j < i + 1 → sK S j = 0 → t ≤ eI S j) → x = 0 → Go 126 9 [some (2, m), some (0, t), some (0, x), some (0, i + 1)] [] G M1 Q := fun x hb hx => ih x (Or.inr ⟨hx, hb⟩)
    rw [g126_9]
    simp (disch := omega) only [g126_0, g126_4, g126_5, g126_6, g126_7, g126_8, g126_10, g126_11, g126_14, g126_15, g126_16, g126_19, g126_20, g126_23, g126_24, g126_25, g126_29, g126_32, g126_33, g126_36, g126_37, g126_38, g126_39, g126_42, g126_43, g126_46, g126_47, g126_48, g126_51, g126_54, g126_55, Option.toList_some, Option.toList_none, List.cons_append, List.nil_append, true_and, and_true, true_or, or_true, eq_self, ci0, ci1, cin6, forall_const, not_true_eq_false, not_false_eq_true, fimp, timp, i10, i01, cm_rne, and_assoc, hs, e0, a0, hR1.1]
    (repeat' apply And.intro) <;> (try omega) <;> (try (intro hx; exfalso; omega))
    intro _
    rcases hRs with ⟨rfl, hA⟩ | ⟨rfl, hA⟩
    · simp (disch := omega) only [g126_0, g126_4, g126_5, g126_6, g126_7, g126_8, g126_10, g126_11, g126_14, g126_15, g126_16, g126_19, g126_20, g126_23, g126_24, g126_25, g126_29, g126_32, g126_33, g126_36, g126_37, g126_38, g126_39, g126_42, g126_43, g126_46, g126_47, g126_48, g126_51, g126_54, g126_55, Option.toList_some, Option.toList_none, List.cons_append, List.nil_append, true_and, and_true, true_or, or_true, eq_self, ci0, ci1, cin6, forall_const, not_true_eq_false, not_false_eq_true, fimp, timp, i10, i01, cm_rne, and_assoc]
      (repeat' apply And.intro) <;> (try omega) <;> (try (intro hx; exfalso; omega))
      refine c126_26 (by decide) hs (q_kind hM' hR1 hv ⟨hi0, hin⟩ ?_)
      have w := hv.2.2.2.2.2 i hi0 hin
      simp (disch := omega) only [g126_0, g126_4, g126_5, g126_6, g126_7, g126_8, g126_10, g126_11, g126_14, g126_15, g126_16, g126_19, g126_20, g126_23, g126_24, g126_25, g126_29, g126_32, g126_33, g126_36, g126_37, g126_38, g126_39, g126_42, g126_43, g126_46, g126_47, g126_48, g126_51, g126_54, g126_55, Option.toList_some, Option.toList_none, List.cons_append, List.nil_append, true_and, and_true, true_or, or_true, eq_self, ci0, ci1, cin6, forall_const, not_true_eq_false, not_false_eq_true, fimp, timp, i10, i01, cm_rne, and_assoc, hs, e8, a8, hT i hi0 hin]
      (repeat' apply And.intro) <;> (try omega) <;> (try (intro hx; exfalso; omega))
      · intro hz
        refine ih _ (Or.inl ⟨rfl, fun j a b c => ?_⟩)
        by_cases hj : j = i
        · rw [hj] at c; exact absurd c hz
        · exact hA j a (by omega) c
      · intro hz
        (repeat' apply And.intro) <;> (try omega) <;> (try (intro hx; exfalso; omega))
        · intro h2
          exact bad _ (fun hb => by have := hb i hi0 (by omega) hz; omega) rfl
        · intro h2
          refine ih _ (Or.inl ⟨rfl, fun j a b c => ?_⟩)
          by_cases hj : j = i
          · rw [hj]; omega
          · exact hA j a (by omega) c
    · simp (disch := omega) only [g126_0, g126_4, g126_5, g126_6, g126_7, g126_8, g126_10, g126_11, g126_14, g126_15, g126_16, g126_19, g126_20, g126_23, g126_24, g126_25, g126_29, g126_32, g126_33, g126_36, g126_37, g126_38, g126_39, g126_42, g126_43, g126_46, g126_47, g126_48, g126_51, g126_54, g126_55, Option.toList_some, Option.toList_none, List.cons_append, List.nil_append, true_and, and_true, true_or, or_true, eq_self, ci0, ci1, cin6, forall_const, not_true_eq_false, not_false_eq_true, fimp, timp, i10, i01, cm_rne, and_assoc]
      (repeat' apply And.intro) <;> (try omega) <;> (try (intro hx; exfalso; omega))
      exact bad _ (fun hb => hA (fun j a b c => hb j a (by omega) c)) rfl
  · rw [g126_9]
    simp (disch := omega) only [g126_0, g126_4, g126_5, g126_6, g126_7, g126_8, g126_10, g126_11, g126_14, g126_15, g126_16, g126_19, g126_20, g126_23, g126_24, g126_25, g126_29, g126_32, g126_33, g126_36, g126_37, g126_38, g126_39, g126_42, g126_43, g126_46, g126_47, g126_48, g126_51, g126_54, g126_55, Option.toList_some, Option.toList_none, List.cons_append, List.nil_append, true_and, and_true, true_or, or_true, eq_self, ci0, ci1, cin6, forall_const, not_true_eq_false, not_false_eq_true, fimp, timp, i10, i01, cm_rne, and_assoc, hs, e0, a0, hR1.1]
    (repeat' apply And.intro) <;> (try omega) <;> (try (intro hx; exfalso; omega))
    intro _
    rcases hRs with ⟨rfl, hA⟩ | ⟨rfl, hA⟩
    · exact ⟨Or.inr rfl, K1 hA M1 pf⟩
    · exact ⟨Or.inl rfl, K0 hA M1 pf⟩
theorem q_seenNow {x : Int} (hM : isM G m) (hR : rM M (m + 1) S) (hv : vS S) (hA : ∀ i, 0 ≤ i → i ≤ sN S → M (m + 6) i = tI S i) (ht : 0 ≤ t) (hx : M m 11 = pos S (sN S).toNat t.toNat) (hxb : pos S (sN S).toNat t.toNat ≤ 1000000) (hw : 0 ≤ w ∧ w ≤ 2) (K0 : w = 0 → ∀ r, isFst (seen S t) (sN S) r → Q (some (0, r)) G M) (K1 : w = 1 → ∀ r, isLst (seen S t) (sN S) r → Q (some (0, r)) G M) (K2 : w = 2 → Q (some (0, cntP (seen S t) (sN S).toNat)) G M) : Go 118 0 [some (2, m), some (0, w), none, none, none, none] [] G M Q := by
  have hM' := hM
  obtain ⟨h0, hs, ⟨e0, e1, e2, e3, e5, e7, e8, e9, e10, e12, e13⟩, a0, a1, a2, a3, a5, a7, a8, a9, a10, a12, a13⟩ := hM
  have hn := hv.2.1
  have hn0 := hv.1
  have hpb := pos_b hv (k := (sN S).toNat) (by omega) t.toNat
  simp (disch := omega) only [g118_0, g118_1, g118_2, g118_4, g118_5, g118_7, g118_9, g118_10, g118_14, g118_15, g118_18, g118_19, g118_20, g118_23, g118_24, g118_29, g118_32, g118_35, g118_36, g118_38, g118_41, g118_43, g118_46, g118_47, g118_48, g118_50, g118_52, g118_55, g118_58, g118_59, g118_62, g118_63, g118_66, g118_67, g118_68, g118_71, g118_73, g118_76, g118_77, Option.toList_some, Option.toList_none, List.cons_append, List.nil_append, true_and, and_true, true_or, or_true, eq_self, ci0, ci1, cin6, forall_const, not_true_eq_false, not_false_eq_true, fimp, timp, i10, i01, cm_rne, and_assoc]
  refine go_loop (σ := Int × Int × Int) (fun i s => [some (2, m), some (0, w), some (0, s.1), some (0, s.2.1), some (0, s.2.2), some (0, i)]) (fun _ => M) (fun i s => ((0 ≤ s.1 ∧ s.1 ≤ i) ∧ s.1 = cntP (seen S t) i.toNat) ∧ ((-6 ≤ s.2.1 ∧ s.2.1 < i) ∧ isFst (seen S t) i s.2.1) ∧ isLst (seen S t) i s.2.2) (sN S) (fun i s hi0 hin hRs ih => ?_) (fun s hRs => ?_) 0 (0, -6, -6) (by omega) hn0 ⟨⟨⟨by decide, by decide⟩, rfl⟩, ⟨⟨by decide, by decide⟩, Or.inr ⟨rfl, fun j a b => absurd a (by omega)⟩⟩, Or.inr ⟨rfl, fun j a b => absurd a (by omega)⟩⟩
  · obtain ⟨n, lo, hi⟩ := s
    obtain ⟨⟨hb, hf⟩, ⟨hb2, hlo⟩, hhi⟩ := hRs
    dsimp only at hb hf hlo hb2 hhi ⊢
    have hc := cntP_s (seen S t) hi0
    have hsn := seen_iff (i := i) hv t.toNat
    rw [show ((t.toNat : Nat) : Int) = t by omega] at hsn
    rw [g118_12]
    simp (disch := omega) only [g118_0, g118_1, g118_2, g118_4, g118_5, g118_7, g118_9, g118_10, g118_14, g118_15, g118_18, g118_19, g118_20, g118_23, g118_24, g118_29, g118_32, g118_35, g118_36, g118_38, g118_41, g118_43, g118_46, g118_47, g118_48, g118_50, g118_52, g118_55, g118_58, g118_59, g118_62, g118_63, g118_66, g118_67, g118_68, g118_71, g118_73, g118_76, g118_77, Option.toList_some, Option.toList_none, List.cons_append, List.nil_append, true_and, and_true, true_or, or_true, eq_self, ci0, ci1, cin6, forall_const, not_true_eq_false, not_false_eq_true, fimp, timp, i10, i01, cm_rne, and_assoc, hs, e0, a0, hR.1]
    (repeat' apply And.intro) <;> (try omega) <;> (try (intro hx; exfalso; omega))
    intro _
    refine c118_26 (by decide) hs (q_isSeen hM' hR hv hA hx (by omega) ⟨hi0, hin⟩ (fun hz => ?_) (fun hz => ?_)) <;> simp (disch := omega) only [g118_0, g118_1, g118_2, g118_4, g118_5, g118_7, g118_9, g118_10, g118_14, g118_15, g118_18, g118_19, g118_20, g118_23, g118_24, g118_29, g118_32, g118_35, g118_36, g118_38, g118_41, g118_43, g118_46, g118_47, g118_48, g118_50, g118_52, g118_55, g118_58, g118_59, g118_62, g118_63, g118_66, g118_67, g118_68, g118_71, g118_73, g118_76, g118_77, Option.toList_some, Option.toList_none, List.cons_append, List.nil_append, true_and, and_true, true_or, or_true, eq_self, ci0, ci1, cin6, forall_const, not_true_eq_false, not_false_eq_true, fimp, timp, i10, i01, cm_rne, and_assoc]
    · have hz2 := hsn.mpr hz
      have l3 : isLst (seen S t) (i + 1) i := Or.inl ⟨hi0, by omega, hz2, fun j a b => by omega⟩
      (repeat' apply And.intro) <;> (try omega) <;> (try (intro hx; exfalso; omega))
      · intro h6
        refine ih (n + 1, lo, i) ⟨⟨⟨by show (0 : Int) ≤ n + 1; omega, by show n + 1 ≤ i + 1; omega⟩, by rw [hc.1 hz2, ← hf]⟩, ⟨⟨by show -6 ≤ lo; omega, by show lo < i + 1; omega⟩, ?_⟩, l3⟩
        rcases hlo with ⟨z1, z2, z3, z4⟩ | ⟨z1, -⟩
        · exact Or.inl ⟨z1, by show lo < i + 1; omega, z3, z4⟩
        · exact absurd z1 h6
      · intro h6
        refine ih (n + 1, i, i) ⟨⟨⟨by show (0 : Int) ≤ n + 1; omega, by show n + 1 ≤ i + 1; omega⟩, by rw [hc.1 hz2, ← hf]⟩, ⟨⟨by show -6 ≤ i; omega, by show i < i + 1; omega⟩, ?_⟩, l3⟩
        rcases hlo with ⟨z1, z2, z3, z4⟩ | ⟨z1, z2⟩
        · omega
        · exact Or.inl ⟨hi0, by show i < i + 1; omega, hz2, fun j a b => z2 j a b⟩
    · have hz2 : ¬ seen S t i := fun y => hz (hsn.mp y)
      refine ih (n, lo, hi) ⟨⟨⟨hb.1, by show n ≤ i + 1; omega⟩, by rw [hc.2 hz2, ← hf]⟩, ⟨⟨hb2.1, by show lo < i + 1; omega⟩, ?_⟩, ?_⟩
      · rcases hlo with ⟨z1, z2, z3, z4⟩ | ⟨z1, z2⟩
        · exact Or.inl ⟨z1, by show lo < i + 1; omega, z3, z4⟩
        · refine Or.inr ⟨z1, fun j a b => ?_⟩
          by_cases hj : j = i
          · rw [hj]; exact hz2
          · exact z2 j a (by omega)
      · rcases hhi with ⟨z1, z2, z3, z4⟩ | ⟨z1, z2⟩
        · refine Or.inl ⟨z1, by show hi < i + 1; omega, z3, fun j a b => ?_⟩
          by_cases hj : j = i
          · rw [hj]; exact hz2
          · exact z4 j a (by omega)
        · refine Or.inr ⟨z1, fun j a b => ?_⟩
          by_cases hj : j = i
          · rw [hj]; exact hz2
          · exact z2 j a (by omega)
  · obtain ⟨n, lo, hi⟩ := s
    obtain ⟨⟨hb, hf⟩, ⟨hb2, hlo⟩, hhi⟩ := hRs
    dsimp only at hb hf hlo hb2 hhi ⊢
    rw [g118_12]
    simp (disch := omega) only [g118_0, g118_1, g118_2, g118_4, g118_5, g118_7, g118_9, g118_10, g118_14, g118_15, g118_18, g118_19, g118_20, g118_23, g118_24, g118_29, g118_32, g118_35, g118_36, g118_38, g118_41, g118_43, g118_46, g118_47, g118_48, g118_50, g118_52, g118_55, g118_58, g118_59, g118_62, g118_63, g118_66, g118_67, g118_68, g118_71, g118_73, g118_76, g118_77, Option.toList_some, Option.toList_none, List.cons_append, List.nil_append, true_and, and_true, true_or, or_true, eq_self, ci0, ci1, cin6, forall_const, not_true_eq_false, not_false_eq_true, fimp, timp, i10, i01, cm_rne, and_assoc, hs, e0, a0, hR.1]
    (repeat' apply And.intro) <;> (try omega) <;> (try (intro hx; exfalso; omega))
    intro _
    (repeat' apply And.intro) <;> (try omega) <;> (try (intro hx; exfalso; omega))
    · intro h
      (repeat' apply And.intro) <;> (try omega) <;> (try (intro hx; exfalso; omega))
      · intro h2
        rw [hf]
        exact K2 (by omega)
      · intro h2
        exact K1 h2 _ hhi
    · intro h
      exact K0 h _ hlo
end MODEL2
