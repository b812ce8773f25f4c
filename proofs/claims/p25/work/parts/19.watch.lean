section WATCH
variable {G : cm_G} {M : cm_M} {d c i j h v g : Int} {S : sS} {Q : Option cm_V → cm_G → cm_M → Prop}
theorem stM_fr {M' : cm_M} {k : Nat} (h : stM M d S k) (e0 : M' d 8 = M d 8) (e4 : M' (d + 10) = M (d + 10)) (e5 : M' (d + 11) = M (d + 11)) (e6 : M' (d + 12) = M (d + 12)) : stM M' d S k := by
  unfold stM
  rw [e0, e4, e5, e6]
  exact h
theorem p_watch (hK : isK G d c) (hv : vS S) (hR : rC M c S) (htop : ∀ i, 0 ≤ i → i < sN S → M (d + 7) i = tI S i) (hst : stM M d S (sN S).toNat) (K : ∀ M', (∀ i, 0 ≤ i → i < sN S → M' (d + 8) i = fI S i ∧ M' (d + 9) i = eI S i) → fr M M' (d + 8) (d + 9) → Q none G M') : Go 6 0 [some (2, d), none, none, none, none, none] [] G M Q := by
  have hK' := hK
  obtain ⟨h0, hs, ⟨e0, e1, e2, e3, e5, e6, e7⟩, ⟨a1, a2, a3, a4, a5, a6⟩, hC, hd⟩ := hK
  have hC' := hC
  obtain ⟨hc0, hcs, ⟨f0, f1, f2, f3, f4⟩, b1, b2, b3, b4, b5⟩ := hC
  have hn := hv.2.1
  have hn0 := hv.1
  have hscr := hv.2.2.1
  have hs1 := hst.1
  have hkn : (((sN S).toNat : Nat) : Int) ≤ sN S := by omega
  have hH0 : M (d + 11) 0 = 0 := hst.2.1.2
  simp (disch := omega) only [g6_0, g6_1, g6_2, g6_3, g6_4, g6_5, g6_7, g6_8, g6_11, g6_14, g6_17, g6_19, g6_20, g6_23, g6_24, g6_25, g6_26, g6_29, g6_33, g6_34, g6_35, g6_37, g6_39, g6_40, g6_43, g6_44, g6_45, g6_46, g6_49, g6_52, g6_53, g6_54, g6_55, g6_56, g6_57, g6_58, g6_60, g6_61, g6_63, g6_67, g6_68, g6_69, g6_71, g6_75, g6_76, g6_77, g6_80, g6_81, g6_82, g6_83, g6_88, g6_89, g6_90, g6_93, g6_94, g6_95, g6_96, g6_101, g6_102, g6_105, g6_106, g6_107, g6_108, g6_109, g6_112, g6_115, Option.toList_some, Option.toList_none, List.cons_append, List.nil_append, true_and, and_true, true_or, or_true, eq_self, ci0, ci1, cin6, forall_const, not_true_eq_false, not_false_eq_true, fimp, timp, i10, i01, cm_rne, and_assoc]
  suffices hgen : ∀ x4 x5 : Option cm_V, Go 6 6 [some (2, d), some (0, 0), some (0, 0), some (0, 0), x4, x5] [] G M Q from hgen none none
  intro x4 x5
  refine go_loop (σ := (Int × Int) × (Option cm_V × Option cm_V) × cm_M) (fun i s => [some (2, d), some (0, s.1.1), some (0, s.1.2), some (0, i), s.2.1.1, s.2.1.2]) (fun s => s.2.2) (fun i s => (∀ j, 0 ≤ j → j < i → s.2.2 (d + 8) j = fI S j ∧ s.2.2 (d + 9) j = eI S j) ∧ fr M s.2.2 (d + 8) (d + 9) ∧ (0 ≤ s.1.1 ∧ s.1.1 < M d 8 ∧ M (d + 11) s.1.1 < 10 * tI S i + 1) ∧ (0 ≤ s.1.2 ∧ s.1.2 < M d 8 ∧ M (d + 11) s.1.2 < 10 * (tI S i + sT S 0) + 1)) (sN S) (fun i s hi0 hin hRs ih => ?_) (fun s hRs => ?_) 0 ((0, 0), (x4, x5), M) (by omega) hv.1 ⟨fun j a b => absurd a (by omega), fr.rf, ⟨by simp, by show (0 : Int) < M d 8; omega, by show M (d + 11) 0 < 10 * 0 + 1; omega⟩, ⟨by simp, by show (0 : Int) < M d 8; omega, by show M (d + 11) 0 < 10 * (0 + sT S 0) + 1; omega⟩⟩
  · obtain ⟨⟨en, le⟩, ⟨y4, y5⟩, s⟩ := s
    obtain ⟨h1, hf, ⟨c1, c2, c3⟩, ⟨c4, c5, c6⟩⟩ := hRs
    simp only at h1 hf c1 c2 c3 c4 c5 c6 ih ⊢
    have hR1 := hR.fr hf (by omega)
    have r1 := hR1.1
    have r2 := hR1.2.1 0 (by decide) (by decide)
    have q0 : s d 8 = M d 8 := by rw [hf d (by omega)]
    have q1 : s (d + 7) i = tI S i := by rw [hf (d + 7) (by omega)]; exact htop i hi0 hin
    have q4 := hf (d + 10) (by omega)
    have q5 := hf (d + 11) (by omega)
    have q6 := hf (d + 12) (by omega)
    have hst1 : stM s d S (sN S).toNat := stM_fr hst q0 q4 q5 q6
    have t1 := tI_b hv (i := i) hi0
    have t2 := tI_s S hi0
    have t3 := vS_h hv i
    rw [g6_6]
    simp (disch := omega) only [g6_0, g6_1, g6_2, g6_3, g6_4, g6_5, g6_7, g6_8, g6_11, g6_14, g6_17, g6_19, g6_20, g6_23, g6_24, g6_25, g6_26, g6_29, g6_33, g6_34, g6_35, g6_37, g6_39, g6_40, g6_43, g6_44, g6_45, g6_46, g6_49, g6_52, g6_53, g6_54, g6_55, g6_56, g6_57, g6_58, g6_60, g6_61, g6_63, g6_67, g6_68, g6_69, g6_71, g6_75, g6_76, g6_77, g6_80, g6_81, g6_82, g6_83, g6_88, g6_89, g6_90, g6_93, g6_94, g6_95, g6_96, g6_101, g6_102, g6_105, g6_106, g6_107, g6_108, g6_109, g6_112, g6_115, Option.toList_some, Option.toList_none, List.cons_append, List.nil_append, true_and, and_true, true_or, or_true, eq_self, ci0, ci1, cin6, forall_const, not_true_eq_false, not_false_eq_true, fimp, timp, i10, i01, cm_rne, and_assoc, hs, e0, hcs, e1, a1, r1, q1]
    (repeat' apply And.intro) <;> (try omega) <;> (try (intro hx; exfalso; omega))
    intro _
    (repeat' apply And.intro) <;> (try omega) <;> (try (intro hx; exfalso; omega))
    refine c6_30 (Nat.le_of_ble_eq_true rfl) hcs (p_heightOf hC' hR1 hv (by omega) ?_)
    simp (disch := omega) only [g6_0, g6_1, g6_2, g6_3, g6_4, g6_5, g6_7, g6_8, g6_11, g6_14, g6_17, g6_19, g6_20, g6_23, g6_24, g6_25, g6_26, g6_29, g6_33, g6_34, g6_35, g6_37, g6_39, g6_40, g6_43, g6_44, g6_45, g6_46, g6_49, g6_52, g6_53, g6_54, g6_55, g6_56, g6_57, g6_58, g6_60, g6_61, g6_63, g6_67, g6_68, g6_69, g6_71, g6_75, g6_76, g6_77, g6_80, g6_81, g6_82, g6_83, g6_88, g6_89, g6_90, g6_93, g6_94, g6_95, g6_96, g6_101, g6_102, g6_105, g6_106, g6_107, g6_108, g6_109, g6_112, g6_115, Option.toList_some, Option.toList_none, List.cons_append, List.nil_append, true_and, and_true, true_or, or_true, eq_self, ci0, ci1, cin6, forall_const, not_true_eq_false, not_false_eq_true, fimp, timp, i10, i01, cm_rne, and_assoc, hs, e0, hcs, f0, e1, a1, b1, r2, q1]
    (repeat' apply And.intro) <;> (try omega) <;> (try (intro hx; exfalso; omega))
    refine c6_64 (by decide) hs (p_stretchReaching hK' hv hst1 hkn (by rw [q0]; omega) (by rw [q5]; omega) (by omega) (fun en' k1 k2 k3 => ?_))
    rw [q0] at k1 k3
    rw [q5] at k2 k3
    simp (disch := omega) only [g6_0, g6_1, g6_2, g6_3, g6_4, g6_5, g6_7, g6_8, g6_11, g6_14, g6_17, g6_19, g6_20, g6_23, g6_24, g6_25, g6_26, g6_29, g6_33, g6_34, g6_35, g6_37, g6_39, g6_40, g6_43, g6_44, g6_45, g6_46, g6_49, g6_52, g6_53, g6_54, g6_55, g6_56, g6_57, g6_58, g6_60, g6_61, g6_63, g6_67, g6_68, g6_69, g6_71, g6_75, g6_76, g6_77, g6_80, g6_81, g6_82, g6_83, g6_88, g6_89, g6_90, g6_93, g6_94, g6_95, g6_96, g6_101, g6_102, g6_105, g6_106, g6_107, g6_108, g6_109, g6_112, g6_115, Option.toList_some, Option.toList_none, List.cons_append, List.nil_append, true_and, and_true, true_or, or_true, eq_self, ci0, ci1, cin6, forall_const, not_true_eq_false, not_false_eq_true, fimp, timp, i10, i01, cm_rne, and_assoc]
    refine c6_72 (by decide) hs (p_stretchReaching hK' hv hst1 hkn (by rw [q0]; omega) (by rw [q5]; omega) (by omega) (fun le' l1 l2 l3 => ?_))
    rw [q0] at l1 l3
    rw [q5] at l2 l3
    simp (disch := omega) only [g6_0, g6_1, g6_2, g6_3, g6_4, g6_5, g6_7, g6_8, g6_11, g6_14, g6_17, g6_19, g6_20, g6_23, g6_24, g6_25, g6_26, g6_29, g6_33, g6_34, g6_35, g6_37, g6_39, g6_40, g6_43, g6_44, g6_45, g6_46, g6_49, g6_52, g6_53, g6_54, g6_55, g6_56, g6_57, g6_58, g6_60, g6_61, g6_63, g6_67, g6_68, g6_69, g6_71, g6_75, g6_76, g6_77, g6_80, g6_81, g6_82, g6_83, g6_88, g6_89, g6_90, g6_93, g6_94, g6_95, g6_96, g6_101, g6_102, g6_105, g6_106, g6_107, g6_108, g6_109, g6_112, g6_115, Option.toList_some, Option.toList_none, List.cons_append, List.nil_append, true_and, and_true, true_or, or_true, eq_self, ci0, ci1, cin6, forall_const, not_true_eq_false, not_false_eq_true, fimp, timp, i10, i01, cm_rne, and_assoc, hs, e2]
    have et : 10 * (tI S i + sH S i) = 10 * tI S (i + 1) := by rw [t2]
    have hf1 : tau S (10 * (tI S i + sH S i)) = fI S i := by rw [et]; rfl
    refine c6_85 (Nat.le_of_ble_eq_true rfl) hs (p_timeIn hK' hv hst1 (by rw [q0]; omega) (by rw [q5]; exact k2) (by rw [q0, q5]; exact k3) (by omega) ?_)
    rw [hf1]
    simp (disch := omega) only [g6_0, g6_1, g6_2, g6_3, g6_4, g6_5, g6_7, g6_8, g6_11, g6_14, g6_17, g6_19, g6_20, g6_23, g6_24, g6_25, g6_26, g6_29, g6_33, g6_34, g6_35, g6_37, g6_39, g6_40, g6_43, g6_44, g6_45, g6_46, g6_49, g6_52, g6_53, g6_54, g6_55, g6_56, g6_57, g6_58, g6_60, g6_61, g6_63, g6_67, g6_68, g6_69, g6_71, g6_75, g6_76, g6_77, g6_80, g6_81, g6_82, g6_83, g6_88, g6_89, g6_90, g6_93, g6_94, g6_95, g6_96, g6_101, g6_102, g6_105, g6_106, g6_107, g6_108, g6_109, g6_112, g6_115, Option.toList_some, Option.toList_none, List.cons_append, List.nil_append, true_and, and_true, true_or, or_true, eq_self, ci0, ci1, cin6, forall_const, not_true_eq_false, not_false_eq_true, fimp, timp, i10, i01, cm_rne, and_assoc, hs, e3, a2]
    (repeat' apply And.intro) <;> (try omega) <;> (try (intro hx; exfalso; omega))
    have hst2 : stM (cm_up s (d + 8) i (fI S i)) d S (sN S).toNat := stM_fr hst1 (by rw [cm_rne (by omega)]) (cm_rne (by omega)) (cm_rne (by omega)) (cm_rne (by omega))
    refine c6_98 (Nat.le_of_ble_eq_true rfl) hs (p_timeIn hK' hv hst2 (by rw [cm_rne (by omega), q0]; omega) (by rw [cm_rne (by omega), q5]; exact l2) (by rw [cm_rne (by omega), cm_rne (by omega), q0, q5]; exact l3) (by omega) ?_)
    simp (disch := omega) only [g6_0, g6_1, g6_2, g6_3, g6_4, g6_5, g6_7, g6_8, g6_11, g6_14, g6_17, g6_19, g6_20, g6_23, g6_24, g6_25, g6_26, g6_29, g6_33, g6_34, g6_35, g6_37, g6_39, g6_40, g6_43, g6_44, g6_45, g6_46, g6_49, g6_52, g6_53, g6_54, g6_55, g6_56, g6_57, g6_58, g6_60, g6_61, g6_63, g6_67, g6_68, g6_69, g6_71, g6_75, g6_76, g6_77, g6_80, g6_81, g6_82, g6_83, g6_88, g6_89, g6_90, g6_93, g6_94, g6_95, g6_96, g6_101, g6_102, g6_105, g6_106, g6_107, g6_108, g6_109, g6_112, g6_115, Option.toList_some, Option.toList_none, List.cons_append, List.nil_append, true_and, and_true, true_or, or_true, eq_self, ci0, ci1, cin6, forall_const, not_true_eq_false, not_false_eq_true, fimp, timp, i10, i01, cm_rne, and_assoc, hs, e2, a2, a3]
    (repeat' apply And.intro) <;> (try omega) <;> (try (intro hx; exfalso; omega))
    refine ih ((en', le'), (some (0, 10 * (tI S i + sH S i)), some (0, 10 * (tI S i + sT S 0) + 1)), cm_up (cm_up s (d + 8) i (fI S i)) (d + 9) i (tau S (10 * (tI S i + sT S 0) + 1) - cm_up s (d + 8) i (fI S i) (d + 8) i)) ?_
    dsimp only
    rw [t2]
    refine ⟨fun j x y => ?_, hf.tr (fun k hk => by simp (disch := omega) only [cm_rne]), ⟨by omega, by omega, by omega⟩, ⟨by omega, by omega, by omega⟩⟩
    rw [cm_rne (show d + 8 ≠ d + 9 by omega), cm_req, cm_req]
    show (if j = i then fI S i else s (d + 8) j) = fI S j ∧ (if j = i then tau S (10 * (tI S i + sT S 0) + 1) - (if i = i then fI S i else s (d + 8) i) else cm_up s (d + 8) i (fI S i) (d + 9) j) = eI S j
    by_cases hj : j = i
    · rw [if_pos hj, if_pos hj, if_pos rfl, hj]
      exact ⟨rfl, rfl⟩
    · rw [if_neg hj, if_neg hj, cm_rne (by omega)]
      exact h1 j x (by omega)
  · obtain ⟨⟨en, le⟩, ⟨y4, y5⟩, s⟩ := s
    obtain ⟨h1, hf, -, -⟩ := hRs
    simp only at h1 hf ⊢
    have r1 := (hR.fr hf (by omega)).1
    rw [g6_6]
    simp (disch := omega) only [g6_0, g6_1, g6_2, g6_3, g6_4, g6_5, g6_7, g6_8, g6_11, g6_14, g6_17, g6_19, g6_20, g6_23, g6_24, g6_25, g6_26, g6_29, g6_33, g6_34, g6_35, g6_37, g6_39, g6_40, g6_43, g6_44, g6_45, g6_46, g6_49, g6_52, g6_53, g6_54, g6_55, g6_56, g6_57, g6_58, g6_60, g6_61, g6_63, g6_67, g6_68, g6_69, g6_71, g6_75, g6_76, g6_77, g6_80, g6_81, g6_82, g6_83, g6_88, g6_89, g6_90, g6_93, g6_94, g6_95, g6_96, g6_101, g6_102, g6_105, g6_106, g6_107, g6_108, g6_109, g6_112, g6_115, Option.toList_some, Option.toList_none, List.cons_append, List.nil_append, true_and, and_true, true_or, or_true, eq_self, ci0, ci1, cin6, forall_const, not_true_eq_false, not_false_eq_true, fimp, timp, i10, i01, cm_rne, and_assoc, hs, e0, hcs, r1]
    (repeat' apply And.intro) <;> (try omega) <;> (try (intro hx; exfalso; omega))
    exact fun _ => K _ h1 hf
/-- what Course holds behind follow -/
def fol (M : cm_M) (d : Int) (S : sS) : Prop := (∀ i, 0 ≤ i → i < sN S → M (d + 7) i = tI S i ∧ M (d + 8) i = fI S i ∧ M (d + 9) i = eI S i) ∧ M d 4 = tI S (sN S) ∧ stM M d S (sN S).toNat
theorem p_follow (hK : isK G d c) (hv : vS S) (hR : rC M c S) (K : ∀ M', fol M' d S → rC M' c S → fr M M' d (d + 12) → Q none G M') : Go 1 0 [some (2, d)] [] G M Q := by
  have hs := hK.2.1
  have h0 := hK.1
  have hd := hK.2.2.2.2.2
  simp (disch := omega) only [g1_0, g1_4, g1_8, g1_12, Option.toList_some, Option.toList_none, List.cons_append, List.nil_append, true_and, and_true, true_or, or_true, eq_self, ci0, ci1, cin6, forall_const, not_true_eq_false, not_false_eq_true, fimp, timp, i10, i01, cm_rne, and_assoc]
  refine c1_1 (by decide) hs (p_layOut hK hv hR (fun M1 p1 p2 pf => ?_))
  simp (disch := omega) only [g1_0, g1_4, g1_8, g1_12, Option.toList_some, Option.toList_none, List.cons_append, List.nil_append, true_and, and_true, true_or, or_true, eq_self, ci0, ci1, cin6, forall_const, not_true_eq_false, not_false_eq_true, fimp, timp, i10, i01, cm_rne, and_assoc]
  have hR1 := hR.of (fun k _ _ => pf k (by omega) (by omega))
  refine c1_5 (by decide) hs (p_pace hK hv hR1 p1 (fun M2 q1 qf => ?_))
  simp (disch := omega) only [g1_0, g1_4, g1_8, g1_12, Option.toList_some, Option.toList_none, List.cons_append, List.nil_append, true_and, and_true, true_or, or_true, eq_self, ci0, ci1, cin6, forall_const, not_true_eq_false, not_false_eq_true, fimp, timp, i10, i01, cm_rne, and_assoc]
  have qf' : fr M1 M2 d (d + 12) := fun k hk => qf.1 k (by omega) (by omega) (by omega) (by omega)
  have hR2 := hR1.of (fun k _ _ => qf.1 k (by omega) (by omega) (by omega) (by omega))
  have e1 : M2 (d + 7) = M1 (d + 7) := qf.1 _ (by omega) (by omega) (by omega) (by omega)
  refine c1_9 (by decide) hs (p_watch hK hv hR2 (fun i a b => by rw [e1]; exact p1 i a b) q1 (fun M3 w1 wf => ?_))
  simp (disch := omega) only [g1_0, g1_4, g1_8, g1_12, Option.toList_some, Option.toList_none, List.cons_append, List.nil_append, true_and, and_true, true_or, or_true, eq_self, ci0, ci1, cin6, forall_const, not_true_eq_false, not_false_eq_true, fimp, timp, i10, i01, cm_rne, and_assoc]
  refine K M3 ⟨fun i a b => ⟨by rw [wf (d + 7) (by omega), e1]; exact p1 i a b, w1 i a b⟩, by rw [wf d (by omega), qf.2 4 (by decide)]; exact p2, stM_fr q1 (by rw [wf d (by omega)]) (wf _ (by omega)) (wf _ (by omega)) (wf _ (by omega))⟩ (hR2.fr wf (by omega)) (((show fr M M1 d (d + 12) from fun k hk => pf k (by omega) (by omega)).tr qf').tr (wf.wd (by omega) (by omega)))
end WATCH
