/-! ===== the reference: blame, the speed for all ===== -/
section MODEL10
variable {G : cm_G} {M : cm_M} {m i j t v w g h s n k u a b : Int} {S : sS} {A : sA} {Q : Option cm_V → cm_G → cm_M → Prop}
theorem q_blame (hm : isM G m) (hA : rMA M m A) (hv : vA A) (hw : cm_in w) (K : ∀ M', rMA M' m A → fr M M' m (m + 11) → Q (some (0, xBlame (aS A) w)) G M') : Go 125 0 [some (2, m), some (0, w), none, none, none, none, none, none] [] G M Q := by
  have hm' := hm
  obtain ⟨h0, hsh, ⟨e0, e1, e2, e3, e5, e7, e8, e9, e10, e12, e13⟩, a0, a1, a2, a3, a5, a7, a8, a9, a10, a12, a13⟩ := hm
  have hA' := hA
  obtain ⟨b1, b2, b3, b4, b5⟩ := hA
  have hn1 := hv.1.2.1
  have hn0 := hv.1.1
  unfold xBlame at K
  simp (disch := omega) only [g125_0, g125_1, g125_2, g125_6, g125_9, g125_11, g125_12, g125_14, g125_15, g125_17, g125_18, g125_19, g125_23, g125_24, g125_27, g125_28, g125_29, g125_32, g125_33, g125_35, g125_39, g125_41, g125_43, g125_46, g125_47, g125_50, g125_51, g125_52, g125_54, g125_55, g125_56, g125_57, g125_58, g125_59, g125_60, g125_64, g125_66, g125_67, g125_70, g125_71, g125_72, g125_74, g125_75, g125_76, g125_77, g125_78, g125_80, g125_81, g125_82, g125_84, g125_87, g125_89, g125_90, g125_93, g125_94, g125_97, g125_98, g125_100, g125_102, g125_105, g125_107, g125_110, g125_111, g125_112, g125_114, g125_117, g125_119, g125_122, g125_123, g125_124, g125_127, g125_130, g125_131, g125_134, g125_135, g125_138, g125_139, Option.toList_some, Option.toList_none, List.cons_append, List.nil_append, true_and, and_true, true_or, or_true, eq_self, ci0, ci1, cin6, forall_const, not_true_eq_false, not_false_eq_true, fimp, timp, i10, i01, cm_rne, and_assoc]
  refine c125_3 (Nat.le_of_ble_eq_true rfl) (q_in hw cn0 cn1 (fun h1 => ?_) (fun h1 => ?_)) <;> simp (disch := omega) only [g125_0, g125_1, g125_2, g125_6, g125_9, g125_11, g125_12, g125_14, g125_15, g125_17, g125_18, g125_19, g125_23, g125_24, g125_27, g125_28, g125_29, g125_32, g125_33, g125_35, g125_39, g125_41, g125_43, g125_46, g125_47, g125_50, g125_51, g125_52, g125_54, g125_55, g125_56, g125_57, g125_58, g125_59, g125_60, g125_64, g125_66, g125_67, g125_70, g125_71, g125_72, g125_74, g125_75, g125_76, g125_77, g125_78, g125_80, g125_81, g125_82, g125_84, g125_87, g125_89, g125_90, g125_93, g125_94, g125_97, g125_98, g125_100, g125_102, g125_105, g125_107, g125_110, g125_111, g125_112, g125_114, g125_117, g125_119, g125_122, g125_123, g125_124, g125_127, g125_130, g125_131, g125_134, g125_135, g125_138, g125_139, Option.toList_some, Option.toList_none, List.cons_append, List.nil_append, true_and, and_true, true_or, or_true, eq_self, ci0, ci1, cin6, forall_const, not_true_eq_false, not_false_eq_true, fimp, timp, i10, i01, cm_rne, and_assoc]
  · rw [ite'_p h1] at K
    refine go_loop (σ := Option cm_V × Option cm_V × Option cm_V × cm_M) (fun i s => [some (2, m), some (0, w), some (0, (fP (bstep (aS A)) (-6, -6) i.toNat).1), some (0, (fP (bstep (aS A)) (-6, -6) i.toNat).2), some (0, i), s.1, s.2.1, s.2.2.1]) (fun s => s.2.2.2) (fun i s => frS M s.2.2.2 m ∧ rM s.2.2.2 (m + 1) (aS A)) (sN (aS A)) (fun i s hi0 hin hRs ih => ?_) (fun s hRs => ?_) 0 (none, none, none, M) (by omega) hn0 ⟨frS.rf, b1⟩
    · obtain ⟨x5, x6, x7, s⟩ := s
      obtain ⟨u2, u3⟩ := hRs
      dsimp only at u2 u3 ⊢
      have wv := hv.1.2.2.2.2.2 i hi0 hin
      have hbb := bstep_b hv.1 i.toNat
      have stp : fP (bstep (aS A)) (-6, -6) (i + 1).toNat = bstep (aS A) i (fP (bstep (aS A)) (-6, -6) i.toNat) := fP_s _ _ hi0
      rw [stp] at ih
      generalize fP (bstep (aS A)) (-6, -6) i.toNat = p at *
      unfold bstep at ih
      have hvc : vS (sCue (aS A) i 0) := cue0 hv.1
      have hsb := sprA_b hvc
      rw [g125_21]
      simp (disch := omega) only [g125_0, g125_1, g125_2, g125_6, g125_9, g125_11, g125_12, g125_14, g125_15, g125_17, g125_18, g125_19, g125_23, g125_24, g125_27, g125_28, g125_29, g125_32, g125_33, g125_35, g125_39, g125_41, g125_43, g125_46, g125_47, g125_50, g125_51, g125_52, g125_54, g125_55, g125_56, g125_57, g125_58, g125_59, g125_60, g125_64, g125_66, g125_67, g125_70, g125_71, g125_72, g125_74, g125_75, g125_76, g125_77, g125_78, g125_80, g125_81, g125_82, g125_84, g125_87, g125_89, g125_90, g125_93, g125_94, g125_97, g125_98, g125_100, g125_102, g125_105, g125_107, g125_110, g125_111, g125_112, g125_114, g125_117, g125_119, g125_122, g125_123, g125_124, g125_127, g125_130, g125_131, g125_134, g125_135, g125_138, g125_139, Option.toList_some, Option.toList_none, List.cons_append, List.nil_append, true_and, and_true, true_or, or_true, eq_self, ci0, ci1, cin6, forall_const, not_true_eq_false, not_false_eq_true, fimp, timp, i10, i01, cm_rne, and_assoc, hsh, e0, a0, u3.1]
      (repeat' apply And.intro) <;> (try omega) <;> (try (intro hx; exfalso; omega))
      intro _
      refine c125_36 (by decide) hsh (q_cu hm' u3 hv.1 ⟨hi0, hin⟩ ?_)
      simp (disch := omega) only [g125_0, g125_1, g125_2, g125_6, g125_9, g125_11, g125_12, g125_14, g125_15, g125_17, g125_18, g125_19, g125_23, g125_24, g125_27, g125_28, g125_29, g125_32, g125_33, g125_35, g125_39, g125_41, g125_43, g125_46, g125_47, g125_50, g125_51, g125_52, g125_54, g125_55, g125_56, g125_57, g125_58, g125_59, g125_60, g125_64, g125_66, g125_67, g125_70, g125_71, g125_72, g125_74, g125_75, g125_76, g125_77, g125_78, g125_80, g125_81, g125_82, g125_84, g125_87, g125_89, g125_90, g125_93, g125_94, g125_97, g125_98, g125_100, g125_102, g125_105, g125_107, g125_110, g125_111, g125_112, g125_114, g125_117, g125_119, g125_122, g125_123, g125_124, g125_127, g125_130, g125_131, g125_134, g125_135, g125_138, g125_139, Option.toList_some, Option.toList_none, List.cons_append, List.nil_append, true_and, and_true, true_or, or_true, eq_self, ci0, ci1, cin6, forall_const, not_true_eq_false, not_false_eq_true, fimp, timp, i10, i01, cm_rne, and_assoc, hsh, e0, a0]
      (repeat' apply And.intro) <;> (try omega) <;> (try (intro hx; exfalso; omega))
      · intro hz
        rw [if_pos (by omega)] at ih
        exact ih (_, _, _, s) ⟨u2, u3⟩
      · intro hz
        rw [if_neg (by omega)] at ih
        (repeat' apply And.intro) <;> (try omega) <;> (try (intro hx; exfalso; omega))
        have hR1 : rM (cm_up s (m + 1) (4 + 4 * i + 3) 0) (m + 1) (sCue (aS A) i 0) := rM_cue u3 ⟨hi0, hin⟩
        refine c125_61 (by decide) hsh (q_allSpreads hm' hR1 hvc (fun M1 f1 => ?_))
        have hR2 : rM M1 (m + 1) (sCue (aS A) i 0) := rM_fr hR1 (f1.1 _ (by omega) (by omega))
        have hR3 : rM (cm_up M1 (m + 1) (4 + 4 * i + 3) (sC (aS A) i)) (m + 1) (aS A) := rM_eq (rM_cue hR2 ⟨hi0, hin⟩) eqS_cueB
        have fs : frS M (cm_up M1 (m + 1) (4 + 4 * i + 3) (sC (aS A) i)) m := ((u2.tr (frS.of (fun k a => cm_rne a))).tr f1.s).tr (frS.of (fun k a => cm_rne a))
        simp (disch := omega) only [g125_0, g125_1, g125_2, g125_6, g125_9, g125_11, g125_12, g125_14, g125_15, g125_17, g125_18, g125_19, g125_23, g125_24, g125_27, g125_28, g125_29, g125_32, g125_33, g125_35, g125_39, g125_41, g125_43, g125_46, g125_47, g125_50, g125_51, g125_52, g125_54, g125_55, g125_56, g125_57, g125_58, g125_59, g125_60, g125_64, g125_66, g125_67, g125_70, g125_71, g125_72, g125_74, g125_75, g125_76, g125_77, g125_78, g125_80, g125_81, g125_82, g125_84, g125_87, g125_89, g125_90, g125_93, g125_94, g125_97, g125_98, g125_100, g125_102, g125_105, g125_107, g125_110, g125_111, g125_112, g125_114, g125_117, g125_119, g125_122, g125_123, g125_124, g125_127, g125_130, g125_131, g125_134, g125_135, g125_138, g125_139, Option.toList_some, Option.toList_none, List.cons_append, List.nil_append, true_and, and_true, true_or, or_true, eq_self, ci0, ci1, cin6, forall_const, not_true_eq_false, not_false_eq_true, fimp, timp, i10, i01, cm_rne, and_assoc, hsh, e0, a0]
        (repeat' apply And.intro) <;> (try omega) <;> (try (intro hx; exfalso; omega))
        · intro h6
          rw [if_pos (Or.inl h6)] at ih
          exact ih (_, _, _, _) ⟨fs, hR3⟩
        · intro h6
          (repeat' apply And.intro) <;> (try omega) <;> (try (intro hx; exfalso; omega))
          · intro h7
            rw [if_neg (by omega)] at ih
            exact ih (_, _, _, _) ⟨fs, hR3⟩
          · intro h7
            rw [if_pos (Or.inr h7)] at ih
            exact ih (_, _, _, _) ⟨fs, hR3⟩
    · obtain ⟨x5, x6, x7, s⟩ := s
      obtain ⟨u2, u3⟩ := hRs
      dsimp only at u2 u3 ⊢
      obtain ⟨k1, k2⟩ := rMA_q hA' u2 u3
      have K1 := K s k1 k2
      rw [g125_21]
      simp (disch := omega) only [g125_0, g125_1, g125_2, g125_6, g125_9, g125_11, g125_12, g125_14, g125_15, g125_17, g125_18, g125_19, g125_23, g125_24, g125_27, g125_28, g125_29, g125_32, g125_33, g125_35, g125_39, g125_41, g125_43, g125_46, g125_47, g125_50, g125_51, g125_52, g125_54, g125_55, g125_56, g125_57, g125_58, g125_59, g125_60, g125_64, g125_66, g125_67, g125_70, g125_71, g125_72, g125_74, g125_75, g125_76, g125_77, g125_78, g125_80, g125_81, g125_82, g125_84, g125_87, g125_89, g125_90, g125_93, g125_94, g125_97, g125_98, g125_100, g125_102, g125_105, g125_107, g125_110, g125_111, g125_112, g125_114, g125_117, g125_119, g125_122, g125_123, g125_124, g125_127, g125_130, g125_131, g125_134, g125_135, g125_138, g125_139, Option.toList_some, Option.toList_none, List.cons_append, List.nil_append, true_and, and_true, true_or, or_true, eq_self, ci0, ci1, cin6, forall_const, not_true_eq_false, not_false_eq_true, fimp, timp, i10, i01, cm_rne, and_assoc, hsh, e0, a0, u3.1]
      (repeat' apply And.intro) <;> (try omega) <;> (try (intro hx; exfalso; omega))
      intro _
      (repeat' apply And.intro) <;> (try omega) <;> (try (intro hx; exfalso; omega))
      · intro hz
        rw [if_neg hz] at K1
        exact K1
      · intro hz
        rw [if_pos hz] at K1
        exact K1
  · rw [ite'_n h1] at K
    exact K M hA' fr.rf
/-- some cues are gone -/
def sGone (S : sS) (k : Int) : sS := sCu S (fun j => if j < k then 0 else sC S j)
theorem eqS_gone {S : sS} {k : Int} : eqS (sCue (sGone S k) k 0) (sGone S (k + 1)) := by
  refine ⟨rfl, fun j _ _ => rfl, fun j _ _ => ⟨rfl, rfl, rfl, ?_⟩⟩
  show (if j = k then 0 else if j < k then 0 else sC S j) = if j < k + 1 then 0 else sC S j
  omega
/-- .. and some have come again -/
def sBack (S : sS) (k : Int) : sS := sCu S (fun j => if j < k then sC S j else 0)
theorem eqS_back {S : sS} {k : Int} : eqS (sCue (sBack S k) k (sC S k)) (sBack S (k + 1)) := by
  refine ⟨rfl, fun j _ _ => rfl, fun j _ _ => ⟨rfl, rfl, rfl, ?_⟩⟩
  show (if j = k then sC S k else if j < k then sC S j else 0) = if j < k + 1 then sC S j else 0
  by_cases h : j = k
  · rw [if_pos h, if_pos (by omega), h]
  · rw [if_neg h]
    omega
theorem vS_gone {S : sS} (hv : vS S) {k : Int} : vS (sGone S k) := by
  obtain ⟨h1, h2, h3, h4, h5, h6⟩ := hv
  refine ⟨h1, h2, h3, h4, h5, fun i a b => ⟨(h6 i a b).1, (h6 i a b).2.1, (h6 i a b).2.2.1, (h6 i a b).2.2.2.1, ?_, ?_⟩⟩
  · have := (h6 i a b).2.2.2.2
    show 0 ≤ if i < k then 0 else sC S i
    omega
  · have := (h6 i a b).2.2.2.2
    show (if i < k then 0 else sC S i) ≤ 30
    omega
theorem q_speedFor (hm : isM G m) (hA : rMA M m A) (hv : vA A) (ht : cm_in t) (K : ∀ M', rMA M' m A → fr M M' m (m + 11) → Q (some (0, xFor (aS A) t)) G M') : Go 127 0 [some (2, m), some (0, t), none, none, none] [] G M Q := by
  have hm' := hm
  obtain ⟨h0, hsh, ⟨e0, e1, e2, e3, e5, e7, e8, e9, e10, e12, e13⟩, a0, a1, a2, a3, a5, a7, a8, a9, a10, a12, a13⟩ := hm
  have hA' := hA
  obtain ⟨b1, b2, b3, b4, b5⟩ := hA
  have hn1 := hv.1.2.1
  have hn0 := hv.1.1
  unfold xFor at K
  simp (disch := omega) only [g127_0, g127_1, g127_2, g127_8, g127_11, g127_13, g127_14, g127_15, g127_18, g127_19, g127_20, g127_21, g127_22, g127_24, g127_25, g127_28, g127_29, g127_30, g127_33, g127_34, g127_37, g127_38, g127_39, g127_40, g127_44, g127_45, g127_46, g127_49, g127_50, g127_51, g127_52, g127_53, g127_54, g127_55, g127_56, g127_57, g127_58, g127_61, g127_64, g127_66, g127_67, g127_69, g127_73, g127_74, g127_77, g127_78, g127_80, g127_83, g127_84, g127_87, g127_88, g127_90, g127_91, g127_92, g127_96, g127_99, g127_101, g127_104, g127_106, g127_107, g127_110, g127_113, g127_114, g127_117, g127_118, g127_119, g127_120, g127_121, g127_125, g127_126, g127_129, g127_130, g127_131, g127_134, g127_135, g127_138, g127_139, g127_140, g127_142, g127_143, g127_144, g127_145, g127_146, g127_147, g127_150, g127_152, g127_153, g127_154, g127_157, g127_160, g127_161, Option.toList_some, Option.toList_none, List.cons_append, List.nil_append, true_and, and_true, true_or, or_true, eq_self, ci0, ci1, cin6, forall_const, not_true_eq_false, not_false_eq_true, fimp, timp, i10, i01, cm_rne, and_assoc]
  refine c127_5 (Nat.le_of_ble_eq_true rfl) (q_in ht cn1 ⟨by decide, by decide⟩ (fun h1 => ?_) (fun h1 => ?_)) <;> simp (disch := omega) only [g127_0, g127_1, g127_2, g127_8, g127_11, g127_13, g127_14, g127_15, g127_18, g127_19, g127_20, g127_21, g127_22, g127_24, g127_25, g127_28, g127_29, g127_30, g127_33, g127_34, g127_37, g127_38, g127_39, g127_40, g127_44, g127_45, g127_46, g127_49, g127_50, g127_51, g127_52, g127_53, g127_54, g127_55, g127_56, g127_57, g127_58, g127_61, g127_64, g127_66, g127_67, g127_69, g127_73, g127_74, g127_77, g127_78, g127_80, g127_83, g127_84, g127_87, g127_88, g127_90, g127_91, g127_92, g127_96, g127_99, g127_101, g127_104, g127_106, g127_107, g127_110, g127_113, g127_114, g127_117, g127_118, g127_119, g127_120, g127_121, g127_125, g127_126, g127_129, g127_130, g127_131, g127_134, g127_135, g127_138, g127_139, g127_140, g127_142, g127_143, g127_144, g127_145, g127_146, g127_147, g127_150, g127_152, g127_153, g127_154, g127_157, g127_160, g127_161, Option.toList_some, Option.toList_none, List.cons_append, List.nil_append, true_and, and_true, true_or, or_true, eq_self, ci0, ci1, cin6, forall_const, not_true_eq_false, not_false_eq_true, fimp, timp, i10, i01, cm_rne, and_assoc, hsh, e0, a0]
  · rw [ite'_p h1] at K
    (repeat' apply And.intro) <;> (try omega) <;> (try (intro hx; exfalso; omega))
    rw [b1.2.1 1 (by decide) (by decide)]
    -- the last part: all comes again
    have tail : ∀ (r : Int) (s : cm_M) (x4 : Option cm_V), r = lstOf (fun v => 1 ≤ v ∧ shows (sFast (aS A) v) t) 31 → frS M s m → (∃ v, rM s (m + 1) (sFast (aS A) v)) → (∀ j, 0 ≤ j → j < sN (aS A) → s (m + 10) j = sC (aS A) j) → Go 127 113 [some (2, m), some (0, t), some (0, sT (aS A) 1), some (0, r), x4] [] G s Q := by
      intro r s x4 hr fs hR hcb
      obtain ⟨v, hR⟩ := hR
      simp (disch := omega) only [g127_0, g127_1, g127_2, g127_8, g127_11, g127_13, g127_14, g127_15, g127_18, g127_19, g127_20, g127_21, g127_22, g127_24, g127_25, g127_28, g127_29, g127_30, g127_33, g127_34, g127_37, g127_38, g127_39, g127_40, g127_44, g127_45, g127_46, g127_49, g127_50, g127_51, g127_52, g127_53, g127_54, g127_55, g127_56, g127_57, g127_58, g127_61, g127_64, g127_66, g127_67, g127_69, g127_73, g127_74, g127_77, g127_78, g127_80, g127_83, g127_84, g127_87, g127_88, g127_90, g127_91, g127_92, g127_96, g127_99, g127_101, g127_104, g127_106, g127_107, g127_110, g127_113, g127_114, g127_117, g127_118, g127_119, g127_120, g127_121, g127_125, g127_126, g127_129, g127_130, g127_131, g127_134, g127_135, g127_138, g127_139, g127_140, g127_142, g127_143, g127_144, g127_145, g127_146, g127_147, g127_150, g127_152, g127_153, g127_154, g127_157, g127_160, g127_161, Option.toList_some, Option.toList_none, List.cons_append, List.nil_append, true_and, and_true, true_or, or_true, eq_self, ci0, ci1, cin6, forall_const, not_true_eq_false, not_false_eq_true, fimp, timp, i10, i01, cm_rne, and_assoc, hsh, e0, a0]
      (repeat' apply And.intro) <;> (try omega) <;> (try (intro hx; exfalso; omega))
      have hR1 : rM (cm_up s (m + 1) 1 (sT (aS A) 1)) (m + 1) (sBack (aS A) 0) := by
        refine rM_eq (rM_set hR (i := 1) (by omega)) ⟨rfl, fun j a b => ?_, fun j a b => ⟨rfl, rfl, rfl, ?_⟩⟩
        · show (if j = 1 then sT (aS A) 1 else if j = 1 then v else sT (aS A) j) = sT (aS A) j
          by_cases hj : j = 1
          · rw [if_pos hj, hj]
          · rw [if_neg hj, if_neg hj]
        · show 0 = if j < 0 then sC (aS A) j else 0
          rw [if_neg (by omega)]
      refine go_loop (σ := cm_M) (fun i _ => [some (2, m), some (0, t), some (0, sT (aS A) 1), some (0, r), some (0, i)]) (fun s => s) (fun i s => frS M s m ∧ rM s (m + 1) (sBack (aS A) i) ∧ ∀ j, 0 ≤ j → j < sN (aS A) → s (m + 10) j = sC (aS A) j) (sN (aS A)) (fun i s hi0 hin hRs ih => ?_) (fun s hRs => ?_) 0 _ (by omega) hn0 ⟨fs.tr (frS.of (fun k a => cm_rne a)), hR1, fun j a b => by rw [cm_rne (by omega)]; exact hcb j a b⟩
      · obtain ⟨u1, u2, u3⟩ := hRs
        have n1 : s (m + 1) 3 = sN (aS A) := u2.1
        rw [g127_123]
        simp (disch := omega) only [g127_0, g127_1, g127_2, g127_8, g127_11, g127_13, g127_14, g127_15, g127_18, g127_19, g127_20, g127_21, g127_22, g127_24, g127_25, g127_28, g127_29, g127_30, g127_33, g127_34, g127_37, g127_38, g127_39, g127_40, g127_44, g127_45, g127_46, g127_49, g127_50, g127_51, g127_52, g127_53, g127_54, g127_55, g127_56, g127_57, g127_58, g127_61, g127_64, g127_66, g127_67, g127_69, g127_73, g127_74, g127_77, g127_78, g127_80, g127_83, g127_84, g127_87, g127_88, g127_90, g127_91, g127_92, g127_96, g127_99, g127_101, g127_104, g127_106, g127_107, g127_110, g127_113, g127_114, g127_117, g127_118, g127_119, g127_120, g127_121, g127_125, g127_126, g127_129, g127_130, g127_131, g127_134, g127_135, g127_138, g127_139, g127_140, g127_142, g127_143, g127_144, g127_145, g127_146, g127_147, g127_150, g127_152, g127_153, g127_154, g127_157, g127_160, g127_161, Option.toList_some, Option.toList_none, List.cons_append, List.nil_append, true_and, and_true, true_or, or_true, eq_self, ci0, ci1, cin6, forall_const, not_true_eq_false, not_false_eq_true, fimp, timp, i10, i01, cm_rne, and_assoc, hsh, e0, a0, e12, a12, n1, u3 i hi0 hin]
        (repeat' apply And.intro) <;> (try omega) <;> (try (intro hx; exfalso; omega))
        intro _
        (repeat' apply And.intro) <;> (try omega) <;> (try (intro hx; exfalso; omega))
        refine ih _ ⟨u1.tr (frS.of (fun k a => cm_rne a)), rM_eq (rM_cue u2 ⟨hi0, hin⟩) eqS_back, fun j a b => by rw [cm_rne (by omega)]; exact u3 j a b⟩
      · obtain ⟨u1, u2, u3⟩ := hRs
        have n1 : s (m + 1) 3 = sN (aS A) := u2.1
        have hR2 : rM s (m + 1) (aS A) := rM_eq u2 ⟨rfl, fun j _ _ => rfl, fun j a b => ⟨rfl, rfl, rfl, if_pos b⟩⟩
        obtain ⟨k1, k2⟩ := rMA_q hA' u1 hR2
        rw [g127_123]
        simp (disch := omega) only [g127_0, g127_1, g127_2, g127_8, g127_11, g127_13, g127_14, g127_15, g127_18, g127_19, g127_20, g127_21, g127_22, g127_24, g127_25, g127_28, g127_29, g127_30, g127_33, g127_34, g127_37, g127_38, g127_39, g127_40, g127_44, g127_45, g127_46, g127_49, g127_50, g127_51, g127_52, g127_53, g127_54, g127_55, g127_56, g127_57, g127_58, g127_61, g127_64, g127_66, g127_67, g127_69, g127_73, g127_74, g127_77, g127_78, g127_80, g127_83, g127_84, g127_87, g127_88, g127_90, g127_91, g127_92, g127_96, g127_99, g127_101, g127_104, g127_106, g127_107, g127_110, g127_113, g127_114, g127_117, g127_118, g127_119, g127_120, g127_121, g127_125, g127_126, g127_129, g127_130, g127_131, g127_134, g127_135, g127_138, g127_139, g127_140, g127_142, g127_143, g127_144, g127_145, g127_146, g127_147, g127_150, g127_152, g127_153, g127_154, g127_157, g127_160, g127_161, Option.toList_some, Option.toList_none, List.cons_append, List.nil_append, true_and, and_true, true_or, or_true, eq_self, ci0, ci1, cin6, forall_const, not_true_eq_false, not_false_eq_true, fimp, timp, i10, i01, cm_rne, and_assoc, hsh, e0, a0, n1]
        (repeat' apply And.intro) <;> (try omega) <;> (try (intro hx; exfalso; omega))
        intro _
        rw [hr]
        exact K s k1 k2
    -- the first part: all is kept
    refine go_loop (σ := cm_M) (fun i _ => [some (2, m), some (0, t), some (0, sT (aS A) 1), some (0, i), none]) (fun s => s) (fun i s => frS M s m ∧ rM s (m + 1) (sGone (aS A) i) ∧ ∀ j, 0 ≤ j → j < i → s (m + 10) j = sC (aS A) j) (sN (aS A)) (fun i s hi0 hin hRs ih => ?_) (fun s hRs => ?_) 0 M (by omega) hn0 ⟨frS.rf, rM_eq b1 ⟨rfl, fun j _ _ => rfl, fun j a b => ⟨rfl, rfl, rfl, (if_neg (by omega)).symm⟩⟩, fun j a b => absurd a (by omega)⟩
    · obtain ⟨u1, u2, u3⟩ := hRs
      have n1 : s (m + 1) 3 = sN (aS A) := u2.1
      rw [g127_23]
      simp (disch := omega) only [g127_0, g127_1, g127_2, g127_8, g127_11, g127_13, g127_14, g127_15, g127_18, g127_19, g127_20, g127_21, g127_22, g127_24, g127_25, g127_28, g127_29, g127_30, g127_33, g127_34, g127_37, g127_38, g127_39, g127_40, g127_44, g127_45, g127_46, g127_49, g127_50, g127_51, g127_52, g127_53, g127_54, g127_55, g127_56, g127_57, g127_58, g127_61, g127_64, g127_66, g127_67, g127_69, g127_73, g127_74, g127_77, g127_78, g127_80, g127_83, g127_84, g127_87, g127_88, g127_90, g127_91, g127_92, g127_96, g127_99, g127_101, g127_104, g127_106, g127_107, g127_110, g127_113, g127_114, g127_117, g127_118, g127_119, g127_120, g127_121, g127_125, g127_126, g127_129, g127_130, g127_131, g127_134, g127_135, g127_138, g127_139, g127_140, g127_142, g127_143, g127_144, g127_145, g127_146, g127_147, g127_150, g127_152, g127_153, g127_154, g127_157, g127_160, g127_161, Option.toList_some, Option.toList_none, List.cons_append, List.nil_append, true_and, and_true, true_or, or_true, eq_self, ci0, ci1, cin6, forall_const, not_true_eq_false, not_false_eq_true, fimp, timp, i10, i01, cm_rne, and_assoc, hsh, e0, a0, e12, a12, n1]
      (repeat' apply And.intro) <;> (try omega) <;> (try (intro hx; exfalso; omega))
      intro _
      refine c127_41 (Nat.le_of_ble_eq_true rfl) hsh (q_cu hm' u2 (vS_gone hv.1) ⟨hi0, hin⟩ ?_)
      simp (disch := omega) only [g127_0, g127_1, g127_2, g127_8, g127_11, g127_13, g127_14, g127_15, g127_18, g127_19, g127_20, g127_21, g127_22, g127_24, g127_25, g127_28, g127_29, g127_30, g127_33, g127_34, g127_37, g127_38, g127_39, g127_40, g127_44, g127_45, g127_46, g127_49, g127_50, g127_51, g127_52, g127_53, g127_54, g127_55, g127_56, g127_57, g127_58, g127_61, g127_64, g127_66, g127_67, g127_69, g127_73, g127_74, g127_77, g127_78, g127_80, g127_83, g127_84, g127_87, g127_88, g127_90, g127_91, g127_92, g127_96, g127_99, g127_101, g127_104, g127_106, g127_107, g127_110, g127_113, g127_114, g127_117, g127_118, g127_119, g127_120, g127_121, g127_125, g127_126, g127_129, g127_130, g127_131, g127_134, g127_135, g127_138, g127_139, g127_140, g127_142, g127_143, g127_144, g127_145, g127_146, g127_147, g127_150, g127_152, g127_153, g127_154, g127_157, g127_160, g127_161, Option.toList_some, Option.toList_none, List.cons_append, List.nil_append, true_and, and_true, true_or, or_true, eq_self, ci0, ci1, cin6, forall_const, not_true_eq_false, not_false_eq_true, fimp, timp, i10, i01, cm_rne, and_assoc, hsh, e0, a0, e12, a12]
      (repeat' apply And.intro) <;> (try omega) <;> (try (intro hx; exfalso; omega))
      have ec : sC (sGone (aS A) i) i = sC (aS A) i := if_neg (by omega)
      rw [ec]
      have hR1 : rM (cm_up s (m + 10) i (sC (aS A) i)) (m + 1) (sGone (aS A) i) := rM_fr u2 (cm_rne (by omega))
      refine ih _ ⟨(u1.tr ⟨fun k a b c => cm_rne (by omega), fun j a => by rw [cm_rne (by omega)]⟩).tr (frS.of (fun k a => cm_rne a)), rM_eq (rM_cue hR1 ⟨hi0, hin⟩) eqS_gone, fun j a b => ?_⟩
      rw [cm_rne (by omega), cm_req]
      show (if j = i then sC (aS A) i else s (m + 10) j) = sC (aS A) j
      by_cases hj : j = i
      · rw [if_pos hj, hj]
      · rw [if_neg hj]; exact u3 j a (by omega)
    · obtain ⟨u1, u2, u3⟩ := hRs
      have n1 : s (m + 1) 3 = sN (aS A) := u2.1
      rw [g127_23]
      simp (disch := omega) only [g127_24, g127_25, g127_28, g127_29, g127_30, g127_33, g127_34, g127_37, g127_38, g127_39, g127_40, g127_44, g127_45, g127_46, g127_49, g127_50, g127_51, g127_52, g127_53, g127_54, g127_55, g127_56, g127_57, g127_58, g127_61, g127_64, g127_66, g127_67, g127_69, Option.toList_some, Option.toList_none, List.cons_append, List.nil_append, true_and, and_true, true_or, or_true, eq_self, ci0, ci1, cin6, forall_const, not_true_eq_false, not_false_eq_true, fimp, timp, i10, i01, cm_rne, and_assoc, hsh, e0, a0, n1]
      (repeat' apply And.intro) <;> (try omega) <;> (try (intro hx; exfalso; omega))
      intro _
      have hR2 : rM s (m + 1) (sFast (aS A) (sT (aS A) 1)) := rM_eq u2 ⟨rfl, fun j _ _ => by
          show sT (aS A) j = if j = 1 then sT (aS A) 1 else sT (aS A) j
          by_cases hj : j = 1
          · rw [if_pos hj, hj]
          · rw [if_neg hj], fun j a b => ⟨rfl, rfl, rfl, if_pos b⟩⟩
      -- the middle: v counts down until one is found
      refine go_loopD (σ := cm_M) (fun v _ => [some (2, m), some (0, t), some (0, sT (aS A) 1), some (0, -6), some (0, v)]) (fun s => s) (fun v s => v ≤ 30 ∧ frS M s m ∧ (∃ v, rM s (m + 1) (sFast (aS A) v)) ∧ (∀ j, 0 ≤ j → j < sN (aS A) → s (m + 10) j = sC (aS A) j) ∧ ∀ x, v < x → x ≤ 30 → ¬ shows (sFast (aS A) x) t) 0 (fun v s hi0 hRs ih => ?_) (fun s hRs => ?_) 30 s (by omega) ⟨by omega, u1, ⟨_, hR2⟩, u3, fun x a b => absurd a (by omega)⟩
      · obtain ⟨w1, w2, ⟨c, w3⟩, w4, w5⟩ := hRs
        have hvf := vS_fast hv.1 (v := v) (by omega)
        have hR3 : rM (cm_up s (m + 1) 1 v) (m + 1) (sFast (aS A) v) := by
          refine rM_eq (rM_set w3 (i := 1) (by omega)) ⟨rfl, fun j a b => ?_, fun j a b => ⟨rfl, rfl, rfl, rfl⟩⟩
          show (if j = 1 then v else if j = 1 then c else sT (aS A) j) = if j = 1 then v else sT (aS A) j
          omega
        rw [g127_71]
        simp (disch := omega) only [g127_73, g127_74, g127_77, g127_78, g127_80, g127_83, g127_84, g127_87, g127_88, g127_90, Option.toList_some, Option.toList_none, List.cons_append, List.nil_append, true_and, and_true, true_or, or_true, eq_self, ci0, ci1, cin6, forall_const, not_true_eq_false, not_false_eq_true, fimp, timp, i10, i01, cm_rne, and_assoc, hsh, e0, a0]
        (repeat' apply And.intro) <;> (try omega) <;> (try (intro hx; exfalso; omega))
        intro _
        (repeat' apply And.intro) <;> (try omega) <;> (try (intro hx; exfalso; omega))
        have step : ∀ M1, frB (cm_up s (m + 1) 1 v) M1 m → frS M M1 m ∧ rM M1 (m + 1) (sFast (aS A) v) ∧ ∀ j, 0 ≤ j → j < sN (aS A) → M1 (m + 10) j = sC (aS A) j := fun M1 f1 => ⟨(w2.tr (frS.of (fun k a => cm_rne a))).tr f1.s, rM_fr hR3 (f1.1 _ (by omega) (by omega)), fun j a b => by rw [f1.1 _ (by omega) (by omega), cm_rne (by omega)]; exact w4 j a b⟩
        simp (disch := omega) only [g127_91, g127_92, Option.toList_some, Option.toList_none, List.cons_append, List.nil_append, true_and, and_true, true_or, or_true, eq_self, ci0, ci1, cin6, forall_const, not_true_eq_false, not_false_eq_true, fimp, timp, i10, i01, cm_rne, and_assoc]
        refine c127_93 (by decide) hsh (q_areSeenFor hm' hR3 hvf ht (fun hz M1 f1 => ?_) (fun hz M1 f1 => ?_))
        · obtain ⟨z1, z2, z3⟩ := step M1 f1
          have e : v = lstOf (fun v => 1 ≤ v ∧ shows (sFast (aS A) v) t) 31 := lstOf_e (Or.inl ⟨by omega, by omega, ⟨by omega, hz⟩, fun j a b c => w5 j a (by omega) c.2⟩)
          have T := fun x4 => tail v M1 x4 e z1 ⟨v, z2⟩ z3
          simp (disch := omega) only [g127_96, g127_99, g127_101, g127_104, g127_106, g127_107, g127_110, Option.toList_some, Option.toList_none, List.cons_append, List.nil_append, true_and, and_true, true_or, or_true, eq_self, ci0, ci1, cin6, forall_const, not_true_eq_false, not_false_eq_true, fimp, timp, i10, i01, cm_rne, and_assoc]
          rw [g127_71]
          simp (disch := omega) only [g127_73, g127_74, g127_77, g127_78, g127_80, Option.toList_some, Option.toList_none, List.cons_append, List.nil_append, true_and, and_true, true_or, or_true, eq_self, ci0, ci1, cin6, forall_const, not_true_eq_false, not_false_eq_true, fimp, timp, i10, i01, cm_rne, and_assoc]
          (repeat' apply And.intro) <;> (try omega) <;> (try (intro hx; exfalso; omega))
          · intro hq
            exact T _
          · intro hq
            (repeat' apply And.intro) <;> (try omega) <;> (try (intro hx; exfalso; omega))
            intro hq2
            exact T _
        · obtain ⟨z1, z2, z3⟩ := step M1 f1
          simp (disch := omega) only [g127_96, g127_99, g127_101, g127_104, g127_106, g127_107, g127_110, Option.toList_some, Option.toList_none, List.cons_append, List.nil_append, true_and, and_true, true_or, or_true, eq_self, ci0, ci1, cin6, forall_const, not_true_eq_false, not_false_eq_true, fimp, timp, i10, i01, cm_rne, and_assoc]
          refine ih M1 ⟨by omega, z1, ⟨v, z2⟩, z3, fun x a b c => ?_⟩
          by_cases hx : x = v
          · rw [hx] at c; exact hz c
          · exact w5 x (by omega) b c
      · obtain ⟨w1, w2, w3, w4, w5⟩ := hRs
        rw [g127_71]
        simp (disch := omega) only [g127_73, g127_74, g127_77, g127_78, g127_80, Option.toList_some, Option.toList_none, List.cons_append, List.nil_append, true_and, and_true, true_or, or_true, eq_self, ci0, ci1, cin6, forall_const, not_true_eq_false, not_false_eq_true, fimp, timp, i10, i01, cm_rne, and_assoc]
        (repeat' apply And.intro) <;> (try omega) <;> (try (intro hx; exfalso; omega))
        intro _
        refine tail (-6) s _ (lstOf_e (Or.inr ⟨rfl, fun j a b c => ?_⟩)) w2 w3 w4
        exact w5 j (by omega) (by omega) c.2
  · rw [ite'_n h1] at K
    exact K M hA' fr.rf
end MODEL10
