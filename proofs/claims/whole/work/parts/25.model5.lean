/-! ===== the reference: changes ===== -/
section MODEL5
variable {G : cm_G} {M : cm_M} {m i j t v w g h s n k u : Int} {S : sS} {A : sA} {Q : Option cm_V → cm_G → cm_M → Prop}
theorem q_restore (hm : isM G m) (hA : rMA M m A) (hv : vA A) (hs : cm_in s) (K : ∀ M', rMA M' m (rRestore A s).2 → fr M M' m (m + 11) → Q (some (0, (rRestore A s).1)) G M') : Go 94 0 [some (2, m), some (0, s), none] [] G M Q := by
  have hm' := hm
  obtain ⟨h0, hsh, ⟨e0, e1, e2, e3, e5, e7, e8, e9, e10, e12, e13⟩, a0, a1, a2, a3, a5, a7, a8, a9, a10, a12, a13⟩ := hm
  have hA' := hA
  obtain ⟨b1, b2, b3, b4, b5⟩ := hA
  have hn := hv.1.2.1
  simp (disch := omega) only [g94_0, g94_1, g94_2, g94_6, g94_9, g94_11, g94_12, g94_13, g94_16, g94_17, g94_18, g94_21, g94_23, g94_24, g94_28, g94_29, g94_31, g94_34, g94_37, g94_38, g94_41, g94_42, g94_43, g94_46, g94_47, g94_50, g94_51, g94_52, g94_53, g94_54, g94_55, g94_58, g94_61, g94_62, g94_65, g94_66, g94_67, Option.toList_some, Option.toList_none, List.cons_append, List.nil_append, true_and, and_true, true_or, or_true, eq_self, ci0, ci1, cin6, forall_const, not_true_eq_false, not_false_eq_true, fimp, timp, i10, i01, cm_rne, and_assoc]
  unfold rRestore at K
  refine c94_3 (Nat.le_of_ble_eq_true rfl) (q_in hs cn0 cn1 (fun h1 => ?_) (fun h1 => ?_)) <;> simp (disch := omega) only [g94_0, g94_1, g94_2, g94_6, g94_9, g94_11, g94_12, g94_13, g94_16, g94_17, g94_18, g94_21, g94_23, g94_24, g94_28, g94_29, g94_31, g94_34, g94_37, g94_38, g94_41, g94_42, g94_43, g94_46, g94_47, g94_50, g94_51, g94_52, g94_53, g94_54, g94_55, g94_58, g94_61, g94_62, g94_65, g94_66, g94_67, Option.toList_some, Option.toList_none, List.cons_append, List.nil_append, true_and, and_true, true_or, or_true, eq_self, ci0, ci1, cin6, forall_const, not_true_eq_false, not_false_eq_true, fimp, timp, i10, i01, cm_rne, and_assoc, hsh, e3, a3]
  · rw [ite'_p h1] at K
    have hf := (hv.2.2.1 s h1.1 (by omega)).1
    obtain ⟨z1, z2⟩ := b3 s h1.1 (by omega)
    (repeat' apply And.intro) <;> (try omega) <;> (try (intro hx; exfalso; omega))
    · intro hne
      rw [ite'_p (by omega)] at K
      have hl := (hv.2.2.1 s h1.1 (by omega)).2 (by omega)
      refine c94_25 (by decide) hsh (q_record hm' b1 hv.1 b2 hv.2.1.2 (fun M1 r1 f1 => ?_))
      simp (disch := omega) only [g94_0, g94_1, g94_2, g94_6, g94_9, g94_11, g94_12, g94_13, g94_16, g94_17, g94_18, g94_21, g94_23, g94_24, g94_28, g94_29, g94_31, g94_34, g94_37, g94_38, g94_41, g94_42, g94_43, g94_46, g94_47, g94_50, g94_51, g94_52, g94_53, g94_54, g94_55, g94_58, g94_61, g94_62, g94_65, g94_66, g94_67, Option.toList_some, Option.toList_none, List.cons_append, List.nil_append, true_and, and_true, true_or, or_true, eq_self, ci0, ci1, cin6, forall_const, not_true_eq_false, not_false_eq_true, fimp, timp, i10, i01, cm_rne, and_assoc]
      refine go_loop (σ := cm_M) (fun i _ => [some (2, m), some (0, s), some (0, i)]) (fun s => s) (fun i z => (∀ k, k ≠ m + 1 → z k = M1 k) ∧ (∀ x, 0 ≤ x → x < i → z (m + 1) x = M1 (m + 3) (164 * s + x))) 164 (fun i z hi0 hin hRs ih => ?_) (fun z hRs => ?_) 0 _ (by omega) (by omega) ⟨fun k a => rfl, fun x a b => absurd a (by omega)⟩
      · obtain ⟨u1, u2⟩ := hRs
        rw [g94_30]
        simp (disch := omega) only [g94_0, g94_1, g94_2, g94_6, g94_9, g94_11, g94_12, g94_13, g94_16, g94_17, g94_18, g94_21, g94_23, g94_24, g94_28, g94_29, g94_31, g94_34, g94_37, g94_38, g94_41, g94_42, g94_43, g94_46, g94_47, g94_50, g94_51, g94_52, g94_53, g94_54, g94_55, g94_58, g94_61, g94_62, g94_65, g94_66, g94_67, Option.toList_some, Option.toList_none, List.cons_append, List.nil_append, true_and, and_true, true_or, or_true, eq_self, ci0, ci1, cin6, forall_const, not_true_eq_false, not_false_eq_true, fimp, timp, i10, i01, cm_rne, and_assoc, hsh, e0, e2, a0, a2]
        (repeat' apply And.intro) <;> (try omega) <;> (try (intro hx; exfalso; omega))
        intro _
        (repeat' apply And.intro) <;> (try omega) <;> (try (intro hx; exfalso; omega))
        refine ih _ ⟨fun k a => by rw [cm_rne a]; exact u1 k a, fun x a b => ?_⟩
        rw [cm_req]
        dsimp only
        by_cases hx : x = i
        · rw [if_pos hx, hx, u1 (m + 3) (by omega)]
          congr 1
          omega
        · rw [if_neg hx]; exact u2 x a (by omega)
      · obtain ⟨u1, u2⟩ := hRs
        have r2 : rM z (m + 1) (aL A s) := rF_rM (z2 (by omega)) hl.2.1 (fun x a b => by rw [u2 x a b, f1.1 (m + 3) (by omega) (by omega)])
        obtain ⟨k1, k2⟩ := rMA_chg hA' r1 f1 (frS.of u1) r2
        rw [g94_30]
        simp (disch := omega) only [g94_0, g94_1, g94_2, g94_6, g94_9, g94_11, g94_12, g94_13, g94_16, g94_17, g94_18, g94_21, g94_23, g94_24, g94_28, g94_29, g94_31, g94_34, g94_37, g94_38, g94_41, g94_42, g94_43, g94_46, g94_47, g94_50, g94_51, g94_52, g94_53, g94_54, g94_55, g94_58, g94_61, g94_62, g94_65, g94_66, g94_67, Option.toList_some, Option.toList_none, List.cons_append, List.nil_append, true_and, and_true, true_or, or_true, eq_self, ci0, ci1, cin6, forall_const, not_true_eq_false, not_false_eq_true, fimp, timp, i10, i01, cm_rne, and_assoc, hsh, e0, a0, r2.1]
        (repeat' apply And.intro) <;> (try omega) <;> (try (intro hx; exfalso; omega))
        intro _
        (repeat' apply And.intro) <;> (try omega) <;> (try (intro hx; exfalso; omega))
        exact K z k1 k2
    · intro he
      rw [ite'_n (by omega)] at K
      exact K M hA' fr.rf
  · rw [ite'_n h1] at K
    exact K M hA' fr.rf
theorem q_set (hm : isM G m) (hA : rMA M m A) (hv : vA A) (hi : cm_in i) (hw : cm_in v) (K : ∀ M', rMA M' m (rSet A i v).2 → fr M M' m (m + 11) → Q (some (0, (rSet A i v).1)) G M') : Go 106 0 [some (2, m), some (0, i), some (0, v), none] [] G M Q := by
  have hm' := hm
  obtain ⟨h0, hsh, ⟨e0, e1, e2, e3, e5, e7, e8, e9, e10, e12, e13⟩, a0, a1, a2, a3, a5, a7, a8, a9, a10, a12, a13⟩ := hm
  have hA' := hA
  obtain ⟨b1, b2, b3, b4, b5⟩ := hA
  unfold rSet at K
  simp (disch := omega) only [g106_0, g106_1, g106_2, g106_6, g106_9, g106_10, g106_14, g106_21, g106_24, g106_26, g106_27, g106_31, g106_32, g106_35, g106_36, g106_37, g106_38, g106_39, g106_42, g106_43, g106_44, g106_45, g106_46, Option.toList_some, Option.toList_none, List.cons_append, List.nil_append, true_and, and_true, true_or, or_true, eq_self, ci0, ci1, cin6, forall_const, not_true_eq_false, not_false_eq_true, fimp, timp, i10, i01, cm_rne, and_assoc]
  refine c106_3 (Nat.le_of_ble_eq_true rfl) (q_in hi cn0 ⟨by decide, by decide⟩ (fun h1 => ?_) (fun h1 => ?_)) <;> simp (disch := omega) only [g106_0, g106_1, g106_2, g106_6, g106_9, g106_10, g106_14, g106_21, g106_24, g106_26, g106_27, g106_31, g106_32, g106_35, g106_36, g106_37, g106_38, g106_39, g106_42, g106_43, g106_44, g106_45, g106_46, Option.toList_some, Option.toList_none, List.cons_append, List.nil_append, true_and, and_true, true_or, or_true, eq_self, ci0, ci1, cin6, forall_const, not_true_eq_false, not_false_eq_true, fimp, timp, i10, i01, cm_rne, and_assoc]
  · refine c106_11 (Nat.le_of_ble_eq_true rfl) (q_leastOf hi ?_)
    simp (disch := omega) only [g106_0, g106_1, g106_2, g106_6, g106_9, g106_10, g106_14, g106_21, g106_24, g106_26, g106_27, g106_31, g106_32, g106_35, g106_36, g106_37, g106_38, g106_39, g106_42, g106_43, g106_44, g106_45, g106_46, Option.toList_some, Option.toList_none, List.cons_append, List.nil_append, true_and, and_true, true_or, or_true, eq_self, ci0, ci1, cin6, forall_const, not_true_eq_false, not_false_eq_true, fimp, timp, i10, i01, cm_rne, and_assoc]
    refine c106_15 (Nat.le_of_ble_eq_true rfl) (q_mostOf hi ?_)
    simp (disch := omega) only [g106_0, g106_1, g106_2, g106_6, g106_9, g106_10, g106_14, g106_21, g106_24, g106_26, g106_27, g106_31, g106_32, g106_35, g106_36, g106_37, g106_38, g106_39, g106_42, g106_43, g106_44, g106_45, g106_46, Option.toList_some, Option.toList_none, List.cons_append, List.nil_append, true_and, and_true, true_or, or_true, eq_self, ci0, ci1, cin6, forall_const, not_true_eq_false, not_false_eq_true, fimp, timp, i10, i01, cm_rne, and_assoc]
    refine c106_18 (Nat.le_of_ble_eq_true rfl) (q_in hw (by constructor <;> omega) (by constructor <;> omega) (fun h2 => ?_) (fun h2 => ?_)) <;> simp (disch := omega) only [g106_0, g106_1, g106_2, g106_6, g106_9, g106_10, g106_14, g106_21, g106_24, g106_26, g106_27, g106_31, g106_32, g106_35, g106_36, g106_37, g106_38, g106_39, g106_42, g106_43, g106_44, g106_45, g106_46, Option.toList_some, Option.toList_none, List.cons_append, List.nil_append, true_and, and_true, true_or, or_true, eq_self, ci0, ci1, cin6, forall_const, not_true_eq_false, not_false_eq_true, fimp, timp, i10, i01, cm_rne, and_assoc]
    · have hk : okS i v := ⟨h1, h2⟩
      rw [ite'_p hk] at K
      refine c106_28 (by decide) hsh (q_record hm' b1 hv.1 b2 hv.2.1.2 (fun M1 r1 f1 => ?_))
      have hR1 : rM M1 (m + 1) (aS A) := rM_fr b1 (f1.1 _ (by omega) (by omega))
      simp (disch := omega) only [g106_0, g106_1, g106_2, g106_6, g106_9, g106_10, g106_14, g106_21, g106_24, g106_26, g106_27, g106_31, g106_32, g106_35, g106_36, g106_37, g106_38, g106_39, g106_42, g106_43, g106_44, g106_45, g106_46, Option.toList_some, Option.toList_none, List.cons_append, List.nil_append, true_and, and_true, true_or, or_true, eq_self, ci0, ci1, cin6, forall_const, not_true_eq_false, not_false_eq_true, fimp, timp, i10, i01, cm_rne, and_assoc, hsh, e0, a0]
      (repeat' apply And.intro) <;> (try omega) <;> (try (intro hx; exfalso; omega))
      rw [hR1.2.1 i (by omega) (by omega)]
      have r2 : rM (cm_up M1 (m + 1) i v) (m + 1) (sSet (aS A) i v) := by
        obtain ⟨q1, q2, q3⟩ := hR1
        unfold rM
        rw [cm_req]
        dsimp only
        refine ⟨by rw [if_neg (by omega)]; exact q1, fun j a b => ?_, fun j a b => ?_⟩
        · show (if j = i then v else M1 (m + 1) j) = if j = i then v else sT (aS A) j
          by_cases hj : j = i
          · rw [if_pos hj, if_pos hj]
          · rw [if_neg hj, if_neg hj]; exact q2 j a b
        · rw [if_neg (by omega), if_neg (by omega), if_neg (by omega), if_neg (by omega)]
          exact q3 j a b
      obtain ⟨k1, k2⟩ := rMA_chg hA' r1 f1 (frS.of (fun k a => cm_rne a)) r2
      exact K _ k1 k2
    · rw [ite'_n (fun z => h2 z.2)] at K
      exact K M hA' fr.rf
  · rw [ite'_n (fun z => h1 z.1)] at K
    exact K M hA' fr.rf
theorem q_add (hm : isM G m) (hR : rM M (m + 1) S) (hn : 0 ≤ sN S ∧ sN S < 40) (K : ∀ M', rM M' (m + 1) (sAdd S k g n u) → (∀ z, z ≠ m + 1 → M' z = M z) → Q (some (0, sN S)) G M') : Go 107 0 [some (2, m), some (0, k), some (0, g), some (0, n), some (0, u), none] [] G M Q := by
  obtain ⟨h0, hsh, ⟨e0, e1, e2, e3, e5, e7, e8, e9, e10, e12, e13⟩, a0, a1, a2, a3, a5, a7, a8, a9, a10, a12, a13⟩ := hm
  obtain ⟨q1, q2, q3⟩ := hR
  simp (disch := omega) only [g107_0, g107_1, g107_2, g107_3, g107_6, g107_7, g107_8, g107_9, g107_10, g107_12, g107_13, g107_16, g107_18, g107_19, g107_20, g107_21, g107_22, g107_23, g107_26, g107_28, g107_29, g107_30, g107_31, g107_32, g107_33, g107_36, g107_38, g107_39, g107_40, g107_41, g107_42, g107_43, g107_46, g107_48, g107_49, g107_50, g107_52, g107_53, g107_54, g107_57, g107_58, g107_59, g107_60, g107_61, g107_62, g107_63, g107_64, g107_67, g107_68, g107_69, g107_70, g107_71, Option.toList_some, Option.toList_none, List.cons_append, List.nil_append, true_and, and_true, true_or, or_true, eq_self, ci0, ci1, cin6, forall_const, not_true_eq_false, not_false_eq_true, fimp, timp, i10, i01, cm_rne, and_assoc, hsh, e0, a0, q1, cm_req]
  (repeat' apply And.intro) <;> (try omega) <;> (try (intro hx; exfalso; omega))
  simp only [if_true, if_neg (show ¬ (3 : Int) = 4 + 4 * sN S + 3 by omega), if_neg (show ¬ (3 : Int) = 4 + 4 * sN S + 2 by omega), if_neg (show ¬ (3 : Int) = 4 + 4 * sN S + 1 by omega), if_neg (show ¬ (3 : Int) = 4 + 4 * sN S + 0 by omega), Int.add_sub_cancel]
  refine K _ ?_ (fun z hz => by simp (disch := omega) only [cm_rne])
  unfold rM
  simp only [cm_req]
  refine ⟨if_pos trivial, fun j a b => ?_, fun j a b => ?_⟩
  · rw [if_neg (by omega), if_neg (by omega), if_neg (by omega), if_neg (by omega), if_neg (by omega)]
    exact q2 j a b
  · have b : j < sN S + 1 := b
    show _ = (if j = sN S then k else sK S j) ∧ _ = (if j = sN S then g else sG S j) ∧ _ = (if j = sN S then n else sM S j) ∧ _ = (if j = sN S then u else sC S j)
    by_cases hj : j = sN S
    · rw [hj]
      refine ⟨?_, ?_, ?_, ?_⟩ <;> rw [if_neg (by omega), if_pos rfl]
      · rw [if_neg (by omega), if_neg (by omega), if_neg (by omega), if_pos (by omega)]
      · rw [if_neg (by omega), if_neg (by omega), if_pos rfl]
      · rw [if_neg (by omega), if_pos rfl]
      · rw [if_pos rfl]
    · have := q3 j a (by omega)
      simp only [if_neg hj, if_neg (show ¬ 4 + 4 * j = 3 by omega), if_neg (show ¬ 4 + 4 * j = 4 + 4 * sN S + 3 by omega), if_neg (show ¬ 4 + 4 * j = 4 + 4 * sN S + 2 by omega), if_neg (show ¬ 4 + 4 * j = 4 + 4 * sN S + 1 by omega), if_neg (show ¬ 4 + 4 * j = 4 + 4 * sN S + 0 by omega), if_neg (show ¬ 4 + 4 * j + 1 = 3 by omega), if_neg (show ¬ 4 + 4 * j + 1 = 4 + 4 * sN S + 3 by omega), if_neg (show ¬ 4 + 4 * j + 1 = 4 + 4 * sN S + 2 by omega), if_neg (show ¬ 4 + 4 * j + 1 = 4 + 4 * sN S + 1 by omega), if_neg (show ¬ 4 + 4 * j + 1 = 4 + 4 * sN S + 0 by omega), if_neg (show ¬ 4 + 4 * j + 2 = 3 by omega), if_neg (show ¬ 4 + 4 * j + 2 = 4 + 4 * sN S + 3 by omega), if_neg (show ¬ 4 + 4 * j + 2 = 4 + 4 * sN S + 2 by omega), if_neg (show ¬ 4 + 4 * j + 2 = 4 + 4 * sN S + 1 by omega), if_neg (show ¬ 4 + 4 * j + 2 = 4 + 4 * sN S + 0 by omega), if_neg (show ¬ 4 + 4 * j + 3 = 3 by omega), if_neg (show ¬ 4 + 4 * j + 3 = 4 + 4 * sN S + 3 by omega), if_neg (show ¬ 4 + 4 * j + 3 = 4 + 4 * sN S + 2 by omega), if_neg (show ¬ 4 + 4 * j + 3 = 4 + 4 * sN S + 1 by omega), if_neg (show ¬ 4 + 4 * j + 3 = 4 + 4 * sN S + 0 by omega)]
      exact this
theorem q_name (hm : isM G m) (hA : rMA M m A) (hv : vA A) (hg : cm_in g) (hn : cm_in n) (K : ∀ M', rMA M' m (rName A g n).2 → fr M M' m (m + 11) → Q (some (0, (rName A g n).1)) G M') : Go 108 0 [some (2, m), some (0, g), some (0, n)] [] G M Q := by
  have hm' := hm
  obtain ⟨h0, hsh, ⟨e0, e1, e2, e3, e5, e7, e8, e9, e10, e12, e13⟩, a0, a1, a2, a3, a5, a7, a8, a9, a10, a12, a13⟩ := hm
  have hA' := hA
  obtain ⟨b1, b2, b3, b4, b5⟩ := hA
  have hn1 := hv.1.2.1
  have hn0 := hv.1.1
  unfold rName at K
  simp (disch := omega) only [g108_0, g108_4, g108_7, g108_8, g108_9, g108_15, g108_18, g108_20, g108_21, g108_22, g108_25, g108_26, g108_27, g108_29, g108_32, g108_34, g108_35, g108_39, g108_40, g108_41, g108_42, g108_43, g108_47, Option.toList_some, Option.toList_none, List.cons_append, List.nil_append, true_and, and_true, true_or, or_true, eq_self, ci0, ci1, cin6, forall_const, not_true_eq_false, not_false_eq_true, fimp, timp, i10, i01, cm_rne, and_assoc]
  refine c108_1 (by decide) (q_isGroup hg (fun h1 => ?_) (fun h1 => ?_)) <;> simp (disch := omega) only [g108_0, g108_4, g108_7, g108_8, g108_9, g108_15, g108_18, g108_20, g108_21, g108_22, g108_25, g108_26, g108_27, g108_29, g108_32, g108_34, g108_35, g108_39, g108_40, g108_41, g108_42, g108_43, g108_47, Option.toList_some, Option.toList_none, List.cons_append, List.nil_append, true_and, and_true, true_or, or_true, eq_self, ci0, ci1, cin6, forall_const, not_true_eq_false, not_false_eq_true, fimp, timp, i10, i01, cm_rne, and_assoc]
  · refine c108_12 (Nat.le_of_ble_eq_true rfl) (q_in hn cn0 ⟨by decide, by decide⟩ (fun h2 => ?_) (fun h2 => ?_)) <;> simp (disch := omega) only [g108_0, g108_4, g108_7, g108_8, g108_9, g108_15, g108_18, g108_20, g108_21, g108_22, g108_25, g108_26, g108_27, g108_29, g108_32, g108_34, g108_35, g108_39, g108_40, g108_41, g108_42, g108_43, g108_47, Option.toList_some, Option.toList_none, List.cons_append, List.nil_append, true_and, and_true, true_or, or_true, eq_self, ci0, ci1, cin6, forall_const, not_true_eq_false, not_false_eq_true, fimp, timp, i10, i01, cm_rne, and_assoc, hsh, e0, a0, b1.1]
    · rw [ite'_p ⟨h1, h2⟩] at K
      (repeat' apply And.intro) <;> (try omega) <;> (try (intro hx; exfalso; omega))
      · intro h4
        rw [ite'_n h4] at K
        refine c108_36 (by decide) hsh (q_record hm' b1 hv.1 b2 hv.2.1.2 (fun M1 r1 f1 => ?_))
        have hR1 : rM M1 (m + 1) (aS A) := rM_fr b1 (f1.1 _ (by omega) (by omega))
        simp (disch := omega) only [g108_0, g108_4, g108_7, g108_8, g108_9, g108_15, g108_18, g108_20, g108_21, g108_22, g108_25, g108_26, g108_27, g108_29, g108_32, g108_34, g108_35, g108_39, g108_40, g108_41, g108_42, g108_43, g108_47, Option.toList_some, Option.toList_none, List.cons_append, List.nil_append, true_and, and_true, true_or, or_true, eq_self, ci0, ci1, cin6, forall_const, not_true_eq_false, not_false_eq_true, fimp, timp, i10, i01, cm_rne, and_assoc]
        refine c108_44 (by decide) hsh (q_add hm' hR1 (by omega) (fun M2 r2 f2 => ?_))
        simp (disch := omega) only [g108_0, g108_4, g108_7, g108_8, g108_9, g108_15, g108_18, g108_20, g108_21, g108_22, g108_25, g108_26, g108_27, g108_29, g108_32, g108_34, g108_35, g108_39, g108_40, g108_41, g108_42, g108_43, g108_47, Option.toList_some, Option.toList_none, List.cons_append, List.nil_append, true_and, and_true, true_or, or_true, eq_self, ci0, ci1, cin6, forall_const, not_true_eq_false, not_false_eq_true, fimp, timp, i10, i01, cm_rne, and_assoc]
        obtain ⟨k1, k2⟩ := rMA_chg hA' r1 f1 (frS.of f2) r2
        exact K _ k1 k2
      · intro h4
        rw [ite'_p h4] at K
        exact K M hA' fr.rf
    · rw [ite'_n (fun z => h2 z.2)] at K
      exact K M hA' fr.rf
  · rw [ite'_n (fun z => h1 z.1)] at K
    exact K M hA' fr.rf
theorem q_line (hm : isM G m) (hA : rMA M m A) (hv : vA A) (hk : cm_in k) (K : ∀ M', rMA M' m (rLine A k).2 → fr M M' m (m + 11) → Q (some (0, (rLine A k).1)) G M') : Go 109 0 [some (2, m), some (0, k)] [] G M Q := by
  have hm' := hm
  obtain ⟨h0, hsh, ⟨e0, e1, e2, e3, e5, e7, e8, e9, e10, e12, e13⟩, a0, a1, a2, a3, a5, a7, a8, a9, a10, a12, a13⟩ := hm
  have hA' := hA
  obtain ⟨b1, b2, b3, b4, b5⟩ := hA
  have hn1 := hv.1.2.1
  have hn0 := hv.1.1
  unfold rLine at K
  simp (disch := omega) only [g109_0, g109_1, g109_2, g109_6, g109_9, g109_11, g109_12, g109_13, g109_16, g109_17, g109_18, g109_20, g109_23, g109_25, g109_26, g109_30, g109_31, g109_32, g109_34, g109_36, g109_40, Option.toList_some, Option.toList_none, List.cons_append, List.nil_append, true_and, and_true, true_or, or_true, eq_self, ci0, ci1, cin6, forall_const, not_true_eq_false, not_false_eq_true, fimp, timp, i10, i01, cm_rne, and_assoc]
  refine c109_3 (Nat.le_of_ble_eq_true rfl) (q_in hk cn1 ⟨by decide, by decide⟩ (fun h2 => ?_) (fun h2 => ?_)) <;> simp (disch := omega) only [g109_0, g109_1, g109_2, g109_6, g109_9, g109_11, g109_12, g109_13, g109_16, g109_17, g109_18, g109_20, g109_23, g109_25, g109_26, g109_30, g109_31, g109_32, g109_34, g109_36, g109_40, Option.toList_some, Option.toList_none, List.cons_append, List.nil_append, true_and, and_true, true_or, or_true, eq_self, ci0, ci1, cin6, forall_const, not_true_eq_false, not_false_eq_true, fimp, timp, i10, i01, cm_rne, and_assoc, hsh, e0, a0, b1.1]
  · rw [ite'_p h2] at K
    (repeat' apply And.intro) <;> (try omega) <;> (try (intro hx; exfalso; omega))
    · intro h4
      rw [ite'_n h4] at K
      refine c109_27 (by decide) hsh (q_record hm' b1 hv.1 b2 hv.2.1.2 (fun M1 r1 f1 => ?_))
      have hR1 : rM M1 (m + 1) (aS A) := rM_fr b1 (f1.1 _ (by omega) (by omega))
      simp (disch := omega) only [g109_0, g109_1, g109_2, g109_6, g109_9, g109_11, g109_12, g109_13, g109_16, g109_17, g109_18, g109_20, g109_23, g109_25, g109_26, g109_30, g109_31, g109_32, g109_34, g109_36, g109_40, Option.toList_some, Option.toList_none, List.cons_append, List.nil_append, true_and, and_true, true_or, or_true, eq_self, ci0, ci1, cin6, forall_const, not_true_eq_false, not_false_eq_true, fimp, timp, i10, i01, cm_rne, and_assoc]
      refine c109_37 (by decide) hsh (q_add hm' hR1 (by omega) (fun M2 r2 f2 => ?_))
      simp (disch := omega) only [g109_0, g109_1, g109_2, g109_6, g109_9, g109_11, g109_12, g109_13, g109_16, g109_17, g109_18, g109_20, g109_23, g109_25, g109_26, g109_30, g109_31, g109_32, g109_34, g109_36, g109_40, Option.toList_some, Option.toList_none, List.cons_append, List.nil_append, true_and, and_true, true_or, or_true, eq_self, ci0, ci1, cin6, forall_const, not_true_eq_false, not_false_eq_true, fimp, timp, i10, i01, cm_rne, and_assoc]
      obtain ⟨k1, k2⟩ := rMA_chg hA' r1 f1 (frS.of f2) r2
      exact K _ k1 k2
    · intro h4
      rw [ite'_p h4] at K
      exact K M hA' fr.rf
  · rw [ite'_n h2] at K
    exact K M hA' fr.rf
/-- a cue is written -/
theorem rM_cue {M : cm_M} {z : Int} (hR : rM M z S) (hi : 0 ≤ i ∧ i < sN S) : rM (cm_up M z (4 + 4 * i + 3) v) z (sCue S i v) := by
  obtain ⟨q1, q2, q3⟩ := hR
  unfold rM
  rw [cm_req]
  dsimp only
  refine ⟨by rw [if_neg (by omega)]; exact q1, fun j a b => by rw [if_neg (by omega)]; exact q2 j a b, fun j a b => ?_⟩
  obtain ⟨c1, c2, c3, c4⟩ := q3 j a b
  rw [if_neg (by omega), if_neg (by omega), if_neg (by omega)]
  refine ⟨c1, c2, c3, ?_⟩
  show _ = if j = i then v else sC S j
  by_cases hj : j = i
  · rw [if_pos (by omega), if_pos hj]
  · rw [if_neg (by omega), if_neg hj]; exact c4
theorem q_cue (hm : isM G m) (hA : rMA M m A) (hv : vA A) (hi : cm_in i) (hw : cm_in v) (K : ∀ M', rMA M' m (rCue A i v).2 → fr M M' m (m + 11) → Q (some (0, (rCue A i v).1)) G M') : Go 110 0 [some (2, m), some (0, i), some (0, v), none] [] G M Q := by
  have hm' := hm
  obtain ⟨h0, hsh, ⟨e0, e1, e2, e3, e5, e7, e8, e9, e10, e12, e13⟩, a0, a1, a2, a3, a5, a7, a8, a9, a10, a12, a13⟩ := hm
  have hA' := hA
  obtain ⟨b1, b2, b3, b4, b5⟩ := hA
  have hn1 := hv.1.2.1
  have hn0 := hv.1.1
  unfold rCue at K
  simp (disch := omega) only [g110_0, g110_1, g110_5, g110_8, g110_9, g110_10, g110_11, g110_12, g110_17, g110_20, g110_22, g110_23, g110_27, g110_28, g110_29, g110_33, g110_34, g110_35, g110_38, g110_39, g110_40, g110_41, g110_42, g110_43, g110_44, g110_45, g110_46, g110_47, g110_48, Option.toList_some, Option.toList_none, List.cons_append, List.nil_append, true_and, and_true, true_or, or_true, eq_self, ci0, ci1, cin6, forall_const, not_true_eq_false, not_false_eq_true, fimp, timp, i10, i01, cm_rne, and_assoc]
  refine c110_2 (by decide) hsh (q_isLine hm' b1 hv.1 hi (fun h1 => ?_) (fun h1 => ?_)) <;> simp (disch := omega) only [g110_0, g110_1, g110_5, g110_8, g110_9, g110_10, g110_11, g110_12, g110_17, g110_20, g110_22, g110_23, g110_27, g110_28, g110_29, g110_33, g110_34, g110_35, g110_38, g110_39, g110_40, g110_41, g110_42, g110_43, g110_44, g110_45, g110_46, g110_47, g110_48, Option.toList_some, Option.toList_none, List.cons_append, List.nil_append, true_and, and_true, true_or, or_true, eq_self, ci0, ci1, cin6, forall_const, not_true_eq_false, not_false_eq_true, fimp, timp, i10, i01, cm_rne, and_assoc]
  · rw [ite'_p h1] at K
    refine c110_14 (Nat.le_of_ble_eq_true rfl) (q_in hw cn0 ⟨by decide, by decide⟩ (fun h2 => ?_) (fun h2 => ?_)) <;> simp (disch := omega) only [g110_0, g110_1, g110_5, g110_8, g110_9, g110_10, g110_11, g110_12, g110_17, g110_20, g110_22, g110_23, g110_27, g110_28, g110_29, g110_33, g110_34, g110_35, g110_38, g110_39, g110_40, g110_41, g110_42, g110_43, g110_44, g110_45, g110_46, g110_47, g110_48, Option.toList_some, Option.toList_none, List.cons_append, List.nil_append, true_and, and_true, true_or, or_true, eq_self, ci0, ci1, cin6, forall_const, not_true_eq_false, not_false_eq_true, fimp, timp, i10, i01, cm_rne, and_assoc]
    · rw [ite'_p h2] at K
      refine c110_24 (by decide) hsh (q_record hm' b1 hv.1 b2 hv.2.1.2 (fun M1 r1 f1 => ?_))
      have hR1 : rM M1 (m + 1) (aS A) := rM_fr b1 (f1.1 _ (by omega) (by omega))
      simp (disch := omega) only [g110_0, g110_1, g110_5, g110_8, g110_9, g110_10, g110_11, g110_12, g110_17, g110_20, g110_22, g110_23, g110_27, g110_28, g110_29, g110_33, g110_34, g110_35, g110_38, g110_39, g110_40, g110_41, g110_42, g110_43, g110_44, g110_45, g110_46, g110_47, g110_48, Option.toList_some, Option.toList_none, List.cons_append, List.nil_append, true_and, and_true, true_or, or_true, eq_self, ci0, ci1, cin6, forall_const, not_true_eq_false, not_false_eq_true, fimp, timp, i10, i01, cm_rne, and_assoc]
      refine c110_30 (by decide) hsh (q_cu hm' hR1 hv.1 h1 ?_)
      simp (disch := omega) only [g110_0, g110_1, g110_5, g110_8, g110_9, g110_10, g110_11, g110_12, g110_17, g110_20, g110_22, g110_23, g110_27, g110_28, g110_29, g110_33, g110_34, g110_35, g110_38, g110_39, g110_40, g110_41, g110_42, g110_43, g110_44, g110_45, g110_46, g110_47, g110_48, Option.toList_some, Option.toList_none, List.cons_append, List.nil_append, true_and, and_true, true_or, or_true, eq_self, ci0, ci1, cin6, forall_const, not_true_eq_false, not_false_eq_true, fimp, timp, i10, i01, cm_rne, and_assoc, hsh, e0, a0]
      (repeat' apply And.intro) <;> (try omega) <;> (try (intro hx; exfalso; omega))
      obtain ⟨k1, k2⟩ := rMA_chg hA' r1 f1 (frS.of (fun k a => cm_rne a)) (rM_cue (v := v) hR1 h1)
      exact K _ k1 k2
    · rw [ite'_n h2] at K
      exact K M hA' fr.rf
  · rw [ite'_n h1] at K
    exact K M hA' fr.rf
end MODEL5
