section CRED2
variable {G : cm_G} {M : cm_M} {c o i a b v g : Int} {S T : sS} {Q : Option cm_V → cm_G → cm_M → Prop}
theorem p_addAll (hc : isC G c) (ho : isC G o) (hR : rC M c S) (hT : rC M o T) (hd : c + 5 < o ∨ o + 5 < c) (hn : 0 ≤ sN S ∧ 0 ≤ sN T ∧ sN S + sN T ≤ 40) (K : ∀ M', rC M' c (sApp S T) → fr M M' c (c + 5) → Q none G M') : Go 28 0 [some (2, c), some (2, o), none] [] G M Q := by
  have hos := ho.2.1
  have ho' := ho
  obtain ⟨h0, hs, ⟨e0, e1, e2, e3, e4⟩, a1, a2, a3, a4, a5⟩ := ho
  simp (disch := omega) only [g28_0, g28_1, g28_3, g28_4, g28_7, g28_10, g28_11, g28_12, g28_15, g28_16, g28_17, g28_18, g28_21, g28_22, g28_23, g28_24, g28_27, g28_28, g28_29, g28_30, g28_33, g28_34, g28_38, g28_41, g28_44, Option.toList_some, Option.toList_none, List.cons_append, List.nil_append, true_and, and_true, true_or, or_true, eq_self, ci0, ci1, cin6, forall_const, not_true_eq_false, not_false_eq_true, fimp, timp, i10, i01, cm_rne, and_assoc]
  refine go_loop (σ := cm_M) (fun i _ => [some (2, c), some (2, o), some (0, i)]) (fun s => s) (fun i s => rC s c (sApp S (sTk T i)) ∧ fr M s c (c + 5)) (sN T) (fun i s h0 hin hRs ih => ?_) (fun s hRs => ?_) 0 M (by omega) (by omega) ⟨rC_eq hR sApp_0, fr.rf⟩
  · obtain ⟨hR1, hf1⟩ := hRs
    obtain ⟨t1, t2, t3⟩ := hT.fr hf1 (by omega)
    obtain ⟨u1, u2, u3, u4⟩ := t3 i h0 hin
    rw [g28_2]
    simp (disch := omega) only [g28_0, g28_1, g28_3, g28_4, g28_7, g28_10, g28_11, g28_12, g28_15, g28_16, g28_17, g28_18, g28_21, g28_22, g28_23, g28_24, g28_27, g28_28, g28_29, g28_30, g28_33, g28_34, g28_38, g28_41, g28_44, Option.toList_some, Option.toList_none, List.cons_append, List.nil_append, true_and, and_true, true_or, or_true, eq_self, ci0, ci1, cin6, forall_const, not_true_eq_false, not_false_eq_true, fimp, timp, i10, i01, cm_rne, and_assoc, hs, e1, e2, e3, e4, a2, a3, a4, a5, t1, u1, u2, u3, u4]
    (repeat' apply And.intro) <;> (try omega) <;> (try (intro hx; exfalso; omega))
    intro _
    (repeat' apply And.intro) <;> (try omega) <;> (try (intro hx; exfalso; omega))
    refine c28_35 (by decide) hc.2.1 (p_add hc hR1 (by show 0 ≤ sN S + i ∧ sN S + i < 40; omega) (fun M2 hR2 hf2 => ?_))
    simp (disch := omega) only [g28_0, g28_1, g28_3, g28_4, g28_7, g28_10, g28_11, g28_12, g28_15, g28_16, g28_17, g28_18, g28_21, g28_22, g28_23, g28_24, g28_27, g28_28, g28_29, g28_30, g28_33, g28_34, g28_38, g28_41, g28_44, Option.toList_some, Option.toList_none, List.cons_append, List.nil_append, true_and, and_true, true_or, or_true, eq_self, ci0, ci1, cin6, forall_const, not_true_eq_false, not_false_eq_true, fimp, timp, i10, i01, cm_rne, and_assoc]
    exact ih M2 ⟨rC_eq hR2 (sApp_s h0), hf1.tr hf2⟩
  · obtain ⟨hR1, hf1⟩ := hRs
    obtain ⟨t1, t2, t3⟩ := hT.fr hf1 (by omega)
    rw [g28_2]
    simp (disch := omega) only [g28_0, g28_1, g28_3, g28_4, g28_7, g28_10, g28_11, g28_12, g28_15, g28_16, g28_17, g28_18, g28_21, g28_22, g28_23, g28_24, g28_27, g28_28, g28_29, g28_30, g28_33, g28_34, g28_38, g28_41, g28_44, Option.toList_some, Option.toList_none, List.cons_append, List.nil_append, true_and, and_true, true_or, or_true, eq_self, ci0, ci1, cin6, forall_const, not_true_eq_false, not_false_eq_true, fimp, timp, i10, i01, cm_rne, and_assoc, hs, t1]
    (repeat' apply And.intro) <;> (try omega) <;> (try (intro hx; exfalso; omega))
    exact fun _ => K _ hR1 hf1
theorem p_takeFrom (hc : isC G c) (ho : isC G o) (hT : rC M o T) (hd : c + 5 < o ∨ o + 5 < c) (hn : 0 ≤ sN T ∧ sN T ≤ 40) (K : ∀ M', rC M' c T → fr M M' c (c + 5) → Q none G M') : Go 27 0 [some (2, c), some (2, o)] [] G M Q := by
  have hos := ho.2.1
  have hcs := hc.2.1
  have hc0 := hc.1
  have ho0 := ho.1
  have e0 := hc.2.2.1.1
  have f0 := ho.2.2.1.1
  have a1 := hc.2.2.2.1
  have b1 := ho.2.2.2.1
  obtain ⟨t1, t2, t3⟩ := hT
  simp (disch := omega) only [g27_0, g27_1, g27_4, g27_5, g27_6, g27_9, g27_10, g27_11, g27_14, g27_15, g27_16, g27_19, g27_20, g27_24, Option.toList_some, Option.toList_none, List.cons_append, List.nil_append, true_and, and_true, true_or, or_true, eq_self, ci0, ci1, cin6, forall_const, not_true_eq_false, not_false_eq_true, fimp, timp, i10, i01, cm_rne, and_assoc, hos, hcs, e0, f0, a1, b1]
  (repeat' apply And.intro) <;> (try omega) <;> (try (intro hx; exfalso; omega))
  all_goals first | exact Or.inl (by omega) | decide | skip
  have hfr : fr M (cm_up (cm_cpy M (o + 1) 0 (c + 1) 0 3) c 5 0) c (c + 5) := fun k hk => by
    rw [cm_rne (by omega)]
    funext j
    unfold cm_cpy
    rw [if_neg (by omega)]
  refine c27_21 (by decide) hcs (p_addAll (S := (0, sT T, sK T, sG T, sM T, sC T)) (T := T) hc ho ⟨by rw [cm_req]; rfl, fun j h0 h3 => ?_, fun j h0 hj => absurd hj (by show ¬ j < 0; omega)⟩ (rC.fr ⟨t1, t2, t3⟩ hfr (by omega)) hd ⟨by show (0 : Int) ≤ 0; omega, hn.1, by show (0 : Int) + sN T ≤ 40; omega⟩ (fun M' h1 h2 => ?_))
  · rw [cm_rne (by omega)]
    unfold cm_cpy
    rw [if_pos ⟨rfl, h0, by omega⟩, show (0 : Int) + (j - 0) = j by omega]
    exact t2 j h0 h3
  · simp (disch := omega) only [g27_0, g27_1, g27_4, g27_5, g27_6, g27_9, g27_10, g27_11, g27_14, g27_15, g27_16, g27_19, g27_20, g27_24, Option.toList_some, Option.toList_none, List.cons_append, List.nil_append, true_and, and_true, true_or, or_true, eq_self, ci0, ci1, cin6, forall_const, not_true_eq_false, not_false_eq_true, fimp, timp, i10, i01, cm_rne, and_assoc]
    exact K M' (rC_eq h1 (sApp_e rfl (fun j _ _ => rfl))) (hfr.tr h2)
theorem p_firstNameOf (hc : isC G c) (hR : rC M c S) (hv : vS S) (hg : cm_in g) (K : ∀ r, isFst (fun j => sG S j = g) (sN S) r → Q (some (0, r)) G M) : Go 36 0 [some (2, c), some (0, g), none] [] G M Q := by
  obtain ⟨h0, hs, ⟨e0, e1, e2, e3, e4⟩, a1, a2, a3, a4, a5⟩ := hc
  obtain ⟨r1, r2, r3⟩ := hR
  obtain ⟨v1, v2, v3, v4, v5, v6⟩ := hv
  simp (disch := omega) only [g36_0, g36_1, g36_3, g36_4, g36_7, g36_10, g36_11, g36_14, g36_15, g36_16, g36_17, g36_20, g36_21, g36_22, g36_25, g36_28, g36_30, Option.toList_some, Option.toList_none, List.cons_append, List.nil_append, true_and, and_true, true_or, or_true, eq_self, ci0, ci1, cin6, forall_const, not_true_eq_false, not_false_eq_true, fimp, timp, i10, i01, cm_rne, and_assoc]
  refine go_loop (σ := Unit) (fun i _ => [some (2, c), some (0, g), some (0, i)]) (fun _ => M) (fun i _ => ∀ j, 0 ≤ j → j < i → ¬ sG S j = g) (sN S) (fun i s h0 hin hRs ih => ?_) (fun s hRs => ?_) 0 () (by omega) (by omega) (fun j a b => absurd a (by omega))
  · have w := v6 i h0 hin
    rw [g36_2]
    simp (disch := omega) only [g36_0, g36_1, g36_3, g36_4, g36_7, g36_10, g36_11, g36_14, g36_15, g36_16, g36_17, g36_20, g36_21, g36_22, g36_25, g36_28, g36_30, Option.toList_some, Option.toList_none, List.cons_append, List.nil_append, true_and, and_true, true_or, or_true, eq_self, ci0, ci1, cin6, forall_const, not_true_eq_false, not_false_eq_true, fimp, timp, i10, i01, cm_rne, and_assoc, hs, e2, a3, r1, (r3 i h0 hin).2.1]
    (repeat' apply And.intro) <;> (try omega) <;> (try (intro hx; exfalso; omega))
    intro _
    (repeat' apply And.intro) <;> (try omega) <;> (try (intro hx; exfalso; omega))
    · intro hne
      exact ih () (fun j a b => by
        by_cases hj : j = i
        · rw [hj]; exact hne
        · exact hRs j a (by omega))
    · intro he
      exact K i (Or.inl ⟨h0, hin, he, hRs⟩)
  · rw [g36_2]
    simp (disch := omega) only [g36_0, g36_1, g36_3, g36_4, g36_7, g36_10, g36_11, g36_14, g36_15, g36_16, g36_17, g36_20, g36_21, g36_22, g36_25, g36_28, g36_30, Option.toList_some, Option.toList_none, List.cons_append, List.nil_append, true_and, and_true, true_or, or_true, eq_self, ci0, ci1, cin6, forall_const, not_true_eq_false, not_false_eq_true, fimp, timp, i10, i01, cm_rne, and_assoc, hs, r1]
    (repeat' apply And.intro) <;> (try omega) <;> (try (intro hx; exfalso; omega))
    exact fun _ => K _ (Or.inr ⟨rfl, hRs⟩)
theorem p_namesOf (hc : isC G c) (hR : rC M c S) (hv : vS S) (hg : cm_in g) (K : Q (some (0, fP (fun i a => if sG S i = g then a + 1 else a) 0 (sN S).toNat)) G M) : Go 37 0 [some (2, c), some (0, g), none, none] [] G M Q := by
  obtain ⟨h0, hs, ⟨e0, e1, e2, e3, e4⟩, a1, a2, a3, a4, a5⟩ := hc
  obtain ⟨r1, r2, r3⟩ := hR
  obtain ⟨v1, v2, v3, v4, v5, v6⟩ := hv
  simp (disch := omega) only [g37_0, g37_1, g37_2, g37_3, g37_5, g37_6, g37_9, g37_12, g37_13, g37_16, g37_17, g37_18, g37_19, g37_22, g37_25, g37_28, g37_31, g37_32, Option.toList_some, Option.toList_none, List.cons_append, List.nil_append, true_and, and_true, true_or, or_true, eq_self, ci0, ci1, cin6, forall_const, not_true_eq_false, not_false_eq_true, fimp, timp, i10, i01, cm_rne, and_assoc]
  refine go_loop (σ := Int) (fun i s => [some (2, c), some (0, g), some (0, s), some (0, i)]) (fun _ => M) (fun i s => s = fP (fun i a => if sG S i = g then a + 1 else a) 0 i.toNat) (sN S) (fun i s h0 hin hRs ih => ?_) (fun s hRs => ?_) 0 0 (by omega) (by omega) rfl
  · have w := v6 i h0 hin
    rw [g37_4]
    simp (disch := omega) only [g37_0, g37_1, g37_2, g37_3, g37_5, g37_6, g37_9, g37_12, g37_13, g37_16, g37_17, g37_18, g37_19, g37_22, g37_25, g37_28, g37_31, g37_32, Option.toList_some, Option.toList_none, List.cons_append, List.nil_append, true_and, and_true, true_or, or_true, eq_self, ci0, ci1, cin6, forall_const, not_true_eq_false, not_false_eq_true, fimp, timp, i10, i01, cm_rne, and_assoc, hs, e2, a3, r1, (r3 i h0 hin).2.1]
    (repeat' apply And.intro) <;> (try omega) <;> (try (intro hx; exfalso; omega))
    intro _
    (repeat' apply And.intro) <;> (try omega) <;> (try (intro hx; exfalso; omega))
    · intro hne
      exact ih _ (by rw [fP_s _ _ h0, if_neg hne]; exact hRs)
    · intro he
      exact ih _ (by rw [fP_s _ _ h0, if_pos he, hRs])
  · rw [g37_4]
    simp (disch := omega) only [g37_0, g37_1, g37_2, g37_3, g37_5, g37_6, g37_9, g37_12, g37_13, g37_16, g37_17, g37_18, g37_19, g37_22, g37_25, g37_28, g37_31, g37_32, Option.toList_some, Option.toList_none, List.cons_append, List.nil_append, true_and, and_true, true_or, or_true, eq_self, ci0, ci1, cin6, forall_const, not_true_eq_false, not_false_eq_true, fimp, timp, i10, i01, cm_rne, and_assoc, hs, r1]
    (repeat' apply And.intro) <;> (try omega) <;> (try (intro hx; exfalso; omega))
    intro _
    rw [hRs]
    exact K
theorem p_namesInAll (hc : isC G c) (hR : rC M c S) (hv : vS S) (K : Q (some (0, fP (fun i a => if sK S i = 0 then a + 1 else a) 0 (sN S).toNat)) G M) : Go 38 0 [some (2, c), none, none] [] G M Q := by
  obtain ⟨h0, hs, ⟨e0, e1, e2, e3, e4⟩, a1, a2, a3, a4, a5⟩ := hc
  obtain ⟨r1, r2, r3⟩ := hR
  obtain ⟨v1, v2, v3, v4, v5, v6⟩ := hv
  simp (disch := omega) only [g38_0, g38_1, g38_2, g38_3, g38_5, g38_6, g38_9, g38_12, g38_13, g38_16, g38_17, g38_18, g38_21, g38_24, g38_27, g38_30, g38_31, Option.toList_some, Option.toList_none, List.cons_append, List.nil_append, true_and, and_true, true_or, or_true, eq_self, ci0, ci1, cin6, forall_const, not_true_eq_false, not_false_eq_true, fimp, timp, i10, i01, cm_rne, and_assoc]
  refine go_loop (σ := Int) (fun i s => [some (2, c), some (0, s), some (0, i)]) (fun _ => M) (fun i s => s = fP (fun i a => if sK S i = 0 then a + 1 else a) 0 i.toNat) (sN S) (fun i s h0 hin hRs ih => ?_) (fun s hRs => ?_) 0 0 (by omega) (by omega) rfl
  · have w := v6 i h0 hin
    rw [g38_4]
    simp (disch := omega) only [g38_0, g38_1, g38_2, g38_3, g38_5, g38_6, g38_9, g38_12, g38_13, g38_16, g38_17, g38_18, g38_21, g38_24, g38_27, g38_30, g38_31, Option.toList_some, Option.toList_none, List.cons_append, List.nil_append, true_and, and_true, true_or, or_true, eq_self, ci0, ci1, cin6, forall_const, not_true_eq_false, not_false_eq_true, fimp, timp, i10, i01, cm_rne, and_assoc, hs, e1, a2, r1, (r3 i h0 hin).1]
    (repeat' apply And.intro) <;> (try omega) <;> (try (intro hx; exfalso; omega))
    intro _
    (repeat' apply And.intro) <;> (try omega) <;> (try (intro hx; exfalso; omega))
    · intro hne
      exact ih _ (by rw [fP_s _ _ h0, if_neg hne]; exact hRs)
    · intro he
      exact ih _ (by rw [fP_s _ _ h0, if_pos he, hRs])
  · rw [g38_4]
    simp (disch := omega) only [g38_0, g38_1, g38_2, g38_3, g38_5, g38_6, g38_9, g38_12, g38_13, g38_16, g38_17, g38_18, g38_21, g38_24, g38_27, g38_30, g38_31, Option.toList_some, Option.toList_none, List.cons_append, List.nil_append, true_and, and_true, true_or, or_true, eq_self, ci0, ci1, cin6, forall_const, not_true_eq_false, not_false_eq_true, fimp, timp, i10, i01, cm_rne, and_assoc, hs, r1]
    (repeat' apply And.intro) <;> (try omega) <;> (try (intro hx; exfalso; omega))
    intro _
    rw [hRs]
    exact K
theorem p_cuesInAll (hc : isC G c) (hR : rC M c S) (hv : vS S) (K : Q (some (0, fP (fun i a => if sC S i = 0 then a else a + 1) 0 (sN S).toNat)) G M) : Go 39 0 [some (2, c), none, none] [] G M Q := by
  obtain ⟨h0, hs, ⟨e0, e1, e2, e3, e4⟩, a1, a2, a3, a4, a5⟩ := hc
  obtain ⟨r1, r2, r3⟩ := hR
  obtain ⟨v1, v2, v3, v4, v5, v6⟩ := hv
  simp (disch := omega) only [g39_0, g39_1, g39_2, g39_3, g39_5, g39_6, g39_9, g39_12, g39_13, g39_16, g39_17, g39_18, g39_21, g39_24, g39_27, g39_30, g39_31, Option.toList_some, Option.toList_none, List.cons_append, List.nil_append, true_and, and_true, true_or, or_true, eq_self, ci0, ci1, cin6, forall_const, not_true_eq_false, not_false_eq_true, fimp, timp, i10, i01, cm_rne, and_assoc]
  refine go_loop (σ := Int) (fun i s => [some (2, c), some (0, s), some (0, i)]) (fun _ => M) (fun i s => s = fP (fun i a => if sC S i = 0 then a else a + 1) 0 i.toNat) (sN S) (fun i s h0 hin hRs ih => ?_) (fun s hRs => ?_) 0 0 (by omega) (by omega) rfl
  · have w := v6 i h0 hin
    rw [g39_4]
    simp (disch := omega) only [g39_0, g39_1, g39_2, g39_3, g39_5, g39_6, g39_9, g39_12, g39_13, g39_16, g39_17, g39_18, g39_21, g39_24, g39_27, g39_30, g39_31, Option.toList_some, Option.toList_none, List.cons_append, List.nil_append, true_and, and_true, true_or, or_true, eq_self, ci0, ci1, cin6, forall_const, not_true_eq_false, not_false_eq_true, fimp, timp, i10, i01, cm_rne, and_assoc, hs, e4, a5, r1, (r3 i h0 hin).2.2.2]
    (repeat' apply And.intro) <;> (try omega) <;> (try (intro hx; exfalso; omega))
    intro _
    (repeat' apply And.intro) <;> (try omega) <;> (try (intro hx; exfalso; omega))
    · intro he
      exact ih _ (by rw [fP_s _ _ h0, if_pos he]; exact hRs)
    · intro hne
      exact ih _ (by rw [fP_s _ _ h0, if_neg hne, hRs])
  · rw [g39_4]
    simp (disch := omega) only [g39_0, g39_1, g39_2, g39_3, g39_5, g39_6, g39_9, g39_12, g39_13, g39_16, g39_17, g39_18, g39_21, g39_24, g39_27, g39_30, g39_31, Option.toList_some, Option.toList_none, List.cons_append, List.nil_append, true_and, and_true, true_or, or_true, eq_self, ci0, ci1, cin6, forall_const, not_true_eq_false, not_false_eq_true, fimp, timp, i10, i01, cm_rne, and_assoc, hs, r1]
    (repeat' apply And.intro) <;> (try omega) <;> (try (intro hx; exfalso; omega))
    intro _
    rw [hRs]
    exact K
theorem p_dropCues (hc : isC G c) (hR : rC M c S) (hv : vS S) (K : ∀ M', rC M' c (sCu S (fun _ => 0)) → fr M M' c (c + 5) → Q none G M') : Go 40 0 [some (2, c), none] [] G M Q := by
  obtain ⟨h0, hs, ⟨e0, e1, e2, e3, e4⟩, a1, a2, a3, a4, a5⟩ := hc
  obtain ⟨v1, v2, v3, v4, v5, v6⟩ := hv
  simp (disch := omega) only [g40_0, g40_1, g40_3, g40_4, g40_7, g40_10, g40_11, g40_14, g40_15, g40_16, g40_17, g40_20, g40_23, Option.toList_some, Option.toList_none, List.cons_append, List.nil_append, true_and, and_true, true_or, or_true, eq_self, ci0, ci1, cin6, forall_const, not_true_eq_false, not_false_eq_true, fimp, timp, i10, i01, cm_rne, and_assoc]
  refine go_loop (σ := cm_M) (fun i s => [some (2, c), some (0, i)]) (fun s => s) (fun i s => rC s c (sCu S (fun j => if j < i then 0 else sC S j)) ∧ fr M s c (c + 5)) (sN S) (fun i s h0 hin hRs ih => ?_) (fun s hRs => ?_) 0 M (by omega) (by omega) ⟨rC_eq hR ⟨rfl, fun _ _ _ => rfl, fun j a b => ⟨rfl, rfl, rfl, by show sC S j = if j < 0 then 0 else sC S j; rw [if_neg (by omega)]⟩⟩, fr.rf⟩
  · obtain ⟨⟨r1, r2, r3⟩, hf⟩ := hRs
    rw [g40_2]
    simp (disch := omega) only [g40_0, g40_1, g40_3, g40_4, g40_7, g40_10, g40_11, g40_14, g40_15, g40_16, g40_17, g40_20, g40_23, Option.toList_some, Option.toList_none, List.cons_append, List.nil_append, true_and, and_true, true_or, or_true, eq_self, ci0, ci1, cin6, forall_const, not_true_eq_false, not_false_eq_true, fimp, timp, i10, i01, cm_rne, and_assoc, hs, e4, a5, r1]
    have r1' : s c 5 = sN S := r1
    have hsn : sN (sCu S (fun j => if j < i then 0 else sC S j)) = sN S := rfl
    rw [hsn]
    (repeat' apply And.intro) <;> (try omega) <;> (try (intro hx; exfalso; omega))
    intro _
    (repeat' apply And.intro) <;> (try omega) <;> (try (intro hx; exfalso; omega))
    refine ih _ ⟨⟨by rw [cm_rne (by omega)]; exact r1, fun j a b => by rw [cm_rne (by omega)]; exact r2 j a b, fun j a b => ?_⟩, hf.tr (fun k hk => by rw [cm_rne (by omega)])⟩
    obtain ⟨s1, s2, s3, s4⟩ := r3 j a b
    rw [cm_rne (by omega), cm_rne (by omega), cm_rne (by omega), cm_req]
    refine ⟨s1, s2, s3, ?_⟩
    show (if j = i then 0 else s (c + 5) j) = if j < i + 1 then 0 else sC S j
    have s4' : s (c + 5) j = if j < i then 0 else sC S j := s4
    rw [s4']
    by_cases z1 : j = i
    · rw [if_pos z1, if_pos (by omega)]
    · rw [if_neg z1]
      by_cases z2 : j < i
      · rw [if_pos z2, if_pos (by omega)]
      · rw [if_neg z2, if_neg (by omega)]
  · obtain ⟨hr, hf⟩ := hRs
    have r1 : s c 5 = sN S := hr.1
    rw [g40_2]
    simp (disch := omega) only [g40_0, g40_1, g40_3, g40_4, g40_7, g40_10, g40_11, g40_14, g40_15, g40_16, g40_17, g40_20, g40_23, Option.toList_some, Option.toList_none, List.cons_append, List.nil_append, true_and, and_true, true_or, or_true, eq_self, ci0, ci1, cin6, forall_const, not_true_eq_false, not_false_eq_true, fimp, timp, i10, i01, cm_rne, and_assoc, hs, r1]
    (repeat' apply And.intro) <;> (try omega) <;> (try (intro hx; exfalso; omega))
    intro _
    refine K _ (rC_eq hr ⟨rfl, fun _ _ _ => rfl, fun j a b => ⟨rfl, rfl, rfl, ?_⟩⟩) hf
    have b : j < sN S := b
    show (if j < sN S then 0 else sC S j) = 0
    rw [if_pos b]
end CRED2
