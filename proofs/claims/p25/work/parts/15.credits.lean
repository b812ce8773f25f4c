section CRED
variable {G : cm_G} {M : cm_M} {c i a b v g : Int} {S : sS} {Q : Option cm_V → cm_G → cm_M → Prop}
theorem p_exchange (hc : isC G c) (hR : rC M c S) (hv : vS S) (ha : 0 ≤ a ∧ a < sN S) (hb : 0 ≤ b ∧ b < sN S) (K : ∀ M', rC M' c (sSw S a b) → fr M M' c (c + 5) → Q none G M') : Go 34 0 [some (2, c), some (0, a), some (0, b)] [] G M Q := by
  obtain ⟨h0, hs, ⟨e0, e1, e2, e3, e4⟩, a1, a2, a3, a4, a5⟩ := hc
  have hn := hv.2.1
  have ha' : 0 ≤ a ∧ a < 40 := by omega
  have hb' : 0 ≤ b ∧ b < 40 := by omega
  simp (disch := omega) only [g34_0, g34_1, g34_4, g34_5, g34_9, g34_10, g34_13, g34_14, g34_18, g34_19, g34_22, g34_23, g34_27, g34_28, g34_31, g34_32, g34_36, Option.toList_some, Option.toList_none, List.cons_append, List.nil_append, true_and, and_true, true_or, or_true, eq_self, ci0, ci1, cin6, forall_const, not_true_eq_false, not_false_eq_true, fimp, timp, i10, i01, cm_rne, and_assoc, hs, e1]
  refine c34_6 (by decide) (p_exchangeIn (by omega) a2 ha' hb' ?_)
  simp (disch := omega) only [g34_0, g34_1, g34_4, g34_5, g34_9, g34_10, g34_13, g34_14, g34_18, g34_19, g34_22, g34_23, g34_27, g34_28, g34_31, g34_32, g34_36, Option.toList_some, Option.toList_none, List.cons_append, List.nil_append, true_and, and_true, true_or, or_true, eq_self, ci0, ci1, cin6, forall_const, not_true_eq_false, not_false_eq_true, fimp, timp, i10, i01, cm_rne, and_assoc, hs, e2]
  refine c34_15 (by decide) (p_exchangeIn (by omega) a3 ha' hb' ?_)
  simp (disch := omega) only [g34_0, g34_1, g34_4, g34_5, g34_9, g34_10, g34_13, g34_14, g34_18, g34_19, g34_22, g34_23, g34_27, g34_28, g34_31, g34_32, g34_36, Option.toList_some, Option.toList_none, List.cons_append, List.nil_append, true_and, and_true, true_or, or_true, eq_self, ci0, ci1, cin6, forall_const, not_true_eq_false, not_false_eq_true, fimp, timp, i10, i01, cm_rne, and_assoc, hs, e3]
  refine c34_24 (by decide) (p_exchangeIn (by omega) a4 ha' hb' ?_)
  simp (disch := omega) only [g34_0, g34_1, g34_4, g34_5, g34_9, g34_10, g34_13, g34_14, g34_18, g34_19, g34_22, g34_23, g34_27, g34_28, g34_31, g34_32, g34_36, Option.toList_some, Option.toList_none, List.cons_append, List.nil_append, true_and, and_true, true_or, or_true, eq_self, ci0, ci1, cin6, forall_const, not_true_eq_false, not_false_eq_true, fimp, timp, i10, i01, cm_rne, and_assoc, hs, e4]
  refine c34_33 (by decide) (p_exchangeIn (by omega) a5 ha' hb' ?_)
  simp (disch := omega) only [g34_0, g34_1, g34_4, g34_5, g34_9, g34_10, g34_13, g34_14, g34_18, g34_19, g34_22, g34_23, g34_27, g34_28, g34_31, g34_32, g34_36, Option.toList_some, Option.toList_none, List.cons_append, List.nil_append, true_and, and_true, true_or, or_true, eq_self, ci0, ci1, cin6, forall_const, not_true_eq_false, not_false_eq_true, fimp, timp, i10, i01, cm_rne, and_assoc]
  obtain ⟨r1, r2, r3⟩ := hR
  refine K _ ⟨?_, fun j h0 h3 => ?_, fun j h0 hj => ?_⟩ (fun k hk => ?_)
  · simp (disch := omega) only [cm_sw_n]
    exact r1
  · simp (disch := omega) only [cm_sw_n]
    exact r2 j h0 h3
  · simp (disch := omega) only [cm_sw_n, cm_sw_s]
    have hj : j < sN S := hj
    obtain ⟨p1, p2, p3, p4⟩ := r3 a ha.1 ha.2
    obtain ⟨q1, q2, q3, q4⟩ := r3 b hb.1 hb.2
    obtain ⟨s1, s2, s3, s4⟩ := r3 j h0 hj
    show sw (M (c + 2)) a b j = sw (sK S) a b j ∧ sw (M (c + 3)) a b j = sw (sG S) a b j ∧ sw (M (c + 4)) a b j = sw (sM S) a b j ∧ sw (M (c + 5)) a b j = sw (sC S) a b j
    unfold sw
    rw [p1, p2, p3, p4, q1, q2, q3, q4, s1, s2, s3, s4]
    exact ⟨rfl, rfl, rfl, rfl⟩
  · simp (disch := omega) only [cm_sw_n]
theorem p_carry (hc : isC G c) (hR : rC M c S) (hv : vS S) (ha : 0 ≤ a ∧ a < sN S) (hb : 0 ≤ b ∧ b < sN S) (K : ∀ M', rC M' c (sMv S a b) → fr M M' c (c + 5) → Q none G M') : Go 32 0 [some (2, c), some (0, a), some (0, b), none] [] G M Q := by
  have hn := hv.2.1
  -- the second loop, from a state T that holds already
  have down : ∀ (T : sS) (M1 : cm_M), vS T → sN T = sN S → rC M1 c T → fr M M1 c (c + 5) → (∀ M', rC M' c (if a ≤ b then T else sDn T a (a - b).toNat) → fr M M' c (c + 5) → Q none G M') → ∀ x : Option cm_V, Go 32 21 [some (2, c), some (0, a), some (0, b), x] [] G M1 Q := by
    intro T M1 hvT hnT hRT hfT KT x
    simp (disch := omega) only [g32_0, g32_1, g32_3, g32_4, g32_7, g32_8, g32_9, g32_10, g32_11, g32_15, g32_18, g32_21, g32_22, g32_24, g32_25, g32_28, g32_29, g32_30, g32_31, g32_32, g32_36, g32_39, g32_42, Option.toList_some, Option.toList_none, List.cons_append, List.nil_append, true_and, and_true, true_or, or_true, eq_self, ci0, ci1, cin6, forall_const, not_true_eq_false, not_false_eq_true, fimp, timp, i10, i01, cm_rne, and_assoc]
    by_cases hab : a ≤ b
    · rw [if_pos hab] at KT
      rw [g32_23]
      simp (disch := omega) only [g32_0, g32_1, g32_3, g32_4, g32_7, g32_8, g32_9, g32_10, g32_11, g32_15, g32_18, g32_21, g32_22, g32_24, g32_25, g32_28, g32_29, g32_30, g32_31, g32_32, g32_36, g32_39, g32_42, Option.toList_some, Option.toList_none, List.cons_append, List.nil_append, true_and, and_true, true_or, or_true, eq_self, ci0, ci1, cin6, forall_const, not_true_eq_false, not_false_eq_true, fimp, timp, i10, i01, cm_rne, and_assoc]
      (repeat' apply And.intro) <;> (try omega) <;> (try (intro hx; exfalso; omega))
      exact fun _ => KT _ hRT hfT
    · rw [if_neg hab] at KT
      refine go_loopD (σ := cm_M) (fun i _ => [some (2, c), some (0, a), some (0, b), some (0, i)]) (fun s => s) (fun i s => i ≤ a ∧ rC s c (sDn T a (a - i).toNat) ∧ fr M s c (c + 5)) b (fun i s hbi hR ih => ?_) (fun s hR => ?_) a M1 (by omega) ⟨by omega, by rw [Int.sub_self]; exact hRT, hfT⟩
      · obtain ⟨hia, hR1, hR2⟩ := hR
        rw [g32_23]
        simp (disch := omega) only [g32_0, g32_1, g32_3, g32_4, g32_7, g32_8, g32_9, g32_10, g32_11, g32_15, g32_18, g32_21, g32_22, g32_24, g32_25, g32_28, g32_29, g32_30, g32_31, g32_32, g32_36, g32_39, g32_42, Option.toList_some, Option.toList_none, List.cons_append, List.nil_append, true_and, and_true, true_or, or_true, eq_self, ci0, ci1, cin6, forall_const, not_true_eq_false, not_false_eq_true, fimp, timp, i10, i01, cm_rne, and_assoc]
        (repeat' apply And.intro) <;> (try omega) <;> (try (intro hx; exfalso; omega))
        intro _
        have e : sN (sDn T a (a - i).toNat) = sN S := by rw [sDn_n, hnT]
        have hvi : vS (sDn T a (a - i).toNat) := vS_dn hvT (by omega) _ (by omega)
        refine c32_33 (by decide) hc.2.1 (p_exchange hc hR1 hvi (by rw [e]; omega) (by rw [e]; omega) (fun M2 hR2' hf2 => ?_))
        simp (disch := omega) only [g32_0, g32_1, g32_3, g32_4, g32_7, g32_8, g32_9, g32_10, g32_11, g32_15, g32_18, g32_21, g32_22, g32_24, g32_25, g32_28, g32_29, g32_30, g32_31, g32_32, g32_36, g32_39, g32_42, Option.toList_some, Option.toList_none, List.cons_append, List.nil_append, true_and, and_true, true_or, or_true, eq_self, ci0, ci1, cin6, forall_const, not_true_eq_false, not_false_eq_true, fimp, timp, i10, i01, cm_rne, and_assoc]
        refine ih M2 ⟨by omega, ?_, hR2.tr hf2⟩
        rw [show (a - (i - 1)).toNat = (a - i).toNat + 1 by omega]
        unfold sDn
        rw [sSw_comm, show a - ((a - i).toNat : Int) = i by omega]
        exact hR2'
      · rw [g32_23]
        simp (disch := omega) only [g32_0, g32_1, g32_3, g32_4, g32_7, g32_8, g32_9, g32_10, g32_11, g32_15, g32_18, g32_21, g32_22, g32_24, g32_25, g32_28, g32_29, g32_30, g32_31, g32_32, g32_36, g32_39, g32_42, Option.toList_some, Option.toList_none, List.cons_append, List.nil_append, true_and, and_true, true_or, or_true, eq_self, ci0, ci1, cin6, forall_const, not_true_eq_false, not_false_eq_true, fimp, timp, i10, i01, cm_rne, and_assoc]
        (repeat' apply And.intro) <;> (try omega) <;> (try (intro hx; exfalso; omega))
        exact fun _ => KT _ hR.2.1 hR.2.2
  simp (disch := omega) only [g32_0, g32_1, g32_3, g32_4, g32_7, g32_8, g32_9, g32_10, g32_11, g32_15, g32_18, g32_21, g32_22, g32_24, g32_25, g32_28, g32_29, g32_30, g32_31, g32_32, g32_36, g32_39, g32_42, Option.toList_some, Option.toList_none, List.cons_append, List.nil_append, true_and, and_true, true_or, or_true, eq_self, ci0, ci1, cin6, forall_const, not_true_eq_false, not_false_eq_true, fimp, timp, i10, i01, cm_rne, and_assoc]
  by_cases hab : a ≤ b
  · refine go_loop (σ := cm_M) (fun i _ => [some (2, c), some (0, a), some (0, b), some (0, i)]) (fun s => s) (fun i s => a ≤ i ∧ rC s c (sUp S a (i - a).toNat) ∧ fr M s c (c + 5)) b (fun i s h0 hib hR ih => ?_) (fun s hR => ?_) a M (by omega) hab ⟨by omega, by rw [Int.sub_self]; exact hR, fr.rf⟩
    · obtain ⟨hia, hR1, hR2⟩ := hR
      rw [g32_2]
      simp (disch := omega) only [g32_0, g32_1, g32_3, g32_4, g32_7, g32_8, g32_9, g32_10, g32_11, g32_15, g32_18, g32_21, g32_22, g32_24, g32_25, g32_28, g32_29, g32_30, g32_31, g32_32, g32_36, g32_39, g32_42, Option.toList_some, Option.toList_none, List.cons_append, List.nil_append, true_and, and_true, true_or, or_true, eq_self, ci0, ci1, cin6, forall_const, not_true_eq_false, not_false_eq_true, fimp, timp, i10, i01, cm_rne, and_assoc]
      (repeat' apply And.intro) <;> (try omega) <;> (try (intro hx; exfalso; omega))
      intro _
      have e : sN (sUp S a (i - a).toNat) = sN S := sUp_n _ _ _
      have hvi : vS (sUp S a (i - a).toNat) := vS_up hv ha.1 _ (by omega)
      refine c32_12 (by decide) hc.2.1 (p_exchange hc hR1 hvi (by rw [e]; omega) (by rw [e]; omega) (fun M2 hR2' hf2 => ?_))
      simp (disch := omega) only [g32_0, g32_1, g32_3, g32_4, g32_7, g32_8, g32_9, g32_10, g32_11, g32_15, g32_18, g32_21, g32_22, g32_24, g32_25, g32_28, g32_29, g32_30, g32_31, g32_32, g32_36, g32_39, g32_42, Option.toList_some, Option.toList_none, List.cons_append, List.nil_append, true_and, and_true, true_or, or_true, eq_self, ci0, ci1, cin6, forall_const, not_true_eq_false, not_false_eq_true, fimp, timp, i10, i01, cm_rne, and_assoc]
      refine ih M2 ⟨by omega, ?_, hR2.tr hf2⟩
      rw [show (i + 1 - a).toNat = (i - a).toNat + 1 by omega]
      unfold sUp
      rw [show a + ((i - a).toNat : Int) = i by omega]
      exact hR2'
    · rw [g32_2]
      simp (disch := omega) only [g32_3, g32_4, g32_7, g32_8, g32_9, g32_10, g32_11, g32_15, g32_18, Option.toList_some, Option.toList_none, List.cons_append, List.nil_append, true_and, and_true, true_or, or_true, eq_self, ci0, ci1, cin6, forall_const, not_true_eq_false, not_false_eq_true, fimp, timp, i10, i01, cm_rne, and_assoc]
      (repeat' apply And.intro) <;> (try omega) <;> (try (intro hx; exfalso; omega))
      intro _
      refine down (sUp S a (b - a).toNat) s (vS_up hv ha.1 _ (by omega)) (sUp_n _ _ _) hR.2.1 hR.2.2 (fun M' h1 h2 => K M' ?_ h2) _
      rw [if_pos hab] at h1
      unfold sMv
      rw [if_pos hab]
      exact h1
  · rw [g32_2]
    simp (disch := omega) only [g32_3, g32_4, g32_7, g32_8, g32_9, g32_10, g32_11, g32_15, g32_18, Option.toList_some, Option.toList_none, List.cons_append, List.nil_append, true_and, and_true, true_or, or_true, eq_self, ci0, ci1, cin6, forall_const, not_true_eq_false, not_false_eq_true, fimp, timp, i10, i01, cm_rne, and_assoc]
    (repeat' apply And.intro) <;> (try omega) <;> (try (intro hx; exfalso; omega))
    intro _
    refine down S M hv rfl hR fr.rf (fun M' h1 h2 => K M' ?_ h2) _
    rw [if_neg hab] at h1
    unfold sMv
    rw [if_neg hab]
    exact h1
theorem p_remove (hc : isC G c) (hR : rC M c S) (hv : vS S) (ha : 0 ≤ a ∧ a < sN S) (K : ∀ M', rC M' c (sCut (sMv S a (sN S - 1))) → fr M M' c (c + 5) → Q none G M') : Go 33 0 [some (2, c), some (0, a)] [] G M Q := by
  have hs := hc.2.1
  have h0 := hc.1
  simp (disch := omega) only [g33_0, g33_1, g33_2, g33_3, g33_6, g33_7, g33_11, g33_12, g33_12b, g33_13, g33_16, g33_17, g33_18, g33_21, Option.toList_some, Option.toList_none, List.cons_append, List.nil_append, true_and, and_true, true_or, or_true, eq_self, ci0, ci1, cin6, forall_const, not_true_eq_false, not_false_eq_true, fimp, timp, i10, i01, cm_rne, and_assoc, hs, hR.1]
  refine c33_8 (by decide) hs (p_carry hc hR hv ha (by omega) (fun M1 hR1 hf1 => ?_))
  simp (disch := omega) only [g33_0, g33_1, g33_2, g33_3, g33_6, g33_7, g33_11, g33_12, g33_12b, g33_13, g33_16, g33_17, g33_18, g33_21, Option.toList_some, Option.toList_none, List.cons_append, List.nil_append, true_and, and_true, true_or, or_true, eq_self, ci0, ci1, cin6, forall_const, not_true_eq_false, not_false_eq_true, fimp, timp, i10, i01, cm_rne, and_assoc, hs, hR1.1]
  obtain ⟨r1, r2, r3⟩ := hR1
  refine K _ ⟨by rw [cm_req]; simp [sCut, sN], fun j h0 h3 => ?_, fun j h0 hj => ?_⟩ (hf1.tr (fun k hk => by rw [cm_rne (by omega)]))
  · rw [cm_rne (by omega)]
    exact r2 j h0 h3
  · rw [cm_rne (by omega), cm_rne (by omega), cm_rne (by omega), cm_rne (by omega)]
    have hj : j < sN (sMv S a (sN S - 1)) - 1 := hj
    exact r3 j h0 (by omega)
theorem p_add {k g m u : Int} (hc : isC G c) (hR : rC M c S) (hn : 0 ≤ sN S ∧ sN S < 40) (K : ∀ M', rC M' c (sAdd S k g m u) → fr M M' c (c + 5) → Q none G M') : Go 29 0 [some (2, c), some (0, k), some (0, g), some (0, m), some (0, u)] [] G M Q := by
  obtain ⟨h0, hs, ⟨e0, e1, e2, e3, e4⟩, a1, a2, a3, a4, a5⟩ := hc
  obtain ⟨r1, r2, r3⟩ := hR
  simp (disch := omega) only [g29_0, g29_1, g29_4, g29_6, g29_9, g29_10, g29_13, g29_14, g29_17, g29_18, g29_19, g29_20, g29_23, g29_24, g29_27, g29_28, g29_29, g29_30, g29_33, g29_34, g29_37, g29_38, g29_39, g29_40, g29_43, g29_44, g29_47, g29_49, g29_50, g29_51, g29_51b, g29_52, g29_55, g29_56, g29_57, g29_60, Option.toList_some, Option.toList_none, List.cons_append, List.nil_append, true_and, and_true, true_or, or_true, eq_self, ci0, ci1, cin6, forall_const, not_true_eq_false, not_false_eq_true, fimp, timp, i10, i01, cm_rne, and_assoc, hs, e1, e2, e3, e4, a2, a3, a4, a5, r1]
  (repeat' apply And.intro) <;> (try omega) <;> (try (intro hx; exfalso; omega))
  intro _
  (repeat' apply And.intro) <;> (try omega) <;> (try (intro hx; exfalso; omega))
  refine K _ ⟨by rw [cm_req]; simp [sAdd, sN], fun j h0 h3 => ?_, fun j h0 hj => ?_⟩ (fun k hk => ?_)
  · simp (disch := omega) only [cm_rne]
    exact r2 j h0 h3
  · have hj : j < sN S + 1 := hj
    simp (disch := omega) only [cm_rne, cm_req]
    show (if j = sN S then k else M (c + 2) j) = (if j = sN S then k else sK S j) ∧ (if j = sN S then g else M (c + 3) j) = (if j = sN S then g else sG S j) ∧ (if j = sN S then m else M (c + 4) j) = (if j = sN S then m else sM S j) ∧ (if j = sN S then u else M (c + 5) j) = (if j = sN S then u else sC S j)
    by_cases hjn : j = sN S
    · simp only [hjn, if_true, and_self]
    · obtain ⟨s1, s2, s3, s4⟩ := r3 j h0 (by omega)
      simp only [hjn, if_false, s1, s2, s3, s4, and_self]
  · simp (disch := omega) only [cm_rne]
/-- Credits that are full take no line more -/
theorem p_addFull {k g m u : Int} (hc : isC G c) (hR : rC M c S) (hn : sN S = 40) (K : Q none G M) : Go 29 0 [some (2, c), some (0, k), some (0, g), some (0, m), some (0, u)] [] G M Q := by
  have hs := hc.2.1
  simp (disch := omega) only [g29_0, g29_1, g29_4, g29_6, g29_9, g29_10, g29_13, g29_14, g29_17, g29_18, g29_19, g29_20, g29_23, g29_24, g29_27, g29_28, g29_29, g29_30, g29_33, g29_34, g29_37, g29_38, g29_39, g29_40, g29_43, g29_44, g29_47, g29_49, g29_50, g29_51, g29_51b, g29_52, g29_55, g29_56, g29_57, g29_60, Option.toList_some, Option.toList_none, List.cons_append, List.nil_append, true_and, and_true, true_or, or_true, eq_self, ci0, ci1, cin6, forall_const, not_true_eq_false, not_false_eq_true, fimp, timp, i10, i01, cm_rne, and_assoc, hs, hR.1]
  (repeat' apply And.intro) <;> (try omega) <;> (try (intro hx; exfalso; omega))
  exact fun _ => K
end CRED
