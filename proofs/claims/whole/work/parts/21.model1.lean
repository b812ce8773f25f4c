/-! ===== the reference: reading, heights, the scroll tick by tick ===== -/
def isM (G : cm_G) (m : Int) : Prop := 0 ≤ m ∧ cm_sh G m = some (0, 6) ∧ (G.2 m 0 = m + 1 ∧ G.2 m 1 = m + 2 ∧ G.2 m 2 = m + 3 ∧ G.2 m 3 = m + 4 ∧ G.2 m 5 = m + 5 ∧ G.2 m 7 = m + 6 ∧ G.2 m 8 = m + 7 ∧ G.2 m 9 = m + 8 ∧ G.2 m 10 = m + 9 ∧ G.2 m 12 = m + 10 ∧ G.2 m 13 = m + 11) ∧
  ((∀ M, cm_al 1 G M (m + 1) = 164) ∧ (∀ M, cm_al 1 G M (m + 2) = 984) ∧ (∀ M, cm_al 1 G M (m + 3) = 328) ∧ (∀ M, cm_al 3 G M (m + 4) = 2) ∧ (∀ M, cm_al 2 G M (m + 5) = 60) ∧ (∀ M, cm_al 1 G M (m + 6) = 41) ∧ (∀ M, cm_al 1 G M (m + 7) = 40) ∧ (∀ M, cm_al 1 G M (m + 8) = 40) ∧ (∀ M, cm_al 1 G M (m + 9) = 40) ∧ (∀ M, cm_al 1 G M (m + 10) = 40) ∧ (∀ M, cm_al 1 G M (m + 11) = 128))
/-- what begin and run write: the rows of the scroll, and how far all has moved -/
def frB (M M' : cm_M) (m : Int) : Prop := (∀ k, k ≠ m → (k < m + 6 ∨ m + 9 < k) → M' k = M k) ∧ ∀ j, j ≠ 11 → M' m j = M m j
theorem frB.rf {M : cm_M} {m : Int} : frB M M m := ⟨fun _ _ _ => rfl, fun _ _ => rfl⟩
theorem frB.tr {M M1 M2 : cm_M} {m : Int} (h1 : frB M M1 m) (h2 : frB M1 M2 m) : frB M M2 m := ⟨fun k a b => (h2.1 k a b).trans (h1.1 k a b), fun j a => (h2.2 j a).trans (h1.2 j a)⟩
theorem rM_fr {M M' : cm_M} {z : Int} {S : sS} (h : rM M z S) (e : M' z = M z) : rM M' z S := by
  unfold rM
  rw [e]
  exact h
section MODEL
variable {G : cm_G} {M : cm_M} {m i j t v w g : Int} {S : sS} {Q : Option cm_V → cm_G → cm_M → Prop}
theorem q_its (hM : isM G m) (hi : 0 ≤ i ∧ i < 40) (hw : 0 ≤ w ∧ w < 4) (K : Q (some (0, M (m + 1) (4 + 4 * i + w))) G M) : Go 89 0 [some (2, m), some (0, i), some (0, w)] [] G M Q := by
  obtain ⟨h0, hs, ⟨e0, e1, e2, e3, e5, e7, e8, e9, e10, e12, e13⟩, a0, a1, a2, a3, a5, a7, a8, a9, a10, a12, a13⟩ := hM
  simp (disch := omega) only [g89_0, g89_1, g89_4, g89_5, g89_6, g89_7, g89_8, g89_9, g89_10, g89_11, g89_12, Option.toList_some, Option.toList_none, List.cons_append, List.nil_append, true_and, and_true, true_or, or_true, eq_self, ci0, ci1, cin6, forall_const, not_true_eq_false, not_false_eq_true, fimp, timp, i10, i01, cm_rne, and_assoc, hs, e0, a0]
  (repeat' apply And.intro) <;> (try omega) <;> (try (intro hx; exfalso; omega))
theorem q_kind (hM : isM G m) (hR : rM M (m + 1) S) (hv : vS S) (hi : 0 ≤ i ∧ i < sN S) (K : Q (some (0, sK S i)) G M) : Go 89 0 [some (2, m), some (0, i), some (0, 0)] [] G M Q :=
  q_its hM (by have := hv.2.1; omega) (by omega) (by rw [Int.add_zero, (hR.2.2 i hi.1 hi.2).1]; exact K)
theorem q_grp (hM : isM G m) (hR : rM M (m + 1) S) (hv : vS S) (hi : 0 ≤ i ∧ i < sN S) (K : Q (some (0, sG S i)) G M) : Go 89 0 [some (2, m), some (0, i), some (0, 1)] [] G M Q :=
  q_its hM (by have := hv.2.1; omega) (by omega) (by rw [(hR.2.2 i hi.1 hi.2).2.1]; exact K)
theorem q_num (hM : isM G m) (hR : rM M (m + 1) S) (hv : vS S) (hi : 0 ≤ i ∧ i < sN S) (K : Q (some (0, sM S i)) G M) : Go 89 0 [some (2, m), some (0, i), some (0, 2)] [] G M Q :=
  q_its hM (by have := hv.2.1; omega) (by omega) (by rw [(hR.2.2 i hi.1 hi.2).2.2.1]; exact K)
theorem q_cu (hM : isM G m) (hR : rM M (m + 1) S) (hv : vS S) (hi : 0 ≤ i ∧ i < sN S) (K : Q (some (0, sC S i)) G M) : Go 89 0 [some (2, m), some (0, i), some (0, 3)] [] G M Q :=
  q_its hM (by have := hv.2.1; omega) (by omega) (by rw [(hR.2.2 i hi.1 hi.2).2.2.2]; exact K)
theorem q_isLine (hM : isM G m) (hR : rM M (m + 1) S) (hv : vS S) (hi : cm_in i) (K1 : 0 ≤ i ∧ i < sN S → Q (some (0, 1)) G M) (K0 : ¬ (0 ≤ i ∧ i < sN S) → Q (some (0, 0)) G M) : Go 86 0 [some (2, m), some (0, i)] [] G M Q := by
  obtain ⟨h0, hs, ⟨e0, e1, e2, e3, e5, e7, e8, e9, e10, e12, e13⟩, a0, a1, a2, a3, a5, a7, a8, a9, a10, a12, a13⟩ := hM
  have hn := hv.2.1
  have hn0 := hv.1
  simp (disch := omega) only [g86_0, g86_1, g86_4, g86_5, g86_6, g86_9, g86_10, g86_11, g86_14, g86_15, g86_18, g86_19, Option.toList_some, Option.toList_none, List.cons_append, List.nil_append, true_and, and_true, true_or, or_true, eq_self, ci0, ci1, cin6, forall_const, not_true_eq_false, not_false_eq_true, fimp, timp, i10, i01, cm_rne, and_assoc, hs, e0, a0, hR.1]
  (repeat' apply And.intro) <;> (try omega) <;> (try (intro hx; exfalso; omega))
  · intro h; exact K0 (by omega)
  · intro h
    (repeat' apply And.intro) <;> (try omega) <;> (try (intro hx; exfalso; omega))
    · intro h2; exact K0 (by omega)
    · intro h2; exact K1 (by omega)
theorem q_isNameOf (hM : isM G m) (hR : rM M (m + 1) S) (hv : vS S) (hi : 0 ≤ i ∧ i < sN S) (hg : 0 ≤ g ∧ g ≤ 7) (K1 : sG S i = g → Q (some (0, 1)) G M) (K0 : ¬ sG S i = g → Q (some (0, 0)) G M) : Go 90 0 [some (2, m), some (0, i), some (0, g)] [] G M Q := by
  have hs := hM.2.1
  have w := hv.2.2.2.2.2 i hi.1 hi.2
  simp (disch := omega) only [g90_0, g90_1, g90_2, g90_6, g90_9, g90_10, g90_11, g90_15, g90_16, g90_19, g90_20, g90_23, g90_24, Option.toList_some, Option.toList_none, List.cons_append, List.nil_append, true_and, and_true, true_or, or_true, eq_self, ci0, ci1, cin6, forall_const, not_true_eq_false, not_false_eq_true, fimp, timp, i10, i01, cm_rne, and_assoc]
  refine c90_3 (by decide) hs (q_kind hM hR hv hi ?_)
  simp (disch := omega) only [g90_0, g90_1, g90_2, g90_6, g90_9, g90_10, g90_11, g90_15, g90_16, g90_19, g90_20, g90_23, g90_24, Option.toList_some, Option.toList_none, List.cons_append, List.nil_append, true_and, and_true, true_or, or_true, eq_self, ci0, ci1, cin6, forall_const, not_true_eq_false, not_false_eq_true, fimp, timp, i10, i01, cm_rne, and_assoc]
  (repeat' apply And.intro) <;> (try omega) <;> (try (intro hx; exfalso; omega))
  · intro hne
    exact K0 (fun z => by have := (w.2.2.2.1 hne).1; omega)
  · intro he
    refine c90_12 (by decide) hs (q_grp hM hR hv hi ?_)
    simp (disch := omega) only [g90_0, g90_1, g90_2, g90_6, g90_9, g90_10, g90_11, g90_15, g90_16, g90_19, g90_20, g90_23, g90_24, Option.toList_some, Option.toList_none, List.cons_append, List.nil_append, true_and, and_true, true_or, or_true, eq_self, ci0, ci1, cin6, forall_const, not_true_eq_false, not_false_eq_true, fimp, timp, i10, i01, cm_rne, and_assoc]
    (repeat' apply And.intro) <;> (try omega) <;> (try (intro hx; exfalso; omega))
theorem q_height (hM : isM G m) (hR : rM M (m + 1) S) (hv : vS S) (hi : 0 ≤ i ∧ i < sN S) (K : Q (some (0, sH S i)) G M) : Go 95 0 [some (2, m), some (0, i), none] [] G M Q := by
  have hM' := hM
  obtain ⟨h0, hs, ⟨e0, e1, e2, e3, e5, e7, e8, e9, e10, e12, e13⟩, a0, a1, a2, a3, a5, a7, a8, a9, a10, a12, a13⟩ := hM
  have w := hv.2.2.2.2.2 i hi.1 hi.2
  have r2 := hR.2.1 2 (by decide) (by decide)
  unfold sH at K
  simp (disch := omega) only [g95_0, g95_1, g95_2, g95_6, g95_7, g95_8, g95_9, g95_12, g95_13, g95_16, g95_17, g95_18, g95_21, g95_22, g95_25, g95_26, g95_27, g95_30, g95_31, Option.toList_some, Option.toList_none, List.cons_append, List.nil_append, true_and, and_true, true_or, or_true, eq_self, ci0, ci1, cin6, forall_const, not_true_eq_false, not_false_eq_true, fimp, timp, i10, i01, cm_rne, and_assoc]
  refine c95_3 (by decide) hs (q_kind hM' hR hv hi ?_)
  simp (disch := omega) only [g95_0, g95_1, g95_2, g95_6, g95_7, g95_8, g95_9, g95_12, g95_13, g95_16, g95_17, g95_18, g95_21, g95_22, g95_25, g95_26, g95_27, g95_30, g95_31, Option.toList_some, Option.toList_none, List.cons_append, List.nil_append, true_and, and_true, true_or, or_true, eq_self, ci0, ci1, cin6, forall_const, not_true_eq_false, not_false_eq_true, fimp, timp, i10, i01, cm_rne, and_assoc, hs, e0, a0, r2]
  (repeat' apply And.intro) <;> (try omega) <;> (try (intro hx; exfalso; omega))
  · intro h1
    (repeat' apply And.intro) <;> (try omega) <;> (try (intro hx; exfalso; omega))
    · intro h2
      rw [if_neg h1, if_neg h2] at K
      exact K
    · intro h2
      rw [if_neg h1, if_pos h2] at K
      (repeat' apply And.intro) <;> (try omega) <;> (try (intro hx; exfalso; omega))
  · intro h1
    rw [if_pos h1] at K
    exact K
theorem q_begin (hM : isM G m) (hR : rM M (m + 1) S) (hv : vS S) (K : ∀ M', (∀ i, 0 ≤ i → i ≤ sN S → M' (m + 6) i = tI S i) → (∀ i, 0 ≤ i → i < sN S → M' (m + 7) i = 0 ∧ M' (m + 8) i = -6 ∧ M' (m + 9) i = -6) → M' m 11 = 0 → frB M M' m → Q none G M') : Go 96 0 [some (2, m), none] [] G M Q := by
  have hM' := hM
  obtain ⟨h0, hs, ⟨e0, e1, e2, e3, e5, e7, e8, e9, e10, e12, e13⟩, a0, a1, a2, a3, a5, a7, a8, a9, a10, a12, a13⟩ := hM
  have hn := hv.2.1
  have hn0 := hv.1
  simp (disch := omega) only [g96_0, g96_1, g96_4, g96_5, g96_6, g96_7, g96_8, g96_10, g96_11, g96_14, g96_15, g96_16, g96_19, g96_20, g96_23, g96_24, g96_25, g96_26, g96_27, g96_30, g96_31, g96_32, g96_33, g96_37, g96_38, g96_39, g96_40, g96_43, g96_44, g96_45, g96_46, g96_47, g96_50, g96_51, g96_53, g96_54, g96_55, g96_58, g96_59, g96_61, g96_62, g96_65, g96_68, g96_69, g96_70, g96_73, Option.toList_some, Option.toList_none, List.cons_append, List.nil_append, true_and, and_true, true_or, or_true, eq_self, ci0, ci1, cin6, forall_const, not_true_eq_false, not_false_eq_true, fimp, timp, i10, i01, cm_rne, and_assoc, hs, e7, a7]
  (repeat' apply And.intro) <;> (try omega) <;> (try (intro hx; exfalso; omega))
  refine go_loop (σ := cm_M) (fun i _ => [some (2, m), some (0, i)]) (fun s => s) (fun i s => (∀ j, 0 ≤ j → j ≤ i → s (m + 6) j = tI S j) ∧ (∀ j, 0 ≤ j → j < i → s (m + 7) j = 0 ∧ s (m + 8) j = -6 ∧ s (m + 9) j = -6) ∧ frB M s m) (sN S) (fun i s hi0 hin hRs ih => ?_) (fun s hRs => ?_) 0 _ (by omega) hn0 ⟨fun j a b => ?_, fun j a b => absurd a (by omega), ⟨fun k a b => cm_rne (by omega), fun j _ => by rw [cm_rne (by omega)]⟩⟩
  · obtain ⟨p1, p2, pf⟩ := hRs
    have hR1 : rM s (m + 1) S := rM_fr hR (pf.1 _ (by omega) (by omega))
    rw [g96_9]
    simp (disch := omega) only [g96_0, g96_1, g96_4, g96_5, g96_6, g96_7, g96_8, g96_10, g96_11, g96_14, g96_15, g96_16, g96_19, g96_20, g96_23, g96_24, g96_25, g96_26, g96_27, g96_30, g96_31, g96_32, g96_33, g96_37, g96_38, g96_39, g96_40, g96_43, g96_44, g96_45, g96_46, g96_47, g96_50, g96_51, g96_53, g96_54, g96_55, g96_58, g96_59, g96_61, g96_62, g96_65, g96_68, g96_69, g96_70, g96_73, Option.toList_some, Option.toList_none, List.cons_append, List.nil_append, true_and, and_true, true_or, or_true, eq_self, ci0, ci1, cin6, forall_const, not_true_eq_false, not_false_eq_true, fimp, timp, i10, i01, cm_rne, and_assoc, hs, e0, a0, hR1.1, e7, a7, p1 i hi0 (by omega)]
    (repeat' apply And.intro) <;> (try omega) <;> (try (intro hx; exfalso; omega))
    intro _
    (repeat' apply And.intro) <;> (try omega) <;> (try (intro hx; exfalso; omega))
    refine c96_34 (Nat.le_of_ble_eq_true rfl) hs (q_height hM' hR1 hv ⟨hi0, hin⟩ ?_)
    simp (disch := omega) only [g96_0, g96_1, g96_4, g96_5, g96_6, g96_7, g96_8, g96_10, g96_11, g96_14, g96_15, g96_16, g96_19, g96_20, g96_23, g96_24, g96_25, g96_26, g96_27, g96_30, g96_31, g96_32, g96_33, g96_37, g96_38, g96_39, g96_40, g96_43, g96_44, g96_45, g96_46, g96_47, g96_50, g96_51, g96_53, g96_54, g96_55, g96_58, g96_59, g96_61, g96_62, g96_65, g96_68, g96_69, g96_70, g96_73, Option.toList_some, Option.toList_none, List.cons_append, List.nil_append, true_and, and_true, true_or, or_true, eq_self, ci0, ci1, cin6, forall_const, not_true_eq_false, not_false_eq_true, fimp, timp, i10, i01, cm_rne, and_assoc, hs, e7, e8, e9, e10, a7, a8, a9, a10]
    (repeat' apply And.intro) <;> (try omega) <;> (try (intro hx; exfalso; omega))
    refine ih _ ⟨fun j a b => ?_, fun j a b => ?_, pf.tr ⟨fun k a b => by simp (disch := omega) only [cm_rne], fun j _ => by simp (disch := omega) only [cm_rne]⟩⟩
    · simp (disch := omega) only [cm_rne, cm_req]
      by_cases hj : j = i + 1
      · rw [if_pos hj, hj, tI_s S hi0]
      · rw [if_neg hj]; exact p1 j a (by omega)
    · simp (disch := omega) only [cm_rne, cm_req]
      by_cases hj : j = i
      · rw [if_pos hj, if_pos hj, if_pos hj]; exact ⟨rfl, rfl, rfl⟩
      · rw [if_neg hj, if_neg hj, if_neg hj]; exact p2 j a (by omega)
  · obtain ⟨p1, p2, pf⟩ := hRs
    have hR1 : rM s (m + 1) S := rM_fr hR (pf.1 _ (by omega) (by omega))
    rw [g96_9]
    simp (disch := omega) only [g96_0, g96_1, g96_4, g96_5, g96_6, g96_7, g96_8, g96_10, g96_11, g96_14, g96_15, g96_16, g96_19, g96_20, g96_23, g96_24, g96_25, g96_26, g96_27, g96_30, g96_31, g96_32, g96_33, g96_37, g96_38, g96_39, g96_40, g96_43, g96_44, g96_45, g96_46, g96_47, g96_50, g96_51, g96_53, g96_54, g96_55, g96_58, g96_59, g96_61, g96_62, g96_65, g96_68, g96_69, g96_70, g96_73, Option.toList_some, Option.toList_none, List.cons_append, List.nil_append, true_and, and_true, true_or, or_true, eq_self, ci0, ci1, cin6, forall_const, not_true_eq_false, not_false_eq_true, fimp, timp, i10, i01, cm_rne, and_assoc, hs, e0, a0, hR1.1]
    (repeat' apply And.intro) <;> (try omega) <;> (try (intro hx; exfalso; omega))
    intro _
    refine K _ (fun i a b => by rw [cm_rne (by omega)]; exact p1 i a b) (fun i a b => by simp (disch := omega) only [cm_rne]; exact p2 i a b) (cm_up_s _ _ _ _) (pf.tr ⟨fun k a b => cm_rne a, fun j a => cm_up_n _ (Or.inr a)⟩)
  · have : j = 0 := by omega
    subst this
    exact cm_up_s _ _ _ _
theorem q_speedNow {x : Int} (hM : isM G m) (hR : rM M (m + 1) S) (hv : vS S) (hA : ∀ i, 0 ≤ i → i ≤ sN S → M (m + 6) i = tI S i) (hx : M m 11 = x) (hxb : 0 ≤ x ∧ x ≤ 1000000) (K : Q (some (0, sp S (sN S).toNat x)) G M) : Go 97 0 [some (2, m), none, none] [] G M Q := by
  have hM' := hM
  obtain ⟨h0, hs, ⟨e0, e1, e2, e3, e5, e7, e8, e9, e10, e12, e13⟩, a0, a1, a2, a3, a5, a7, a8, a9, a10, a12, a13⟩ := hM
  have hn := hv.2.1
  have hn0 := hv.1
  have r1 := hR.2.1 1 (by decide) (by decide)
  simp (disch := omega) only [g97_0, g97_1, g97_4, g97_5, g97_6, g97_7, g97_8, g97_10, g97_11, g97_14, g97_15, g97_16, g97_19, g97_20, g97_21, g97_25, g97_28, g97_30, g97_31, g97_34, g97_35, g97_36, g97_37, g97_38, g97_41, g97_44, g97_45, g97_46, g97_50, g97_53, g97_54, g97_55, g97_58, g97_61, g97_62, Option.toList_some, Option.toList_none, List.cons_append, List.nil_append, true_and, and_true, true_or, or_true, eq_self, ci0, ci1, cin6, forall_const, not_true_eq_false, not_false_eq_true, fimp, timp, i10, i01, cm_rne, and_assoc, hs, e0, a0, r1]
  (repeat' apply And.intro) <;> (try omega) <;> (try (intro hx; exfalso; omega))
  refine go_loop (σ := Int) (fun i s => [some (2, m), some (0, s), some (0, i)]) (fun _ => M) (fun i s => s = sp S i.toNat x) (sN S) (fun i s hi0 hin hRs ih => ?_) (fun s hRs => ?_) 0 _ (by omega) hn0 rfl
  · have w := hv.2.2.2.2.2 i hi0 hin
    have ht := tI_b hv hi0
    have next : (i + 1).toNat = i.toNat + 1 := by omega
    have ei : ((i.toNat : Nat) : Int) = i := by omega
    have stp : sp S (i.toNat + 1) x = if 0 < sC S i ∧ 10 * tI S i ≤ x then sC S i else sp S i.toNat x := by
      show (if 0 < sC S ((i.toNat : Nat) : Int) ∧ 10 * tp S i.toNat ≤ x then sC S ((i.toNat : Nat) : Int) else sp S i.toNat x) = _
      rw [ei]
      rfl
    rw [g97_9]
    simp (disch := omega) only [g97_0, g97_1, g97_4, g97_5, g97_6, g97_7, g97_8, g97_10, g97_11, g97_14, g97_15, g97_16, g97_19, g97_20, g97_21, g97_25, g97_28, g97_30, g97_31, g97_34, g97_35, g97_36, g97_37, g97_38, g97_41, g97_44, g97_45, g97_46, g97_50, g97_53, g97_54, g97_55, g97_58, g97_61, g97_62, Option.toList_some, Option.toList_none, List.cons_append, List.nil_append, true_and, and_true, true_or, or_true, eq_self, ci0, ci1, cin6, forall_const, not_true_eq_false, not_false_eq_true, fimp, timp, i10, i01, cm_rne, and_assoc, hs, e0, a0, hR.1]
    (repeat' apply And.intro) <;> (try omega) <;> (try (intro hx; exfalso; omega))
    intro _
    refine c97_22 (by decide) hs (q_cu hM' hR hv ⟨hi0, hin⟩ ?_)
    simp (disch := omega) only [g97_0, g97_1, g97_4, g97_5, g97_6, g97_7, g97_8, g97_10, g97_11, g97_14, g97_15, g97_16, g97_19, g97_20, g97_21, g97_25, g97_28, g97_30, g97_31, g97_34, g97_35, g97_36, g97_37, g97_38, g97_41, g97_44, g97_45, g97_46, g97_50, g97_53, g97_54, g97_55, g97_58, g97_61, g97_62, Option.toList_some, Option.toList_none, List.cons_append, List.nil_append, true_and, and_true, true_or, or_true, eq_self, ci0, ci1, cin6, forall_const, not_true_eq_false, not_false_eq_true, fimp, timp, i10, i01, cm_rne, and_assoc, hs, e7, a7, hA i hi0 (by omega), hx]
    (repeat' apply And.intro) <;> (try omega) <;> (try (intro hx; exfalso; omega))
    · intro hle
      exact ih _ (by rw [next, stp, if_neg (fun z => hle z.1)]; exact hRs)
    · intro hgt
      (repeat' apply And.intro) <;> (try omega) <;> (try (intro hx; exfalso; omega))
      · intro h2
        exact ih _ (by rw [next, stp, if_neg (by omega)]; exact hRs)
      · intro h2
        refine c97_47 (by decide) hs (q_cu hM' hR hv ⟨hi0, hin⟩ ?_)
        simp (disch := omega) only [g97_0, g97_1, g97_4, g97_5, g97_6, g97_7, g97_8, g97_10, g97_11, g97_14, g97_15, g97_16, g97_19, g97_20, g97_21, g97_25, g97_28, g97_30, g97_31, g97_34, g97_35, g97_36, g97_37, g97_38, g97_41, g97_44, g97_45, g97_46, g97_50, g97_53, g97_54, g97_55, g97_58, g97_61, g97_62, Option.toList_some, Option.toList_none, List.cons_append, List.nil_append, true_and, and_true, true_or, or_true, eq_self, ci0, ci1, cin6, forall_const, not_true_eq_false, not_false_eq_true, fimp, timp, i10, i01, cm_rne, and_assoc]
        exact ih _ (by rw [next, stp, if_pos ⟨hgt, by omega⟩])
  · rw [g97_9]
    simp (disch := omega) only [g97_0, g97_1, g97_4, g97_5, g97_6, g97_7, g97_8, g97_10, g97_11, g97_14, g97_15, g97_16, g97_19, g97_20, g97_21, g97_25, g97_28, g97_30, g97_31, g97_34, g97_35, g97_36, g97_37, g97_38, g97_41, g97_44, g97_45, g97_46, g97_50, g97_53, g97_54, g97_55, g97_58, g97_61, g97_62, Option.toList_some, Option.toList_none, List.cons_append, List.nil_append, true_and, and_true, true_or, or_true, eq_self, ci0, ci1, cin6, forall_const, not_true_eq_false, not_false_eq_true, fimp, timp, i10, i01, cm_rne, and_assoc, hs, e0, a0, hR.1]
    (repeat' apply And.intro) <;> (try omega) <;> (try (intro hx; exfalso; omega))
    intro _
    rw [hRs]
    exact K
theorem q_isSeen {x : Int} (hM : isM G m) (hR : rM M (m + 1) S) (hv : vS S) (hA : ∀ i, 0 ≤ i → i ≤ sN S → M (m + 6) i = tI S i) (hx : M m 11 = x) (hxb : 0 ≤ x ∧ x ≤ 1000000) (hi : 0 ≤ i ∧ i < sN S) (K1 : 10 * tI S (i + 1) ≤ x ∧ x ≤ 10 * (tI S i + sT S 0) → Q (some (0, 1)) G M) (K0 : ¬ (10 * tI S (i + 1) ≤ x ∧ x ≤ 10 * (tI S i + sT S 0)) → Q (some (0, 0)) G M) : Go 98 0 [some (2, m), some (0, i)] [] G M Q := by
  obtain ⟨h0, hs, ⟨e0, e1, e2, e3, e5, e7, e8, e9, e10, e12, e13⟩, a0, a1, a2, a3, a5, a7, a8, a9, a10, a12, a13⟩ := hM
  have hn := hv.2.1
  have r0 := hR.2.1 0 (by decide) (by decide)
  have ht := tI_b hv hi.1
  have ht2 := tI_b hv (i := i + 1) (by omega)
  have hscr := hv.2.2.1
  simp (disch := omega) only [g98_0, g98_1, g98_4, g98_6, g98_7, g98_10, g98_11, g98_12, g98_13, g98_14, g98_15, g98_18, g98_19, g98_22, g98_24, g98_25, g98_28, g98_29, g98_30, g98_31, g98_34, g98_35, g98_36, g98_37, g98_38, g98_41, g98_42, g98_45, g98_46, Option.toList_some, Option.toList_none, List.cons_append, List.nil_append, true_and, and_true, true_or, or_true, eq_self, ci0, ci1, cin6, forall_const, not_true_eq_false, not_false_eq_true, fimp, timp, i10, i01, cm_rne, and_assoc, hs, e0, a0, e7, a7, r0, hA i hi.1 (by omega), hA (i + 1) (by omega) (by omega), hx]
  (repeat' apply And.intro) <;> (try omega) <;> (try (intro hx; exfalso; omega))
  · intro h; exact K0 (by omega)
  · intro h
    (repeat' apply And.intro) <;> (try omega) <;> (try (intro hx; exfalso; omega))
    · intro h2; exact K0 (by omega)
    · intro h2; exact K1 (by omega)
theorem seen_iff (hv : vS S) (n : Nat) : seen S n i ↔ 10 * tI S (i + 1) ≤ pos S (sN S).toNat n ∧ pos S (sN S).toNat n ≤ 10 * (tI S i + sT S 0) := by
  have h1 := tau_iff hv (10 * tI S (i + 1)) n
  have h2 := tau_iff hv (10 * (tI S i + sT S 0) + 1) n
  unfold seen eI fI
  omega
/-! at the time t: for how many ticks so far, since when, until when -/
noncomputable def tkT (S : sS) (i t : Int) : Int := if t < fI S i then 0 else if t < fI S i + eI S i then t - fI S i + 1 else eI S i
noncomputable def ftT (S : sS) (i t : Int) : Int := if t < fI S i ∨ eI S i = 0 then -6 else fI S i
noncomputable def ltT (S : sS) (i t : Int) : Int := if t < fI S i ∨ eI S i = 0 then -6 else if t < fI S i + eI S i then t else fI S i + eI S i - 1
theorem tk0 (h : eI S i = 0) (t : Int) : tkT S i t = 0 := by
  unfold tkT
  by_cases h1 : t < fI S i
  · rw [if_pos h1]
  · rw [if_neg h1, if_neg (by omega)]; exact h
/-- what run leaves -/
def ran (M : cm_M) (m : Int) (S : sS) : Prop := (∀ i, 0 ≤ i → i ≤ sN S → M (m + 6) i = tI S i) ∧ ∀ i, 0 ≤ i → i < sN S → M (m + 7) i = eI S i ∧ M (m + 8) i = (if eI S i = 0 then -6 else fI S i) ∧ M (m + 9) i = (if eI S i = 0 then -6 else fI S i + eI S i - 1)
theorem q_run (hM : isM G m) (hR : rM M (m + 1) S) (hv : vS S) (K : ∀ M', ran M' m S → frB M M' m → Q (some (0, aI S)) G M') : Go 99 0 [some (2, m), none, none, none] [] G M Q := by
  have hM' := hM
  obtain ⟨h0, hs, ⟨e0, e1, e2, e3, e5, e7, e8, e9, e10, e12, e13⟩, a0, a1, a2, a3, a5, a7, a8, a9, a10, a12, a13⟩ := hM
  have hn := hv.2.1
  have hn0 := hv.1
  have hscr := hv.2.2.1
  have htn := tI_b hv hn0
  have hab := aI_b hv
  have hkn : (((sN S).toNat : Nat) : Int) ≤ sN S := by omega
  simp (disch := omega) only [g99_0, g99_4, g99_5, g99_8, g99_9, g99_10, g99_13, g99_14, g99_17, g99_19, g99_20, g99_23, g99_24, g99_27, g99_28, g99_29, g99_30, g99_31, g99_34, g99_35, g99_36, g99_37, g99_38, g99_39, g99_40, g99_42, g99_45, g99_46, g99_49, g99_50, g99_50b, g99_51, g99_54, g99_58, g99_59, g99_62, g99_65, g99_66, g99_68, g99_69, g99_72, g99_73, g99_74, g99_77, g99_78, g99_82, g99_85, g99_86, g99_89, g99_90, g99_91, g99_92, g99_93, g99_94, g99_95, g99_96, g99_99, g99_100, g99_101, g99_104, g99_105, g99_106, g99_108, g99_111, g99_112, g99_115, g99_116, g99_119, g99_120, g99_121, g99_122, g99_123, g99_126, g99_127, g99_128, g99_129, g99_132, g99_135, g99_138, g99_139, Option.toList_some, Option.toList_none, List.cons_append, List.nil_append, true_and, and_true, true_or, or_true, eq_self, ci0, ci1, cin6, forall_const, not_true_eq_false, not_false_eq_true, fimp, timp, i10, i01, cm_rne, and_assoc]
  refine c99_1 (by decide) hs (q_begin hM' hR hv (fun M1 p1 p2 p3 pf => ?_))
  have hR1 : rM M1 (m + 1) S := rM_fr hR (pf.1 _ (by omega) (by omega))
  have r0 := hR1.2.1 0 (by decide) (by decide)
  -- the loop, once the end is known
  have loop : ∀ E : Int, (∀ t : Nat, (t : Int) < aI S → pos S (sN S).toNat t < E) → (E ≤ pos S (sN S).toNat (aI S).toNat) → (-1000000 ≤ E ∧ E ≤ 1000000) → ∀ x3 : Option cm_V, Go 99 41 [some (2, m), some (0, E), some (0, 0), x3] [] G M1 Q := by
    intro E hE1 hE2 hEb x3
    refine go_loop (σ := Option cm_V × cm_M) (fun t s => [some (2, m), some (0, E), some (0, t), s.1]) (fun s => s.2) (fun t s => s.2 m 11 = pos S (sN S).toNat t.toNat ∧ (∀ i, 0 ≤ i → i < sN S → s.2 (m + 7) i = tkT S i t ∧ s.2 (m + 8) i = ftT S i t ∧ s.2 (m + 9) i = ltT S i t) ∧ (∀ i, 0 ≤ i → i ≤ sN S → s.2 (m + 6) i = tI S i) ∧ frB M s.2 m) (aI S) (fun t s ht0 hta hRs ih => ?_) (fun s hRs => ?_) 0 (x3, M1) (by omega) hab.1 ⟨p3, fun i a b => ?_, p1, pf⟩
    · obtain ⟨x3, s⟩ := s
      obtain ⟨q1, q2, q3, qf⟩ := hRs
      simp only at q1 q2 q3 qf ⊢
      have hpb := pos_b hv hkn t.toNat
      have hpb2 := pos_b hv hkn (t.toNat + 1)
      have hlt := hE1 t.toNat (by omega)
      have hRs1 : rM s (m + 1) S := rM_fr hR (qf.1 _ (by omega) (by omega))
      have et : ((t.toNat : Nat) : Int) = t := by omega
      have next : (t + 1).toNat = t.toNat + 1 := by omega
      rw [g99_41]
      simp (disch := omega) only [g99_0, g99_4, g99_5, g99_8, g99_9, g99_10, g99_13, g99_14, g99_17, g99_19, g99_20, g99_23, g99_24, g99_27, g99_28, g99_29, g99_30, g99_31, g99_34, g99_35, g99_36, g99_37, g99_38, g99_39, g99_40, g99_42, g99_45, g99_46, g99_49, g99_50, g99_50b, g99_51, g99_54, g99_58, g99_59, g99_62, g99_65, g99_66, g99_68, g99_69, g99_72, g99_73, g99_74, g99_77, g99_78, g99_82, g99_85, g99_86, g99_89, g99_90, g99_91, g99_92, g99_93, g99_94, g99_95, g99_96, g99_99, g99_100, g99_101, g99_104, g99_105, g99_106, g99_108, g99_111, g99_112, g99_115, g99_116, g99_119, g99_120, g99_121, g99_122, g99_123, g99_126, g99_127, g99_128, g99_129, g99_132, g99_135, g99_138, g99_139, Option.toList_some, Option.toList_none, List.cons_append, List.nil_append, true_and, and_true, true_or, or_true, eq_self, ci0, ci1, cin6, forall_const, not_true_eq_false, not_false_eq_true, fimp, timp, i10, i01, cm_rne, and_assoc, hs, q1]
      (repeat' apply And.intro) <;> (try omega) <;> (try (intro hx; exfalso; omega))
      intro _
      refine c99_55 (Nat.le_of_ble_eq_true rfl) hs (q_speedNow hM' hRs1 hv q3 q1 (by omega) ?_)
      simp (disch := omega) only [g99_0, g99_4, g99_5, g99_8, g99_9, g99_10, g99_13, g99_14, g99_17, g99_19, g99_20, g99_23, g99_24, g99_27, g99_28, g99_29, g99_30, g99_31, g99_34, g99_35, g99_36, g99_37, g99_38, g99_39, g99_40, g99_42, g99_45, g99_46, g99_49, g99_50, g99_50b, g99_51, g99_54, g99_58, g99_59, g99_62, g99_65, g99_66, g99_68, g99_69, g99_72, g99_73, g99_74, g99_77, g99_78, g99_82, g99_85, g99_86, g99_89, g99_90, g99_91, g99_92, g99_93, g99_94, g99_95, g99_96, g99_99, g99_100, g99_101, g99_104, g99_105, g99_106, g99_108, g99_111, g99_112, g99_115, g99_116, g99_119, g99_120, g99_121, g99_122, g99_123, g99_126, g99_127, g99_128, g99_129, g99_132, g99_135, g99_138, g99_139, Option.toList_some, Option.toList_none, List.cons_append, List.nil_append, true_and, and_true, true_or, or_true, eq_self, ci0, ci1, cin6, forall_const, not_true_eq_false, not_false_eq_true, fimp, timp, i10, i01, cm_rne, and_assoc, hs]
      rw [← pos_s]
      -- the lines, one after the other
      have inner := go_loop (μ := 99) (h := 67) (G := G) (Q := Q) (σ := cm_M) (fun i _ => [some (2, m), some (0, E), some (0, t + 1), some (0, i)]) (fun s => s) (fun i s => s m 11 = pos S (sN S).toNat (t.toNat + 1) ∧ (∀ j, 0 ≤ j → j < i → s (m + 7) j = tkT S j (t + 1) ∧ s (m + 8) j = ftT S j (t + 1) ∧ s (m + 9) j = ltT S j (t + 1)) ∧ (∀ j, i ≤ j → j < sN S → s (m + 7) j = tkT S j t ∧ s (m + 8) j = ftT S j t ∧ s (m + 9) j = ltT S j t) ∧ (∀ i, 0 ≤ i → i ≤ sN S → s (m + 6) i = tI S i) ∧ frB M s m) (sN S) (fun i s hi0 hin hRi ihi => ?_) (fun s hRi => ?_) 0 (cm_up s m 11 (pos S (sN S).toNat (t.toNat + 1))) (by omega) hn0 ⟨cm_up_s _ _ _ _, fun j a b => absurd a (by omega), fun j a b => by simp (disch := omega) only [cm_rne]; exact q2 j a b, fun i a b => by rw [cm_rne (by omega)]; exact q3 i a b, qf.tr ⟨fun k a b => cm_rne a, fun j a => cm_up_n _ (Or.inr a)⟩⟩
      · exact inner
      · obtain ⟨u1, u2, u3, u4, uf⟩ := hRi
        have hRi1 : rM s (m + 1) S := rM_fr hR (uf.1 _ (by omega) (by omega))
        have hb1 := fI_b hv ⟨hi0, hin⟩
        have hb2 := eI_b hv ⟨hi0, hin⟩
        have hsn := seen_iff (i := i) hv (t.toNat + 1)
        unfold seen at hsn
        obtain ⟨w1, w2, w3⟩ := u3 i (by omega) hin
        rw [g99_67]
        simp (disch := omega) only [g99_0, g99_4, g99_5, g99_8, g99_9, g99_10, g99_13, g99_14, g99_17, g99_19, g99_20, g99_23, g99_24, g99_27, g99_28, g99_29, g99_30, g99_31, g99_34, g99_35, g99_36, g99_37, g99_38, g99_39, g99_40, g99_42, g99_45, g99_46, g99_49, g99_50, g99_50b, g99_51, g99_54, g99_58, g99_59, g99_62, g99_65, g99_66, g99_68, g99_69, g99_72, g99_73, g99_74, g99_77, g99_78, g99_82, g99_85, g99_86, g99_89, g99_90, g99_91, g99_92, g99_93, g99_94, g99_95, g99_96, g99_99, g99_100, g99_101, g99_104, g99_105, g99_106, g99_108, g99_111, g99_112, g99_115, g99_116, g99_119, g99_120, g99_121, g99_122, g99_123, g99_126, g99_127, g99_128, g99_129, g99_132, g99_135, g99_138, g99_139, Option.toList_some, Option.toList_none, List.cons_append, List.nil_append, true_and, and_true, true_or, or_true, eq_self, ci0, ci1, cin6, forall_const, not_true_eq_false, not_false_eq_true, fimp, timp, i10, i01, cm_rne, and_assoc, hs, e0, a0, hRi1.1]
        (repeat' apply And.intro) <;> (try omega) <;> (try (intro hx; exfalso; omega))
        intro _
        refine c99_79 (by decide) hs (q_isSeen hM' hRi1 hv u4 u1 (by omega) ⟨hi0, hin⟩ (fun hz => ?_) (fun hz => ?_))
        · -- it is seen
          have hz2 : fI S i ≤ t + 1 ∧ t + 1 < fI S i + eI S i := by have := hsn.mpr hz; omega
          have g1 : tkT S i t + 1 = tkT S i (t + 1) := by
            unfold tkT
            by_cases hc : t < fI S i
            · rw [if_pos hc, if_neg (by omega), if_pos (by omega)]; omega
            · rw [if_neg hc, if_pos (by omega), if_neg (by omega), if_pos (by omega)]; omega
          have g3 : ltT S i (t + 1) = t + 1 := by
            unfold ltT
            rw [if_neg (by omega), if_pos (by omega)]
          have fin : ∀ x : Int, x = ftT S i (t + 1) → Go 99 67 [some (2, m), some (0, E), some (0, t + 1), some (0, i + 1)] [] G (cm_up (cm_up (cm_up s (m + 7) i (tkT S i t + 1)) (m + 8) i x) (m + 9) i (t + 1)) Q := by
            intro x hx
            refine ihi _ ⟨by simp (disch := omega) only [cm_rne]; exact u1, fun j a b => ?_, fun j a b => ?_, fun j a b => by simp (disch := omega) only [cm_rne]; exact u4 j a b, uf.tr ⟨fun k a b => by simp (disch := omega) only [cm_rne], fun j a => by simp (disch := omega) only [cm_rne]⟩⟩
            · simp (disch := omega) only [cm_rne, cm_req]
              by_cases hj : j = i
              · rw [if_pos hj, if_pos hj, if_pos hj, hj, g1, hx, g3]
                exact ⟨rfl, rfl, rfl⟩
              · rw [if_neg hj, if_neg hj, if_neg hj]
                exact u2 j a (by omega)
            · simp (disch := omega) only [cm_rne, cm_req]
              rw [if_neg (by omega), if_neg (by omega), if_neg (by omega)]
              exact u3 j (by omega) b
          have hft : cm_in (ftT S i t) ∧ (ftT S i t = -6 → t + 1 = ftT S i (t + 1)) ∧ (¬ ftT S i t = -6 → ftT S i t = ftT S i (t + 1)) := by
            unfold ftT
            by_cases hc : t < fI S i
            · rw [if_pos (Or.inl hc), if_neg (by omega)]
              refine ⟨cn6, fun _ => by omega, fun z => absurd rfl z⟩
            · rw [if_neg (by omega), if_neg (by omega)]
              refine ⟨by constructor <;> omega, fun z => by omega, fun _ => rfl⟩
          simp (disch := omega) only [g99_0, g99_4, g99_5, g99_8, g99_9, g99_10, g99_13, g99_14, g99_17, g99_19, g99_20, g99_23, g99_24, g99_27, g99_28, g99_29, g99_30, g99_31, g99_34, g99_35, g99_36, g99_37, g99_38, g99_39, g99_40, g99_42, g99_45, g99_46, g99_49, g99_50, g99_50b, g99_51, g99_54, g99_58, g99_59, g99_62, g99_65, g99_66, g99_68, g99_69, g99_72, g99_73, g99_74, g99_77, g99_78, g99_82, g99_85, g99_86, g99_89, g99_90, g99_91, g99_92, g99_93, g99_94, g99_95, g99_96, g99_99, g99_100, g99_101, g99_104, g99_105, g99_106, g99_108, g99_111, g99_112, g99_115, g99_116, g99_119, g99_120, g99_121, g99_122, g99_123, g99_126, g99_127, g99_128, g99_129, g99_132, g99_135, g99_138, g99_139, Option.toList_some, Option.toList_none, List.cons_append, List.nil_append, true_and, and_true, true_or, or_true, eq_self, ci0, ci1, cin6, forall_const, not_true_eq_false, not_false_eq_true, fimp, timp, i10, i01, cm_rne, and_assoc, hs, e8, e9, e10, a8, a9, a10, w1, w2]
          (repeat' apply And.intro) <;> (try omega) <;> (try (intro hx; exfalso; omega))
          · intro hz6
            (repeat' apply And.intro) <;> (try omega) <;> (try (intro hx; exfalso; omega))
            exact fin _ (hft.2.2 hz6)
          · intro hz6
            (repeat' apply And.intro) <;> (try omega) <;> (try (intro hx; exfalso; omega))
            exact fin _ (hft.2.1 hz6)
        · -- it is not
          have hz2 : ¬ (fI S i ≤ t + 1 ∧ t + 1 < fI S i + eI S i) := fun y => hz (hsn.mp (by omega))
          simp (disch := omega) only [g99_0, g99_4, g99_5, g99_8, g99_9, g99_10, g99_13, g99_14, g99_17, g99_19, g99_20, g99_23, g99_24, g99_27, g99_28, g99_29, g99_30, g99_31, g99_34, g99_35, g99_36, g99_37, g99_38, g99_39, g99_40, g99_42, g99_45, g99_46, g99_49, g99_50, g99_50b, g99_51, g99_54, g99_58, g99_59, g99_62, g99_65, g99_66, g99_68, g99_69, g99_72, g99_73, g99_74, g99_77, g99_78, g99_82, g99_85, g99_86, g99_89, g99_90, g99_91, g99_92, g99_93, g99_94, g99_95, g99_96, g99_99, g99_100, g99_101, g99_104, g99_105, g99_106, g99_108, g99_111, g99_112, g99_115, g99_116, g99_119, g99_120, g99_121, g99_122, g99_123, g99_126, g99_127, g99_128, g99_129, g99_132, g99_135, g99_138, g99_139, Option.toList_some, Option.toList_none, List.cons_append, List.nil_append, true_and, and_true, true_or, or_true, eq_self, ci0, ci1, cin6, forall_const, not_true_eq_false, not_false_eq_true, fimp, timp, i10, i01, cm_rne, and_assoc]
          refine ihi _ ⟨u1, fun j a b => ?_, fun j a b => u3 j (by omega) b, u4, uf⟩
          by_cases hj : j = i
          · rw [hj, w1, w2, w3]
            by_cases hc0 : eI S i = 0
            · rw [tk0 hc0, tk0 hc0]
              unfold ftT ltT
              rw [if_pos (Or.inr hc0), if_pos (Or.inr hc0), if_pos (Or.inr hc0), if_pos (Or.inr hc0)]
              exact ⟨rfl, rfl, rfl⟩
            unfold tkT ftT ltT
            by_cases hc : t + 1 < fI S i
            · rw [if_pos (by omega), if_pos (by omega), if_pos (Or.inl (by omega)), if_pos (Or.inl (by omega)), if_pos (Or.inl (by omega)), if_pos (Or.inl (by omega))]
              exact ⟨rfl, rfl, rfl⟩
            · refine ⟨by omega, by omega, by omega⟩
          · exact u2 j a (by omega)
      · obtain ⟨u1, u2, u3, u4, uf⟩ := hRi
        have hRi1 : rM s (m + 1) S := rM_fr hR (uf.1 _ (by omega) (by omega))
        rw [g99_67]
        simp (disch := omega) only [g99_0, g99_4, g99_5, g99_8, g99_9, g99_10, g99_13, g99_14, g99_17, g99_19, g99_20, g99_23, g99_24, g99_27, g99_28, g99_29, g99_30, g99_31, g99_34, g99_35, g99_36, g99_37, g99_38, g99_39, g99_40, g99_42, g99_45, g99_46, g99_49, g99_50, g99_50b, g99_51, g99_54, g99_58, g99_59, g99_62, g99_65, g99_66, g99_68, g99_69, g99_72, g99_73, g99_74, g99_77, g99_78, g99_82, g99_85, g99_86, g99_89, g99_90, g99_91, g99_92, g99_93, g99_94, g99_95, g99_96, g99_99, g99_100, g99_101, g99_104, g99_105, g99_106, g99_108, g99_111, g99_112, g99_115, g99_116, g99_119, g99_120, g99_121, g99_122, g99_123, g99_126, g99_127, g99_128, g99_129, g99_132, g99_135, g99_138, g99_139, Option.toList_some, Option.toList_none, List.cons_append, List.nil_append, true_and, and_true, true_or, or_true, eq_self, ci0, ci1, cin6, forall_const, not_true_eq_false, not_false_eq_true, fimp, timp, i10, i01, cm_rne, and_assoc, hs, e0, a0, hRi1.1]
        (repeat' apply And.intro) <;> (try omega) <;> (try (intro hx; exfalso; omega))
        intro _
        exact ih (some (0, sN S), s) ⟨by rw [next]; exact u1, u2, u4, uf⟩
    · obtain ⟨x3, s⟩ := s
      obtain ⟨q1, q2, q3, qf⟩ := hRs
      simp only at q1 q2 q3 qf ⊢
      have hpb := pos_b hv hkn (aI S).toNat
      rw [g99_41]
      simp (disch := omega) only [g99_0, g99_4, g99_5, g99_8, g99_9, g99_10, g99_13, g99_14, g99_17, g99_19, g99_20, g99_23, g99_24, g99_27, g99_28, g99_29, g99_30, g99_31, g99_34, g99_35, g99_36, g99_37, g99_38, g99_39, g99_40, g99_42, g99_45, g99_46, g99_49, g99_50, g99_50b, g99_51, g99_54, g99_58, g99_59, g99_62, g99_65, g99_66, g99_68, g99_69, g99_72, g99_73, g99_74, g99_77, g99_78, g99_82, g99_85, g99_86, g99_89, g99_90, g99_91, g99_92, g99_93, g99_94, g99_95, g99_96, g99_99, g99_100, g99_101, g99_104, g99_105, g99_106, g99_108, g99_111, g99_112, g99_115, g99_116, g99_119, g99_120, g99_121, g99_122, g99_123, g99_126, g99_127, g99_128, g99_129, g99_132, g99_135, g99_138, g99_139, Option.toList_some, Option.toList_none, List.cons_append, List.nil_append, true_and, and_true, true_or, or_true, eq_self, ci0, ci1, cin6, forall_const, not_true_eq_false, not_false_eq_true, fimp, timp, i10, i01, cm_rne, and_assoc, hs, q1]
      (repeat' apply And.intro) <;> (try omega) <;> (try (intro hx; exfalso; omega))
      intro _
      refine K s ⟨q3, fun i a b => ?_⟩ qf
      obtain ⟨w1, w2, w3⟩ := q2 i a b
      rw [w1, w2, w3]
      have hb1 := fI_b hv ⟨a, b⟩
      have hb2 := eI_b hv ⟨a, b⟩
      have hz : fI S i + eI S i ≤ aI S := by
        have ht1 := tI_m hv a (show i ≤ sN S by omega)
        have := tau_m hv (g := 10 * (tI S i + sT S 0) + 1) (h := 10 * (tI S (sN S) + sT S 0)) (by omega)
        unfold aI eI
        rw [if_neg (by omega)]
        omega
      by_cases hc0 : eI S i = 0
      · rw [tk0 hc0]
        unfold ftT ltT
        rw [if_pos (Or.inr hc0), if_pos (Or.inr hc0), if_pos hc0, if_pos hc0]
        exact ⟨hc0.symm, rfl, rfl⟩
      · unfold tkT ftT ltT
        refine ⟨by omega, by omega, by omega⟩
    · have hb1 := fI_b hv ⟨a, b⟩
      obtain ⟨w1, w2, w3⟩ := p2 i a b
      show M1 (m + 7) i = _ ∧ M1 (m + 8) i = _ ∧ M1 (m + 9) i = _
      rw [w1, w2, w3]
      unfold tkT ftT ltT
      rw [if_pos (by omega), if_pos (Or.inl (by omega)), if_pos (Or.inl (by omega))]
      exact ⟨rfl, rfl, rfl⟩
  simp (disch := omega) only [g99_0, g99_4, g99_5, g99_8, g99_9, g99_10, g99_13, g99_14, g99_17, g99_19, g99_20, g99_23, g99_24, g99_27, g99_28, g99_29, g99_30, g99_31, g99_34, g99_35, g99_36, g99_37, g99_38, g99_39, g99_40, g99_42, g99_45, g99_46, g99_49, g99_50, g99_50b, g99_51, g99_54, g99_58, g99_59, g99_62, g99_65, g99_66, g99_68, g99_69, g99_72, g99_73, g99_74, g99_77, g99_78, g99_82, g99_85, g99_86, g99_89, g99_90, g99_91, g99_92, g99_93, g99_94, g99_95, g99_96, g99_99, g99_100, g99_101, g99_104, g99_105, g99_106, g99_108, g99_111, g99_112, g99_115, g99_116, g99_119, g99_120, g99_121, g99_122, g99_123, g99_126, g99_127, g99_128, g99_129, g99_132, g99_135, g99_138, g99_139, Option.toList_some, Option.toList_none, List.cons_append, List.nil_append, true_and, and_true, true_or, or_true, eq_self, ci0, ci1, cin6, forall_const, not_true_eq_false, not_false_eq_true, fimp, timp, i10, i01, cm_rne, and_assoc, hs, e0, a0, hR1.1]
  (repeat' apply And.intro) <;> (try omega) <;> (try (intro hx; exfalso; omega))
  · intro hne
    simp (disch := omega) only [g99_0, g99_4, g99_5, g99_8, g99_9, g99_10, g99_13, g99_14, g99_17, g99_19, g99_20, g99_23, g99_24, g99_27, g99_28, g99_29, g99_30, g99_31, g99_34, g99_35, g99_36, g99_37, g99_38, g99_39, g99_40, g99_42, g99_45, g99_46, g99_49, g99_50, g99_50b, g99_51, g99_54, g99_58, g99_59, g99_62, g99_65, g99_66, g99_68, g99_69, g99_72, g99_73, g99_74, g99_77, g99_78, g99_82, g99_85, g99_86, g99_89, g99_90, g99_91, g99_92, g99_93, g99_94, g99_95, g99_96, g99_99, g99_100, g99_101, g99_104, g99_105, g99_106, g99_108, g99_111, g99_112, g99_115, g99_116, g99_119, g99_120, g99_121, g99_122, g99_123, g99_126, g99_127, g99_128, g99_129, g99_132, g99_135, g99_138, g99_139, Option.toList_some, Option.toList_none, List.cons_append, List.nil_append, true_and, and_true, true_or, or_true, eq_self, ci0, ci1, cin6, forall_const, not_true_eq_false, not_false_eq_true, fimp, timp, i10, i01, cm_rne, and_assoc, hs, e0, a0, hR1.1, e7, a7, p1 (sN S) hn0 (by omega), r0]
    (repeat' apply And.intro) <;> (try omega) <;> (try (intro hx; exfalso; omega))
    have ha : aI S = tau S (10 * (tI S (sN S) + sT S 0)) := by unfold aI; rw [if_neg hne]
    refine loop _ (fun t ht => ?_) ?_ (by omega) _
    · have := tau_iff hv (10 * (tI S (sN S) + sT S 0)) t
      omega
    · have := tau_iff hv (10 * (tI S (sN S) + sT S 0)) (aI S).toNat
      omega
  · intro he
    have ha : aI S = 0 := by unfold aI; rw [if_pos he]
    refine loop 0 (fun t ht => by omega) ?_ (by omega) _
    rw [ha]
    show (0 : Int) ≤ 0
    omega
end MODEL
