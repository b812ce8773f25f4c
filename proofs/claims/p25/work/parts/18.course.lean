/-! ===== Course ===== -/
def isK (G : cm_G) (d c : Int) : Prop := 0 ≤ d ∧ cm_sh G d = some (0, 0) ∧ (G.2 d 0 = c ∧ G.2 d 1 = d + 7 ∧ G.2 d 2 = d + 8 ∧ G.2 d 3 = d + 9 ∧ G.2 d 5 = d + 10 ∧ G.2 d 6 = d + 11 ∧ G.2 d 7 = d + 12) ∧
  ((∀ M, cm_al 1 G M (d + 7) = 40) ∧ (∀ M, cm_al 1 G M (d + 8) = 40) ∧ (∀ M, cm_al 1 G M (d + 9) = 40) ∧ (∀ M, cm_al 1 G M (d + 10) = 41) ∧ (∀ M, cm_al 1 G M (d + 11) = 41) ∧ (∀ M, cm_al 1 G M (d + 12) = 41)) ∧ isC G c ∧ c = d + 1
def stM (M : cm_M) (d : Int) (S : sS) (k : Nat) : Prop := stR S k (M d 8) (M (d + 10)) (M (d + 11)) (M (d + 12))
theorem stM_b {M : cm_M} {d : Int} {S : sS} {k : Nat} (hv : vS S) (hk : (k : Int) ≤ sN S) (h : stM M d S k) {j : Int} (hj : 0 ≤ j ∧ j < M d 8) : (0 ≤ M (d + 11) j ∧ M (d + 11) j ≤ 48000) ∧ (0 ≤ M (d + 10) j ∧ M (d + 10) j ≤ 1600) ∧ 1 ≤ M (d + 12) j ∧ M (d + 12) j ≤ 30 := by
  obtain ⟨b1, b2, b3⟩ := h.2.2.1 j hj.1 hj.2
  have := pos_b hv hk (M (d + 10) j).toNat
  omega
theorem rC.of {M M' : cm_M} {c : Int} {S : sS} (h : rC M c S) (f : ∀ k, c ≤ k → k ≤ c + 5 → M' k = M k) : rC M' c S := by
  obtain ⟨r1, r2, r3⟩ := h
  refine ⟨by rw [f c (by omega) (by omega)]; exact r1, fun j a b => by rw [f (c + 1) (by omega) (by omega)]; exact r2 j a b, fun i a b => ?_⟩
  rw [f (c + 2) (by omega) (by omega), f (c + 3) (by omega) (by omega), f (c + 4) (by omega) (by omega), f (c + 5) (by omega) (by omega)]
  exact r3 i a b
section COURSE
variable {G : cm_G} {M : cm_M} {d c i j h v : Int} {S : sS} {Q : Option cm_V → cm_G → cm_M → Prop} {k : Nat}
theorem p_ticksIn (hK : isK G d c) (hj : 0 ≤ j ∧ j < 41) (hh : -100000 ≤ h ∧ h ≤ 100000) (hH : 0 ≤ M (d + 11) j ∧ M (d + 11) j ≤ 48000) (hV : 1 ≤ M (d + 12) j ∧ M (d + 12) j ≤ 30) (K : ∀ r, isTk (h - M (d + 11) j) (M (d + 12) j) r → Q (some (0, r)) G M) : Go 9 0 [some (2, d), some (0, j), some (0, h), none, none] [] G M Q := by
  obtain ⟨h0, hs, ⟨e0, e1, e2, e3, e5, e6, e7⟩, ⟨a1, a2, a3, a4, a5, a6⟩, hC, hd⟩ := hK
  simp (disch := omega) only [g9_0, g9_1, g9_2, g9_5, g9_6, g9_7, g9_8, g9_9, g9_10, g9_13, g9_14, g9_15, g9_17, g9_18, g9_21, g9_23, g9_26, g9_27, g9_30, g9_31, g9_33, g9_34, g9_35, g9_36, g9_38, g9_39, Option.toList_some, Option.toList_none, List.cons_append, List.nil_append, true_and, and_true, true_or, or_true, eq_self, ci0, ci1, cin6, forall_const, not_true_eq_false, not_false_eq_true, fimp, timp, i10, i01, cm_rne, and_assoc, hs, e6, e7, a5, a6]
  (repeat' apply And.intro) <;> (try omega) <;> (try (intro hx; exfalso; omega))
  · intro hle
    exact K 0 (Or.inl ⟨by omega, rfl⟩)
  · intro hgt
    (repeat' apply And.intro) <;> (try omega) <;> (try (intro hx; exfalso; omega))
    intro _
    (repeat' apply And.intro) <;> (try omega) <;> (try (intro hx; exfalso; omega))
    exact K _ (isTk_div (by omega) (by omega))
theorem p_begin {t s : Int} (hK : isK G d c) (hs8 : M d 8 = s) (hsb : 0 ≤ s ∧ s ≤ 40) (K : Q none G (cm_up (cm_up (cm_up (cm_up M (d + 10) s t) (d + 11) s h) (d + 12) s v) d 8 (s + 1))) : Go 5 0 [some (2, d), some (0, t), some (0, h), some (0, v)] [] G M Q := by
  obtain ⟨h0, hs, ⟨e0, e1, e2, e3, e5, e6, e7⟩, ⟨a1, a2, a3, a4, a5, a6⟩, hC, hd⟩ := hK
  simp (disch := omega) only [g5_0, g5_1, g5_4, g5_6, g5_9, g5_10, g5_13, g5_14, g5_17, g5_18, g5_19, g5_20, g5_23, g5_24, g5_27, g5_28, g5_29, g5_30, g5_33, g5_34, g5_37, g5_38, g5_39, g5_40, g5_40b, g5_41, g5_44, g5_45, g5_46, g5_49, Option.toList_some, Option.toList_none, List.cons_append, List.nil_append, true_and, and_true, true_or, or_true, eq_self, ci0, ci1, cin6, forall_const, not_true_eq_false, not_false_eq_true, fimp, timp, i10, i01, cm_rne, and_assoc, hs, e5, e6, e7, a4, a5, a6, hs8]
  (repeat' apply And.intro) <;> (try omega) <;> (try (intro hx; exfalso; omega))
  intro _
  (repeat' apply And.intro) <;> (try omega) <;> (try (intro hx; exfalso; omega))
def frP (M M' : cm_M) (d : Int) : Prop := (∀ k, k ≠ d → k ≠ d + 10 → k ≠ d + 11 → k ≠ d + 12 → M' k = M k) ∧ ∀ j, j ≠ 8 → M' d j = M d j
theorem frP.tr {M1 M2 : cm_M} (h1 : frP M M1 d) (h2 : frP M1 M2 d) : frP M M2 d := ⟨fun k a b x y => (h2.1 k a b x y).trans (h1.1 k a b x y), fun j a => (h2.2 j a).trans (h1.2 j a)⟩
theorem p_changeSpeed (hK : isK G d c) (hv : vS S) (hk : (k : Int) < sN S) (hc : 0 < sC S k) (hst : stM M d S k) (K : ∀ M', stM M' d S (k + 1) → frP M M' d → Q none G M') : Go 4 0 [some (2, d), some (0, 10 * tp S k), some (0, sC S k), none, none] [] G M Q := by
  have hK' := hK
  obtain ⟨h0, hs, ⟨e0, e1, e2, e3, e5, e6, e7⟩, ⟨a1, a2, a3, a4, a5, a6⟩, hC, hd⟩ := hK
  have htp := tp_b hv k
  have hn := hv.2.1
  have hs1 := hst.1
  obtain ⟨b1, b2, b3⟩ := stM_b hv (by omega) hst (j := M d 8 - 1) (by omega)
  simp (disch := omega) only [g4_0, g4_1, g4_4, g4_5, g4_6, g4_7, g4_8, g4_11, g4_12, g4_13, g4_14, g4_18, g4_20, g4_22, g4_25, g4_26, g4_27, g4_30, g4_31, g4_32, g4_34, g4_35, g4_36, g4_39, g4_40, g4_41, g4_43, g4_44, g4_47, g4_48, g4_49, g4_50, g4_51, g4_55, g4_58, g4_59, g4_62, g4_63, g4_64, g4_65, Option.toList_some, Option.toList_none, List.cons_append, List.nil_append, true_and, and_true, true_or, or_true, eq_self, ci0, ci1, cin6, forall_const, not_true_eq_false, not_false_eq_true, fimp, timp, i10, i01, cm_rne, and_assoc, hs, eq_self]
  (repeat' apply And.intro) <;> (try omega) <;> (try (intro hx; exfalso; omega))
  intro _
  refine c4_15 (by decide) hs (p_ticksIn hK' (by omega) (by omega) b1 b3 (fun r hr => ?_))
  have hrb : 0 ≤ r ∧ r ≤ 100000 := by
    rcases hr with ⟨-, z⟩ | ⟨z1, z2, z3, z4⟩
    · omega
    · have : r - 1 ≤ (r - 1) * M (d + 12) (M d 8 - 1) := by
        have := Int.mul_le_mul_of_nonneg_left b3.1 (show 0 ≤ r - 1 by omega)
        omega
      omega
  simp (disch := omega) only [g4_0, g4_1, g4_4, g4_5, g4_6, g4_7, g4_8, g4_11, g4_12, g4_13, g4_14, g4_18, g4_20, g4_22, g4_25, g4_26, g4_27, g4_30, g4_31, g4_32, g4_34, g4_35, g4_36, g4_39, g4_40, g4_41, g4_43, g4_44, g4_47, g4_48, g4_49, g4_50, g4_51, g4_55, g4_58, g4_59, g4_62, g4_63, g4_64, g4_65, Option.toList_some, Option.toList_none, List.cons_append, List.nil_append, true_and, and_true, true_or, or_true, eq_self, ci0, ci1, cin6, forall_const, not_true_eq_false, not_false_eq_true, fimp, timp, i10, i01, cm_rne, and_assoc, hs, e5, e6, e7, a4, a5, a6]
  (repeat' apply And.intro) <;> (try omega) <;> (try (intro hx; exfalso; omega))
  · intro hr0
    have hz : r = 0 := by omega
    (repeat' apply And.intro) <;> (try omega) <;> (try (intro hx; exfalso; omega))
    have hw : 10 * tp S k ≤ M (d + 11) (M d 8 - 1) := by
      rcases hr with ⟨z, -⟩ | ⟨z1, z2, -⟩ <;> omega
    refine K _ ?_ ⟨fun x y1 y2 y3 y4 => by rw [cm_rne y4], fun x y => by rw [cm_rne (by omega)]⟩
    unfold stM
    simp (disch := omega) only [cm_rne, cm_req]
    exact stR_over hv hk hc hst hw (fun x y => by rw [if_neg (by omega)]) (if_pos rfl)
  · intro hr0
    (repeat' apply And.intro) <;> (try omega) <;> (try (intro hx; exfalso; omega))
    refine c4_52 (by decide) hs (p_begin hK' rfl (by omega) ?_)
    simp (disch := omega) only [g4_0, g4_1, g4_4, g4_5, g4_6, g4_7, g4_8, g4_11, g4_12, g4_13, g4_14, g4_18, g4_20, g4_22, g4_25, g4_26, g4_27, g4_30, g4_31, g4_32, g4_34, g4_35, g4_36, g4_39, g4_40, g4_41, g4_43, g4_44, g4_47, g4_48, g4_49, g4_50, g4_51, g4_55, g4_58, g4_59, g4_62, g4_63, g4_64, g4_65, Option.toList_some, Option.toList_none, List.cons_append, List.nil_append, true_and, and_true, true_or, or_true, eq_self, ci0, ci1, cin6, forall_const, not_true_eq_false, not_false_eq_true, fimp, timp, i10, i01, cm_rne, and_assoc]
    refine K _ ?_ ⟨fun x y1 y2 y3 y4 => by simp (disch := omega) only [cm_rne], fun x y => by
      rw [cm_up_n _ (Or.inr y)]
      simp (disch := omega) only [cm_rne]⟩
    unfold stM
    have e8 : cm_up (cm_up (cm_up (cm_up M (d + 10) (M d 8) (M (d + 10) (M d 8 - 1) + r)) (d + 11) (M d 8) (M (d + 11) (M d 8 - 1) + r * M (d + 12) (M d 8 - 1))) (d + 12) (M d 8) (sC S k)) d 8 (M d 8 + 1) d 8 = M d 8 + 1 := cm_up_s _ _ _ _
    rw [e8]
    simp (disch := omega) only [cm_rne, cm_req]
    exact stR_new hv hk hc hst hr (by omega) (fun x y => ⟨if_neg (by omega), if_neg (by omega), if_neg (by omega)⟩) (if_pos rfl) (if_pos rfl) (if_pos rfl)
theorem p_pace (hK : isK G d c) (hv : vS S) (hR : rC M c S) (htop : ∀ i, 0 ≤ i → i < sN S → M (d + 7) i = tI S i) (K : ∀ M', stM M' d S (sN S).toNat → frP M M' d → Q none G M') : Go 3 0 [some (2, d), none] [] G M Q := by
  have hK' := hK
  obtain ⟨h0, hs, ⟨e0, e1, e2, e3, e5, e6, e7⟩, ⟨a1, a2, a3, a4, a5, a6⟩, hC, hd⟩ := hK
  obtain ⟨hc0, hcs, ⟨f0, f1, f2, f3, f4⟩, b1, b2, b3, b4, b5⟩ := hC
  have r2 := hR.2.1 1 (by decide) (by decide)
  simp (disch := omega) only [g3_0, g3_1, g3_2, g3_5, g3_6, g3_7, g3_8, g3_9, g3_12, g3_15, g3_16, g3_20, g3_21, g3_23, g3_24, g3_27, g3_30, g3_33, g3_34, g3_37, g3_40, g3_41, g3_42, g3_45, g3_46, g3_48, g3_49, g3_52, g3_53, g3_54, g3_55, g3_56, g3_59, g3_62, g3_63, g3_67, g3_70, g3_73, Option.toList_some, Option.toList_none, List.cons_append, List.nil_append, true_and, and_true, true_or, or_true, eq_self, ci0, ci1, cin6, forall_const, not_true_eq_false, not_false_eq_true, fimp, timp, i10, i01, cm_rne, and_assoc, hs, e0, hcs, f0, b1, r2]
  (repeat' apply And.intro) <;> (try omega) <;> (try (intro hx; exfalso; omega))
  refine c3_17 (by decide) hs (p_begin hK' (s := 0) (by rw [cm_up_s]) (by omega) ?_)
  simp (disch := omega) only [g3_0, g3_1, g3_2, g3_5, g3_6, g3_7, g3_8, g3_9, g3_12, g3_15, g3_16, g3_20, g3_21, g3_23, g3_24, g3_27, g3_30, g3_33, g3_34, g3_37, g3_40, g3_41, g3_42, g3_45, g3_46, g3_48, g3_49, g3_52, g3_53, g3_54, g3_55, g3_56, g3_59, g3_62, g3_63, g3_67, g3_70, g3_73, Option.toList_some, Option.toList_none, List.cons_append, List.nil_append, true_and, and_true, true_or, or_true, eq_self, ci0, ci1, cin6, forall_const, not_true_eq_false, not_false_eq_true, fimp, timp, i10, i01, cm_rne, and_assoc]
  have keep : ∀ s : cm_M, frP M s d → rC s c S ∧ ∀ i, 0 ≤ i → i < sN S → s (d + 7) i = tI S i := by
    intro s hf
    obtain ⟨r1, r2, r3⟩ := hR
    refine ⟨⟨by rw [hf.1 c (by omega) (by omega) (by omega) (by omega)]; exact r1, fun j x y => by rw [hf.1 (c + 1) (by omega) (by omega) (by omega) (by omega)]; exact r2 j x y, fun j x y => ?_⟩, fun i x y => by rw [hf.1 (d + 7) (by omega) (by omega) (by omega) (by omega)]; exact htop i x y⟩
    rw [hf.1 (c + 2) (by omega) (by omega) (by omega) (by omega), hf.1 (c + 3) (by omega) (by omega) (by omega) (by omega), hf.1 (c + 4) (by omega) (by omega) (by omega) (by omega), hf.1 (c + 5) (by omega) (by omega) (by omega) (by omega)]
    exact r3 j x y
  refine go_loop (σ := cm_M) (fun i _ => [some (2, d), some (0, i)]) (fun s => s) (fun i s => stM s d S i.toNat ∧ frP M s d) (sN S) (fun i s hi0 hin hRs ih => ?_) (fun s hRs => ?_) 0 _ (by omega) hv.1 ⟨?_, ?_⟩
  · obtain ⟨hst, hf⟩ := hRs
    obtain ⟨hR1, ht1⟩ := keep s hf
    obtain ⟨r1, r2, r3⟩ := hR1
    have w := hv.2.2.2.2.2 i hi0 hin
    have hn := hv.2.1
    have u := (r3 i hi0 hin).2.2.2
    have ei : ((i.toNat : Nat) : Int) = i := by omega
    have et : tI S i = tp S i.toNat := rfl
    have next : (i + 1).toNat = i.toNat + 1 := by omega
    rw [g3_22]
    simp (disch := omega) only [g3_0, g3_1, g3_2, g3_5, g3_6, g3_7, g3_8, g3_9, g3_12, g3_15, g3_16, g3_20, g3_21, g3_23, g3_24, g3_27, g3_30, g3_33, g3_34, g3_37, g3_40, g3_41, g3_42, g3_45, g3_46, g3_48, g3_49, g3_52, g3_53, g3_54, g3_55, g3_56, g3_59, g3_62, g3_63, g3_67, g3_70, g3_73, Option.toList_some, Option.toList_none, List.cons_append, List.nil_append, true_and, and_true, true_or, or_true, eq_self, ci0, ci1, cin6, forall_const, not_true_eq_false, not_false_eq_true, fimp, timp, i10, i01, cm_rne, and_assoc, hs, e0, hcs, f4, b5, e1, a1, r1, u, ht1 i hi0 hin]
    (repeat' apply And.intro) <;> (try omega) <;> (try (intro hx; exfalso; omega))
    intro _
    (repeat' apply And.intro) <;> (try omega) <;> (try (intro hx; exfalso; omega))
    · intro hz
      refine ih s ⟨?_, hf⟩
      rw [next]
      exact stR_skip hv (by rw [ei]; omega) hst
    · intro hz
      (repeat' apply And.intro) <;> (try omega) <;> (try (intro hx; exfalso; omega))
      rw [et]
      have hz' : sC S i = sC S ((i.toNat : Nat) : Int) := by rw [ei]
      rw [hz']
      refine c3_64 (by decide) hs (p_changeSpeed hK' hv (by omega) (by rw [ei]; omega) hst (fun M2 h2 hf2 => ?_))
      simp (disch := omega) only [g3_0, g3_1, g3_2, g3_5, g3_6, g3_7, g3_8, g3_9, g3_12, g3_15, g3_16, g3_20, g3_21, g3_23, g3_24, g3_27, g3_30, g3_33, g3_34, g3_37, g3_40, g3_41, g3_42, g3_45, g3_46, g3_48, g3_49, g3_52, g3_53, g3_54, g3_55, g3_56, g3_59, g3_62, g3_63, g3_67, g3_70, g3_73, Option.toList_some, Option.toList_none, List.cons_append, List.nil_append, true_and, and_true, true_or, or_true, eq_self, ci0, ci1, cin6, forall_const, not_true_eq_false, not_false_eq_true, fimp, timp, i10, i01, cm_rne, and_assoc]
      exact ih M2 ⟨by rw [next]; exact h2, hf.tr hf2⟩
  · obtain ⟨hst, hf⟩ := hRs
    have r1 := (keep s hf).1.1
    have hn := hv.2.1
    have hn0 := hv.1
    rw [g3_22]
    simp (disch := omega) only [g3_0, g3_1, g3_2, g3_5, g3_6, g3_7, g3_8, g3_9, g3_12, g3_15, g3_16, g3_20, g3_21, g3_23, g3_24, g3_27, g3_30, g3_33, g3_34, g3_37, g3_40, g3_41, g3_42, g3_45, g3_46, g3_48, g3_49, g3_52, g3_53, g3_54, g3_55, g3_56, g3_59, g3_62, g3_63, g3_67, g3_70, g3_73, Option.toList_some, Option.toList_none, List.cons_append, List.nil_append, true_and, and_true, true_or, or_true, eq_self, ci0, ci1, cin6, forall_const, not_true_eq_false, not_false_eq_true, fimp, timp, i10, i01, cm_rne, and_assoc, hs, e0, hcs, r1]
    (repeat' apply And.intro) <;> (try omega) <;> (try (intro hx; exfalso; omega))
    exact fun _ => K _ hst hf
  · show stR S 0 _ _ _ _
    have e8 : ∀ X : cm_M, cm_up X d 8 (0 + 1) d 8 = 1 := fun X => cm_up_s _ _ _ _
    rw [e8]
    simp (disch := omega) only [cm_rne, cm_req]
    exact stR_0 hv (if_pos rfl) (if_pos rfl) (if_pos rfl)
  · refine ⟨fun x y1 y2 y3 y4 => by simp (disch := omega) only [cm_rne], fun x y => ?_⟩
    rw [cm_up_n _ (Or.inr y)]
    simp (disch := omega) only [cm_rne]
    exact cm_up_n _ (Or.inr y)
/-- laying out writes Course's own row and the tops alone -/
def fL (M M' : cm_M) (d : Int) : Prop := ∀ k, k ≠ d → k ≠ d + 7 → M' k = M k
theorem p_layOut (hK : isK G d c) (hv : vS S) (hR : rC M c S) (K : ∀ M', (∀ i, 0 ≤ i → i < sN S → M' (d + 7) i = tI S i) → M' d 4 = tI S (sN S) → fL M M' d → Q none G M') : Go 2 0 [some (2, d), none] [] G M Q := by
  obtain ⟨h0, hs, ⟨e0, e1, e2, e3, e5, e6, e7⟩, ⟨a1, a2, a3, a4, a5, a6⟩, hC, hd⟩ := hK
  have hcs := hC.2.1
  simp (disch := omega) only [g2_0, g2_1, g2_2, g2_5, g2_6, g2_8, g2_9, g2_12, g2_15, g2_18, g2_19, g2_22, g2_23, g2_24, g2_27, g2_28, g2_29, g2_29b, g2_30, g2_33, g2_34, g2_37, g2_41, g2_42, g2_45, g2_48, g2_51, Option.toList_some, Option.toList_none, List.cons_append, List.nil_append, true_and, and_true, true_or, or_true, eq_self, ci0, ci1, cin6, forall_const, not_true_eq_false, not_false_eq_true, fimp, timp, i10, i01, cm_rne, and_assoc, hs]
  refine go_loop (σ := cm_M) (fun i _ => [some (2, d), some (0, i)]) (fun s => s) (fun i s => (∀ j, 0 ≤ j → j < i → s (d + 7) j = tI S j) ∧ s d 4 = tI S i ∧ fL M s d) (sN S) (fun i s hi0 hin hRs ih => ?_) (fun s hRs => ?_) 0 _ (by omega) hv.1 ⟨fun j a b => absurd a (by omega), cm_up_s _ _ _ _, fun k h1 h2 => cm_rne (by omega)⟩
  · obtain ⟨h1, h2, hf⟩ := hRs
    have hR1 := hR.of (fun k _ _ => hf k (by omega) (by omega))
    have r1 := hR1.1
    have hn := hv.2.1
    rw [g2_7]
    simp (disch := omega) only [g2_0, g2_1, g2_2, g2_5, g2_6, g2_8, g2_9, g2_12, g2_15, g2_18, g2_19, g2_22, g2_23, g2_24, g2_27, g2_28, g2_29, g2_29b, g2_30, g2_33, g2_34, g2_37, g2_41, g2_42, g2_45, g2_48, g2_51, Option.toList_some, Option.toList_none, List.cons_append, List.nil_append, true_and, and_true, true_or, or_true, eq_self, ci0, ci1, cin6, forall_const, not_true_eq_false, not_false_eq_true, fimp, timp, i10, i01, cm_rne, and_assoc, hs, e0, hcs, e1, a1, r1, h2]
    (repeat' apply And.intro) <;> (try omega) <;> (try (intro hx; exfalso; omega))
    intro _
    (repeat' apply And.intro) <;> (try omega) <;> (try (intro hx; exfalso; omega))
    have hR2 : rC (cm_up s (d + 7) i (tI S i)) c S := hR1.fr (lo := d + 7) (hi := d + 7) (fun k hk => cm_rne (by omega)) (by omega)
    refine c2_38 (Nat.le_of_ble_eq_true rfl) hcs (p_heightOf hC hR2 hv (by omega) ?_)
    simp (disch := omega) only [g2_0, g2_1, g2_2, g2_5, g2_6, g2_8, g2_9, g2_12, g2_15, g2_18, g2_19, g2_22, g2_23, g2_24, g2_27, g2_28, g2_29, g2_29b, g2_30, g2_33, g2_34, g2_37, g2_41, g2_42, g2_45, g2_48, g2_51, Option.toList_some, Option.toList_none, List.cons_append, List.nil_append, true_and, and_true, true_or, or_true, eq_self, ci0, ci1, cin6, forall_const, not_true_eq_false, not_false_eq_true, fimp, timp, i10, i01, cm_rne, and_assoc, hs]
    refine ih _ ⟨fun j x y => ?_, ?_, fun k h1 h2 => by rw [cm_rne (by omega), cm_rne (by omega)]; exact hf k h1 h2⟩
    · rw [cm_rne (by omega), cm_req]
      show (if j = i then tI S i else s (d + 7) j) = tI S j
      by_cases hj : j = i
      · rw [if_pos hj, hj]
      · rw [if_neg hj]; exact h1 j x (by omega)
    · rw [cm_up_s, tI_s S hi0]
  · obtain ⟨h1, h2, hf⟩ := hRs
    have r1 := (hR.of (fun k _ _ => hf k (by omega) (by omega))).1
    have hn := hv.2.1
    have hn0 := hv.1
    rw [g2_7]
    simp (disch := omega) only [g2_0, g2_1, g2_2, g2_5, g2_6, g2_8, g2_9, g2_12, g2_15, g2_18, g2_19, g2_22, g2_23, g2_24, g2_27, g2_28, g2_29, g2_29b, g2_30, g2_33, g2_34, g2_37, g2_41, g2_42, g2_45, g2_48, g2_51, Option.toList_some, Option.toList_none, List.cons_append, List.nil_append, true_and, and_true, true_or, or_true, eq_self, ci0, ci1, cin6, forall_const, not_true_eq_false, not_false_eq_true, fimp, timp, i10, i01, cm_rne, and_assoc, hs, e0, hcs, r1]
    (repeat' apply And.intro) <;> (try omega) <;> (try (intro hx; exfalso; omega))
    exact fun _ => K _ h1 h2 hf
theorem p_stretchReaching {e : Int} (hK : isK G d c) (hv : vS S) (hst : stM M d S k) (hk : (k : Int) ≤ sN S) (he : 0 ≤ e ∧ e < M d 8) (hH : M (d + 11) e < h) (hh : -100000 ≤ h ∧ h ≤ 100000) (K : ∀ j, (e ≤ j ∧ j < M d 8) → M (d + 11) j < h → (j + 1 < M d 8 → h ≤ M (d + 11) (j + 1)) → Q (some (0, j)) G M) : Go 7 0 [some (2, d), some (0, h), some (0, e), none, none] [] G M Q := by
  obtain ⟨h0, hs, ⟨e0, e1, e2, e3, e5, e6, e7⟩, ⟨a1, a2, a3, a4, a5, a6⟩, hC, hd⟩ := hK
  have hn := hv.2.1
  have hs1 := hst.1
  simp (disch := omega) only [g7_0, g7_1, g7_2, g7_3, g7_4, g7_5, g7_9, g7_10, g7_13, g7_16, g7_17, g7_20, g7_22, g7_23, g7_24, g7_27, g7_29, g7_30, g7_33, g7_36, g7_37, Option.toList_some, Option.toList_none, List.cons_append, List.nil_append, true_and, and_true, true_or, or_true, eq_self, ci0, ci1, cin6, forall_const, not_true_eq_false, not_false_eq_true, fimp, timp, i10, i01, cm_rne, and_assoc]
  refine go_loop (σ := Unit) (fun i _ => [some (2, d), some (0, h), some (0, e), some (0, i - 1), some (0, i)]) (fun _ => M) (fun i _ => e < i ∧ M (d + 11) (i - 1) < h) (M d 8) (fun i s hi0 hin hRs ih => ?_) (fun s hRs => ?_) (e + 1) () (by omega) (by omega) ⟨by omega, by rw [show e + 1 - 1 = e by omega]; exact hH⟩ |> (fun z => by rwa [show e + 1 - 1 = e by omega] at z)
  · obtain ⟨b1, b2, b3⟩ := stM_b hv hk hst (j := i) ⟨hi0, hin⟩
    rw [g7_7]
    simp (disch := omega) only [g7_0, g7_1, g7_2, g7_3, g7_4, g7_5, g7_9, g7_10, g7_13, g7_16, g7_17, g7_20, g7_22, g7_23, g7_24, g7_27, g7_29, g7_30, g7_33, g7_36, g7_37, Option.toList_some, Option.toList_none, List.cons_append, List.nil_append, true_and, and_true, true_or, or_true, eq_self, ci0, ci1, cin6, forall_const, not_true_eq_false, not_false_eq_true, fimp, timp, i10, i01, cm_rne, and_assoc, hs, e6, a5]
    (repeat' apply And.intro) <;> (try omega) <;> (try (intro hx; exfalso; omega))
    intro _
    (repeat' apply And.intro) <;> (try omega) <;> (try (intro hx; exfalso; omega))
    · intro hz
      exact K (i - 1) (by omega) hRs.2 (fun _ => by rw [show i - 1 + 1 = i by omega]; omega)
    · intro hz
      have := ih () ⟨by omega, by rw [show i + 1 - 1 = i by omega]; exact hz⟩
      rwa [show i + 1 - 1 = i by omega] at this
  · rw [g7_7]
    simp (disch := omega) only [g7_0, g7_1, g7_2, g7_3, g7_4, g7_5, g7_9, g7_10, g7_13, g7_16, g7_17, g7_20, g7_22, g7_23, g7_24, g7_27, g7_29, g7_30, g7_33, g7_36, g7_37, Option.toList_some, Option.toList_none, List.cons_append, List.nil_append, true_and, and_true, true_or, or_true, eq_self, ci0, ci1, cin6, forall_const, not_true_eq_false, not_false_eq_true, fimp, timp, i10, i01, cm_rne, and_assoc, hs]
    (repeat' apply And.intro) <;> (try omega) <;> (try (intro hx; exfalso; omega))
    exact fun _ => K _ (by omega) hRs.2 (fun z => absurd z (by omega))
theorem p_timeIn (hK : isK G d c) (hv : vS S) (hst : stM M d S (sN S).toNat) (hj : 0 ≤ j ∧ j < M d 8) (h1 : M (d + 11) j < h) (h2 : j + 1 < M d 8 → h ≤ M (d + 11) (j + 1)) (hh : -100000 ≤ h ∧ h ≤ 100000) (K : Q (some (0, tau S h)) G M) : Go 8 0 [some (2, d), some (0, j), some (0, h)] [] G M Q := by
  have hK' := hK
  obtain ⟨h0, hs, ⟨e0, e1, e2, e3, e5, e6, e7⟩, ⟨a1, a2, a3, a4, a5, a6⟩, hC, hd⟩ := hK
  have hn := hv.2.1
  have hn0 := hv.1
  have hs1 := hst.1
  obtain ⟨b1, b2, b3⟩ := stM_b hv (by omega) hst hj
  simp (disch := omega) only [g8_0, g8_1, g8_4, g8_5, g8_6, g8_7, g8_8, g8_12, g8_13, Option.toList_some, Option.toList_none, List.cons_append, List.nil_append, true_and, and_true, true_or, or_true, eq_self, ci0, ci1, cin6, forall_const, not_true_eq_false, not_false_eq_true, fimp, timp, i10, i01, cm_rne, and_assoc, hs, e5, a4]
  (repeat' apply And.intro) <;> (try omega) <;> (try (intro hx; exfalso; omega))
  refine c8_9 (Nat.le_of_ble_eq_true rfl) hs (p_ticksIn hK' (by omega) hh b1 b3 (fun r hr => ?_))
  simp (disch := omega) only [g8_0, g8_1, g8_4, g8_5, g8_6, g8_7, g8_8, g8_12, g8_13, Option.toList_some, Option.toList_none, List.cons_append, List.nil_append, true_and, and_true, true_or, or_true, eq_self, ci0, ci1, cin6, forall_const, not_true_eq_false, not_false_eq_true, fimp, timp, i10, i01, cm_rne, and_assoc]
  obtain ⟨h3, h4⟩ := stR_tau hv (by omega) hst hj h1 h2 hr
  have := tau_eq hv h3
  rw [show (((M (d + 10) j + r).toNat : Nat) : Int) = M (d + 10) j + r by omega] at this
  rw [← this]
  exact K
end COURSE
