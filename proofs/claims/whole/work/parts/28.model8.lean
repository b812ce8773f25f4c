/-! ===== the reference: turns, times, counts ===== -/
theorem rst0 {S : sS} {g : Int} : ∀ k : Nat, (∀ j, 0 ≤ j → j < (k : Int) → ¬ sG S j = g) → fP (rstep S g) (sM S, -6) k = (sM S, -6)
  | 0, _ => rfl
  | k + 1, h => by
    have ih := rst0 k (fun j a b => h j a (by omega))
    have e : fP (rstep S g) (sM S, -6) (k + 1) = rstep S g k (fP (rstep S g) (sM S, -6) k) := rfl
    rw [e, ih]
    unfold rstep
    rw [if_neg (h k (by omega) (by omega))]
/-- numbers that may stand -/
theorem vS_nm {S : sS} (h : vS S) {f : Int → Int} (hf : ∀ i, 0 ≤ i → i < sN S → (sK S i = 0 → 0 ≤ f i ∧ f i ≤ 999) ∧ (¬ sK S i = 0 → f i = -6)) : vS (sNm S f) := by
  obtain ⟨h1, h2, h3, h4, h5, h6⟩ := h
  refine ⟨h1, h2, h3, h4, h5, fun i a b => ?_⟩
  obtain ⟨a1, a2, a3, a4, a5, a6⟩ := h6 i a b
  obtain ⟨b1, b2⟩ := hf i a b
  exact ⟨a1, a2, fun z => ⟨(a3 z).1, (a3 z).2.1, b1 z⟩, fun z => ⟨(a4 z).1, b2 z⟩, a5, a6⟩
section MODEL8
variable {G : cm_G} {M : cm_M} {m i j t v w g h s n k u a b : Int} {S : sS} {A : sA} {Q : Option cm_V → cm_G → cm_M → Prop}
theorem rM_num {M : cm_M} {z : Int} {f : Int → Int} (hR : rM M z (sNm S f)) (hi : 0 ≤ i ∧ i < sN S) : rM (cm_up M z (4 + 4 * i + 2) v) z (sNm S (fun j => if j = i then v else f j)) := by
  obtain ⟨q1, q2, q3⟩ := hR
  unfold rM
  rw [cm_req]
  dsimp only
  refine ⟨by rw [if_neg (by omega)]; exact q1, fun j a b => by rw [if_neg (by omega)]; exact q2 j a b, fun j a b => ?_⟩
  obtain ⟨c1, c2, c3, c4⟩ := q3 j a b
  rw [if_neg (by omega), if_neg (by omega), if_neg (show ¬ 4 + 4 * j + 3 = 4 + 4 * i + 2 by omega)]
  refine ⟨c1, c2, ?_, c4⟩
  show _ = if j = i then v else f j
  by_cases hj : j = i
  · rw [if_pos (by omega), if_pos hj]
  · rw [if_neg (by omega), if_neg hj]; exact c3
theorem q_turnOnce (hm : isM G m) (hR : rM M (m + 1) S) (hv : vS S) (hg : 0 ≤ g ∧ g ≤ 7) (hf : ¬ nameAt S g = -6) (K : ∀ M', rM M' (m + 1) (sRot S g) → (∀ z, z ≠ m + 1 → M' z = M z) → Q none G M') : Go 114 0 [some (2, m), some (0, g), none, none, none] [] G M Q := by
  have hm' := hm
  have hinv := rstep_inv hv hg
  obtain ⟨h0, hsh, ⟨e0, e1, e2, e3, e5, e7, e8, e9, e10, e12, e13⟩, a0, a1, a2, a3, a5, a7, a8, a9, a10, a12, a13⟩ := hm
  have hn1 := hv.2.1
  have hn0 := hv.1
  have hna : isFst (fun j => sG S j = g) (sN S) (nameAt S g) := fstOf_is _ _
  have hnb : (0 ≤ nameAt S g ∧ nameAt S g < sN S) ∧ sG S (nameAt S g) = g ∧ ∀ j, 0 ≤ j → j < nameAt S g → ¬ sG S j = g := by
    rcases hna with ⟨z1, z2, z3, z4⟩ | ⟨z, -⟩
    · exact ⟨⟨z1, z2⟩, z3, z4⟩
    · exact absurd z hf
  obtain ⟨hb, hbg, hbn⟩ := hnb
  have kind : ∀ j, 0 ≤ j → j < sN S → sG S j = g → sK S j = 0 := by
    intro j a b e
    obtain ⟨-, -, -, h4, -⟩ := hv.2.2.2.2.2 j a b
    by_cases z : sK S j = 0
    · exact z
    · have := (h4 z).1
      omega
  simp (disch := omega) only [g114_0, g114_1, g114_5, g114_6, g114_7, g114_8, g114_12, g114_13, g114_14, g114_15, g114_16, g114_20, g114_21, g114_24, g114_25, g114_26, g114_29, g114_30, g114_32, g114_36, g114_39, g114_40, g114_43, g114_44, g114_45, g114_46, g114_47, g114_48, g114_49, g114_50, g114_51, g114_53, g114_57, g114_58, g114_60, g114_61, g114_64, g114_67, g114_68, g114_71, g114_72, g114_73, g114_74, g114_75, g114_76, g114_77, g114_78, g114_79, g114_80, Option.toList_some, Option.toList_none, List.cons_append, List.nil_append, true_and, and_true, true_or, or_true, eq_self, ci0, ci1, cin6, forall_const, not_true_eq_false, not_false_eq_true, fimp, timp, i10, i01, cm_rne, and_assoc]
  refine c114_2 (by decide) hsh (q_firstName hm' hR hv hg (fun r hr => ?_))
  have er : r = nameAt S g := hr.uniq hna
  rw [er]
  simp (disch := omega) only [g114_0, g114_1, g114_5, g114_6, g114_7, g114_8, g114_12, g114_13, g114_14, g114_15, g114_16, g114_20, g114_21, g114_24, g114_25, g114_26, g114_29, g114_30, g114_32, g114_36, g114_39, g114_40, g114_43, g114_44, g114_45, g114_46, g114_47, g114_48, g114_49, g114_50, g114_51, g114_53, g114_57, g114_58, g114_60, g114_61, g114_64, g114_67, g114_68, g114_71, g114_72, g114_73, g114_74, g114_75, g114_76, g114_77, g114_78, g114_79, g114_80, Option.toList_some, Option.toList_none, List.cons_append, List.nil_append, true_and, and_true, true_or, or_true, eq_self, ci0, ci1, cin6, forall_const, not_true_eq_false, not_false_eq_true, fimp, timp, i10, i01, cm_rne, and_assoc]
  refine c114_9 (by decide) hsh (q_num hm' hR hv hb ?_)
  simp (disch := omega) only [g114_0, g114_1, g114_5, g114_6, g114_7, g114_8, g114_12, g114_13, g114_14, g114_15, g114_16, g114_20, g114_21, g114_24, g114_25, g114_26, g114_29, g114_30, g114_32, g114_36, g114_39, g114_40, g114_43, g114_44, g114_45, g114_46, g114_47, g114_48, g114_49, g114_50, g114_51, g114_53, g114_57, g114_58, g114_60, g114_61, g114_64, g114_67, g114_68, g114_71, g114_72, g114_73, g114_74, g114_75, g114_76, g114_77, g114_78, g114_79, g114_80, Option.toList_some, Option.toList_none, List.cons_append, List.nil_append, true_and, and_true, true_or, or_true, eq_self, ci0, ci1, cin6, forall_const, not_true_eq_false, not_false_eq_true, fimp, timp, i10, i01, cm_rne, and_assoc]
  (repeat' apply And.intro) <;> (try omega) <;> (try (intro hx; exfalso; omega))
  generalize nameAt S g = p at *
  refine go_loop (σ := cm_M × (Int → Int) × Int) (fun i s => [some (2, m), some (0, g), some (0, s.2.2), some (0, sM S p), some (0, i)]) (fun s => s.1) (fun i s => (∀ z, z ≠ m + 1 → s.1 z = M z) ∧ rM s.1 (m + 1) (sNm S s.2.1) ∧ vS (sNm S s.2.1) ∧ (0 ≤ s.2.2 ∧ s.2.2 < i ∧ sG S s.2.2 = g) ∧ s.2.2 = (fP (rstep S g) (sM S, -6) i.toNat).2 ∧ (fP (rstep S g) (sM S, -6) i.toNat).1 s.2.2 = sM S p ∧ ∀ j, j ≠ s.2.2 → (fP (rstep S g) (sM S, -6) i.toNat).1 j = s.2.1 j) (sN S) (fun i s hi0 hin hRs ih => ?_) (fun s hRs => ?_) (p + 1) (M, sM S, p) (by omega) (by omega) ⟨fun _ _ => rfl, hR, hv, ⟨hb.1, by show p < p + 1; omega, hbg⟩, ?_⟩
  · obtain ⟨s, r, q⟩ := s
    obtain ⟨u1, u2, u3, u4, u5, u6, u7⟩ := hRs
    dsimp only at u1 u2 u3 u4 u5 u6 u7 ⊢
    have step : fP (rstep S g) (sM S, -6) (i + 1).toNat = rstep S g i (fP (rstep S g) (sM S, -6) i.toNat) := fP_s _ _ hi0
    rw [step] at ih
    have hz := hinv i.toNat (by omega)
    generalize fP (rstep S g) (sM S, -6) i.toNat = F at *
    have n1 : s (m + 1) 3 = sN S := u2.1
    rw [g114_18]
    simp (disch := omega) only [g114_0, g114_1, g114_5, g114_6, g114_7, g114_8, g114_12, g114_13, g114_14, g114_15, g114_16, g114_20, g114_21, g114_24, g114_25, g114_26, g114_29, g114_30, g114_32, g114_36, g114_39, g114_40, g114_43, g114_44, g114_45, g114_46, g114_47, g114_48, g114_49, g114_50, g114_51, g114_53, g114_57, g114_58, g114_60, g114_61, g114_64, g114_67, g114_68, g114_71, g114_72, g114_73, g114_74, g114_75, g114_76, g114_77, g114_78, g114_79, g114_80, Option.toList_some, Option.toList_none, List.cons_append, List.nil_append, true_and, and_true, true_or, or_true, eq_self, ci0, ci1, cin6, forall_const, not_true_eq_false, not_false_eq_true, fimp, timp, i10, i01, cm_rne, and_assoc, hsh, e0, a0, n1]
    (repeat' apply And.intro) <;> (try omega) <;> (try (intro hx; exfalso; omega))
    intro _
    refine c114_33 (by decide) hsh (q_isNameOf hm' u2 u3 ⟨hi0, hin⟩ hg (fun he => ?_) (fun hne => ?_)) <;> simp (disch := omega) only [g114_0, g114_1, g114_5, g114_6, g114_7, g114_8, g114_12, g114_13, g114_14, g114_15, g114_16, g114_20, g114_21, g114_24, g114_25, g114_26, g114_29, g114_30, g114_32, g114_36, g114_39, g114_40, g114_43, g114_44, g114_45, g114_46, g114_47, g114_48, g114_49, g114_50, g114_51, g114_53, g114_57, g114_58, g114_60, g114_61, g114_64, g114_67, g114_68, g114_71, g114_72, g114_73, g114_74, g114_75, g114_76, g114_77, g114_78, g114_79, g114_80, Option.toList_some, Option.toList_none, List.cons_append, List.nil_append, true_and, and_true, true_or, or_true, eq_self, ci0, ci1, cin6, forall_const, not_true_eq_false, not_false_eq_true, fimp, timp, i10, i01, cm_rne, and_assoc, hsh, e0, a0]
    · have he : sG S i = g := he
      (repeat' apply And.intro) <;> (try omega) <;> (try (intro hx; exfalso; omega))
      refine c114_54 (Nat.le_of_ble_eq_true rfl) hsh (q_num hm' u2 u3 ⟨hi0, hin⟩ ?_)
      simp (disch := omega) only [g114_0, g114_1, g114_5, g114_6, g114_7, g114_8, g114_12, g114_13, g114_14, g114_15, g114_16, g114_20, g114_21, g114_24, g114_25, g114_26, g114_29, g114_30, g114_32, g114_36, g114_39, g114_40, g114_43, g114_44, g114_45, g114_46, g114_47, g114_48, g114_49, g114_50, g114_51, g114_53, g114_57, g114_58, g114_60, g114_61, g114_64, g114_67, g114_68, g114_71, g114_72, g114_73, g114_74, g114_75, g114_76, g114_77, g114_78, g114_79, g114_80, Option.toList_some, Option.toList_none, List.cons_append, List.nil_append, true_and, and_true, true_or, or_true, eq_self, ci0, ci1, cin6, forall_const, not_true_eq_false, not_false_eq_true, fimp, timp, i10, i01, cm_rne, and_assoc, hsh, e0, a0]
      (repeat' apply And.intro) <;> (try omega) <;> (try (intro hx; exfalso; omega))
      have e : rstep S g i F = (sw F.1 F.2 i, i) := by
        unfold rstep
        rw [if_pos he, if_neg (by omega)]
      rw [e] at ih
      have u2' := rM_num (v := r i) u2 (i := q) (by omega)
      refine ih (cm_up s (m + 1) (4 + 4 * q + 2) (r i), (fun j => if j = q then r i else r j), i) ⟨fun z hz => by dsimp only; rw [cm_rne hz]; exact u1 z hz, u2', ?_, ⟨hi0, by show i < i + 1; omega, he⟩, rfl, ?_, ?_⟩
      · refine vS_nm hv (fun j a b => ?_)
        have h1 := u3.2.2.2.2.2 j a b
        have h2 := u3.2.2.2.2.2 i hi0 hin
        have k1 := kind i hi0 hin he
        dsimp only
        by_cases hj : j = q
        · rw [if_pos hj, hj]
          exact ⟨fun _ => (h2.2.2.1 k1).2.2, fun z => absurd (kind q u4.1 (by omega) u4.2.2) z⟩
        · rw [if_neg hj]
          exact ⟨fun z => (h1.2.2.1 z).2.2, fun z => (h1.2.2.2.1 z).2⟩
      · show sw F.1 F.2 i i = _
        unfold sw
        rw [if_neg (by omega), if_pos rfl, ← u5, u6]
      · intro j hj
        have hj : j ≠ i := hj
        show sw F.1 F.2 i j = if j = q then r i else r j
        unfold sw
        rw [← u5]
        by_cases hq : j = q
        · rw [if_pos hq, if_pos hq]; exact u7 i (by omega)
        · rw [if_neg hq, if_neg hq, if_neg hj]; exact u7 j hq
    · have hne : ¬ sG S i = g := hne
      have e : rstep S g i F = F := by
        unfold rstep
        rw [if_neg hne]
      rw [e] at ih
      exact ih (s, r, q) ⟨u1, u2, u3, ⟨u4.1, by show q < i + 1; omega, u4.2.2⟩, u5, u6, u7⟩
  · obtain ⟨s, r, q⟩ := s
    obtain ⟨u1, u2, u3, u4, u5, u6, u7⟩ := hRs
    dsimp only at u1 u2 u3 u4 u5 u6 u7 ⊢
    have n1 : s (m + 1) 3 = sN S := u2.1
    rw [g114_18]
    simp (disch := omega) only [g114_0, g114_1, g114_5, g114_6, g114_7, g114_8, g114_12, g114_13, g114_14, g114_15, g114_16, g114_20, g114_21, g114_24, g114_25, g114_26, g114_29, g114_30, g114_32, g114_36, g114_39, g114_40, g114_43, g114_44, g114_45, g114_46, g114_47, g114_48, g114_49, g114_50, g114_51, g114_53, g114_57, g114_58, g114_60, g114_61, g114_64, g114_67, g114_68, g114_71, g114_72, g114_73, g114_74, g114_75, g114_76, g114_77, g114_78, g114_79, g114_80, Option.toList_some, Option.toList_none, List.cons_append, List.nil_append, true_and, and_true, true_or, or_true, eq_self, ci0, ci1, cin6, forall_const, not_true_eq_false, not_false_eq_true, fimp, timp, i10, i01, cm_rne, and_assoc, hsh, e0, a0, n1]
    (repeat' apply And.intro) <;> (try omega) <;> (try (intro hx; exfalso; omega))
    intro _
    (repeat' apply And.intro) <;> (try omega) <;> (try (intro hx; exfalso; omega))
    refine K _ ?_ (fun z hz => by rw [cm_rne hz]; exact u1 z hz)
    refine rM_eq (rM_num (v := sM S p) u2 (i := q) (by omega)) ⟨rfl, fun j _ _ => rfl, fun j a b => ⟨rfl, rfl, ?_, rfl⟩⟩
    show (if j = q then sM S p else r j) = (fP (rstep S g) (sM S, -6) (sN S).toNat).1 j
    by_cases hq : j = q
    · rw [if_pos hq, hq]; exact u6.symm
    · rw [if_neg hq]; exact (u7 j hq).symm
  · have e1 : fP (rstep S g) (sM S, -6) (p + 1).toNat = (sM S, p) := by
      rw [fP_s _ _ hb.1, rst0 p.toNat (fun j a b => hbn j a (by omega))]
      unfold rstep
      rw [if_pos hbg]
      rfl
    rw [e1]
    exact ⟨rfl, rfl, fun j _ => rfl⟩
theorem q_turn (hm : isM G m) (hA : rMA M m A) (hv : vA A) (hg : cm_in g) (hk : cm_in k) (K : ∀ M', rMA M' m (rTurn A g k).2 → fr M M' m (m + 11) → Q (some (0, (rTurn A g k).1)) G M') : Go 115 0 [some (2, m), some (0, g), some (0, k), none] [] G M Q := by
  have hsh := hm.2.1
  have h0 := hm.1
  have hA' := hA
  obtain ⟨b1, b2, b3, b4, b5⟩ := hA
  have hn1 := hv.1.2.1
  have hn0 := hv.1.1
  unfold rTurn at K
  simp (disch := omega) only [g115_0, g115_4, g115_7, g115_8, g115_9, g115_14, g115_17, g115_19, g115_20, g115_21, g115_25, g115_28, g115_30, g115_31, g115_35, g115_36, g115_38, g115_39, g115_42, g115_43, g115_47, g115_50, g115_53, g115_54, g115_55, g115_59, g115_63, Option.toList_some, Option.toList_none, List.cons_append, List.nil_append, true_and, and_true, true_or, or_true, eq_self, ci0, ci1, cin6, forall_const, not_true_eq_false, not_false_eq_true, fimp, timp, i10, i01, cm_rne, and_assoc]
  refine c115_1 (by decide) (q_isGroup hg (fun h1 => ?_) (fun h1 => ?_)) <;> simp (disch := omega) only [g115_0, g115_4, g115_7, g115_8, g115_9, g115_14, g115_17, g115_19, g115_20, g115_21, g115_25, g115_28, g115_30, g115_31, g115_35, g115_36, g115_38, g115_39, g115_42, g115_43, g115_47, g115_50, g115_53, g115_54, g115_55, g115_59, g115_63, Option.toList_some, Option.toList_none, List.cons_append, List.nil_append, true_and, and_true, true_or, or_true, eq_self, ci0, ci1, cin6, forall_const, not_true_eq_false, not_false_eq_true, fimp, timp, i10, i01, cm_rne, and_assoc]
  · refine c115_11 (Nat.le_of_ble_eq_true rfl) (q_in hk cn1 ⟨by decide, by decide⟩ (fun h2 => ?_) (fun h2 => ?_)) <;> simp (disch := omega) only [g115_0, g115_4, g115_7, g115_8, g115_9, g115_14, g115_17, g115_19, g115_20, g115_21, g115_25, g115_28, g115_30, g115_31, g115_35, g115_36, g115_38, g115_39, g115_42, g115_43, g115_47, g115_50, g115_53, g115_54, g115_55, g115_59, g115_63, Option.toList_some, Option.toList_none, List.cons_append, List.nil_append, true_and, and_true, true_or, or_true, eq_self, ci0, ci1, cin6, forall_const, not_true_eq_false, not_false_eq_true, fimp, timp, i10, i01, cm_rne, and_assoc]
    · rw [ite'_p ⟨h1, h2⟩] at K
      have hcn := cnt0 (sG (aS A)) g (sN (aS A)).toNat
      have hcb := cntb (sG (aS A)) g (sN (aS A)).toNat
      rw [show (((sN (aS A)).toNat : Nat) : Int) = sN (aS A) by omega] at hcn
      have hf6 := fst0 (P := fun j => sG (aS A) j = g) (n := sN (aS A))
      refine c115_22 (by decide) hsh (q_namesOf hm b1 hv.1 h1 ?_)
      generalize hcc : fP (fun i a => if sG (aS A) i = g then a + 1 else a) (0 : Int) (sN (aS A)).toNat = cc at *
      simp (disch := omega) only [g115_0, g115_4, g115_7, g115_8, g115_9, g115_14, g115_17, g115_19, g115_20, g115_21, g115_25, g115_28, g115_30, g115_31, g115_35, g115_36, g115_38, g115_39, g115_42, g115_43, g115_47, g115_50, g115_53, g115_54, g115_55, g115_59, g115_63, Option.toList_some, Option.toList_none, List.cons_append, List.nil_append, true_and, and_true, true_or, or_true, eq_self, ci0, ci1, cin6, forall_const, not_true_eq_false, not_false_eq_true, fimp, timp, i10, i01, cm_rne, and_assoc]
      (repeat' apply And.intro) <;> (try omega) <;> (try (intro hx; exfalso; omega))
      · intro hne
        have n1 : ¬ nameAt (aS A) g = -6 := fun z => hne (hcn.2.mpr (hf6.mp z))
        rw [ite'_n (show ¬ fstOf (fun j => sG (aS A) j = g) (sN (aS A)) = -6 from n1)] at K
        have hnb : 0 ≤ nameAt (aS A) g ∧ nameAt (aS A) g < sN (aS A) := by
          rcases fstOf_is (fun j => sG (aS A) j = g) (sN (aS A)) with ⟨z1, z2, -⟩ | ⟨z, -⟩
          · exact ⟨z1, z2⟩
          · exact absurd z n1
        have na : ∀ c : Nat, nameAt (rotN (aS A) g c) g = nameAt (aS A) g := by
          intro c
          unfold nameAt
          rw [(rotN_n (aS A) g c).1, (rotN_n (aS A) g c).2]
        refine c115_32 (by decide) hsh (q_record hm b1 hv.1 b2 hv.2.1.2 (fun M1 r1 f1 => ?_))
        have hR1 : rM M1 (m + 1) (aS A) := rM_fr b1 (f1.1 _ (by omega) (by omega))
        simp (disch := omega) only [g115_0, g115_4, g115_7, g115_8, g115_9, g115_14, g115_17, g115_19, g115_20, g115_21, g115_25, g115_28, g115_30, g115_31, g115_35, g115_36, g115_38, g115_39, g115_42, g115_43, g115_47, g115_50, g115_53, g115_54, g115_55, g115_59, g115_63, Option.toList_some, Option.toList_none, List.cons_append, List.nil_append, true_and, and_true, true_or, or_true, eq_self, ci0, ci1, cin6, forall_const, not_true_eq_false, not_false_eq_true, fimp, timp, i10, i01, cm_rne, and_assoc]
        refine go_loop (σ := cm_M) (fun i _ => [some (2, m), some (0, g), some (0, k), some (0, i)]) (fun s => s) (fun i s => rM s (m + 1) (rotN (aS A) g i.toNat) ∧ ∀ z, z ≠ m + 1 → s z = M1 z) k (fun i s hi0 hik hRs ih => ?_) (fun s hRs => ?_) 0 M1 (by omega) (by omega) ⟨hR1, fun z _ => rfl⟩
        · obtain ⟨u1, u2⟩ := hRs
          rw [g115_37]
          simp (disch := omega) only [g115_0, g115_4, g115_7, g115_8, g115_9, g115_14, g115_17, g115_19, g115_20, g115_21, g115_25, g115_28, g115_30, g115_31, g115_35, g115_36, g115_38, g115_39, g115_42, g115_43, g115_47, g115_50, g115_53, g115_54, g115_55, g115_59, g115_63, Option.toList_some, Option.toList_none, List.cons_append, List.nil_append, true_and, and_true, true_or, or_true, eq_self, ci0, ci1, cin6, forall_const, not_true_eq_false, not_false_eq_true, fimp, timp, i10, i01, cm_rne, and_assoc]
          (repeat' apply And.intro) <;> (try omega) <;> (try (intro hx; exfalso; omega))
          intro _
          refine c115_44 (by decide) hsh (q_turnOnce hm u1 (vS_rotN hv.1 h1 _) h1 (by rw [na]; exact n1) (fun M2 r2 f2 => ?_))
          simp (disch := omega) only [g115_0, g115_4, g115_7, g115_8, g115_9, g115_14, g115_17, g115_19, g115_20, g115_21, g115_25, g115_28, g115_30, g115_31, g115_35, g115_36, g115_38, g115_39, g115_42, g115_43, g115_47, g115_50, g115_53, g115_54, g115_55, g115_59, g115_63, Option.toList_some, Option.toList_none, List.cons_append, List.nil_append, true_and, and_true, true_or, or_true, eq_self, ci0, ci1, cin6, forall_const, not_true_eq_false, not_false_eq_true, fimp, timp, i10, i01, cm_rne, and_assoc]
          refine ih M2 ⟨?_, fun z hz => (f2 z hz).trans (u2 z hz)⟩
          rw [show (i + 1).toNat = i.toNat + 1 by omega]
          exact r2
        · obtain ⟨u1, u2⟩ := hRs
          have hvk := vS_rotN hv.1 h1 k.toNat
          rw [g115_37]
          simp (disch := omega) only [g115_0, g115_4, g115_7, g115_8, g115_9, g115_14, g115_17, g115_19, g115_20, g115_21, g115_25, g115_28, g115_30, g115_31, g115_35, g115_36, g115_38, g115_39, g115_42, g115_43, g115_47, g115_50, g115_53, g115_54, g115_55, g115_59, g115_63, Option.toList_some, Option.toList_none, List.cons_append, List.nil_append, true_and, and_true, true_or, or_true, eq_self, ci0, ci1, cin6, forall_const, not_true_eq_false, not_false_eq_true, fimp, timp, i10, i01, cm_rne, and_assoc]
          (repeat' apply And.intro) <;> (try omega) <;> (try (intro hx; exfalso; omega))
          intro _
          refine c115_56 (Nat.le_of_ble_eq_true rfl) hsh (q_firstName hm u1 hvk h1 (fun r hr => ?_))
          have er : r = nameAt (aS A) g := by rw [← na k.toNat]; exact fstOf_e hr
          rw [er]
          simp (disch := omega) only [g115_0, g115_4, g115_7, g115_8, g115_9, g115_14, g115_17, g115_19, g115_20, g115_21, g115_25, g115_28, g115_30, g115_31, g115_35, g115_36, g115_38, g115_39, g115_42, g115_43, g115_47, g115_50, g115_53, g115_54, g115_55, g115_59, g115_63, Option.toList_some, Option.toList_none, List.cons_append, List.nil_append, true_and, and_true, true_or, or_true, eq_self, ci0, ci1, cin6, forall_const, not_true_eq_false, not_false_eq_true, fimp, timp, i10, i01, cm_rne, and_assoc]
          refine c115_60 (by decide) hsh (q_num hm u1 hvk (by rw [(rotN_n (aS A) g k.toNat).1]; exact hnb) ?_)
          simp (disch := omega) only [g115_0, g115_4, g115_7, g115_8, g115_9, g115_14, g115_17, g115_19, g115_20, g115_21, g115_25, g115_28, g115_30, g115_31, g115_35, g115_36, g115_38, g115_39, g115_42, g115_43, g115_47, g115_50, g115_53, g115_54, g115_55, g115_59, g115_63, Option.toList_some, Option.toList_none, List.cons_append, List.nil_append, true_and, and_true, true_or, or_true, eq_self, ci0, ci1, cin6, forall_const, not_true_eq_false, not_false_eq_true, fimp, timp, i10, i01, cm_rne, and_assoc]
          obtain ⟨k1, k2⟩ := rMA_chg hA' r1 f1 (frS.of u2) u1
          exact K s k1 k2
      · intro he
        have n1 : nameAt (aS A) g = -6 := hf6.mpr (hcn.2.mp he)
        rw [ite'_p (show fstOf (fun j => sG (aS A) j = g) (sN (aS A)) = -6 from n1)] at K
        exact K M hA' fr.rf
    · rw [ite'_n (fun z => h2 z.2)] at K
      exact K M hA' fr.rf
  · rw [ite'_n (fun z => h1 z.1)] at K
    exact K M hA' fr.rf
theorem q_at (hm : isM G m) (hA : rMA M m A) (hv : vA A) (ht : cm_in t) (hw : cm_in w) (K : ∀ M', rMA M' m A → fr M M' m (m + 11) → Q (some (0, xAt (aS A) t w)) G M') : Go 119 0 [some (2, m), some (0, t), some (0, w), none] [] G M Q := by
  have hsh := hm.2.1
  have h0 := hm.1
  have hA' := hA
  obtain ⟨b1, b2, b3, b4, b5⟩ := hA
  have hn1 := hv.1.2.1
  have hn0 := hv.1.1
  unfold xAt at K
  simp (disch := omega) only [g119_0, g119_1, g119_2, g119_8, g119_11, g119_12, g119_13, g119_17, g119_20, g119_22, g119_23, g119_27, g119_28, g119_30, g119_31, g119_34, g119_35, g119_35b, g119_36, g119_39, g119_43, g119_44, g119_47, g119_50, g119_53, g119_54, g119_55, g119_58, g119_59, g119_63, g119_66, g119_67, g119_68, g119_71, g119_75, g119_78, g119_79, g119_82, Option.toList_some, Option.toList_none, List.cons_append, List.nil_append, true_and, and_true, true_or, or_true, eq_self, ci0, ci1, cin6, forall_const, not_true_eq_false, not_false_eq_true, fimp, timp, i10, i01, cm_rne, and_assoc]
  refine c119_5 (Nat.le_of_ble_eq_true rfl) (q_in ht cn0 ⟨by decide, by decide⟩ (fun h1 => ?_) (fun h1 => ?_)) <;> simp (disch := omega) only [g119_0, g119_1, g119_2, g119_8, g119_11, g119_12, g119_13, g119_17, g119_20, g119_22, g119_23, g119_27, g119_28, g119_30, g119_31, g119_34, g119_35, g119_35b, g119_36, g119_39, g119_43, g119_44, g119_47, g119_50, g119_53, g119_54, g119_55, g119_58, g119_59, g119_63, g119_66, g119_67, g119_68, g119_71, g119_75, g119_78, g119_79, g119_82, Option.toList_some, Option.toList_none, List.cons_append, List.nil_append, true_and, and_true, true_or, or_true, eq_self, ci0, ci1, cin6, forall_const, not_true_eq_false, not_false_eq_true, fimp, timp, i10, i01, cm_rne, and_assoc]
  · rw [ite'_p h1] at K
    refine c119_14 (Nat.le_of_ble_eq_true rfl) (q_in hw cn0 ⟨by decide, by decide⟩ (fun h2 => ?_) (fun h2 => ?_)) <;> simp (disch := omega) only [g119_0, g119_1, g119_2, g119_8, g119_11, g119_12, g119_13, g119_17, g119_20, g119_22, g119_23, g119_27, g119_28, g119_30, g119_31, g119_34, g119_35, g119_35b, g119_36, g119_39, g119_43, g119_44, g119_47, g119_50, g119_53, g119_54, g119_55, g119_58, g119_59, g119_63, g119_66, g119_67, g119_68, g119_71, g119_75, g119_78, g119_79, g119_82, Option.toList_some, Option.toList_none, List.cons_append, List.nil_append, true_and, and_true, true_or, or_true, eq_self, ci0, ci1, cin6, forall_const, not_true_eq_false, not_false_eq_true, fimp, timp, i10, i01, cm_rne, and_assoc]
    · refine c119_24 (by decide) hsh (q_begin hm b1 hv.1 (fun M1 p1 p2 p3 f1 => ?_))
      simp (disch := omega) only [g119_0, g119_1, g119_2, g119_8, g119_11, g119_12, g119_13, g119_17, g119_20, g119_22, g119_23, g119_27, g119_28, g119_30, g119_31, g119_34, g119_35, g119_35b, g119_36, g119_39, g119_43, g119_44, g119_47, g119_50, g119_53, g119_54, g119_55, g119_58, g119_59, g119_63, g119_66, g119_67, g119_68, g119_71, g119_75, g119_78, g119_79, g119_82, Option.toList_some, Option.toList_none, List.cons_append, List.nil_append, true_and, and_true, true_or, or_true, eq_self, ci0, ci1, cin6, forall_const, not_true_eq_false, not_false_eq_true, fimp, timp, i10, i01, cm_rne, and_assoc]
      refine go_loop (σ := cm_M) (fun i _ => [some (2, m), some (0, t), some (0, w), some (0, i)]) (fun s => s) (fun i s => (∀ z, z ≠ m → s z = M1 z) ∧ (∀ j, j ≠ 11 → s m j = M1 m j) ∧ s m 11 = pos (aS A) (sN (aS A)).toNat i.toNat) t (fun i s hi0 hik hRs ih => ?_) (fun s hRs => ?_) 0 M1 (by omega) (by omega) ⟨fun z _ => rfl, fun z _ => rfl, p3⟩
      · obtain ⟨u1, u2, u3⟩ := hRs
        have hpb := pos_b hv.1 (k := (sN (aS A)).toNat) (by omega) i.toNat
        have hpb2 := pos_b hv.1 (k := (sN (aS A)).toNat) (by omega) (i.toNat + 1)
        rw [pos_s] at hpb2
        have hR1 : rM s (m + 1) (aS A) := rM_fr b1 (by rw [u1 _ (by omega)]; exact f1.1 _ (by omega) (by omega))
        rw [g119_29]
        simp (disch := omega) only [g119_0, g119_1, g119_2, g119_8, g119_11, g119_12, g119_13, g119_17, g119_20, g119_22, g119_23, g119_27, g119_28, g119_30, g119_31, g119_34, g119_35, g119_35b, g119_36, g119_39, g119_43, g119_44, g119_47, g119_50, g119_53, g119_54, g119_55, g119_58, g119_59, g119_63, g119_66, g119_67, g119_68, g119_71, g119_75, g119_78, g119_79, g119_82, Option.toList_some, Option.toList_none, List.cons_append, List.nil_append, true_and, and_true, true_or, or_true, eq_self, ci0, ci1, cin6, forall_const, not_true_eq_false, not_false_eq_true, fimp, timp, i10, i01, cm_rne, and_assoc, hsh, u3]
        (repeat' apply And.intro) <;> (try omega) <;> (try (intro hx; exfalso; omega))
        intro _
        refine c119_40 (Nat.le_of_ble_eq_true rfl) hsh (q_speedNow hm hR1 hv.1 (fun i a b => by rw [u1 _ (by omega)]; exact p1 i a b) u3 (by omega) ?_)
        simp (disch := omega) only [g119_0, g119_1, g119_2, g119_8, g119_11, g119_12, g119_13, g119_17, g119_20, g119_22, g119_23, g119_27, g119_28, g119_30, g119_31, g119_34, g119_35, g119_35b, g119_36, g119_39, g119_43, g119_44, g119_47, g119_50, g119_53, g119_54, g119_55, g119_58, g119_59, g119_63, g119_66, g119_67, g119_68, g119_71, g119_75, g119_78, g119_79, g119_82, Option.toList_some, Option.toList_none, List.cons_append, List.nil_append, true_and, and_true, true_or, or_true, eq_self, ci0, ci1, cin6, forall_const, not_true_eq_false, not_false_eq_true, fimp, timp, i10, i01, cm_rne, and_assoc, hsh]
        (repeat' apply And.intro) <;> (try omega) <;> (try (intro hx; exfalso; omega))
        refine ih _ ⟨fun z hz => by rw [cm_rne hz]; exact u1 z hz, fun j hj => by rw [cm_up_n _ (Or.inr hj)]; exact u2 j hj, ?_⟩
        rw [cm_up_s, show (i + 1).toNat = i.toNat + 1 by omega, pos_s]
      · obtain ⟨u1, u2, u3⟩ := hRs
        have hpb := pos_b hv.1 (k := (sN (aS A)).toNat) (by omega) t.toNat
        have hR1 : rM s (m + 1) (aS A) := rM_fr b1 (by rw [u1 _ (by omega)]; exact f1.1 _ (by omega) (by omega))
        have hab : ∀ i, 0 ≤ i → i ≤ sN (aS A) → s (m + 6) i = tI (aS A) i := fun i a b => by rw [u1 _ (by omega)]; exact p1 i a b
        have fs : frS M s m := f1.s.tr ⟨fun k a _ _ => u1 k a, fun j a => u2 j (by omega)⟩
        obtain ⟨k1, k2⟩ := rMA_q hA' fs hR1
        have K1 := K s k1 k2
        rw [g119_29]
        simp (disch := omega) only [g119_0, g119_1, g119_2, g119_8, g119_11, g119_12, g119_13, g119_17, g119_20, g119_22, g119_23, g119_27, g119_28, g119_30, g119_31, g119_34, g119_35, g119_35b, g119_36, g119_39, g119_43, g119_44, g119_47, g119_50, g119_53, g119_54, g119_55, g119_58, g119_59, g119_63, g119_66, g119_67, g119_68, g119_71, g119_75, g119_78, g119_79, g119_82, Option.toList_some, Option.toList_none, List.cons_append, List.nil_append, true_and, and_true, true_or, or_true, eq_self, ci0, ci1, cin6, forall_const, not_true_eq_false, not_false_eq_true, fimp, timp, i10, i01, cm_rne, and_assoc]
        (repeat' apply And.intro) <;> (try omega) <;> (try (intro hx; exfalso; omega))
        intro _
        (repeat' apply And.intro) <;> (try omega) <;> (try (intro hx; exfalso; omega))
        · intro h3
          rw [if_neg (by omega), if_neg (by omega), if_neg (by omega)] at K1
          (repeat' apply And.intro) <;> (try omega) <;> (try (intro hx; exfalso; omega))
          · intro h4
            rw [if_neg h4, if_pos (by omega)] at K1
            simp (disch := omega) only [g119_0, g119_1, g119_2, g119_8, g119_11, g119_12, g119_13, g119_17, g119_20, g119_22, g119_23, g119_27, g119_28, g119_30, g119_31, g119_34, g119_35, g119_35b, g119_36, g119_39, g119_43, g119_44, g119_47, g119_50, g119_53, g119_54, g119_55, g119_58, g119_59, g119_63, g119_66, g119_67, g119_68, g119_71, g119_75, g119_78, g119_79, g119_82, Option.toList_some, Option.toList_none, List.cons_append, List.nil_append, true_and, and_true, true_or, or_true, eq_self, ci0, ci1, cin6, forall_const, not_true_eq_false, not_false_eq_true, fimp, timp, i10, i01, cm_rne, and_assoc, hsh, u3]
            exact K1
          · intro h4
            rw [if_pos h4] at K1
            refine c119_72 (by decide) hsh (q_speedNow hm hR1 hv.1 hab u3 (by omega) ?_)
            simp (disch := omega) only [g119_0, g119_1, g119_2, g119_8, g119_11, g119_12, g119_13, g119_17, g119_20, g119_22, g119_23, g119_27, g119_28, g119_30, g119_31, g119_34, g119_35, g119_35b, g119_36, g119_39, g119_43, g119_44, g119_47, g119_50, g119_53, g119_54, g119_55, g119_58, g119_59, g119_63, g119_66, g119_67, g119_68, g119_71, g119_75, g119_78, g119_79, g119_82, Option.toList_some, Option.toList_none, List.cons_append, List.nil_append, true_and, and_true, true_or, or_true, eq_self, ci0, ci1, cin6, forall_const, not_true_eq_false, not_false_eq_true, fimp, timp, i10, i01, cm_rne, and_assoc]
            exact K1
        · intro h3
          refine c119_60 (by decide) hsh (q_seenNow (x := 0) hm hR1 hv.1 hab h1.1 u3 (by omega) (by omega) (fun hz r hr => ?_) (fun hz r hr => ?_) (fun hz => ?_)) <;> simp (disch := omega) only [g119_0, g119_1, g119_2, g119_8, g119_11, g119_12, g119_13, g119_17, g119_20, g119_22, g119_23, g119_27, g119_28, g119_30, g119_31, g119_34, g119_35, g119_35b, g119_36, g119_39, g119_43, g119_44, g119_47, g119_50, g119_53, g119_54, g119_55, g119_58, g119_59, g119_63, g119_66, g119_67, g119_68, g119_71, g119_75, g119_78, g119_79, g119_82, Option.toList_some, Option.toList_none, List.cons_append, List.nil_append, true_and, and_true, true_or, or_true, eq_self, ci0, ci1, cin6, forall_const, not_true_eq_false, not_false_eq_true, fimp, timp, i10, i01, cm_rne, and_assoc]
          · rw [if_pos hz, ← fstOf_e hr] at K1; exact K1
          · rw [if_neg (by omega), if_pos hz, ← lstOf_e hr] at K1; exact K1
          · rw [if_neg (by omega), if_neg (by omega), if_pos hz] at K1; exact K1
    · have := K M hA' fr.rf
      rwa [if_neg (by omega), if_neg (by omega), if_neg (by omega), if_neg (by omega), if_neg (by omega)] at this
  · rw [ite'_n h1] at K
    exact K M hA' fr.rf
end MODEL8
