/-! ===== the law: the settings ===== -/
section LAW3
variable {G : cm_G} {M : cm_M} {g h n v : Int} {A : sA} {Q : Option cm_V → cm_G → cm_M → Prop}
theorem tbl.of {M M' : cm_M} (h : tbl M) (f : ∀ k, k < 0 → M' k = M k) : tbl M' := by
  unfold tbl
  rw [f (-4) (by decide), f (-5) (by decide)]
  exact h
theorem l_set3 {w y z : Int} {Q : Option cm_V → cm_G → cm_M → Prop} (hX : isX G) (ht : tbl M) (hA : rXA M A) (hv : vA A) (h0 : sT (aS A) 0 = 10) (h1 : sT (aS A) 1 = 5) (h2 : sT (aS A) 2 = 3) (hw : 4 ≤ w ∧ w ≤ 20) (hy : 1 ≤ y ∧ y ≤ 30) (hz : 1 ≤ z ∧ z ≤ 4) (K : ∀ M' A', rXA M' A' → vA A' → fr M M' 0 81 → Q (some (0, 1)) G M') : Go 67 48 [some (2, 0), some (0, g), some (0, w), some (0, y), some (0, z)] [] G M Q := by
  have i1 : cm_in 2 := ⟨by decide, by decide⟩
  have iw : cm_in w := ⟨by omega, by omega⟩
  have iy : cm_in y := ⟨by omega, by omega⟩
  have iz : cm_in z := ⟨by omega, by omega⟩
  have k1 : okS 0 w := ⟨⟨by decide, by decide⟩, by rw [if_pos rfl]; exact hw.1, by rw [if_pos rfl]; exact hw.2⟩
  have k2 : okS 1 y := ⟨⟨by decide, by decide⟩, by rw [if_neg (by decide)]; exact hy.1, by rw [if_neg (by decide), if_pos rfl]; exact hy.2⟩
  have k3 : okS 2 z := ⟨⟨by decide, by decide⟩, by rw [if_neg (by decide)]; exact hz.1, by rw [if_neg (by decide), if_neg (by decide)]; exact hz.2⟩
  have s1 : ∀ (B : sA) (i v : Int), okS i v → rSet B i v = (sT (aS B) i, chg B (sSet (aS B) i v)) := fun B i v hk => by
    unfold rSet
    rw [ite'_p hk]
  simp (disch := omega) only [g67_48, g67_49, g67_50, Option.toList_some, Option.toList_none, List.cons_append, List.nil_append, true_and, and_true, true_or, or_true, eq_self, ci0, ci1, cin6, forall_const, not_true_eq_false, not_false_eq_true, fimp, timp, i10, i01, cm_rne, and_assoc]
  refine c67_51 (Nat.le_of_ble_eq_true rfl) hX.1 (p_set hX ht hA hv cn0 iw (fun M1 r1' f1 => ?_))
  rw [s1 A 0 w k1] at r1' ⊢
  have v1 : vA (chg A (sSet (aS A) 0 w)) := vA_chg hv (vS_set hv.1 k1)
  have r1 : rXA M1 (chg A (sSet (aS A) 0 w)) := r1'
  generalize hB : chg A (sSet (aS A) 0 w) = B at *
  have b0 : sT (aS B) 0 = w := by
    rw [← hB]
    show (if (0 : Int) = 0 then w else sT (aS A) 0) = w
    exact if_pos rfl
  have b1 : sT (aS B) 1 = 5 := by
    rw [← hB]
    show (if (1 : Int) = 0 then w else sT (aS A) 1) = 5
    rw [if_neg (by decide)]
    exact h1
  have b2 : sT (aS B) 2 = 3 := by
    rw [← hB]
    show (if (2 : Int) = 0 then w else sT (aS A) 2) = 3
    rw [if_neg (by decide)]
    exact h2
  simp (disch := omega) only [h0, g67_54, g67_56, g67_59, g67_60, g67_61, Option.toList_some, Option.toList_none, List.cons_append, List.nil_append, true_and, and_true, true_or, or_true, eq_self, ci0, ci1, cin6, forall_const, not_true_eq_false, not_false_eq_true, fimp, timp, i10, i01, cm_rne, and_assoc]
  (repeat' apply And.intro) <;> (try omega) <;> (try (intro hx; exfalso; omega))
  refine c67_62 (Nat.le_of_ble_eq_true rfl) hX.1 (p_set hX (ht.of (fun k hk => f1 k (by omega))) r1 v1 cn1 iy (fun M2 r2' f2 => ?_))
  rw [s1 B 1 y k2] at r2' ⊢
  have v2 : vA (chg B (sSet (aS B) 1 y)) := vA_chg v1 (vS_set v1.1 k2)
  have r2 : rXA M2 (chg B (sSet (aS B) 1 y)) := r2'
  generalize hC : chg B (sSet (aS B) 1 y) = C at *
  have c0 : sT (aS C) 0 = w := by
    rw [← hC]
    show (if (0 : Int) = 1 then y else sT (aS B) 0) = w
    rw [if_neg (by decide)]
    exact b0
  have c1 : sT (aS C) 1 = y := by
    rw [← hC]
    show (if (1 : Int) = 1 then y else sT (aS B) 1) = y
    exact if_pos rfl
  have c2 : sT (aS C) 2 = 3 := by
    rw [← hC]
    show (if (2 : Int) = 1 then y else sT (aS B) 2) = 3
    rw [if_neg (by decide)]
    exact b2
  simp (disch := omega) only [b1, g67_65, g67_66, g67_69, g67_70, g67_71, Option.toList_some, Option.toList_none, List.cons_append, List.nil_append, true_and, and_true, true_or, or_true, eq_self, ci0, ci1, cin6, forall_const, not_true_eq_false, not_false_eq_true, fimp, timp, i10, i01, cm_rne, and_assoc]
  (repeat' apply And.intro) <;> (try omega) <;> (try (intro hx; exfalso; omega))
  have f12 := f1.tr f2
  refine c67_73 (Nat.le_of_ble_eq_true rfl) hX.1 (p_set hX (ht.of (fun k hk => f12 k (by omega))) r2 v2 i1 iz (fun M3 r3' f3 => ?_))
  rw [s1 C 2 z k3] at r3' ⊢
  have v3 : vA (chg C (sSet (aS C) 2 z)) := vA_chg v2 (vS_set v2.1 k3)
  have r3 : rXA M3 (chg C (sSet (aS C) 2 z)) := r3'
  generalize hD : chg C (sSet (aS C) 2 z) = D at *
  have d0 : sT (aS D) 0 = w := by
    rw [← hD]
    show (if (0 : Int) = 2 then z else sT (aS C) 0) = w
    rw [if_neg (by decide)]
    exact c0
  have d1 : sT (aS D) 1 = y := by
    rw [← hD]
    show (if (1 : Int) = 2 then z else sT (aS C) 1) = y
    rw [if_neg (by decide)]
    exact c1
  have d2 : sT (aS D) 2 = z := by
    rw [← hD]
    show (if (2 : Int) = 2 then z else sT (aS C) 2) = z
    exact if_pos rfl
  simp (disch := omega) only [c2, g67_76, g67_77, g67_80, g67_81, Option.toList_some, Option.toList_none, List.cons_append, List.nil_append, true_and, and_true, true_or, or_true, eq_self, ci0, ci1, cin6, forall_const, not_true_eq_false, not_false_eq_true, fimp, timp, i10, i01, cm_rne, and_assoc]
  (repeat' apply And.intro) <;> (try omega) <;> (try (intro hx; exfalso; omega))
  refine c67_83 (Nat.le_of_ble_eq_true rfl) hX.1 (p_count hX r3 v3 ⟨by decide, by decide⟩ (fun M4 r4 f4 => ?_))
  simp (disch := omega) only [xC7, d0, g67_86, g67_87, g67_90, g67_91, Option.toList_some, Option.toList_none, List.cons_append, List.nil_append, true_and, and_true, true_or, or_true, eq_self, ci0, ci1, cin6, forall_const, not_true_eq_false, not_false_eq_true, fimp, timp, i10, i01, cm_rne, and_assoc]
  (repeat' apply And.intro) <;> (try omega) <;> (try (intro hx; exfalso; omega))
  refine c67_93 (Nat.le_of_ble_eq_true rfl) hX.1 (p_count hX r4 v3 ⟨by decide, by decide⟩ (fun M5 r5 f5 => ?_))
  simp (disch := omega) only [xC8, d1, g67_96, g67_97, g67_100, g67_101, Option.toList_some, Option.toList_none, List.cons_append, List.nil_append, true_and, and_true, true_or, or_true, eq_self, ci0, ci1, cin6, forall_const, not_true_eq_false, not_false_eq_true, fimp, timp, i10, i01, cm_rne, and_assoc]
  (repeat' apply And.intro) <;> (try omega) <;> (try (intro hx; exfalso; omega))
  refine c67_103 (Nat.le_of_ble_eq_true rfl) hX.1 (p_count hX r5 v3 ⟨by decide, by decide⟩ (fun M6 r6 f6 => ?_))
  simp (disch := omega) only [xC9, d2, g67_106, g67_108, g67_111, g67_112, g67_115, g67_116, Option.toList_some, Option.toList_none, List.cons_append, List.nil_append, true_and, and_true, true_or, or_true, eq_self, ci0, ci1, cin6, forall_const, not_true_eq_false, not_false_eq_true, fimp, timp, i10, i01, cm_rne, and_assoc]
  (repeat' apply And.intro) <;> (try omega) <;> (try (intro hx; exfalso; omega))
  exact K M6 _ r6 v3 ((((f12.tr f3).tr f4).tr f5).tr f6)
theorem l_settings (hX : isX G) (ht : tbl M) (hA : rXA M A) (hv : vA A) (h0 : sT (aS A) 0 = 10) (h1 : sT (aS A) 1 = 5) (h2 : sT (aS A) 2 = 3) (K : ∀ M' A', rXA M' A' → vA A' → fr M M' 0 81 → Q (some (0, 1)) G M') : Go 67 0 [some (2, 0), some (0, g), none, none, none] [] G M Q := by
  have w1 := lw_b g (n := 17) (by decide)
  simp (disch := omega) only [g67_0, g67_1, g67_2, Option.toList_some, Option.toList_none, List.cons_append, List.nil_append, true_and, and_true, true_or, or_true, eq_self, ci0, ci1, cin6, forall_const, not_true_eq_false, not_false_eq_true, fimp, timp, i10, i01, cm_rne, and_assoc]
  refine c67_4 (Nat.le_of_ble_eq_true rfl) (l_low (by omega) ?_)
  simp (disch := omega) only [g67_7, g67_8, g67_9, g67_10, g67_11, g67_12, g67_13, g67_14, g67_16, g67_17, Option.toList_some, Option.toList_none, List.cons_append, List.nil_append, true_and, and_true, true_or, or_true, eq_self, ci0, ci1, cin6, forall_const, not_true_eq_false, not_false_eq_true, fimp, timp, i10, i01, cm_rne, and_assoc]
  refine c67_18 (Nat.le_of_ble_eq_true rfl) (l_low (by omega) ?_)
  have w2 := lw_b (cm_ishr g 10) (n := 2) (by decide)
  have rest : ∀ m, (8 ≤ m ∧ m ≤ 30) → Go 67 31 [some (2, 0), some (0, g), some (0, 4 + lw g 17), none, none] [(0, m), (0, cm_ishr g 5), (0, 1)] G M Q := by
    intro m hm
    refine c67_31 (Nat.le_of_ble_eq_true rfl) (l_low (by omega) ?_)
    have w3 := lw_b (cm_ishr g 5) (n := m) (by omega)
    simp (disch := omega) only [g67_34, g67_35, g67_36, g67_37, g67_38, g67_40, g67_41, Option.toList_some, Option.toList_none, List.cons_append, List.nil_append, true_and, and_true, true_or, or_true, eq_self, ci0, ci1, cin6, forall_const, not_true_eq_false, not_false_eq_true, fimp, timp, i10, i01, cm_rne, and_assoc]
    refine c67_42 (Nat.le_of_ble_eq_true rfl) (l_low (by omega) ?_)
    have w4 := lw_b (cm_ishr g 11) (n := 4) (by decide)
    simp (disch := omega) only [g67_45, g67_46, Option.toList_some, Option.toList_none, List.cons_append, List.nil_append, true_and, and_true, true_or, or_true, eq_self, ci0, ci1, cin6, forall_const, not_true_eq_false, not_false_eq_true, fimp, timp, i10, i01, cm_rne, and_assoc]
    exact l_set3 hX ht hA hv h0 h1 h2 (by omega) (by omega) (by omega) K
  simp (disch := omega) only [g67_21, g67_24, g67_26, g67_29, Option.toList_some, Option.toList_none, List.cons_append, List.nil_append, true_and, and_true, true_or, or_true, eq_self, ci0, ci1, cin6, forall_const, not_true_eq_false, not_false_eq_true, fimp, timp, i10, i01, cm_rne, and_assoc]
  (repeat' apply And.intro) <;> (try omega) <;> (try (intro hx; exfalso; omega))
  · exact fun _ => rest 8 (by omega)
  · exact fun _ => rest 30 (by omega)
end LAW3
