/-! ===== what the constructors leave: the class ===== -/
def A0 : sA := (S0, 0, fun _ => S0, fun _ => 0, fun _ => S0, 0, fun _ => 0)
theorem vA0 : vA A0 := ⟨vS0, ⟨⟨by decide, by decide⟩, fun j a b => by
  have b : j < 0 := b
  omega⟩, fun s _ _ => ⟨Or.inl rfl, fun h => by
  have h : (0 : Int) = 1 := h
  omega⟩, ⟨by decide, by decide⟩, fun k a b => by
  have b : k < 0 := b
  omega⟩
theorem rC_lt {M M' : cm_M} {c n : Int} {S : sS} (h : rC M c S) (f : ∀ a, a < n → M' a = M a) (hc : c + 5 < n) : rC M' c S := by
  obtain ⟨r1, r2, r3⟩ := h
  refine ⟨by rw [f c (by omega)]; exact r1, fun j a b => by rw [f (c + 1) (by omega)]; exact r2 j a b, fun i a b => ?_⟩
  rw [f (c + 2) (by omega), f (c + 3) (by omega), f (c + 4) (by omega), f (c + 5) (by omega)]
  exact r3 i a b
theorem isP_st {G G' : cm_G} (h : isP G) (E : ∀ a, 27 ≤ a → a < 29 → cm_sh G' a = cm_sh G a ∧ G'.2 a = G.2 a) : isP G' := by
  obtain ⟨h1, h2, h3⟩ := h
  refine ⟨(E 27 (by decide) (by decide)).1.trans h1, by rw [(E 27 (by decide) (by decide)).2]; exact h2, fun M => ?_⟩
  rw [al_st (by omega) (E 28 (by decide) (by decide)).1]
  exact h3 M
theorem isH_st {G G' : cm_G} (h : isH G) (E : ∀ a, 29 ≤ a → a < 67 → cm_sh G' a = cm_sh G a ∧ G'.2 a = G.2 a) : isH G' := by
  obtain ⟨h1, h2, h3, h4⟩ := h
  refine ⟨(E 29 (by decide) (by decide)).1.trans h1, by rw [(E 29 (by decide) (by decide)).2]; exact h2, fun M => ?_, fun j a b => ⟨?_, ?_⟩⟩
  · rw [al_st (by omega) (E 30 (by decide) (by decide)).1]
    exact h3 M
  · rw [(E 30 (by decide) (by decide)).2]
    exact (h4 j a b).1
  · exact isC_st (h4 j a b).2 (fun c h1 h2 => (E c (by omega) (by omega)).1) (E _ (by omega) (by omega)).2
theorem isL_st {G G' : cm_G} (h : isL G) (E : ∀ a, 67 ≤ a → a < 82 → cm_sh G' a = cm_sh G a ∧ G'.2 a = G.2 a) : isL G' := by
  obtain ⟨h1, h2, h3, h4, h5, h6⟩ := h
  refine ⟨(E 67 (by decide) (by decide)).1.trans h1, by rw [(E 67 (by decide) (by decide)).2]; exact h2, by rw [(E 67 (by decide) (by decide)).2]; exact h3, fun M => ?_, fun M => ?_, fun j a b => ⟨?_, ?_⟩⟩
  · rw [al_st (by omega) (E 68 (by decide) (by decide)).1]
    exact h4 M
  · rw [al_st (by omega) (E 69 (by decide) (by decide)).1]
    exact h5 M
  · rw [(E 68 (by decide) (by decide)).2]
    exact (h6 j a b).1
  · exact isC_st (h6 j a b).2 (fun c h1 h2 => (E c (by omega) (by omega)).1) (E _ (by omega) (by omega)).2
theorem isX_st {G G' : cm_G} (h : isX G) (E : ∀ a, a < 82 → cm_sh G' a = cm_sh G a ∧ G'.2 a = G.2 a) : isX G' := by
  obtain ⟨h1, h2, h3, h4, h5, h6, h7, h8, h9⟩ := h
  have c1 : isC G' 1 := isC_st h3 (fun a _ _ => (E a (by omega)).1) (E 1 (by decide)).2
  have c2 : isC G' 14 := isC_st h5 (fun a _ _ => (E a (by omega)).1) (E 14 (by decide)).2
  exact ⟨(E 0 (by decide)).1.trans h1, by rw [(E 0 (by decide)).2]; exact h2, c1, isK_st h4 c1 (fun a _ _ => (E a (by omega)).1) (E 7 (by decide)).2, c2, isK_st h6 c2 (fun a _ _ => (E a (by omega)).1) (E 20 (by decide)).2, isP_st h7 (fun a _ _ => E a (by omega)), isH_st h8 (fun a _ _ => E a (by omega)), isL_st h9 (fun a _ _ => E a (by omega))⟩
section INIT3
variable {G : cm_G} {M : cm_M} {m : Int} {Q : Option cm_V → cm_G → cm_M → Prop}
theorem p_initX (hl : lz G 1) (hk : cm_sh G 0 = some (0, 5)) (ht : tb3 M) (K : ∀ G' M', lz G' 82 → isX G' → (∀ a, a < 0 → M' a = M a) → rXA M' A0 → Q none G' M') : Go 55 0 [some (2, 0)] [] G M Q := by
  have l0 := hl
  have h0 := hk
  have t0 := ht
  have e0 : ∀ a, a < 0 → M a = M a := fun a _ => rfl
  -- 1
  simp (disch := omega) only [g55_0, g55_1, g55_4, g55_5, Option.toList_some, Option.toList_none, List.cons_append, List.nil_append, true_and, and_true, true_or, or_true, eq_self, ci0, ci1, cin6, forall_const, not_true_eq_false, not_false_eq_true, fimp, timp, i10, i01, cm_rne, and_assoc, h0]
  (repeat' apply And.intro) <;> (try omega) <;> (try (intro hx; exfalso; omega))
  refine go_obj2 l0 (by decide +kernel) (fun A1 B1 la1 xa1 na1 za1 => ?_)
  simp (disch := omega) only [g55_8, Option.toList_some, Option.toList_none, List.cons_append, List.nil_append, true_and, and_true, true_or, or_true, eq_self, ci0, ci1, cin6, forall_const, not_true_eq_false, not_false_eq_true, fimp, timp, i10, i01, cm_rne, and_assoc]
  refine c55_9 (Nat.le_of_ble_eq_true rfl) na1 (p_initC la1 (by decide) na1 (t0.of (xa1 (-3) (by decide)).2.2) za1 (fun D1 N1 lb1 xb1 yb1 ib1 cb1 => ?_))
  have x1 := xa1.tr xb1
  have hb1 : cm_sh D1 0 = some (0, 5) := (x1 0 (by decide)).1.trans h0
  simp (disch := omega) only [g55_12, Option.toList_some, Option.toList_none, List.cons_append, List.nil_append, true_and, and_true, true_or, or_true, eq_self, ci0, ci1, cin6, forall_const, not_true_eq_false, not_false_eq_true, fimp, timp, i10, i01, cm_rne, and_assoc, hb1]
  (repeat' apply And.intro) <;> (try omega) <;> (try (intro hx; exfalso; omega))
  refine go_fld (fun G1 es1 ss1 rs1 => ?_)
  have l1 : lz G1 7 := lb1.of es1
  have h1 : cm_sh G1 0 = some (0, 5) := (ss1 0).trans hb1
  have w1 : ∀ a, a ≠ 0 → G1.2 a = D1.2 a := fun a ha => by rw [rs1, cm_rne ha]
  have t1 : tb3 N1 := t0.of (x1 (-3) (by decide)).2.2
  have e1 : ∀ a, a < 0 → N1 a = M a := fun a ha => (x1 a (by omega)).2.2.trans (e0 a ha)
  have f1_0 : G1.2 0 0 = 1 := by rw [rs1, cm_up_s]
  have i1_0 : isC G1 1 := isC_st ib1 (fun a _ _ => ss1 a) (w1 1 (by decide))
  have r1 : rC N1 1 S0 := cb1
  -- 2
  simp (disch := omega) only [g55_15, g55_16, Option.toList_some, Option.toList_none, List.cons_append, List.nil_append, true_and, and_true, true_or, or_true, eq_self, ci0, ci1, cin6, forall_const, not_true_eq_false, not_false_eq_true, fimp, timp, i10, i01, cm_rne, and_assoc, h1]
  refine go_obj2 l1 (by decide +kernel) (fun A2 B2 la2 xa2 na2 za2 => ?_)
  have ha2 : cm_sh A2 0 = some (0, 5) := (xa2 0 (by decide)).1.trans h1
  have fa2 : A2.2 0 0 = 1 := by rw [(xa2 0 (by decide)).2.1]; exact f1_0
  simp (disch := omega) only [g55_19, g55_20, g55_21, Option.toList_some, Option.toList_none, List.cons_append, List.nil_append, true_and, and_true, true_or, or_true, eq_self, ci0, ci1, cin6, forall_const, not_true_eq_false, not_false_eq_true, fimp, timp, i10, i01, cm_rne, and_assoc, ha2, fa2]
  have ic2 : isC A2 1 := isC_st i1_0 (fun a h1 h2 => (xa2 a (by omega)).1) (xa2 1 (by decide)).2.1
  refine c55_24 (Nat.le_of_ble_eq_true rfl) na2 (p_initK la2 (by decide) na2 ic2 (by decide) (fun D2 N2 lb2 xb2 yb2 ib2 => ?_))
  have x2 := xa2.tr xb2
  have hb2 : cm_sh D2 0 = some (0, 5) := (x2 0 (by decide)).1.trans h1
  simp (disch := omega) only [g55_27, Option.toList_some, Option.toList_none, List.cons_append, List.nil_append, true_and, and_true, true_or, or_true, eq_self, ci0, ci1, cin6, forall_const, not_true_eq_false, not_false_eq_true, fimp, timp, i10, i01, cm_rne, and_assoc, hb2]
  (repeat' apply And.intro) <;> (try omega) <;> (try (intro hx; exfalso; omega))
  refine go_fld (fun G2 es2 ss2 rs2 => ?_)
  have l2 : lz G2 14 := lb2.of es2
  have h2 : cm_sh G2 0 = some (0, 5) := (ss2 0).trans hb2
  have w2 : ∀ a, a ≠ 0 → G2.2 a = D2.2 a := fun a ha => by rw [rs2, cm_rne ha]
  have t2 : tb3 N2 := t1.of (x2 (-3) (by decide)).2.2
  have e2 : ∀ a, a < 0 → N2 a = M a := fun a ha => (x2 a (by omega)).2.2.trans (e1 a ha)
  have E2 : ∀ a, 1 ≤ a → a < 7 → cm_sh G2 a = cm_sh G1 a ∧ G2.2 a = G1.2 a := fun a h1 h2 => ⟨(ss2 a).trans (x2 a (by omega)).1, (w2 a (by omega)).trans (x2 a (by omega)).2.1⟩
  have f2_0 : G2.2 0 0 = 1 := by rw [rs2, cm_up_n _ (Or.inr (by decide)), (x2 0 (by decide)).2.1]; exact f1_0
  have f2_1 : G2.2 0 1 = 7 := by rw [rs2, cm_up_s]
  have i2_0 : isC G2 1 := isC_st i1_0 (fun a h1 h2 => (E2 a (by omega) (by omega)).1) (E2 1 (by decide) (by decide)).2
  have i2_1 : isK G2 7 1 := isK_st ib2 i2_0 (fun a _ _ => ss2 a) (w2 7 (by decide))
  have r2 : rC N2 1 S0 := rC_lt r1 (fun a ha => (x2 a ha).2.2) (by decide)
  -- 3
  simp (disch := omega) only [g55_30, g55_31, Option.toList_some, Option.toList_none, List.cons_append, List.nil_append, true_and, and_true, true_or, or_true, eq_self, ci0, ci1, cin6, forall_const, not_true_eq_false, not_false_eq_true, fimp, timp, i10, i01, cm_rne, and_assoc, h2]
  refine go_obj2 l2 (by decide +kernel) (fun A3 B3 la3 xa3 na3 za3 => ?_)
  simp (disch := omega) only [g55_34, Option.toList_some, Option.toList_none, List.cons_append, List.nil_append, true_and, and_true, true_or, or_true, eq_self, ci0, ci1, cin6, forall_const, not_true_eq_false, not_false_eq_true, fimp, timp, i10, i01, cm_rne, and_assoc]
  refine c55_35 (Nat.le_of_ble_eq_true rfl) na3 (p_initC la3 (by decide) na3 (t2.of (xa3 (-3) (by decide)).2.2) za3 (fun D3 N3 lb3 xb3 yb3 ib3 cb3 => ?_))
  have x3 := xa3.tr xb3
  have hb3 : cm_sh D3 0 = some (0, 5) := (x3 0 (by decide)).1.trans h2
  simp (disch := omega) only [g55_38, Option.toList_some, Option.toList_none, List.cons_append, List.nil_append, true_and, and_true, true_or, or_true, eq_self, ci0, ci1, cin6, forall_const, not_true_eq_false, not_false_eq_true, fimp, timp, i10, i01, cm_rne, and_assoc, hb3]
  (repeat' apply And.intro) <;> (try omega) <;> (try (intro hx; exfalso; omega))
  refine go_fld (fun G3 es3 ss3 rs3 => ?_)
  have l3 : lz G3 20 := lb3.of es3
  have h3 : cm_sh G3 0 = some (0, 5) := (ss3 0).trans hb3
  have w3 : ∀ a, a ≠ 0 → G3.2 a = D3.2 a := fun a ha => by rw [rs3, cm_rne ha]
  have t3 : tb3 N3 := t2.of (x3 (-3) (by decide)).2.2
  have e3 : ∀ a, a < 0 → N3 a = M a := fun a ha => (x3 a (by omega)).2.2.trans (e2 a ha)
  have E3 : ∀ a, 1 ≤ a → a < 14 → cm_sh G3 a = cm_sh G2 a ∧ G3.2 a = G2.2 a := fun a h1 h2 => ⟨(ss3 a).trans (x3 a (by omega)).1, (w3 a (by omega)).trans (x3 a (by omega)).2.1⟩
  have f3_0 : G3.2 0 0 = 1 := by rw [rs3, cm_up_n _ (Or.inr (by decide)), (x3 0 (by decide)).2.1]; exact f2_0
  have f3_1 : G3.2 0 1 = 7 := by rw [rs3, cm_up_n _ (Or.inr (by decide)), (x3 0 (by decide)).2.1]; exact f2_1
  have f3_2 : G3.2 0 2 = 14 := by rw [rs3, cm_up_s]
  have i3_0 : isC G3 1 := isC_st i2_0 (fun a h1 h2 => (E3 a (by omega) (by omega)).1) (E3 1 (by decide) (by decide)).2
  have i3_1 : isK G3 7 1 := isK_st i2_1 i3_0 (fun a h1 h2 => (E3 a (by omega) (by omega)).1) (E3 7 (by decide) (by decide)).2
  have i3_2 : isC G3 14 := isC_st ib3 (fun a _ _ => ss3 a) (w3 14 (by decide))
  have r3 : rC N3 1 S0 := rC_lt r2 (fun a ha => (x3 a ha).2.2) (by decide)
  -- 4
  simp (disch := omega) only [g55_41, g55_42, Option.toList_some, Option.toList_none, List.cons_append, List.nil_append, true_and, and_true, true_or, or_true, eq_self, ci0, ci1, cin6, forall_const, not_true_eq_false, not_false_eq_true, fimp, timp, i10, i01, cm_rne, and_assoc, h3]
  refine go_obj2 l3 (by decide +kernel) (fun A4 B4 la4 xa4 na4 za4 => ?_)
  have ha4 : cm_sh A4 0 = some (0, 5) := (xa4 0 (by decide)).1.trans h3
  have fa4 : A4.2 0 2 = 14 := by rw [(xa4 0 (by decide)).2.1]; exact f3_2
  simp (disch := omega) only [g55_45, g55_46, g55_47, Option.toList_some, Option.toList_none, List.cons_append, List.nil_append, true_and, and_true, true_or, or_true, eq_self, ci0, ci1, cin6, forall_const, not_true_eq_false, not_false_eq_true, fimp, timp, i10, i01, cm_rne, and_assoc, ha4, fa4]
  have ic4 : isC A4 14 := isC_st i3_2 (fun a h1 h2 => (xa4 a (by omega)).1) (xa4 14 (by decide)).2.1
  refine c55_50 (Nat.le_of_ble_eq_true rfl) na4 (p_initK la4 (by decide) na4 ic4 (by decide) (fun D4 N4 lb4 xb4 yb4 ib4 => ?_))
  have x4 := xa4.tr xb4
  have hb4 : cm_sh D4 0 = some (0, 5) := (x4 0 (by decide)).1.trans h3
  simp (disch := omega) only [g55_53, Option.toList_some, Option.toList_none, List.cons_append, List.nil_append, true_and, and_true, true_or, or_true, eq_self, ci0, ci1, cin6, forall_const, not_true_eq_false, not_false_eq_true, fimp, timp, i10, i01, cm_rne, and_assoc, hb4]
  (repeat' apply And.intro) <;> (try omega) <;> (try (intro hx; exfalso; omega))
  refine go_fld (fun G4 es4 ss4 rs4 => ?_)
  have l4 : lz G4 27 := lb4.of es4
  have h4 : cm_sh G4 0 = some (0, 5) := (ss4 0).trans hb4
  have w4 : ∀ a, a ≠ 0 → G4.2 a = D4.2 a := fun a ha => by rw [rs4, cm_rne ha]
  have t4 : tb3 N4 := t3.of (x4 (-3) (by decide)).2.2
  have e4 : ∀ a, a < 0 → N4 a = M a := fun a ha => (x4 a (by omega)).2.2.trans (e3 a ha)
  have E4 : ∀ a, 1 ≤ a → a < 20 → cm_sh G4 a = cm_sh G3 a ∧ G4.2 a = G3.2 a := fun a h1 h2 => ⟨(ss4 a).trans (x4 a (by omega)).1, (w4 a (by omega)).trans (x4 a (by omega)).2.1⟩
  have f4_0 : G4.2 0 0 = 1 := by rw [rs4, cm_up_n _ (Or.inr (by decide)), (x4 0 (by decide)).2.1]; exact f3_0
  have f4_1 : G4.2 0 1 = 7 := by rw [rs4, cm_up_n _ (Or.inr (by decide)), (x4 0 (by decide)).2.1]; exact f3_1
  have f4_2 : G4.2 0 2 = 14 := by rw [rs4, cm_up_n _ (Or.inr (by decide)), (x4 0 (by decide)).2.1]; exact f3_2
  have f4_3 : G4.2 0 3 = 20 := by rw [rs4, cm_up_s]
  have i4_0 : isC G4 1 := isC_st i3_0 (fun a h1 h2 => (E4 a (by omega) (by omega)).1) (E4 1 (by decide) (by decide)).2
  have i4_1 : isK G4 7 1 := isK_st i3_1 i4_0 (fun a h1 h2 => (E4 a (by omega) (by omega)).1) (E4 7 (by decide) (by decide)).2
  have i4_2 : isC G4 14 := isC_st i3_2 (fun a h1 h2 => (E4 a (by omega) (by omega)).1) (E4 14 (by decide) (by decide)).2
  have i4_3 : isK G4 20 14 := isK_st ib4 i4_2 (fun a _ _ => ss4 a) (w4 20 (by decide))
  have r4 : rC N4 1 S0 := rC_lt r3 (fun a ha => (x4 a ha).2.2) (by decide)
  -- 5
  simp (disch := omega) only [g55_56, g55_57, Option.toList_some, Option.toList_none, List.cons_append, List.nil_append, true_and, and_true, true_or, or_true, eq_self, ci0, ci1, cin6, forall_const, not_true_eq_false, not_false_eq_true, fimp, timp, i10, i01, cm_rne, and_assoc, h4]
  refine go_obj2 l4 (by decide +kernel) (fun A5 B5 la5 xa5 na5 za5 => ?_)
  simp (disch := omega) only [g55_60, Option.toList_some, Option.toList_none, List.cons_append, List.nil_append, true_and, and_true, true_or, or_true, eq_self, ci0, ci1, cin6, forall_const, not_true_eq_false, not_false_eq_true, fimp, timp, i10, i01, cm_rne, and_assoc]
  refine c55_61 (Nat.le_of_ble_eq_true rfl) na5 (p_initP la5 na5 (fun D5 N5 lb5 xb5 yb5 ib5 => ?_))
  have x5 := xa5.tr xb5
  have hb5 : cm_sh D5 0 = some (0, 5) := (x5 0 (by decide)).1.trans h4
  simp (disch := omega) only [g55_64, Option.toList_some, Option.toList_none, List.cons_append, List.nil_append, true_and, and_true, true_or, or_true, eq_self, ci0, ci1, cin6, forall_const, not_true_eq_false, not_false_eq_true, fimp, timp, i10, i01, cm_rne, and_assoc, hb5]
  (repeat' apply And.intro) <;> (try omega) <;> (try (intro hx; exfalso; omega))
  refine go_fld (fun G5 es5 ss5 rs5 => ?_)
  have l5 : lz G5 29 := lb5.of es5
  have h5 : cm_sh G5 0 = some (0, 5) := (ss5 0).trans hb5
  have w5 : ∀ a, a ≠ 0 → G5.2 a = D5.2 a := fun a ha => by rw [rs5, cm_rne ha]
  have t5 : tb3 N5 := t4.of (x5 (-3) (by decide)).2.2
  have e5 : ∀ a, a < 0 → N5 a = M a := fun a ha => (x5 a (by omega)).2.2.trans (e4 a ha)
  have E5 : ∀ a, 1 ≤ a → a < 27 → cm_sh G5 a = cm_sh G4 a ∧ G5.2 a = G4.2 a := fun a h1 h2 => ⟨(ss5 a).trans (x5 a (by omega)).1, (w5 a (by omega)).trans (x5 a (by omega)).2.1⟩
  have f5_0 : G5.2 0 0 = 1 := by rw [rs5, cm_up_n _ (Or.inr (by decide)), (x5 0 (by decide)).2.1]; exact f4_0
  have f5_1 : G5.2 0 1 = 7 := by rw [rs5, cm_up_n _ (Or.inr (by decide)), (x5 0 (by decide)).2.1]; exact f4_1
  have f5_2 : G5.2 0 2 = 14 := by rw [rs5, cm_up_n _ (Or.inr (by decide)), (x5 0 (by decide)).2.1]; exact f4_2
  have f5_3 : G5.2 0 3 = 20 := by rw [rs5, cm_up_n _ (Or.inr (by decide)), (x5 0 (by decide)).2.1]; exact f4_3
  have f5_4 : G5.2 0 4 = 27 := by rw [rs5, cm_up_s]
  have i5_0 : isC G5 1 := isC_st i4_0 (fun a h1 h2 => (E5 a (by omega) (by omega)).1) (E5 1 (by decide) (by decide)).2
  have i5_1 : isK G5 7 1 := isK_st i4_1 i5_0 (fun a h1 h2 => (E5 a (by omega) (by omega)).1) (E5 7 (by decide) (by decide)).2
  have i5_2 : isC G5 14 := isC_st i4_2 (fun a h1 h2 => (E5 a (by omega) (by omega)).1) (E5 14 (by decide) (by decide)).2
  have i5_3 : isK G5 20 14 := isK_st i4_3 i5_2 (fun a h1 h2 => (E5 a (by omega) (by omega)).1) (E5 20 (by decide) (by decide)).2
  have i5_4 : isP G5 := isP_st ib5 (fun a _ _ => ⟨ss5 a, w5 a (by omega)⟩)
  have r5 : rC N5 1 S0 := rC_lt r4 (fun a ha => (x5 a ha).2.2) (by decide)
  have u5 : N5 27 = fun _ => 0 := yb5.trans za5
  -- 6
  simp (disch := omega) only [g55_67, g55_68, Option.toList_some, Option.toList_none, List.cons_append, List.nil_append, true_and, and_true, true_or, or_true, eq_self, ci0, ci1, cin6, forall_const, not_true_eq_false, not_false_eq_true, fimp, timp, i10, i01, cm_rne, and_assoc, h5]
  refine go_obj2 l5 (by decide +kernel) (fun A6 B6 la6 xa6 na6 za6 => ?_)
  simp (disch := omega) only [g55_71, Option.toList_some, Option.toList_none, List.cons_append, List.nil_append, true_and, and_true, true_or, or_true, eq_self, ci0, ci1, cin6, forall_const, not_true_eq_false, not_false_eq_true, fimp, timp, i10, i01, cm_rne, and_assoc]
  refine c55_72 (Nat.le_of_ble_eq_true rfl) na6 (p_initH la6 na6 (t5.of (xa6 (-3) (by decide)).2.2) (fun D6 N6 lb6 xb6 yb6 ib6 => ?_))
  have x6 := xa6.tr xb6
  have hb6 : cm_sh D6 0 = some (0, 5) := (x6 0 (by decide)).1.trans h5
  simp (disch := omega) only [g55_75, Option.toList_some, Option.toList_none, List.cons_append, List.nil_append, true_and, and_true, true_or, or_true, eq_self, ci0, ci1, cin6, forall_const, not_true_eq_false, not_false_eq_true, fimp, timp, i10, i01, cm_rne, and_assoc, hb6]
  (repeat' apply And.intro) <;> (try omega) <;> (try (intro hx; exfalso; omega))
  refine go_fld (fun G6 es6 ss6 rs6 => ?_)
  have l6 : lz G6 67 := lb6.of es6
  have h6 : cm_sh G6 0 = some (0, 5) := (ss6 0).trans hb6
  have w6 : ∀ a, a ≠ 0 → G6.2 a = D6.2 a := fun a ha => by rw [rs6, cm_rne ha]
  have t6 : tb3 N6 := t5.of (x6 (-3) (by decide)).2.2
  have e6 : ∀ a, a < 0 → N6 a = M a := fun a ha => (x6 a (by omega)).2.2.trans (e5 a ha)
  have E6 : ∀ a, 1 ≤ a → a < 29 → cm_sh G6 a = cm_sh G5 a ∧ G6.2 a = G5.2 a := fun a h1 h2 => ⟨(ss6 a).trans (x6 a (by omega)).1, (w6 a (by omega)).trans (x6 a (by omega)).2.1⟩
  have f6_0 : G6.2 0 0 = 1 := by rw [rs6, cm_up_n _ (Or.inr (by decide)), (x6 0 (by decide)).2.1]; exact f5_0
  have f6_1 : G6.2 0 1 = 7 := by rw [rs6, cm_up_n _ (Or.inr (by decide)), (x6 0 (by decide)).2.1]; exact f5_1
  have f6_2 : G6.2 0 2 = 14 := by rw [rs6, cm_up_n _ (Or.inr (by decide)), (x6 0 (by decide)).2.1]; exact f5_2
  have f6_3 : G6.2 0 3 = 20 := by rw [rs6, cm_up_n _ (Or.inr (by decide)), (x6 0 (by decide)).2.1]; exact f5_3
  have f6_4 : G6.2 0 4 = 27 := by rw [rs6, cm_up_n _ (Or.inr (by decide)), (x6 0 (by decide)).2.1]; exact f5_4
  have f6_5 : G6.2 0 5 = 29 := by rw [rs6, cm_up_s]
  have i6_0 : isC G6 1 := isC_st i5_0 (fun a h1 h2 => (E6 a (by omega) (by omega)).1) (E6 1 (by decide) (by decide)).2
  have i6_1 : isK G6 7 1 := isK_st i5_1 i6_0 (fun a h1 h2 => (E6 a (by omega) (by omega)).1) (E6 7 (by decide) (by decide)).2
  have i6_2 : isC G6 14 := isC_st i5_2 (fun a h1 h2 => (E6 a (by omega) (by omega)).1) (E6 14 (by decide) (by decide)).2
  have i6_3 : isK G6 20 14 := isK_st i5_3 i6_2 (fun a h1 h2 => (E6 a (by omega) (by omega)).1) (E6 20 (by decide) (by decide)).2
  have i6_4 : isP G6 := isP_st i5_4 (fun a _ _ => E6 a (by omega) (by omega))
  have i6_5 : isH G6 := isH_st ib6 (fun a _ _ => ⟨ss6 a, w6 a (by omega)⟩)
  have r6 : rC N6 1 S0 := rC_lt r5 (fun a ha => (x6 a ha).2.2) (by decide)
  have u6 : N6 27 = fun _ => 0 := (x6 27 (by decide)).2.2.trans u5
  have v6 : N6 29 = fun _ => 0 := yb6.trans za6
  -- 7
  simp (disch := omega) only [g55_78, g55_79, Option.toList_some, Option.toList_none, List.cons_append, List.nil_append, true_and, and_true, true_or, or_true, eq_self, ci0, ci1, cin6, forall_const, not_true_eq_false, not_false_eq_true, fimp, timp, i10, i01, cm_rne, and_assoc, h6]
  refine go_obj2 l6 (by decide +kernel) (fun A7 B7 la7 xa7 na7 za7 => ?_)
  simp (disch := omega) only [g55_82, Option.toList_some, Option.toList_none, List.cons_append, List.nil_append, true_and, and_true, true_or, or_true, eq_self, ci0, ci1, cin6, forall_const, not_true_eq_false, not_false_eq_true, fimp, timp, i10, i01, cm_rne, and_assoc]
  refine c55_83 (Nat.le_of_ble_eq_true rfl) na7 (p_initL la7 na7 (t6.of (xa7 (-3) (by decide)).2.2) (fun D7 N7 lb7 xb7 yb7 ib7 zb7 => ?_))
  have x7 := xa7.tr xb7
  have hb7 : cm_sh D7 0 = some (0, 5) := (x7 0 (by decide)).1.trans h6
  simp (disch := omega) only [g55_86, Option.toList_some, Option.toList_none, List.cons_append, List.nil_append, true_and, and_true, true_or, or_true, eq_self, ci0, ci1, cin6, forall_const, not_true_eq_false, not_false_eq_true, fimp, timp, i10, i01, cm_rne, and_assoc, hb7]
  (repeat' apply And.intro) <;> (try omega) <;> (try (intro hx; exfalso; omega))
  refine go_fld (fun G7 es7 ss7 rs7 => ?_)
  have l7 : lz G7 82 := lb7.of es7
  have h7 : cm_sh G7 0 = some (0, 5) := (ss7 0).trans hb7
  have w7 : ∀ a, a ≠ 0 → G7.2 a = D7.2 a := fun a ha => by rw [rs7, cm_rne ha]
  have t7 : tb3 N7 := t6.of (x7 (-3) (by decide)).2.2
  have e7 : ∀ a, a < 0 → N7 a = M a := fun a ha => (x7 a (by omega)).2.2.trans (e6 a ha)
  have E7 : ∀ a, 1 ≤ a → a < 67 → cm_sh G7 a = cm_sh G6 a ∧ G7.2 a = G6.2 a := fun a h1 h2 => ⟨(ss7 a).trans (x7 a (by omega)).1, (w7 a (by omega)).trans (x7 a (by omega)).2.1⟩
  have f7_0 : G7.2 0 0 = 1 := by rw [rs7, cm_up_n _ (Or.inr (by decide)), (x7 0 (by decide)).2.1]; exact f6_0
  have f7_1 : G7.2 0 1 = 7 := by rw [rs7, cm_up_n _ (Or.inr (by decide)), (x7 0 (by decide)).2.1]; exact f6_1
  have f7_2 : G7.2 0 2 = 14 := by rw [rs7, cm_up_n _ (Or.inr (by decide)), (x7 0 (by decide)).2.1]; exact f6_2
  have f7_3 : G7.2 0 3 = 20 := by rw [rs7, cm_up_n _ (Or.inr (by decide)), (x7 0 (by decide)).2.1]; exact f6_3
  have f7_4 : G7.2 0 4 = 27 := by rw [rs7, cm_up_n _ (Or.inr (by decide)), (x7 0 (by decide)).2.1]; exact f6_4
  have f7_5 : G7.2 0 5 = 29 := by rw [rs7, cm_up_n _ (Or.inr (by decide)), (x7 0 (by decide)).2.1]; exact f6_5
  have f7_6 : G7.2 0 6 = 67 := by rw [rs7, cm_up_s]
  have i7_0 : isC G7 1 := isC_st i6_0 (fun a h1 h2 => (E7 a (by omega) (by omega)).1) (E7 1 (by decide) (by decide)).2
  have i7_1 : isK G7 7 1 := isK_st i6_1 i7_0 (fun a h1 h2 => (E7 a (by omega) (by omega)).1) (E7 7 (by decide) (by decide)).2
  have i7_2 : isC G7 14 := isC_st i6_2 (fun a h1 h2 => (E7 a (by omega) (by omega)).1) (E7 14 (by decide) (by decide)).2
  have i7_3 : isK G7 20 14 := isK_st i6_3 i7_2 (fun a h1 h2 => (E7 a (by omega) (by omega)).1) (E7 20 (by decide) (by decide)).2
  have i7_4 : isP G7 := isP_st i6_4 (fun a _ _ => E7 a (by omega) (by omega))
  have i7_5 : isH G7 := isH_st i6_5 (fun a _ _ => E7 a (by omega) (by omega))
  have i7_6 : isL G7 := isL_st ib7 (fun a _ _ => ⟨ss7 a, w7 a (by omega)⟩)
  have r7 : rC N7 1 S0 := rC_lt r6 (fun a ha => (x7 a ha).2.2) (by decide)
  have u7 : N7 27 = fun _ => 0 := (x7 27 (by decide)).2.2.trans u6
  have v7 : N7 29 = fun _ => 0 := (x7 29 (by decide)).2.2.trans v6
  simp (disch := omega) only [g55_89, Option.toList_some, Option.toList_none, List.cons_append, List.nil_append, true_and, and_true, true_or, or_true, eq_self, ci0, ci1, cin6, forall_const, not_true_eq_false, not_false_eq_true, fimp, timp, i10, i01, cm_rne, and_assoc]
  refine K G7 N7 l7 ⟨h7, ⟨f7_0, f7_1, f7_2, f7_3, f7_4, f7_5, f7_6⟩, i7_0, i7_1, i7_2, i7_3, i7_4, i7_5, i7_6⟩ e7 ⟨r7, ⟨by rw [v7]; rfl, by decide, by rw [v7]; decide, fun j a b => ?_⟩, fun s _ _ => ⟨by rw [zb7]; rfl, fun h => ?_⟩, by rw [u7]; rfl, fun k a b => ?_⟩
  · have b : j < 0 := b
    omega
  · have h : (0 : Int) = 1 := h
    omega
  · have b : k < 0 := b
    omega
end INIT3
