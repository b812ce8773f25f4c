/-! ===== what the constructors leave: the class ===== -/
def A0 : sA := (S0, 0, fun _ => S0, fun _ => 0, fun _ => S0, 0, fun _ => 0)
theorem vA0 : vA A0 := ⟨vS0, ⟨⟨by decide, by decide⟩, fun j a b => by
  have b : j < 0 := b
  omega⟩, fun s _ _ => ⟨Or.inl rfl, fun h => by
  have h : (0 : Int) = 1 := h
  omega⟩, ⟨by decide, by decide⟩, fun k a b => by
  have b : k < 0 := b
  omega⟩
theorem rC_lt {M M' : cm_M} {c n : Int} {S : sS} (h : rC M c S) (f : ∀ a, a < n → M' a = M a) (hc : c + 5 < n) : rC M' c S := by
  obtain ⟨r1, r2, r3⟩ := h
  refine ⟨by rw [f c (by omega)]; exact r1, fun j a b => by rw [f (c + 1) (by omega)]; exact r2 j a b, fun i a b => ?_⟩
  rw [f (c + 2) (by omega), f (c + 3) (by omega), f (c + 4) (by omega), f (c + 5) (by omega)]
  exact r3 i a b
theorem isP_st {G G' : cm_G} (h : isP G) (E : ∀ a, 27 ≤ a → a < 29 → cm_sh G' a = cm_sh G a ∧ G'.2 a = G.2 a) : isP G' := by
  obtain ⟨h1, h2, h3⟩ := h
  refine ⟨(E 27 (by decide) (by decide)).1.trans h1, by rw [(E 27 (by decide) (by decide)).2]; exact h2, fun M => ?_⟩
  rw [al_st (by omega) (E 28 (by decide) (by decide)).1]
  exact h3 M
theorem isH_st {G G' : cm_G} (h : isH G) (E : ∀ a, 29 ≤ a → a < 67 → cm_sh G' a = cm_sh G a ∧ G'.2 a = G.2 a) : isH G' := by
  obtain ⟨h1, h2, h3, h4⟩ := h
  refine ⟨(E 29 (by decide) (by decide)).1.trans h1, by rw [(E 29 (by decide) (by decide)).2]; exact h2, fun M => ?_, fun j a b => ⟨?_, ?_⟩⟩
  · rw [al_st (by omega) (E 30 (by decide) (by decide)).1]
    exact h3 M
  · rw [(E 30 (by decide) (by decide)).2]
    exact (h4 j a b).1
  · exact isC_st (h4 j a b).2 (fun c h1 h2 => (E c (by omega) (by omega)).1) (E _ (by omega) (by omega)).2
theorem isL_st {G G' : cm_G} (h : isL G) (E : ∀ a, 67 ≤ a → a < 82 → cm_sh G' a = cm_sh G a ∧ G'.2 a = G.2 a) : isL G' := by
  obtain ⟨h1, h2, h3, h4, h5, h6⟩ := h
  refine ⟨(E 67 (by decide) (by decide)).1.trans h1, by rw [(E 67 (by decide) (by decide)).2]; exact h2, by rw [(E 67 (by decide) (by decide)).2]; exact h3, fun M => ?_, fun M => ?_, fun j a b => ⟨?_, ?_⟩⟩
  · rw [al_st (by omega) (E 68 (by decide) (by decide)).1]
    exact h4 M
  · rw [al_st (by omega) (E 69 (by decide) (by decide)).1]
    exact h5 M
  · rw [(E 68 (by decide) (by decide)).2]
    exact (h6 j a b).1
  · exact isC_st (h6 j a b).2 (fun c h1 h2 => (E c (by omega) (by omega)).1) (E _ (by omega) (by omega)).2
theorem isX_st {G G' : cm_G} (h : isX G) (E : ∀ a, a < 82 → cm_sh G' a = cm_sh G a ∧ G'.2 a = G.2 a) : isX G' := by
  obtain ⟨h1, h2, h3, h4, h5, h6, h7, h8, h9⟩ := h
  have c1 : isC G' 2 := isC_st h3 (fun a _ _ => (E a (by omega)).1) (E 2 (by decide)).2
  have c2 : isC G' 15 := isC_st h5 (fun a _ _ => (E a (by omega)).1) (E 15 (by decide)).2
  exact ⟨(E 0 (by decide)).1.trans h1, by rw [(E 0 (by decide)).2]; exact h2, c1, isK_st h4 c1 (fun a _ _ => (E a (by omega)).1) (E 1 (by decide)).2, c2, isK_st h6 c2 (fun a _ _ => (E a (by omega)).1) (E 14 (by decide)).2, isP_st h7 (fun a _ _ => E a (by omega)), isH_st h8 (fun a _ _ => E a (by omega)), isL_st h9 (fun a _ _ => E a (by omega))⟩
section INIT3
variable {G : cm_G} {M : cm_M} {m : Int} {Q : Option cm_V → cm_G → cm_M → Prop}
theorem p_initX (hl : lz G 1) (hk : cm_sh G 0 = some (0, 5)) (ht : tb3 M) (K : ∀ G' M', lz G' 82 → isX G' → (∀ a, a < 0 → M' a = M a) → rXA M' A0 → Q none G' M') : Go 55 0 [some (2, 0)] [] G M Q := by
  have l0 := hl
  have h0 := hk
  have t0 := ht
  have e0 : ∀ a, a < 0 → M a = M a := fun a _ => rfl
  -- 1
  simp (disch := omega) only [g55_0, g55_1, g55_4, g55_5, Option.toList_some, Option.toList_none, List.cons_append, List.nil_append, true_and, and_true, true_or, or_true, eq_self, ci0, ci1, cin6, forall_const, not_true_eq_false, not_false_eq_true, fimp, timp, i10, i01, cm_rne, and_assoc, h0]
  (repeat' apply And.intro) <;> (try omega) <;> (try (intro hx; exfalso; omega))
  refine go_obj2 l0 (by decide +kernel) (fun A1 B1 la1 xa1 na1 za1 => ?_)
  simp (disch := omega) only [g55_8, Option.toList_some, Option.toList_none, List.cons_append, List.nil_append, true_and, and_true, true_or, or_true, eq_self, ci0, ci1, cin6, forall_const, not_true_eq_false, not_false_eq_true, fimp, timp, i10, i01, cm_rne, and_assoc]
  refine c55_9 (Nat.le_of_ble_eq_true rfl) na1 (p_initK la1 (by decide) na1 (t0.of (xa1 (-3) (by decide)).2.2) (fun D1 N1 lb1 xb1 yb1 ib1 cb1 => ?_))
  have x1 := xa1.tr xb1
  have hb1 : cm_sh D1 0 = some (0, 5) := (x1 0 (by decide)).1.trans h0
  simp (disch := omega) only [g55_12, Option.toList_some, Option.toList_none, List.cons_append, List.nil_append, true_and, and_true, true_or, or_true, eq_self, ci0, ci1, cin6, forall_const, not_true_eq_false, not_false_eq_true, fimp, timp, i10, i01, cm_rne, and_assoc, hb1]
  (repeat' apply And.intro) <;> (try omega) <;> (try (intro hx; exfalso; omega))
  refine go_fld (fun F1 es1 ss1 rs1 => ?_)
  have hf1 : cm_sh F1 0 = some (0, 5) := (ss1 0).trans hb1
  have wf1 : ∀ a, a ≠ 0 → F1.2 a = D1.2 a := fun a ha => by rw [rs1, cm_rne ha]
  have fo1 : F1.2 0 0 = 1 := by rw [rs1, cm_up_s]
  have kb1 : isK D1 1 2 := ib1
  have kd1 : cm_sh F1 1 = some (0, 0) := (ss1 _).trans kb1.2.1
  have ke1 : F1.2 1 0 = 2 := by rw [wf1 1 (by decide)]; exact kb1.2.2.1.1
  simp (disch := omega) only [g55_15, g55_16, g55_17, g55_20, g55_23, Option.toList_some, Option.toList_none, List.cons_append, List.nil_append, true_and, and_true, true_or, or_true, eq_self, ci0, ci1, cin6, forall_const, not_true_eq_false, not_false_eq_true, fimp, timp, i10, i01, cm_rne, and_assoc, hf1, fo1, kd1, ke1]
  (repeat' apply And.intro) <;> (try omega) <;> (try (intro hx; exfalso; omega))
  refine go_fld (fun G1 et1 st1 rt1 => ?_)
  have l1 : lz G1 14 := (lb1.of es1).of et1
  have sd1 : ∀ a, cm_sh G1 a = cm_sh D1 a := fun a => (st1 a).trans (ss1 a)
  have w1 : ∀ a, a ≠ 0 → G1.2 a = D1.2 a := fun a ha => by rw [rt1, cm_rne ha]; exact wf1 a ha
  have h1 : cm_sh G1 0 = some (0, 5) := (sd1 0).trans hb1
  have t1 : tb3 N1 := t0.of (x1 (-3) (by decide)).2.2
  have e1 : ∀ a, a < 0 → N1 a = M a := fun a ha => (x1 a (by omega)).2.2.trans (e0 a ha)
  have f1_0 : G1.2 0 0 = 1 := by rw [rt1, cm_up_n _ (Or.inr (by decide))]; exact fo1
  have f1_1 : G1.2 0 1 = 2 := by rw [rt1, cm_up_s]
  have c1_1 : isC G1 2 := isC_st kb1.2.2.2.2.1 (fun a _ _ => sd1 a) (w1 2 (by decide))
  have k1_1 : isK G1 1 2 := isK_st kb1 c1_1 (fun a _ _ => sd1 a) (w1 1 (by decide))
  have r1 : rC N1 2 S0 := cb1
  -- 2
  simp (disch := omega) only [g55_26, g55_27, Option.toList_some, Option.toList_none, List.cons_append, List.nil_append, true_and, and_true, true_or, or_true, eq_self, ci0, ci1, cin6, forall_const, not_true_eq_false, not_false_eq_true, fimp, timp, i10, i01, cm_rne, and_assoc, h1]
  refine go_obj2 l1 (by decide +kernel) (fun A2 B2 la2 xa2 na2 za2 => ?_)
  simp (disch := omega) only [g55_30, Option.toList_some, Option.toList_none, List.cons_append, List.nil_append, true_and, and_true, true_or, or_true, eq_self, ci0, ci1, cin6, forall_const, not_true_eq_false, not_false_eq_true, fimp, timp, i10, i01, cm_rne, and_assoc]
  refine c55_31 (Nat.le_of_ble_eq_true rfl) na2 (p_initK la2 (by decide) na2 (t1.of (xa2 (-3) (by decide)).2.2) (fun D2 N2 lb2 xb2 yb2 ib2 cb2 => ?_))
  have x2 := xa2.tr xb2
  have hb2 : cm_sh D2 0 = some (0, 5) := (x2 0 (by decide)).1.trans h1
  simp (disch := omega) only [g55_34, Option.toList_some, Option.toList_none, List.cons_append, List.nil_append, true_and, and_true, true_or, or_true, eq_self, ci0, ci1, cin6, forall_const, not_true_eq_false, not_false_eq_true, fimp, timp, i10, i01, cm_rne, and_assoc, hb2]
  (repeat' apply And.intro) <;> (try omega) <;> (try (intro hx; exfalso; omega))
  refine go_fld (fun F2 es2 ss2 rs2 => ?_)
  have hf2 : cm_sh F2 0 = some (0, 5) := (ss2 0).trans hb2
  have wf2 : ∀ a, a ≠ 0 → F2.2 a = D2.2 a := fun a ha => by rw [rs2, cm_rne ha]
  have fo2 : F2.2 0 2 = 14 := by rw [rs2, cm_up_s]
  have kb2 : isK D2 14 15 := ib2
  have kd2 : cm_sh F2 14 = some (0, 0) := (ss2 _).trans kb2.2.1
  have ke2 : F2.2 14 0 = 15 := by rw [wf2 14 (by decide)]; exact kb2.2.2.1.1
  simp (disch := omega) only [g55_37, g55_38, g55_39, g55_42, g55_45, Option.toList_some, Option.toList_none, List.cons_append, List.nil_append, true_and, and_true, true_or, or_true, eq_self, ci0, ci1, cin6, forall_const, not_true_eq_false, not_false_eq_true, fimp, timp, i10, i01, cm_rne, and_assoc, hf2, fo2, kd2, ke2]
  (repeat' apply And.intro) <;> (try omega) <;> (try (intro hx; exfalso; omega))
  refine go_fld (fun G2 et2 st2 rt2 => ?_)
  have l2 : lz G2 27 := (lb2.of es2).of et2
  have sd2 : ∀ a, cm_sh G2 a = cm_sh D2 a := fun a => (st2 a).trans (ss2 a)
  have w2 : ∀ a, a ≠ 0 → G2.2 a = D2.2 a := fun a ha => by rw [rt2, cm_rne ha]; exact wf2 a ha
  have h2 : cm_sh G2 0 = some (0, 5) := (sd2 0).trans hb2
  have t2 : tb3 N2 := t1.of (x2 (-3) (by decide)).2.2
  have e2 : ∀ a, a < 0 → N2 a = M a := fun a ha => (x2 a (by omega)).2.2.trans (e1 a ha)
  have E2 : ∀ a, 1 ≤ a → a < 14 → cm_sh G2 a = cm_sh G1 a ∧ G2.2 a = G1.2 a := fun a h1 h2 => ⟨(sd2 a).trans (x2 a (by omega)).1, (w2 a (by omega)).trans (x2 a (by omega)).2.1⟩
  have f2_0 : G2.2 0 0 = 1 := by rw [rt2, cm_up_n _ (Or.inr (by decide)), rs2, cm_up_n _ (Or.inr (by decide)), (x2 0 (by decide)).2.1]; exact f1_0
  have f2_1 : G2.2 0 1 = 2 := by rw [rt2, cm_up_n _ (Or.inr (by decide)), rs2, cm_up_n _ (Or.inr (by decide)), (x2 0 (by decide)).2.1]; exact f1_1
  have f2_2 : G2.2 0 2 = 14 := by rw [rt2, cm_up_n _ (Or.inr (by decide))]; exact fo2
  have f2_3 : G2.2 0 3 = 15 := by rw [rt2, cm_up_s]
  have c2_1 : isC G2 2 := isC_st c1_1 (fun a h1 h2 => (E2 a (by omega) (by omega)).1) (E2 2 (by decide) (by decide)).2
  have k2_1 : isK G2 1 2 := isK_st k1_1 c2_1 (fun a h1 h2 => (E2 a (by omega) (by omega)).1) (E2 1 (by decide) (by decide)).2
  have c2_2 : isC G2 15 := isC_st kb2.2.2.2.2.1 (fun a _ _ => sd2 a) (w2 15 (by decide))
  have k2_2 : isK G2 14 15 := isK_st kb2 c2_2 (fun a _ _ => sd2 a) (w2 14 (by decide))
  have r2 : rC N2 2 S0 := rC_lt r1 (fun a ha => (x2 a ha).2.2) (by decide)
  -- 3
  simp (disch := omega) only [g55_48, g55_49, Option.toList_some, Option.toList_none, List.cons_append, List.nil_append, true_and, and_true, true_or, or_true, eq_self, ci0, ci1, cin6, forall_const, not_true_eq_false, not_false_eq_true, fimp, timp, i10, i01, cm_rne, and_assoc, h2]
  refine go_obj2 l2 (by decide +kernel) (fun A3 B3 la3 xa3 na3 za3 => ?_)
  simp (disch := omega) only [g55_52, Option.toList_some, Option.toList_none, List.cons_append, List.nil_append, true_and, and_true, true_or, or_true, eq_self, ci0, ci1, cin6, forall_const, not_true_eq_false, not_false_eq_true, fimp, timp, i10, i01, cm_rne, and_assoc]
  refine c55_53 (Nat.le_of_ble_eq_true rfl) na3 (p_initP la3 na3 (fun D3 N3 lb3 xb3 yb3 ib3 => ?_))
  have x3 := xa3.tr xb3
  have hb3 : cm_sh D3 0 = some (0, 5) := (x3 0 (by decide)).1.trans h2
  simp (disch := omega) only [g55_56, Option.toList_some, Option.toList_none, List.cons_append, List.nil_append, true_and, and_true, true_or, or_true, eq_self, ci0, ci1, cin6, forall_const, not_true_eq_false, not_false_eq_true, fimp, timp, i10, i01, cm_rne, and_assoc, hb3]
  (repeat' apply And.intro) <;> (try omega) <;> (try (intro hx; exfalso; omega))
  refine go_fld (fun G3 es3 ss3 rs3 => ?_)
  have l3 : lz G3 29 := lb3.of es3
  have sd3 : ∀ a, cm_sh G3 a = cm_sh D3 a := ss3
  have w3 : ∀ a, a ≠ 0 → G3.2 a = D3.2 a := fun a ha => by rw [rs3, cm_rne ha]
  have h3 : cm_sh G3 0 = some (0, 5) := (sd3 0).trans hb3
  have t3 : tb3 N3 := t2.of (x3 (-3) (by decide)).2.2
  have e3 : ∀ a, a < 0 → N3 a = M a := fun a ha => (x3 a (by omega)).2.2.trans (e2 a ha)
  have E3 : ∀ a, 1 ≤ a → a < 27 → cm_sh G3 a = cm_sh G2 a ∧ G3.2 a = G2.2 a := fun a h1 h2 => ⟨(sd3 a).trans (x3 a (by omega)).1, (w3 a (by omega)).trans (x3 a (by omega)).2.1⟩
  have f3_0 : G3.2 0 0 = 1 := by rw [rs3, cm_up_n _ (Or.inr (by decide)), (x3 0 (by decide)).2.1]; exact f2_0
  have f3_1 : G3.2 0 1 = 2 := by rw [rs3, cm_up_n _ (Or.inr (by decide)), (x3 0 (by decide)).2.1]; exact f2_1
  have f3_2 : G3.2 0 2 = 14 := by rw [rs3, cm_up_n _ (Or.inr (by decide)), (x3 0 (by decide)).2.1]; exact f2_2
  have f3_3 : G3.2 0 3 = 15 := by rw [rs3, cm_up_n _ (Or.inr (by decide)), (x3 0 (by decide)).2.1]; exact f2_3
  have f3_4 : G3.2 0 4 = 27 := by rw [rs3, cm_up_s]
  have c3_1 : isC G3 2 := isC_st c2_1 (fun a h1 h2 => (E3 a (by omega) (by omega)).1) (E3 2 (by decide) (by decide)).2
  have k3_1 : isK G3 1 2 := isK_st k2_1 c3_1 (fun a h1 h2 => (E3 a (by omega) (by omega)).1) (E3 1 (by decide) (by decide)).2
  have c3_2 : isC G3 15 := isC_st c2_2 (fun a h1 h2 => (E3 a (by omega) (by omega)).1) (E3 15 (by decide) (by decide)).2
  have k3_2 : isK G3 14 15 := isK_st k2_2 c3_2 (fun a h1 h2 => (E3 a (by omega) (by omega)).1) (E3 14 (by decide) (by decide)).2
  have i3_3 : isP G3 := isP_st ib3 (fun a _ _ => ⟨sd3 a, w3 a (by omega)⟩)
  have r3 : rC N3 2 S0 := rC_lt r2 (fun a ha => (x3 a ha).2.2) (by decide)
  have u3 : N3 27 = fun _ => 0 := yb3.trans za3
  -- 4
  simp (disch := omega) only [g55_59, g55_60, Option.toList_some, Option.toList_none, List.cons_append, List.nil_append, true_and, and_true, true_or, or_true, eq_self, ci0, ci1, cin6, forall_const, not_true_eq_false, not_false_eq_true, fimp, timp, i10, i01, cm_rne, and_assoc, h3]
  refine go_obj2 l3 (by decide +kernel) (fun A4 B4 la4 xa4 na4 za4 => ?_)
  simp (disch := omega) only [g55_63, Option.toList_some, Option.toList_none, List.cons_append, List.nil_append, true_and, and_true, true_or, or_true, eq_self, ci0, ci1, cin6, forall_const, not_true_eq_false, not_false_eq_true, fimp, timp, i10, i01, cm_rne, and_assoc]
  refine c55_64 (Nat.le_of_ble_eq_true rfl) na4 (p_initH la4 na4 (t3.of (xa4 (-3) (by decide)).2.2) (fun D4 N4 lb4 xb4 yb4 ib4 => ?_))
  have x4 := xa4.tr xb4
  have hb4 : cm_sh D4 0 = some (0, 5) := (x4 0 (by decide)).1.trans h3
  simp (disch := omega) only [g55_67, Option.toList_some, Option.toList_none, List.cons_append, List.nil_append, true_and, and_true, true_or, or_true, eq_self, ci0, ci1, cin6, forall_const, not_true_eq_false, not_false_eq_true, fimp, timp, i10, i01, cm_rne, and_assoc, hb4]
  (repeat' apply And.intro) <;> (try omega) <;> (try (intro hx; exfalso; omega))
  refine go_fld (fun G4 es4 ss4 rs4 => ?_)
  have l4 : lz G4 67 := lb4.of es4
  have sd4 : ∀ a, cm_sh G4 a = cm_sh D4 a := ss4
  have w4 : ∀ a, a ≠ 0 → G4.2 a = D4.2 a := fun a ha => by rw [rs4, cm_rne ha]
  have h4 : cm_sh G4 0 = some (0, 5) := (sd4 0).trans hb4
  have t4 : tb3 N4 := t3.of (x4 (-3) (by decide)).2.2
  have e4 : ∀ a, a < 0 → N4 a = M a := fun a ha => (x4 a (by omega)).2.2.trans (e3 a ha)
  have E4 : ∀ a, 1 ≤ a → a < 29 → cm_sh G4 a = cm_sh G3 a ∧ G4.2 a = G3.2 a := fun a h1 h2 => ⟨(sd4 a).trans (x4 a (by omega)).1, (w4 a (by omega)).trans (x4 a (by omega)).2.1⟩
  have f4_0 : G4.2 0 0 = 1 := by rw [rs4, cm_up_n _ (Or.inr (by decide)), (x4 0 (by decide)).2.1]; exact f3_0
  have f4_1 : G4.2 0 1 = 2 := by rw [rs4, cm_up_n _ (Or.inr (by decide)), (x4 0 (by decide)).2.1]; exact f3_1
  have f4_2 : G4.2 0 2 = 14 := by rw [rs4, cm_up_n _ (Or.inr (by decide)), (x4 0 (by decide)).2.1]; exact f3_2
  have f4_3 : G4.2 0 3 = 15 := by rw [rs4, cm_up_n _ (Or.inr (by decide)), (x4 0 (by decide)).2.1]; exact f3_3
  have f4_4 : G4.2 0 4 = 27 := by rw [rs4, cm_up_n _ (Or.inr (by decide)), (x4 0 (by decide)).2.1]; exact f3_4
  have f4_5 : G4.2 0 5 = 29 := by rw [rs4, cm_up_s]
  have c4_1 : isC G4 2 := isC_st c3_1 (fun a h1 h2 => (E4 a (by omega) (by omega)).1) (E4 2 (by decide) (by decide)).2
  have k4_1 : isK G4 1 2 := isK_st k3_1 c4_1 (fun a h1 h2 => (E4 a (by omega) (by omega)).1) (E4 1 (by decide) (by decide)).2
  have c4_2 : isC G4 15 := isC_st c3_2 (fun a h1 h2 => (E4 a (by omega) (by omega)).1) (E4 15 (by decide) (by decide)).2
  have k4_2 : isK G4 14 15 := isK_st k3_2 c4_2 (fun a h1 h2 => (E4 a (by omega) (by omega)).1) (E4 14 (by decide) (by decide)).2
  have i4_3 : isP G4 := isP_st i3_3 (fun a _ _ => E4 a (by omega) (by omega))
  have i4_4 : isH G4 := isH_st ib4 (fun a _ _ => ⟨sd4 a, w4 a (by omega)⟩)
  have r4 : rC N4 2 S0 := rC_lt r3 (fun a ha => (x4 a ha).2.2) (by decide)
  have u4 : N4 27 = fun _ => 0 := (x4 27 (by decide)).2.2.trans u3
  have v4 : N4 29 = fun _ => 0 := yb4.trans za4
  -- 5
  simp (disch := omega) only [g55_70, g55_71, Option.toList_some, Option.toList_none, List.cons_append, List.nil_append, true_and, and_true, true_or, or_true, eq_self, ci0, ci1, cin6, forall_const, not_true_eq_false, not_false_eq_true, fimp, timp, i10, i01, cm_rne, and_assoc, h4]
  refine go_obj2 l4 (by decide +kernel) (fun A5 B5 la5 xa5 na5 za5 => ?_)
  simp (disch := omega) only [g55_74, Option.toList_some, Option.toList_none, List.cons_append, List.nil_append, true_and, and_true, true_or, or_true, eq_self, ci0, ci1, cin6, forall_const, not_true_eq_false, not_false_eq_true, fimp, timp, i10, i01, cm_rne, and_assoc]
  refine c55_75 (Nat.le_of_ble_eq_true rfl) na5 (p_initL la5 na5 (t4.of (xa5 (-3) (by decide)).2.2) (fun D5 N5 lb5 xb5 yb5 ib5 zb5 => ?_))
  have x5 := xa5.tr xb5
  have hb5 : cm_sh D5 0 = some (0, 5) := (x5 0 (by decide)).1.trans h4
  simp (disch := omega) only [g55_78, Option.toList_some, Option.toList_none, List.cons_append, List.nil_append, true_and, and_true, true_or, or_true, eq_self, ci0, ci1, cin6, forall_const, not_true_eq_false, not_false_eq_true, fimp, timp, i10, i01, cm_rne, and_assoc, hb5]
  (repeat' apply And.intro) <;> (try omega) <;> (try (intro hx; exfalso; omega))
  refine go_fld (fun G5 es5 ss5 rs5 => ?_)
  have l5 : lz G5 82 := lb5.of es5
  have sd5 : ∀ a, cm_sh G5 a = cm_sh D5 a := ss5
  have w5 : ∀ a, a ≠ 0 → G5.2 a = D5.2 a := fun a ha => by rw [rs5, cm_rne ha]
  have h5 : cm_sh G5 0 = some (0, 5) := (sd5 0).trans hb5
  have t5 : tb3 N5 := t4.of (x5 (-3) (by decide)).2.2
  have e5 : ∀ a, a < 0 → N5 a = M a := fun a ha => (x5 a (by omega)).2.2.trans (e4 a ha)
  have E5 : ∀ a, 1 ≤ a → a < 67 → cm_sh G5 a = cm_sh G4 a ∧ G5.2 a = G4.2 a := fun a h1 h2 => ⟨(sd5 a).trans (x5 a (by omega)).1, (w5 a (by omega)).trans (x5 a (by omega)).2.1⟩
  have f5_0 : G5.2 0 0 = 1 := by rw [rs5, cm_up_n _ (Or.inr (by decide)), (x5 0 (by decide)).2.1]; exact f4_0
  have f5_1 : G5.2 0 1 = 2 := by rw [rs5, cm_up_n _ (Or.inr (by decide)), (x5 0 (by decide)).2.1]; exact f4_1
  have f5_2 : G5.2 0 2 = 14 := by rw [rs5, cm_up_n _ (Or.inr (by decide)), (x5 0 (by decide)).2.1]; exact f4_2
  have f5_3 : G5.2 0 3 = 15 := by rw [rs5, cm_up_n _ (Or.inr (by decide)), (x5 0 (by decide)).2.1]; exact f4_3
  have f5_4 : G5.2 0 4 = 27 := by rw [rs5, cm_up_n _ (Or.inr (by decide)), (x5 0 (by decide)).2.1]; exact f4_4
  have f5_5 : G5.2 0 5 = 29 := by rw [rs5, cm_up_n _ (Or.inr (by decide)), (x5 0 (by decide)).2.1]; exact f4_5
  have f5_6 : G5.2 0 6 = 67 := by rw [rs5, cm_up_s]
  have c5_1 : isC G5 2 := isC_st c4_1 (fun a h1 h2 => (E5 a (by omega) (by omega)).1) (E5 2 (by decide) (by decide)).2
  have k5_1 : isK G5 1 2 := isK_st k4_1 c5_1 (fun a h1 h2 => (E5 a (by omega) (by omega)).1) (E5 1 (by decide) (by decide)).2
  have c5_2 : isC G5 15 := isC_st c4_2 (fun a h1 h2 => (E5 a (by omega) (by omega)).1) (E5 15 (by decide) (by decide)).2
  have k5_2 : isK G5 14 15 := isK_st k4_2 c5_2 (fun a h1 h2 => (E5 a (by omega) (by omega)).1) (E5 14 (by decide) (by decide)).2
  have i5_3 : isP G5 := isP_st i4_3 (fun a _ _ => E5 a (by omega) (by omega))
  have i5_4 : isH G5 := isH_st i4_4 (fun a _ _ => E5 a (by omega) (by omega))
  have i5_5 : isL G5 := isL_st ib5 (fun a _ _ => ⟨sd5 a, w5 a (by omega)⟩)
  have r5 : rC N5 2 S0 := rC_lt r4 (fun a ha => (x5 a ha).2.2) (by decide)
  have u5 : N5 27 = fun _ => 0 := (x5 27 (by decide)).2.2.trans u4
  have v5 : N5 29 = fun _ => 0 := (x5 29 (by decide)).2.2.trans v4
  simp (disch := omega) only [g55_81, Option.toList_some, Option.toList_none, List.cons_append, List.nil_append, true_and, and_true, true_or, or_true, eq_self, ci0, ci1, cin6, forall_const, not_true_eq_false, not_false_eq_true, fimp, timp, i10, i01, cm_rne, and_assoc]
  refine K G5 N5 l5 ⟨h5, ⟨f5_1, f5_0, f5_3, f5_2, f5_4, f5_5, f5_6⟩, c5_1, k5_1, c5_2, k5_2, i5_3, i5_4, i5_5⟩ e5 ⟨r5, ⟨by rw [v5]; rfl, by decide, by rw [v5]; decide, fun j a b => ?_⟩, fun s _ _ => ⟨by rw [zb5]; rfl, fun h => ?_⟩, by rw [u5]; rfl, fun k a b => ?_⟩
  · have b : j < 0 := b
    omega
  · have h : (0 : Int) = 1 := h
    omega
  · have b : k < 0 := b
    omega
end INIT3
