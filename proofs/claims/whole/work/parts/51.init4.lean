/-! ===== what the constructors leave: the reference ===== -/
section INIT4
variable {G : cm_G} {M : cm_M} {m : Int} {Q : Option cm_V → cm_G → cm_M → Prop}
set_option maxHeartbeats 8000000 in
theorem q_init (hl : lz G (m + 1)) (h0 : 0 ≤ m) (hk : cm_sh G m = some (0, 6)) (hz : M m = fun _ => 0) (K : ∀ G' M', lz G' (m + 12) → ex G M G' M' m → isM G' m → rMA M' m A0 → Q none G' M') : Go 84 0 [some (2, m)] [] G M Q := by
  have sa0 := fun (l) (f) => sh_app (l := l) (f := f) hl.1 (show m < m + 1 by omega)
  simp (disch := omega) only [g84_0, g84_1, g84_4, g84_5, g84_8, g84_10, Option.toList_some, Option.toList_none, List.cons_append, List.nil_append, true_and, and_true, true_or, or_true, eq_self, ci0, ci1, cin6, forall_const, not_true_eq_false, not_false_eq_true, fimp, timp, i10, i01, cm_rne, and_assoc, sa0, hk]
  (repeat' apply And.intro) <;> (try omega) <;> (try (intro hx; exfalso; omega))
  refine go_arr (n := m + 1) hl (by decide) (fun G1 M1 l1 s1 n1 r1 m1 => ?_)
  have hk1 : cm_sh G1 m = some (0, 6) := (s1 m (by omega)).trans hk
  have sa1 := fun (l) (f) => sh_app (l := l) (f := f) l1.1 (show m < m + 1 + 1 by omega)
  simp (disch := omega) only [g84_13, g84_14, g84_17, g84_19, Option.toList_some, Option.toList_none, List.cons_append, List.nil_append, true_and, and_true, true_or, or_true, eq_self, ci0, ci1, cin6, forall_const, not_true_eq_false, not_false_eq_true, fimp, timp, i10, i01, cm_rne, and_assoc, sa1, hk1]
  (repeat' apply And.intro) <;> (try omega) <;> (try (intro hx; exfalso; omega))
  refine go_arr (n := m + 1 + 1) l1 (by decide) (fun G2 M2 l2 s2 n2 r2 m2 => ?_)
  have hk2 : cm_sh G2 m = some (0, 6) := (s2 m (by omega)).trans hk1
  have sa2 := fun (l) (f) => sh_app (l := l) (f := f) l2.1 (show m < m + 1 + 1 + 1 by omega)
  simp (disch := omega) only [g84_22, g84_23, g84_26, g84_28, Option.toList_some, Option.toList_none, List.cons_append, List.nil_append, true_and, and_true, true_or, or_true, eq_self, ci0, ci1, cin6, forall_const, not_true_eq_false, not_false_eq_true, fimp, timp, i10, i01, cm_rne, and_assoc, sa2, hk2]
  (repeat' apply And.intro) <;> (try omega) <;> (try (intro hx; exfalso; omega))
  refine go_arr (n := m + 1 + 1 + 1) l2 (by decide) (fun G3 M3 l3 s3 n3 r3 m3 => ?_)
  have hk3 : cm_sh G3 m = some (0, 6) := (s3 m (by omega)).trans hk2
  have sa3 := fun (l) (f) => sh_app (l := l) (f := f) l3.1 (show m < m + 1 + 1 + 1 + 1 by omega)
  simp (disch := omega) only [g84_31, g84_32, g84_33, g84_35, Option.toList_some, Option.toList_none, List.cons_append, List.nil_append, true_and, and_true, true_or, or_true, eq_self, ci0, ci1, cin6, forall_const, not_true_eq_false, not_false_eq_true, fimp, timp, i10, i01, cm_rne, and_assoc, sa3, hk3]
  (repeat' apply And.intro) <;> (try omega) <;> (try (intro hx; exfalso; omega))
  refine go_arr (n := m + 1 + 1 + 1 + 1) l3 (by decide) (fun G4 M4 l4 s4 n4 r4 m4 => ?_)
  have hk4 : cm_sh G4 m = some (0, 6) := (s4 m (by omega)).trans hk3
  have sa4 := fun (l) (f) => sh_app (l := l) (f := f) l4.1 (show m < m + 1 + 1 + 1 + 1 + 1 by omega)
  simp (disch := omega) only [g84_38, g84_39, g84_41, g84_43, Option.toList_some, Option.toList_none, List.cons_append, List.nil_append, true_and, and_true, true_or, or_true, eq_self, ci0, ci1, cin6, forall_const, not_true_eq_false, not_false_eq_true, fimp, timp, i10, i01, cm_rne, and_assoc, sa4, hk4]
  (repeat' apply And.intro) <;> (try omega) <;> (try (intro hx; exfalso; omega))
  refine go_arr (n := m + 1 + 1 + 1 + 1 + 1) l4 (by decide) (fun G5 M5 l5 s5 n5 r5 m5 => ?_)
  have hk5 : cm_sh G5 m = some (0, 6) := (s5 m (by omega)).trans hk4
  have sa5 := fun (l) (f) => sh_app (l := l) (f := f) l5.1 (show m < m + 1 + 1 + 1 + 1 + 1 + 1 by omega)
  simp (disch := omega) only [g84_46, g84_47, g84_49, g84_51, Option.toList_some, Option.toList_none, List.cons_append, List.nil_append, true_and, and_true, true_or, or_true, eq_self, ci0, ci1, cin6, forall_const, not_true_eq_false, not_false_eq_true, fimp, timp, i10, i01, cm_rne, and_assoc, sa5, hk5]
  (repeat' apply And.intro) <;> (try omega) <;> (try (intro hx; exfalso; omega))
  refine go_arr (n := m + 1 + 1 + 1 + 1 + 1 + 1) l5 (by decide) (fun G6 M6 l6 s6 n6 r6 m6 => ?_)
  have hk6 : cm_sh G6 m = some (0, 6) := (s6 m (by omega)).trans hk5
  have sa6 := fun (l) (f) => sh_app (l := l) (f := f) l6.1 (show m < m + 1 + 1 + 1 + 1 + 1 + 1 + 1 by omega)
  simp (disch := omega) only [g84_54, g84_55, g84_57, g84_59, Option.toList_some, Option.toList_none, List.cons_append, List.nil_append, true_and, and_true, true_or, or_true, eq_self, ci0, ci1, cin6, forall_const, not_true_eq_false, not_false_eq_true, fimp, timp, i10, i01, cm_rne, and_assoc, sa6, hk6]
  (repeat' apply And.intro) <;> (try omega) <;> (try (intro hx; exfalso; omega))
  refine go_arr (n := m + 1 + 1 + 1 + 1 + 1 + 1 + 1) l6 (by decide) (fun G7 M7 l7 s7 n7 r7 m7 => ?_)
  have hk7 : cm_sh G7 m = some (0, 6) := (s7 m (by omega)).trans hk6
  have sa7 := fun (l) (f) => sh_app (l := l) (f := f) l7.1 (show m < m + 1 + 1 + 1 + 1 + 1 + 1 + 1 + 1 by omega)
  simp (disch := omega) only [g84_62, g84_63, g84_65, g84_67, Option.toList_some, Option.toList_none, List.cons_append, List.nil_append, true_and, and_true, true_or, or_true, eq_self, ci0, ci1, cin6, forall_const, not_true_eq_false, not_false_eq_true, fimp, timp, i10, i01, cm_rne, and_assoc, sa7, hk7]
  (repeat' apply And.intro) <;> (try omega) <;> (try (intro hx; exfalso; omega))
  refine go_arr (n := m + 1 + 1 + 1 + 1 + 1 + 1 + 1 + 1) l7 (by decide) (fun G8 M8 l8 s8 n8 r8 m8 => ?_)
  have hk8 : cm_sh G8 m = some (0, 6) := (s8 m (by omega)).trans hk7
  have sa8 := fun (l) (f) => sh_app (l := l) (f := f) l8.1 (show m < m + 1 + 1 + 1 + 1 + 1 + 1 + 1 + 1 + 1 by omega)
  simp (disch := omega) only [g84_70, g84_71, g84_73, g84_75, Option.toList_some, Option.toList_none, List.cons_append, List.nil_append, true_and, and_true, true_or, or_true, eq_self, ci0, ci1, cin6, forall_const, not_true_eq_false, not_false_eq_true, fimp, timp, i10, i01, cm_rne, and_assoc, sa8, hk8]
  (repeat' apply And.intro) <;> (try omega) <;> (try (intro hx; exfalso; omega))
  refine go_arr (n := m + 1 + 1 + 1 + 1 + 1 + 1 + 1 + 1 + 1) l8 (by decide) (fun G9 M9 l9 s9 n9 r9 m9 => ?_)
  have hk9 : cm_sh G9 m = some (0, 6) := (s9 m (by omega)).trans hk8
  have sa9 := fun (l) (f) => sh_app (l := l) (f := f) l9.1 (show m < m + 1 + 1 + 1 + 1 + 1 + 1 + 1 + 1 + 1 + 1 by omega)
  simp (disch := omega) only [g84_78, g84_79, g84_81, g84_83, Option.toList_some, Option.toList_none, List.cons_append, List.nil_append, true_and, and_true, true_or, or_true, eq_self, ci0, ci1, cin6, forall_const, not_true_eq_false, not_false_eq_true, fimp, timp, i10, i01, cm_rne, and_assoc, sa9, hk9]
  (repeat' apply And.intro) <;> (try omega) <;> (try (intro hx; exfalso; omega))
  refine go_arr (n := m + 1 + 1 + 1 + 1 + 1 + 1 + 1 + 1 + 1 + 1) l9 (by decide) (fun G10 M10 l10 s10 n10 r10 m10 => ?_)
  have hk10 : cm_sh G10 m = some (0, 6) := (s10 m (by omega)).trans hk9
  have sa10 := fun (l) (f) => sh_app (l := l) (f := f) l10.1 (show m < m + 1 + 1 + 1 + 1 + 1 + 1 + 1 + 1 + 1 + 1 + 1 by omega)
  simp (disch := omega) only [g84_86, g84_87, g84_90, g84_92, Option.toList_some, Option.toList_none, List.cons_append, List.nil_append, true_and, and_true, true_or, or_true, eq_self, ci0, ci1, cin6, forall_const, not_true_eq_false, not_false_eq_true, fimp, timp, i10, i01, cm_rne, and_assoc, sa10, hk10]
  (repeat' apply And.intro) <;> (try omega) <;> (try (intro hx; exfalso; omega))
  refine go_arr (n := m + 1 + 1 + 1 + 1 + 1 + 1 + 1 + 1 + 1 + 1 + 1) l10 (by decide) (fun G11 M11 l11 s11 n11 r11 m11 => ?_)
  have hk11 : cm_sh G11 m = some (0, 6) := (s11 m (by omega)).trans hk10
  have e1 : G11.2 m 0 = m + 1 := by rw [r11, cm_up_n _ (Or.inr (by decide)), r10, cm_up_n _ (Or.inr (by decide)), r9, cm_up_n _ (Or.inr (by decide)), r8, cm_up_n _ (Or.inr (by decide)), r7, cm_up_n _ (Or.inr (by decide)), r6, cm_up_n _ (Or.inr (by decide)), r5, cm_up_n _ (Or.inr (by decide)), r4, cm_up_n _ (Or.inr (by decide)), r3, cm_up_n _ (Or.inr (by decide)), r2, cm_up_n _ (Or.inr (by decide)), r1, cm_up_s]
  have e2 : G11.2 m 1 = m + 1 + 1 := by rw [r11, cm_up_n _ (Or.inr (by decide)), r10, cm_up_n _ (Or.inr (by decide)), r9, cm_up_n _ (Or.inr (by decide)), r8, cm_up_n _ (Or.inr (by decide)), r7, cm_up_n _ (Or.inr (by decide)), r6, cm_up_n _ (Or.inr (by decide)), r5, cm_up_n _ (Or.inr (by decide)), r4, cm_up_n _ (Or.inr (by decide)), r3, cm_up_n _ (Or.inr (by decide)), r2, cm_up_s]
  have e3 : G11.2 m 2 = m + 1 + 1 + 1 := by rw [r11, cm_up_n _ (Or.inr (by decide)), r10, cm_up_n _ (Or.inr (by decide)), r9, cm_up_n _ (Or.inr (by decide)), r8, cm_up_n _ (Or.inr (by decide)), r7, cm_up_n _ (Or.inr (by decide)), r6, cm_up_n _ (Or.inr (by decide)), r5, cm_up_n _ (Or.inr (by decide)), r4, cm_up_n _ (Or.inr (by decide)), r3, cm_up_s]
  have e4 : G11.2 m 3 = m + 1 + 1 + 1 + 1 := by rw [r11, cm_up_n _ (Or.inr (by decide)), r10, cm_up_n _ (Or.inr (by decide)), r9, cm_up_n _ (Or.inr (by decide)), r8, cm_up_n _ (Or.inr (by decide)), r7, cm_up_n _ (Or.inr (by decide)), r6, cm_up_n _ (Or.inr (by decide)), r5, cm_up_n _ (Or.inr (by decide)), r4, cm_up_s]
  have e5 : G11.2 m 5 = m + 1 + 1 + 1 + 1 + 1 := by rw [r11, cm_up_n _ (Or.inr (by decide)), r10, cm_up_n _ (Or.inr (by decide)), r9, cm_up_n _ (Or.inr (by decide)), r8, cm_up_n _ (Or.inr (by decide)), r7, cm_up_n _ (Or.inr (by decide)), r6, cm_up_n _ (Or.inr (by decide)), r5, cm_up_s]
  have e6 : G11.2 m 7 = m + 1 + 1 + 1 + 1 + 1 + 1 := by rw [r11, cm_up_n _ (Or.inr (by decide)), r10, cm_up_n _ (Or.inr (by decide)), r9, cm_up_n _ (Or.inr (by decide)), r8, cm_up_n _ (Or.inr (by decide)), r7, cm_up_n _ (Or.inr (by decide)), r6, cm_up_s]
  have e7 : G11.2 m 8 = m + 1 + 1 + 1 + 1 + 1 + 1 + 1 := by rw [r11, cm_up_n _ (Or.inr (by decide)), r10, cm_up_n _ (Or.inr (by decide)), r9, cm_up_n _ (Or.inr (by decide)), r8, cm_up_n _ (Or.inr (by decide)), r7, cm_up_s]
  have e8 : G11.2 m 9 = m + 1 + 1 + 1 + 1 + 1 + 1 + 1 + 1 := by rw [r11, cm_up_n _ (Or.inr (by decide)), r10, cm_up_n _ (Or.inr (by decide)), r9, cm_up_n _ (Or.inr (by decide)), r8, cm_up_s]
  have e9 : G11.2 m 10 = m + 1 + 1 + 1 + 1 + 1 + 1 + 1 + 1 + 1 := by rw [r11, cm_up_n _ (Or.inr (by decide)), r10, cm_up_n _ (Or.inr (by decide)), r9, cm_up_s]
  have e10 : G11.2 m 12 = m + 1 + 1 + 1 + 1 + 1 + 1 + 1 + 1 + 1 + 1 := by rw [r11, cm_up_n _ (Or.inr (by decide)), r10, cm_up_s]
  have e11 : G11.2 m 13 = m + 1 + 1 + 1 + 1 + 1 + 1 + 1 + 1 + 1 + 1 + 1 := by rw [r11, cm_up_s]
  have er : ∀ a, a ≠ m → G11.2 a = G.2 a := fun a ha => by rw [r11, cm_rne ha, r10, cm_rne ha, r9, cm_rne ha, r8, cm_rne ha, r7, cm_rne ha, r6, cm_rne ha, r5, cm_rne ha, r4, cm_rne ha, r3, cm_rne ha, r2, cm_rne ha, r1, cm_rne ha]
  have q1 : cm_sh G11 (m + 1) = some (1, 164) := by rw [s11 _ (by omega), s10 _ (by omega), s9 _ (by omega), s8 _ (by omega), s7 _ (by omega), s6 _ (by omega), s5 _ (by omega), s4 _ (by omega), s3 _ (by omega), s2 _ (by omega)]; exact n1
  have q2 : cm_sh G11 (m + 1 + 1) = some (1, 984) := by rw [s11 _ (by omega), s10 _ (by omega), s9 _ (by omega), s8 _ (by omega), s7 _ (by omega), s6 _ (by omega), s5 _ (by omega), s4 _ (by omega), s3 _ (by omega)]; exact n2
  have q3 : cm_sh G11 (m + 1 + 1 + 1) = some (1, 328) := by rw [s11 _ (by omega), s10 _ (by omega), s9 _ (by omega), s8 _ (by omega), s7 _ (by omega), s6 _ (by omega), s5 _ (by omega), s4 _ (by omega)]; exact n3
  have q4 : cm_sh G11 (m + 1 + 1 + 1 + 1) = some (3, 2) := by rw [s11 _ (by omega), s10 _ (by omega), s9 _ (by omega), s8 _ (by omega), s7 _ (by omega), s6 _ (by omega), s5 _ (by omega)]; exact n4
  have q5 : cm_sh G11 (m + 1 + 1 + 1 + 1 + 1) = some (2, 60) := by rw [s11 _ (by omega), s10 _ (by omega), s9 _ (by omega), s8 _ (by omega), s7 _ (by omega), s6 _ (by omega)]; exact n5
  have q6 : cm_sh G11 (m + 1 + 1 + 1 + 1 + 1 + 1) = some (1, 41) := by rw [s11 _ (by omega), s10 _ (by omega), s9 _ (by omega), s8 _ (by omega), s7 _ (by omega)]; exact n6
  have q7 : cm_sh G11 (m + 1 + 1 + 1 + 1 + 1 + 1 + 1) = some (1, 40) := by rw [s11 _ (by omega), s10 _ (by omega), s9 _ (by omega), s8 _ (by omega)]; exact n7
  have q8 : cm_sh G11 (m + 1 + 1 + 1 + 1 + 1 + 1 + 1 + 1) = some (1, 40) := by rw [s11 _ (by omega), s10 _ (by omega), s9 _ (by omega)]; exact n8
  have q9 : cm_sh G11 (m + 1 + 1 + 1 + 1 + 1 + 1 + 1 + 1 + 1) = some (1, 40) := by rw [s11 _ (by omega), s10 _ (by omega)]; exact n9
  have q10 : cm_sh G11 (m + 1 + 1 + 1 + 1 + 1 + 1 + 1 + 1 + 1 + 1) = some (1, 40) := by rw [s11 _ (by omega)]; exact n10
  have q11 : cm_sh G11 (m + 1 + 1 + 1 + 1 + 1 + 1 + 1 + 1 + 1 + 1 + 1) = some (1, 128) := n11
  have mm : ∀ a, a ≤ m → M11 a = M a := fun a ha => by rw [m11, row_n (by omega), m10, row_n (by omega), m9, row_n (by omega), m8, row_n (by omega), m7, row_n (by omega), m6, row_n (by omega), m5, row_n (by omega), m4, row_n (by omega), m3, row_n (by omega), m2, row_n (by omega), m1, row_n (by omega)]
  have ss : ∀ a, a ≤ m → cm_sh G11 a = cm_sh G a := fun a ha => by rw [s11 _ (by omega), s10 _ (by omega), s9 _ (by omega), s8 _ (by omega), s7 _ (by omega), s6 _ (by omega), s5 _ (by omega), s4 _ (by omega), s3 _ (by omega), s2 _ (by omega), s1 _ (by omega)]
  have a1 : ∀ M, cm_al 1 G11 M (m + 1) = 164 := fun M => al_of (by omega) q1
  have z1 : M11 (m + 1) = fun _ => 0 := by rw [show m + 1 = m + 1 by omega, m11, row_n (by omega), m10, row_n (by omega), m9, row_n (by omega), m8, row_n (by omega), m7, row_n (by omega), m6, row_n (by omega), m5, row_n (by omega), m4, row_n (by omega), m3, row_n (by omega), m2, row_n (by omega), m1]; exact row_s
  have z4 : M11 (m + 4) = fun _ => 0 := by rw [show m + 4 = m + 1 + 1 + 1 + 1 by omega, m11, row_n (by omega), m10, row_n (by omega), m9, row_n (by omega), m8, row_n (by omega), m7, row_n (by omega), m6, row_n (by omega), m5, row_n (by omega), m4]; exact row_s
  simp (disch := omega) only [g84_95, g84_96, g84_99, g84_100, g84_102, g84_103, g84_104, g84_107, g84_108, g84_109, g84_110, g84_111, g84_114, g84_115, g84_116, g84_117, Option.toList_some, Option.toList_none, List.cons_append, List.nil_append, true_and, and_true, true_or, or_true, eq_self, ci0, ci1, cin6, forall_const, not_true_eq_false, not_false_eq_true, fimp, timp, i10, i01, cm_rne, and_assoc, hk11, e1, a1]
  (repeat' apply And.intro) <;> (try omega) <;> (try (intro hx; exfalso; omega))
  have g1 : ∀ a, a ≠ m + 1 → cm_up (cm_up (cm_up M11 (m + 1) 0 10) (m + 1) 1 5) (m + 1) 2 3 a = M11 a := fun a ha => by rw [cm_rne ha, cm_rne ha, cm_rne ha]
  have g2 : ∀ j, cm_up (cm_up (cm_up M11 (m + 1) 0 10) (m + 1) 1 5) (m + 1) 2 3 (m + 1) j = if j = 2 then 3 else if j = 1 then 5 else if j = 0 then 10 else 0 := fun j => by
    rw [cm_req]
    dsimp only
    rw [cm_req]
    dsimp only
    rw [cm_req]
    dsimp only
    rw [z1]
  have g0 : M11 m = fun _ => 0 := (mm m (by omega)).trans hz
  refine K G11 _ (by rw [show m + 12 = m + 1 + 1 + 1 + 1 + 1 + 1 + 1 + 1 + 1 + 1 + 1 + 1 by omega]; exact l11) (fun a ha => ⟨ss a (by omega), er a (by omega), (g1 a (by omega)).trans (mm a (by omega))⟩) ⟨h0, hk11, ⟨e1, by rw [e2]; omega, by rw [e3]; omega, by rw [e4]; omega, by rw [e5]; omega, by rw [e6]; omega, by rw [e7]; omega, by rw [e8]; omega, by rw [e9]; omega, by rw [e10]; omega, by rw [e11]; omega⟩, fun M => al_of (by omega) q1, fun M => by rw [show m + 2 = m + 1 + 1 by omega]; exact al_of (by omega) q2, fun M => by rw [show m + 3 = m + 1 + 1 + 1 by omega]; exact al_of (by omega) q3, fun M => by rw [show m + 4 = m + 1 + 1 + 1 + 1 by omega]; exact al_of (by omega) q4, fun M => by rw [show m + 5 = m + 1 + 1 + 1 + 1 + 1 by omega]; exact al_of (by omega) q5, fun M => by rw [show m + 6 = m + 1 + 1 + 1 + 1 + 1 + 1 by omega]; exact al_of (by omega) q6, fun M => by rw [show m + 7 = m + 1 + 1 + 1 + 1 + 1 + 1 + 1 by omega]; exact al_of (by omega) q7, fun M => by rw [show m + 8 = m + 1 + 1 + 1 + 1 + 1 + 1 + 1 + 1 by omega]; exact al_of (by omega) q8, fun M => by rw [show m + 9 = m + 1 + 1 + 1 + 1 + 1 + 1 + 1 + 1 + 1 by omega]; exact al_of (by omega) q9, fun M => by rw [show m + 10 = m + 1 + 1 + 1 + 1 + 1 + 1 + 1 + 1 + 1 + 1 by omega]; exact al_of (by omega) q10, fun M => by rw [show m + 11 = m + 1 + 1 + 1 + 1 + 1 + 1 + 1 + 1 + 1 + 1 + 1 by omega]; exact al_of (by omega) q11⟩ ⟨⟨?_, fun j a b => ?_, fun i a b => ?_⟩, ⟨?_, ⟨by decide, by decide⟩, fun j a b => ?_⟩, fun s a b => ⟨?_, fun h => ?_⟩, ?_, fun k a b => ?_⟩
  · rw [g2]; rfl
  · rw [g2]
    show _ = f3 j
    unfold f3
    by_cases h1 : j = 0
    · rw [if_neg (by omega), if_neg (by omega), if_pos h1, if_pos h1]
    · by_cases h2 : j = 1
      · rw [if_neg (by omega), if_pos h2, if_neg h1, if_pos h2]
      · rw [if_pos (by omega), if_neg h1, if_neg h2]
  · have b : i < 0 := b
    omega
  · rw [g1 m (by omega), g0]; rfl
  · have b : j < 0 := b
    omega
  · rw [g1 (m + 4) (by omega), z4]; rfl
  · have h : (0 : Int) = 1 := h
    omega
  · rw [g1 m (by omega), g0]; rfl
  · have b : k < 0 := b
    omega
end INIT4
