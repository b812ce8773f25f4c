/-! ===== the law: all that the credits tell ===== -/
section LAW9
variable {G : cm_G} {M : cm_M} {A : sA} {g : Int} {Q : Option cm_V → cm_G → cm_M → Prop}
/-- what is looked at, line by line -/
theorem l_tells1 {ra rh ru rt rf rl rq time : Int} (hX : isX G) (hA : rXA M A) (hv : vA A) (hz : 82 ≤ ra ∧ 82 ≤ rh ∧ 82 ≤ ru ∧ 82 ≤ rt ∧ 82 ≤ rf ∧ 82 ≤ rl ∧ 82 ≤ rq)
    (ha : (∀ M, cm_al 1 G M ra = 41) ∧ (∀ M, cm_al 1 G M rh = 40) ∧ (∀ M, cm_al 1 G M ru = 40) ∧ (∀ M, cm_al 1 G M rt = 40) ∧ (∀ M, cm_al 1 G M rf = 40) ∧ (∀ M, cm_al 1 G M rl = 40) ∧ (∀ M, cm_al 1 G M rq = 40))
    (hd : rdS M ra rh ru (aS A)) (hw : wrS M rt rf rl (aS A)) (hq : ∀ i, 0 ≤ i → i < sN (aS A) → M rq i = sG (aS A) i) {y14 y15 : Option cm_V}
    (K : ∀ M' y15, rXA M' A → fr M M' 0 81 → Go 70 275 [some (2, 0), some (0, g), some (2, ra), some (2, rh), some (2, ru), some (2, rt), some (2, rf), some (2, rl), some (2, rq), some (0, sN (aS A)), some (0, time), some (0, xCount A 5), some (0, xCount A 1), some (0, xCount A 6), some (0, sN (aS A)), y15] [] G M' Q) :
    Go 70 98 [some (2, 0), some (0, g), some (2, ra), some (2, rh), some (2, ru), some (2, rt), some (2, rf), some (2, rl), some (2, rq), some (0, sN (aS A)), some (0, time), some (0, 0), some (0, 0), some (0, 0), some (0, 0), y15] [] G M Q := by
  obtain ⟨z1, z2, z3, z4, z5, z6, z7⟩ := hz
  obtain ⟨a1, a2, a3, a4, a5, a6, a7⟩ := ha
  obtain ⟨d1, d2, d3⟩ := hd
  have hv1 := hv.1
  have hn := hv.1.2.1
  have hn0 := hv.1.1
  refine go_loop (σ := Option cm_V × cm_M) (fun i s => [some (2, 0), some (0, g), some (2, ra), some (2, rh), some (2, ru), some (2, rt), some (2, rf), some (2, rl), some (2, rq), some (0, sN (aS A)), some (0, time), some (0, fP (fun i a => if sC (aS A) i = 0 then a else a + 1) 0 i.toNat), some (0, fP (fun i a => if sK (aS A) i = 0 then a + 1 else a) 0 i.toNat), some (0, fP (fun i a => if sK (aS A) i = 0 then (if eI (aS A) i = 0 then a + 1 else a) else a) 0 i.toNat), some (0, i), s.1]) (fun s => s.2) (fun i s => rXA s.2 A ∧ fr M s.2 0 81) (sN (aS A)) (fun i s hi0 hin hRi ihi => ?_) (fun s hRi => ?_) 0 (y15, M) (by omega) hn0 ⟨hA, fr.rf⟩
  · obtain ⟨y15, s⟩ := s
    obtain ⟨r0, f0⟩ := hRi
    dsimp only at r0 f0 ihi ⊢
    have ii : cm_in i := ⟨by omega, by omega⟩
    obtain ⟨o0, o1, o2, o3, o4, o5, o6, o7, o8⟩ := xO (S := aS A) (i := i) ⟨hi0, hin⟩
    have w := hv1.2.2.2.2.2 i hi0 hin
    have hti := tI_b hv1 hi0
    have hsh := vS_h hv1 i
    have hb1 := fI_b hv1 ⟨hi0, hin⟩
    have hb2 := eI_b hv1 ⟨hi0, hin⟩
    obtain ⟨w1, w2, w3⟩ := hw i hi0 hin
    have s1 : fP (fun i a => if sC (aS A) i = 0 then a else a + 1) (0 : Int) (i + 1).toNat = (if sC (aS A) i = 0 then fP (fun i a => if sC (aS A) i = 0 then a else a + 1) (0 : Int) i.toNat else fP (fun i a => if sC (aS A) i = 0 then a else a + 1) (0 : Int) i.toNat + 1) := fP_s _ _ hi0
    have s2 : fP (fun i a => if sK (aS A) i = 0 then a + 1 else a) (0 : Int) (i + 1).toNat = (if sK (aS A) i = 0 then fP (fun i a => if sK (aS A) i = 0 then a + 1 else a) (0 : Int) i.toNat + 1 else fP (fun i a => if sK (aS A) i = 0 then a + 1 else a) (0 : Int) i.toNat) := fP_s _ _ hi0
    have s3 : fP (fun i a => if sK (aS A) i = 0 then (if eI (aS A) i = 0 then a + 1 else a) else a) (0 : Int) (i + 1).toNat = (if sK (aS A) i = 0 then (if eI (aS A) i = 0 then fP (fun i a => if sK (aS A) i = 0 then (if eI (aS A) i = 0 then a + 1 else a) else a) (0 : Int) i.toNat + 1 else fP (fun i a => if sK (aS A) i = 0 then (if eI (aS A) i = 0 then a + 1 else a) else a) (0 : Int) i.toNat) else fP (fun i a => if sK (aS A) i = 0 then (if eI (aS A) i = 0 then a + 1 else a) else a) (0 : Int) i.toNat) := fP_s _ _ hi0
    generalize fP (fun i a => if sC (aS A) i = 0 then a else a + 1) (0 : Int) i.toNat = c1 at *
    generalize fP (fun i a => if sK (aS A) i = 0 then a + 1 else a) (0 : Int) i.toNat = c2 at *
    generalize fP (fun i a => if sK (aS A) i = 0 then (if eI (aS A) i = 0 then a + 1 else a) else a) (0 : Int) i.toNat = c3 at *
    -- the counts
    have tail : ∀ (M' : cm_M), rXA M' A → fr M M' 0 81 → Go 70 193 [some (2, 0), some (0, g), some (2, ra), some (2, rh), some (2, ru), some (2, rt), some (2, rf), some (2, rl), some (2, rq), some (0, sN (aS A)), some (0, time), some (0, c1), some (0, c2), some (0, c3), some (0, i), y15] [] G M' Q := by
      intro M' r' f'
      have e3 : M' ru i = sC (aS A) i := by rw [f' ru (by omega)]; exact d3 i hi0 hin
      have eq : M' rq i = sG (aS A) i := by rw [f' rq (by omega)]; exact hq i hi0 hin
      have et : M' rt i = eI (aS A) i := by rw [f' rt (by omega)]; exact w1
      have go1 := ihi (some (0, 1), M') ⟨r', f'⟩
      dsimp only at go1
      rw [s1, s2, s3] at go1
      have never : ∀ v1 v2 : Int, v1 = (if sC (aS A) i = 0 then c1 else c1 + 1) → v2 = (if sK (aS A) i = 0 then c2 + 1 else c2) → Go 70 243 [some (2, 0), some (0, g), some (2, ra), some (2, rh), some (2, ru), some (2, rt), some (2, rf), some (2, rl), some (2, rq), some (0, sN (aS A)), some (0, time), some (0, v1), some (0, v2), some (0, c3), some (0, i), some (0, 1)] [] G M' Q := by
        intro v1 v2 h1 h2
        rw [h1, h2]
        simp (disch := omega) only [g70_243, g70_245, g70_247, g70_249, g70_250, g70_253, g70_255, g70_257, g70_258, g70_261, g70_262, g70_265, g70_266, g70_267, g70_269, g70_272, Option.toList_some, Option.toList_none, List.cons_append, List.nil_append, true_and, and_true, true_or, or_true, eq_self, ci0, ci1, cin6, forall_const, not_true_eq_false, not_false_eq_true, fimp, timp, i10, i01, cm_rne, and_assoc, a4, a7, eq, et]
        (repeat' apply And.intro) <;> (try omega) <;> (try (intro hx; exfalso; omega))
        · intro hneg
          have hk : ¬ sK (aS A) i = 0 := fun z => by have := (w.2.2.1 z).1; omega
          rw [if_neg hk, if_neg hk] at go1
          rw [if_neg hk, show c3 + 0 = c3 by omega]
          exact go1
        · intro hpos
          have hk : sK (aS A) i = 0 := by
            by_cases z : sK (aS A) i = 0
            · exact z
            · have := (w.2.2.2.1 z).1; omega
          rw [if_pos hk, if_pos hk] at go1
          rw [if_pos hk]
          (repeat' apply And.intro) <;> (try omega) <;> (try (intro hx; exfalso; omega))
          · intro h0
            rw [if_neg h0] at go1
            rw [show c3 + 0 = c3 by omega]
            exact go1
          · intro h0
            rw [if_pos h0] at go1
            exact go1
      have names : ∀ v1 : Int, v1 = (if sC (aS A) i = 0 then c1 else c1 + 1) → Go 70 225 [some (2, 0), some (0, g), some (2, ra), some (2, rh), some (2, ru), some (2, rt), some (2, rf), some (2, rl), some (2, rq), some (0, sN (aS A)), some (0, time), some (0, v1), some (0, c2), some (0, c3), some (0, i), some (0, 1)] [] G M' Q := by
        intro v1 h1
        simp (disch := omega) only [g70_225, g70_227, g70_229, g70_231, g70_232, g70_235, g70_236, g70_239, g70_240, g70_241, Option.toList_some, Option.toList_none, List.cons_append, List.nil_append, true_and, and_true, true_or, or_true, eq_self, ci0, ci1, cin6, forall_const, not_true_eq_false, not_false_eq_true, fimp, timp, i10, i01, cm_rne, and_assoc, a7, eq]
        (repeat' apply And.intro) <;> (try omega) <;> (try (intro hx; exfalso; omega))
        · intro hneg
          have hk : ¬ sK (aS A) i = 0 := fun z => by have := (w.2.2.1 z).1; omega
          exact never v1 (c2 + 0) h1 (by rw [if_neg hk]; omega)
        · intro hpos
          have hk : sK (aS A) i = 0 := by
            by_cases z : sK (aS A) i = 0
            · exact z
            · have := (w.2.2.2.1 z).1; omega
          exact never v1 (c2 + 1) h1 (by rw [if_pos hk])
      simp (disch := omega) only [g70_193, g70_194, g70_197, g70_198, g70_200, g70_202, g70_205, g70_206, g70_207, g70_209, g70_211, g70_213, g70_214, g70_217, g70_218, g70_221, g70_222, g70_223, Option.toList_some, Option.toList_none, List.cons_append, List.nil_append, true_and, and_true, true_or, or_true, eq_self, ci0, ci1, cin6, forall_const, not_true_eq_false, not_false_eq_true, fimp, timp, i10, i01, cm_rne, and_assoc, a3, e3]
      (repeat' apply And.intro) <;> (try omega) <;> (try (intro hx; exfalso; omega))
      · intro hz
        exact names (c1 + 0) (by rw [if_pos (by omega)]; omega)
      · intro hz
        exact names (c1 + 1) (by rw [if_neg (by omega)])
    rw [g70_98]
    simp (disch := omega) only [g70_100, g70_102, g70_105, g70_106, g70_108, Option.toList_some, Option.toList_none, List.cons_append, List.nil_append, true_and, and_true, true_or, or_true, eq_self, ci0, ci1, cin6, forall_const, not_true_eq_false, not_false_eq_true, fimp, timp, i10, i01, cm_rne, and_assoc]
    (repeat' apply And.intro) <;> (try omega) <;> (try (intro hx; exfalso; omega))
    intro _
    refine c70_109 (Nat.le_of_ble_eq_true rfl) hX.1 (p_of hX r0 hv ii ⟨by decide, by decide⟩ (fun M1 r1 f1 => ?_))
    have f01 := f0.tr f1
    have e1 : M1 ra i = tI (aS A) i := by rw [f01 ra (by omega)]; exact d1 i hi0 (by omega)
    rw [o4]
    simp (disch := omega) only [g70_112, g70_113, g70_115, g70_116, g70_119, g70_120, g70_122, Option.toList_some, Option.toList_none, List.cons_append, List.nil_append, true_and, and_true, true_or, or_true, eq_self, ci0, ci1, cin6, forall_const, not_true_eq_false, not_false_eq_true, fimp, timp, i10, i01, cm_rne, and_assoc, a1, e1]
    (repeat' apply And.intro) <;> (try omega) <;> (try (intro hx; exfalso; omega))
    refine c70_123 (Nat.le_of_ble_eq_true rfl) hX.1 (p_of hX r1 hv ii ⟨by decide, by decide⟩ (fun M2 r2 f2 => ?_))
    have f02 := f01.tr f2
    have e2 : M2 rh i = sH (aS A) i := by rw [f02 rh (by omega)]; exact d2 i hi0 hin
    rw [o5]
    simp (disch := omega) only [g70_126, g70_127, g70_129, g70_130, g70_133, g70_134, g70_136, Option.toList_some, Option.toList_none, List.cons_append, List.nil_append, true_and, and_true, true_or, or_true, eq_self, ci0, ci1, cin6, forall_const, not_true_eq_false, not_false_eq_true, fimp, timp, i10, i01, cm_rne, and_assoc, a2, e2]
    (repeat' apply And.intro) <;> (try omega) <;> (try (intro hx; exfalso; omega))
    refine c70_138 (Nat.le_of_ble_eq_true rfl) hX.1 (p_of hX r2 hv ii ⟨by decide, by decide⟩ (fun M3 r3 f3 => ?_))
    have f03 := f02.tr f3
    have e3 : M3 rt i = eI (aS A) i := by rw [f03 rt (by omega)]; exact w1
    rw [o6]
    simp (disch := omega) only [g70_141, g70_143, g70_145, g70_146, g70_149, g70_151, g70_152, g70_153, g70_154, Option.toList_some, Option.toList_none, List.cons_append, List.nil_append, true_and, and_true, true_or, or_true, eq_self, ci0, ci1, cin6, forall_const, not_true_eq_false, not_false_eq_true, fimp, timp, i10, i01, cm_rne, and_assoc, a4, e3]
    (repeat' apply And.intro) <;> (try omega) <;> (try (intro hx; exfalso; omega))
    refine c70_155 (Nat.le_of_ble_eq_true rfl) (l_low (by omega) ?_)
    have b5 := lw_b g (n := 5) (by decide)
    have b6 : 0 ≤ i.tmod 5 ∧ i.tmod 5 < 5 := ⟨Int.tmod_nonneg _ hi0, Int.tmod_lt_of_pos _ (by decide)⟩
    simp (disch := omega) only [g70_158, g70_161, g70_162, g70_164, Option.toList_some, Option.toList_none, List.cons_append, List.nil_append, true_and, and_true, true_or, or_true, eq_self, ci0, ci1, cin6, forall_const, not_true_eq_false, not_false_eq_true, fimp, timp, i10, i01, cm_rne, and_assoc]
    (repeat' apply And.intro) <;> (try omega) <;> (try (intro hx; exfalso; omega))
    · exact fun _ => tail M3 r3 f03
    · intro _
      have hif : cm_in (if eI (aS A) i = 0 then -6 else fI (aS A) i) := by
        by_cases z : eI (aS A) i = 0
        · rw [if_pos z]; exact cn6
        · rw [if_neg z]; constructor <;> omega
      have hil : cm_in (if eI (aS A) i = 0 then -6 else fI (aS A) i + eI (aS A) i - 1) := by
        by_cases z : eI (aS A) i = 0
        · rw [if_pos z]; exact cn6
        · rw [if_neg z]; constructor <;> omega
      generalize (if eI (aS A) i = 0 then -6 else fI (aS A) i) = xf at *
      generalize (if eI (aS A) i = 0 then -6 else fI (aS A) i + eI (aS A) i - 1) = xl at *
      refine c70_166 (Nat.le_of_ble_eq_true rfl) hX.1 (p_of hX r3 hv ii ⟨by decide, by decide⟩ (fun M4 r4 f4 => ?_))
      have f04 := f03.tr f4
      have e4 : M4 rf i = xf := by rw [f04 rf (by omega)]; exact w2
      rw [o7]
      simp (disch := omega) only [g70_169, g70_171, g70_173, g70_174, g70_177, g70_178, g70_180, Option.toList_some, Option.toList_none, List.cons_append, List.nil_append, true_and, and_true, true_or, or_true, eq_self, ci0, ci1, cin6, forall_const, not_true_eq_false, not_false_eq_true, fimp, timp, i10, i01, cm_rne, and_assoc, a5, e4]
      (repeat' apply And.intro) <;> (try omega) <;> (try (intro hx; exfalso; omega))
      refine c70_182 (Nat.le_of_ble_eq_true rfl) hX.1 (p_of hX r4 hv ii ⟨by decide, by decide⟩ (fun M5 r5 f5 => ?_))
      have f05 := f04.tr f5
      have e5 : M5 rl i = xl := by rw [f05 rl (by omega)]; exact w3
      rw [o8]
      simp (disch := omega) only [g70_185, g70_187, g70_189, g70_190, Option.toList_some, Option.toList_none, List.cons_append, List.nil_append, true_and, and_true, true_or, or_true, eq_self, ci0, ci1, cin6, forall_const, not_true_eq_false, not_false_eq_true, fimp, timp, i10, i01, cm_rne, and_assoc, a6, e5]
      (repeat' apply And.intro) <;> (try omega) <;> (try (intro hx; exfalso; omega))
      exact tail M5 r5 f05
  · obtain ⟨y15, s⟩ := s
    obtain ⟨r0, f0⟩ := hRi
    dsimp only at r0 f0 ⊢
    rw [g70_98]
    simp (disch := omega) only [g70_100, g70_102, Option.toList_some, Option.toList_none, List.cons_append, List.nil_append, true_and, and_true, true_or, or_true, eq_self, ci0, ci1, cin6, forall_const, not_true_eq_false, not_false_eq_true, fimp, timp, i10, i01, cm_rne, and_assoc]
    (repeat' apply And.intro) <;> (try omega) <;> (try (intro hx; exfalso; omega))
    exact fun _ => K s _ r0 f0
theorem l_tells {n0 : Int} (hl : lz G n0) (hn0 : 82 ≤ n0) (hX : isX G) (hA : rXA M A) (hv : vA A) (K : ∀ G' M' n', n0 ≤ n' → n' ≤ n0 + 11 → lz G' n' → isX G' → rXA M' A → (∀ k, k < 0 → M' k = M k) → Q (some (0, 1)) G' M') :
    Go 70 0 [some (2, 0), some (0, g), none, none, none, none, none, none, none, none, none, none, none, none, none, none] [] G M Q := by
  have hv1 := hv.1
  have hn := hv.1.2.1
  have hnn := hv.1.1
  have hscr := hv.1.2.2.1
  have hs1 := hv.1.2.2.2.1
  have hh6 := hv.2.1.1.2
  have hab := aI_b hv1
  have htb := tI_b hv1 hnn
  simp (disch := omega) only [g70_0, g70_2, Option.toList_some, Option.toList_none, List.cons_append, List.nil_append, true_and, and_true, true_or, or_true, eq_self, ci0, ci1, cin6, forall_const, not_true_eq_false, not_false_eq_true, fimp, timp, i10, i01, cm_rne, and_assoc]
  (repeat' apply And.intro) <;> (try omega) <;> (try (intro hx; exfalso; omega))
  refine go_na hl (by decide) (fun G1 M1 l1 x1 s1 m1 w1 => ?_)
  simp (disch := omega) only [g70_4, g70_5, g70_7, Option.toList_some, Option.toList_none, List.cons_append, List.nil_append, true_and, and_true, true_or, or_true, eq_self, ci0, ci1, cin6, forall_const, not_true_eq_false, not_false_eq_true, fimp, timp, i10, i01, cm_rne, and_assoc]
  (repeat' apply And.intro) <;> (try omega) <;> (try (intro hx; exfalso; omega))
  refine go_na l1 (by decide) (fun G2 M2 l2 x2 s2 m2 w2 => ?_)
  simp (disch := omega) only [g70_9, g70_10, g70_12, Option.toList_some, Option.toList_none, List.cons_append, List.nil_append, true_and, and_true, true_or, or_true, eq_self, ci0, ci1, cin6, forall_const, not_true_eq_false, not_false_eq_true, fimp, timp, i10, i01, cm_rne, and_assoc]
  (repeat' apply And.intro) <;> (try omega) <;> (try (intro hx; exfalso; omega))
  refine go_na l2 (by decide) (fun G3 M3 l3 x3 s3 m3 w3 => ?_)
  simp (disch := omega) only [g70_14, g70_16, g70_18, Option.toList_some, Option.toList_none, List.cons_append, List.nil_append, true_and, and_true, true_or, or_true, eq_self, ci0, ci1, cin6, forall_const, not_true_eq_false, not_false_eq_true, fimp, timp, i10, i01, cm_rne, and_assoc]
  (repeat' apply And.intro) <;> (try omega) <;> (try (intro hx; exfalso; omega))
  refine go_na l3 (by decide) (fun G4 M4 l4 x4 s4 m4 w4 => ?_)
  simp (disch := omega) only [g70_20, g70_22, g70_24, Option.toList_some, Option.toList_none, List.cons_append, List.nil_append, true_and, and_true, true_or, or_true, eq_self, ci0, ci1, cin6, forall_const, not_true_eq_false, not_false_eq_true, fimp, timp, i10, i01, cm_rne, and_assoc]
  (repeat' apply And.intro) <;> (try omega) <;> (try (intro hx; exfalso; omega))
  refine go_na l4 (by decide) (fun G5 M5 l5 x5 s5 m5 w5 => ?_)
  simp (disch := omega) only [g70_26, g70_28, g70_30, Option.toList_some, Option.toList_none, List.cons_append, List.nil_append, true_and, and_true, true_or, or_true, eq_self, ci0, ci1, cin6, forall_const, not_true_eq_false, not_false_eq_true, fimp, timp, i10, i01, cm_rne, and_assoc]
  (repeat' apply And.intro) <;> (try omega) <;> (try (intro hx; exfalso; omega))
  refine go_na l5 (by decide) (fun G6 M6 l6 x6 s6 m6 w6 => ?_)
  simp (disch := omega) only [g70_32, g70_34, g70_36, Option.toList_some, Option.toList_none, List.cons_append, List.nil_append, true_and, and_true, true_or, or_true, eq_self, ci0, ci1, cin6, forall_const, not_true_eq_false, not_false_eq_true, fimp, timp, i10, i01, cm_rne, and_assoc]
  (repeat' apply And.intro) <;> (try omega) <;> (try (intro hx; exfalso; omega))
  refine go_na l6 (by decide) (fun G7 M7 l7 x7 s7 m7 w7 => ?_)
  -- the seven rows
  have X7 : exG G G7 n0 := fun a ha => by
    obtain ⟨p1, q1⟩ := x1 a ha
    obtain ⟨p2, q2⟩ := x2 a (by omega)
    obtain ⟨p3, q3⟩ := x3 a (by omega)
    obtain ⟨p4, q4⟩ := x4 a (by omega)
    obtain ⟨p5, q5⟩ := x5 a (by omega)
    obtain ⟨p6, q6⟩ := x6 a (by omega)
    obtain ⟨p7, q7⟩ := x7 a (by omega)
    exact ⟨by rw [p7, p6, p5, p4, p3, p2, p1], by rw [q7, q6, q5, q4, q3, q2, q1]⟩
  have t1 : cm_sh G7 n0 = some (1, 41) := by rw [(x7 n0 (by omega)).1, (x6 n0 (by omega)).1, (x5 n0 (by omega)).1, (x4 n0 (by omega)).1, (x3 n0 (by omega)).1, (x2 n0 (by omega)).1]; exact s1
  have t2 : cm_sh G7 (n0 + 1) = some (1, 40) := by rw [(x7 (n0 + 1) (by omega)).1, (x6 (n0 + 1) (by omega)).1, (x5 (n0 + 1) (by omega)).1, (x4 (n0 + 1) (by omega)).1, (x3 (n0 + 1) (by omega)).1]; exact s2
  have t3 : cm_sh G7 (n0 + 1 + 1) = some (1, 40) := by rw [(x7 (n0 + 1 + 1) (by omega)).1, (x6 (n0 + 1 + 1) (by omega)).1, (x5 (n0 + 1 + 1) (by omega)).1, (x4 (n0 + 1 + 1) (by omega)).1]; exact s3
  have t4 : cm_sh G7 (n0 + 1 + 1 + 1) = some (1, 40) := by rw [(x7 (n0 + 1 + 1 + 1) (by omega)).1, (x6 (n0 + 1 + 1 + 1) (by omega)).1, (x5 (n0 + 1 + 1 + 1) (by omega)).1]; exact s4
  have t5 : cm_sh G7 (n0 + 1 + 1 + 1 + 1) = some (1, 40) := by rw [(x7 (n0 + 1 + 1 + 1 + 1) (by omega)).1, (x6 (n0 + 1 + 1 + 1 + 1) (by omega)).1]; exact s5
  have t6 : cm_sh G7 (n0 + 1 + 1 + 1 + 1 + 1) = some (1, 40) := by rw [(x7 (n0 + 1 + 1 + 1 + 1 + 1) (by omega)).1]; exact s6
  have t7 : cm_sh G7 (n0 + 1 + 1 + 1 + 1 + 1 + 1) = some (1, 40) := s7
  have k7 : ∀ k, k < n0 → M7 k = M k := fun k hk => by rw [m7 k (by omega), m6 k (by omega), m5 k (by omega), m4 k (by omega), m3 k (by omega), m2 k (by omega), m1 k (by omega)]
  have hX7 : isX G7 := X7.X hn0 hX
  have r7 : rXA M7 A := rXA_hi hA hh6 (fun k _ _ => k7 k (by omega))
  clear x1 x2 x3 x4 x5 x6 x7 s1 s2 s3 s4 s5 s6 s7 m1 m2 m3 m4 m5 m6 m7 w1 w2 w3 w4 w5 w6 w7 l1 l2 l3 l4 l5 l6
  have A1 : ∀ M, cm_al 1 G7 M n0 = 41 := fun M => al_of (by omega) t1
  have A2 : ∀ M, cm_al 1 G7 M (n0 + 1) = 40 := fun M => al_of (by omega) t2
  have A3 : ∀ M, cm_al 1 G7 M (n0 + 1 + 1) = 40 := fun M => al_of (by omega) t3
  have A4 : ∀ M, cm_al 1 G7 M (n0 + 1 + 1 + 1) = 40 := fun M => al_of (by omega) t4
  have A5 : ∀ M, cm_al 1 G7 M (n0 + 1 + 1 + 1 + 1) = 40 := fun M => al_of (by omega) t5
  have A6 : ∀ M, cm_al 1 G7 M (n0 + 1 + 1 + 1 + 1 + 1) = 40 := fun M => al_of (by omega) t6
  have A7 : ∀ M, cm_al 1 G7 M (n0 + 1 + 1 + 1 + 1 + 1 + 1) = 40 := fun M => al_of (by omega) t7
  generalize e1 : n0 + 1 = rh at *
  generalize e2 : rh + 1 = ru at *
  generalize e3 : ru + 1 = rt at *
  generalize e4 : rt + 1 = rf at *
  generalize e5 : rf + 1 = rl at *
  generalize e6 : rl + 1 = rq at *
  simp (disch := omega) only [g70_38, g70_40, g70_41, Option.toList_some, Option.toList_none, List.cons_append, List.nil_append, true_and, and_true, true_or, or_true, eq_self, ci0, ci1, cin6, forall_const, not_true_eq_false, not_false_eq_true, fimp, timp, i10, i01, cm_rne, and_assoc]
  (repeat' apply And.intro) <;> (try omega) <;> (try (intro hx; exfalso; omega))
  refine c70_42 (Nat.le_of_ble_eq_true rfl) hX7.1 (p_count hX7 r7 hv cn0 (fun M8 r8 f8 => ?_))
  simp (disch := omega) only [xC0, g70_45, g70_47, g70_48, g70_49, g70_50, g70_52, Option.toList_some, Option.toList_none, List.cons_append, List.nil_append, true_and, and_true, true_or, or_true, eq_self, ci0, ci1, cin6, forall_const, not_true_eq_false, not_false_eq_true, fimp, timp, i10, i01, cm_rne, and_assoc]
  refine c70_54 (Nat.le_of_ble_eq_true rfl) (l_lay hX7 r8 hv (by omega) ⟨A1, A2, A3, A7⟩ (by omega) (fun M9 r9 d9 q9 f9 => ?_))
  simp (disch := omega) only [g70_57, g70_58, g70_59, g70_61, g70_63, g70_64, Option.toList_some, Option.toList_none, List.cons_append, List.nil_append, true_and, and_true, true_or, or_true, eq_self, ci0, ci1, cin6, forall_const, not_true_eq_false, not_false_eq_true, fimp, timp, i10, i01, cm_rne, and_assoc]
  refine c70_66 (Nat.le_of_ble_eq_true rfl) hX7.1 (p_count hX7 r9 hv ⟨by decide, by decide⟩ (fun M10 r10 f10 => ?_))
  simp (disch := omega) only [xC7, g70_69, g70_70, Option.toList_some, Option.toList_none, List.cons_append, List.nil_append, true_and, and_true, true_or, or_true, eq_self, ci0, ci1, cin6, forall_const, not_true_eq_false, not_false_eq_true, fimp, timp, i10, i01, cm_rne, and_assoc]
  refine c70_72 (Nat.le_of_ble_eq_true rfl) hX7.1 (p_count hX7 r10 hv ⟨by decide, by decide⟩ (fun M11 r11 f11 => ?_))
  simp (disch := omega) only [xC8, g70_75, g70_77, g70_79, Option.toList_some, Option.toList_none, List.cons_append, List.nil_append, true_and, and_true, true_or, or_true, eq_self, ci0, ci1, cin6, forall_const, not_true_eq_false, not_false_eq_true, fimp, timp, i10, i01, cm_rne, and_assoc]
  have f911 := f10.tr f11
  have hR : isRun G7 n0 rh ru rt rf rl := ⟨by omega, ⟨A1, A2, A3, A4, A5, A6⟩, by omega, by omega, by omega, by omega, by omega, by omega⟩
  have d11 : rdS M11 n0 rh ru (aS A) := by
    unfold rdS
    rw [f911 n0 (by omega), f911 rh (by omega), f911 ru (by omega)]
    exact d9
  refine c70_81 (Nat.le_of_ble_eq_true rfl) (l_run hR hv1 d11 (fun M12 w12 f12 => ?_))
  have r12 : rXA M12 A := rXA_hi r11 hh6 (fun k _ _ => f12 k (by omega) (by omega) (by omega))
  have d12 : rdS M12 n0 rh ru (aS A) := d11.of hR f12
  have q12 : ∀ i, 0 ≤ i → i < sN (aS A) → M12 rq i = sG (aS A) i := fun i a b => by
    rw [f12 rq (by omega) (by omega) (by omega), f911 rq (by omega)]
    exact q9 i a b
  simp (disch := omega) only [g70_84, g70_86, g70_87, g70_89, g70_90, g70_92, g70_93, g70_95, g70_96, Option.toList_some, Option.toList_none, List.cons_append, List.nil_append, true_and, and_true, true_or, or_true, eq_self, ci0, ci1, cin6, forall_const, not_true_eq_false, not_false_eq_true, fimp, timp, i10, i01, cm_rne, and_assoc]
  refine l_tells1 (y14 := none) hX7 r12 hv (by omega) ⟨A1, A2, A3, A4, A5, A6, A7⟩ d12 w12 q12 (fun M13 y15 r13 f13 => ?_)
  have neg13 : ∀ k, k < 0 → M13 k = M k := fun k hk => by
    rw [f13 k (by omega), f12 k (by omega) (by omega) (by omega), f911 k (by omega), f9 k (by omega) (by omega) (by omega) (by omega) (by omega), f8 k (by omega)]
    exact k7 k (by omega)
  have cb : ∀ (f : Int → Int → Int), (∀ i a, a ≤ f i a ∧ f i a ≤ a + 1) → cm_in (fP f 0 (sN (aS A)).toNat) := fun f hf => by
    have := fP_lb hf (sN (aS A)).toNat
    constructor <;> omega
  have i1 : cm_in (xCount A 1) := ok_count hv
  have i5 : cm_in (xCount A 5) := ok_count hv
  have i6 : cm_in (xCount A 6) := ok_count hv
  -- the sums
  simp (disch := omega) only [g70_275, g70_276, Option.toList_some, Option.toList_none, List.cons_append, List.nil_append, true_and, and_true, true_or, or_true, eq_self, ci0, ci1, cin6, forall_const, not_true_eq_false, not_false_eq_true, fimp, timp, i10, i01, cm_rne, and_assoc]
  refine c70_277 (Nat.le_of_ble_eq_true rfl) hX7.1 (p_count hX7 r13 hv cn1 (fun M14 r14 f14 => ?_))
  simp (disch := omega) only [g70_280, g70_282, g70_285, g70_286, Option.toList_some, Option.toList_none, List.cons_append, List.nil_append, true_and, and_true, true_or, or_true, eq_self, ci0, ci1, cin6, forall_const, not_true_eq_false, not_false_eq_true, fimp, timp, i10, i01, cm_rne, and_assoc, eq_true i1]
  refine c70_287 (Nat.le_of_ble_eq_true rfl) hX7.1 (p_count hX7 r14 hv ⟨by decide, by decide⟩ (fun M15 r15 f15 => ?_))
  have f1215 := (f13.tr f14).tr f15
  have ea : M15 n0 (sN (aS A)) = tI (aS A) (sN (aS A)) := by rw [f1215 n0 (by omega)]; exact d12.1 _ hnn (Int.le_refl _)
  simp (disch := omega) only [xC2, g70_290, g70_291, g70_293, g70_294, g70_297, g70_298, Option.toList_some, Option.toList_none, List.cons_append, List.nil_append, true_and, and_true, true_or, or_true, eq_self, ci0, ci1, cin6, forall_const, not_true_eq_false, not_false_eq_true, fimp, timp, i10, i01, cm_rne, and_assoc, A1, ea]
  (repeat' apply And.intro) <;> (try omega) <;> (try (intro hx; exfalso; omega))
  refine c70_299 (Nat.le_of_ble_eq_true rfl) hX7.1 (p_count hX7 r15 hv ⟨by decide, by decide⟩ (fun M16 r16 f16 => ?_))
  simp (disch := omega) only [xC3, g70_302, g70_304, g70_307, g70_308, Option.toList_some, Option.toList_none, List.cons_append, List.nil_append, true_and, and_true, true_or, or_true, eq_self, ci0, ci1, cin6, forall_const, not_true_eq_false, not_false_eq_true, fimp, timp, i10, i01, cm_rne, and_assoc]
  (repeat' apply And.intro) <;> (try omega) <;> (try (intro hx; exfalso; omega))
  refine c70_309 (Nat.le_of_ble_eq_true rfl) hX7.1 (p_count hX7 r16 hv ⟨by decide, by decide⟩ (fun M17 r17 f17 => ?_))
  simp (disch := omega) only [g70_312, g70_314, g70_317, g70_318, Option.toList_some, Option.toList_none, List.cons_append, List.nil_append, true_and, and_true, true_or, or_true, eq_self, ci0, ci1, cin6, forall_const, not_true_eq_false, not_false_eq_true, fimp, timp, i10, i01, cm_rne, and_assoc, eq_true i5]
  refine c70_320 (Nat.le_of_ble_eq_true rfl) hX7.1 (p_count hX7 r17 hv ⟨by decide, by decide⟩ (fun M18 r18 f18 => ?_))
  simp (disch := omega) only [g70_323, g70_325, g70_328, g70_329, g70_332, g70_333, g70_335, g70_337, g70_340, g70_341, g70_343, g70_345, Option.toList_some, Option.toList_none, List.cons_append, List.nil_append, true_and, and_true, true_or, or_true, eq_self, ci0, ci1, cin6, forall_const, not_true_eq_false, not_false_eq_true, fimp, timp, i10, i01, cm_rne, and_assoc, eq_true i6]
  have f18' := ((f1215.tr f16).tr f17).tr f18
  have w18 : ∀ i, 0 ≤ i → i < sN (aS A) → M18 rt i = eI (aS A) i := fun i a b => by rw [f18' rt (by omega)]; exact (w12 i a b).1
  have q18 : ∀ i, 0 ≤ i → i < sN (aS A) → M18 rq i = sG (aS A) i := fun i a b => by rw [f18' rq (by omega)]; exact q12 i a b
  refine c70_347 (Nat.le_of_ble_eq_true rfl) (l_groups hX7 r18 hv ⟨by omega, by omega, A4, A7⟩ w18 q18 (fun M19 r19 f19 => ?_))
  simp (disch := omega) only [g70_350, g70_353, g70_354, g70_355, g70_356, g70_358, g70_359, g70_361, g70_363, Option.toList_some, Option.toList_none, List.cons_append, List.nil_append, true_and, and_true, true_or, or_true, eq_self, ci0, ci1, cin6, forall_const, not_true_eq_false, not_false_eq_true, fimp, timp, i10, i01, cm_rne, and_assoc]
  refine c70_364 (Nat.le_of_ble_eq_true rfl) (l_low (by omega) ?_)
  have b1 := lw_b g (n := aI (aS A) + 20) (by omega)
  have f19' := f18'.tr f19
  have d19 : rdS M19 n0 rh ru (aS A) := by
    unfold rdS
    rw [f19' n0 (by omega), f19' rh (by omega), f19' ru (by omega)]
    exact d12
  simp (disch := omega) only [Option.toList_some, Option.toList_none, List.cons_append, List.nil_append, true_and, and_true, true_or, or_true, eq_self, ci0, ci1, cin6, forall_const, not_true_eq_false, not_false_eq_true, fimp, timp, i10, i01, cm_rne, and_assoc]
  refine c70_367 (Nat.le_of_ble_eq_true rfl) (l_times hX7 r19 hv ⟨by omega, A1, A2, A3⟩ d19 (t := lw g (aI (aS A) + 20)) (by omega) (fun M20 r20 f20 => ?_))
  simp (disch := omega) only [g70_370, g70_373, g70_374, g70_375, g70_376, g70_378, g70_379, g70_381, g70_382, Option.toList_some, Option.toList_none, List.cons_append, List.nil_append, true_and, and_true, true_or, or_true, eq_self, ci0, ci1, cin6, forall_const, not_true_eq_false, not_false_eq_true, fimp, timp, i10, i01, cm_rne, and_assoc]
  refine c70_385 (Nat.le_of_ble_eq_true rfl) (l_low (by omega) ?_)
  have b2 := lw_b (cm_ishr g 8) (n := 200) (by decide)
  have d20 : rdS M20 n0 rh ru (aS A) := by
    unfold rdS
    rw [f20 n0 (by omega), f20 rh (by omega), f20 ru (by omega)]
    exact d19
  simp (disch := omega) only [Option.toList_some, Option.toList_none, List.cons_append, List.nil_append, true_and, and_true, true_or, or_true, eq_self, ci0, ci1, cin6, forall_const, not_true_eq_false, not_false_eq_true, fimp, timp, i10, i01, cm_rne, and_assoc]
  refine c70_388 (Nat.le_of_ble_eq_true rfl) (l_times hX7 r20 hv ⟨by omega, A1, A2, A3⟩ d20 (t := lw (cm_ishr g 8) 200) (by omega) (fun M21 r21 f21 => ?_))
  have f21' := (f19'.tr f20).tr f21
  have d21 : rdS M21 n0 rh ru (aS A) := by
    unfold rdS
    rw [f21 n0 (by omega), f21 rh (by omega), f21 ru (by omega)]
    exact d20
  have q21 : ∀ i, 0 ≤ i → i < sN (aS A) → M21 rq i = sG (aS A) i := fun i a b => by rw [f21' rq (by omega)]; exact q12 i a b
  simp (disch := omega) only [g70_391, g70_394, g70_395, g70_396, g70_397, g70_399, g70_401, Option.toList_some, Option.toList_none, List.cons_append, List.nil_append, true_and, and_true, true_or, or_true, eq_self, ci0, ci1, cin6, forall_const, not_true_eq_false, not_false_eq_true, fimp, timp, i10, i01, cm_rne, and_assoc]
  refine c70_402 (Nat.le_of_ble_eq_true rfl) (l_others (n0 := rq + 1) l7 (by omega) hX7 r21 hv (by omega) ⟨t1, t2, t3, t7⟩ d21 q21 (fun G' M' n' h1 h2 lz' ex' r' ng' => ?_))
  simp (disch := omega) only [g70_405, g70_408, g70_409, g70_412, g70_413, Option.toList_some, Option.toList_none, List.cons_append, List.nil_append, true_and, and_true, true_or, or_true, eq_self, ci0, ci1, cin6, forall_const, not_true_eq_false, not_false_eq_true, fimp, timp, i10, i01, cm_rne, and_assoc]
  exact K G' M' n' (by omega) (by omega) lz' (exG.X ex' (by omega) hX7) r' (fun k hk => by
    rw [ng' k hk, f21 k (by omega), f20 k (by omega), f19 k (by omega), f18 k (by omega), f17 k (by omega), f16 k (by omega), f15 k (by omega), f14 k (by omega)]
    exact neg13 k hk)
end LAW9
