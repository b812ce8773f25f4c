/-! ===== the law: a line more, the settings ===== -/
section LAW2
variable {G : cm_G} {M : cm_M} {g h n v : Int} {A : sA} {Q : Option cm_V → cm_G → cm_M → Prop}
/-- what add adds: its kind, group, number -/
def adK (h : Int) : Int := if lw h 7 < 4 then 0 else lw h 7 - 3
def adG (h : Int) : Int := if lw h 7 < 4 then lw (cm_ishr h 3) 3 else -6
def adM (h : Int) : Int := if lw h 7 < 4 then lw (cm_ishr h 5) 1000 else -6
theorem ad_b (h : Int) : (0 ≤ adK h ∧ adK h ≤ 3) ∧ (adK h = 0 → 0 ≤ adG h ∧ adG h ≤ 7 ∧ 0 ≤ adM h ∧ adM h ≤ 999) ∧ (¬ adK h = 0 → adG h = -6 ∧ adM h = -6) ∧ (-6 ≤ adG h ∧ adG h ≤ 7) ∧ (-6 ≤ adM h ∧ adM h ≤ 999) := by
  have h1 := lw_b h (n := 7) (by decide)
  have h2 := lw_b (cm_ishr h 3) (n := 3) (by decide)
  have h3 := lw_b (cm_ishr h 5) (n := 1000) (by decide)
  unfold adK adG adM
  by_cases hz : lw h 7 < 4
  · rw [if_pos hz, if_pos hz, if_pos hz]; omega
  · rw [if_neg hz, if_neg hz, if_neg hz]; omega
/-- behind the cue: the line stands as it should -/
theorem l_add2 {u : Int} (hX : isX G) (hA : rXA M A) (hv : vA A) (hn : 0 ≤ n ∧ n < sN (aS A)) (hu : 0 ≤ u ∧ u ≤ 30) (h0 : sC (aS A) n = 0) {y z : Int} {x6 : Option cm_V} (K : ∀ M' A', rXA M' A' → vA A' → fr M M' 0 81 → Q (some (0, 1)) G M') : Go 66 206 [some (2, 0), some (0, h), some (0, n), some (0, z), some (0, y), some (0, u), some (0, 1)] [] G M Q := by
  have hb := hv.1.2.1
  have i1 : cm_in n := ⟨by omega, by omega⟩
  have i3 : cm_in 3 := ⟨by decide, by decide⟩
  simp (disch := omega) only [g66_206, g66_208, g66_211, g66_212, g66_213, Option.toList_some, Option.toList_none, List.cons_append, List.nil_append, true_and, and_true, true_or, or_true, eq_self, ci0, ci1, cin6, forall_const, not_true_eq_false, not_false_eq_true, fimp, timp, i10, i01, cm_rne, and_assoc]
  refine c66_214 (Nat.le_of_ble_eq_true rfl) hX.1 (p_of hX hA hv i1 i3 (fun M1 r1 f1 => ?_))
  simp (disch := omega) only [(xO hn).2.2.2.1, h0, g66_217, g66_220, g66_222, g66_225, g66_226, g66_227, g66_246, g66_247, g66_250, g66_251, Option.toList_some, Option.toList_none, List.cons_append, List.nil_append, true_and, and_true, true_or, or_true, eq_self, ci0, ci1, cin6, forall_const, not_true_eq_false, not_false_eq_true, fimp, timp, i10, i01, cm_rne, and_assoc]
  (repeat' apply And.intro) <;> (try omega) <;> (try (intro hx; exfalso; omega))
  · intro he
    exact K M1 _ r1 hv f1
  · intro hne
    have hr : rCue A n u = (sC (aS A) n, chg A (sCue (aS A) n u)) := by
      unfold rCue
      rw [ite'_p hn, ite'_p hu]
    refine c66_229 (Nat.le_of_ble_eq_true rfl) hX.1 (p_cue hX r1 hv i1 ⟨by omega, by omega⟩ (fun M2 r2' f2 => ?_))
    rw [hr] at r2' ⊢
    have r2 : rXA M2 (chg A (sCue (aS A) n u)) := r2'
    have hv2 : vA (chg A (sCue (aS A) n u)) := vA_chg hv (vS_cue hv.1 hu)
    simp (disch := omega) only [h0, g66_232, g66_235, g66_236, g66_237, Option.toList_some, Option.toList_none, List.cons_append, List.nil_append, true_and, and_true, true_or, or_true, eq_self, ci0, ci1, cin6, forall_const, not_true_eq_false, not_false_eq_true, fimp, timp, i10, i01, cm_rne, and_assoc]
    refine c66_238 (Nat.le_of_ble_eq_true rfl) hX.1 (p_of hX r2 hv2 i1 i3 (fun M3 r3 f3 => ?_))
    have e3 : xOf (aS (chg A (sCue (aS A) n u))) n 3 = u := by
      rw [(xO (S := aS (chg A (sCue (aS A) n u))) hn).2.2.2.1]
      show (if n = n then u else sC (aS A) n) = u
      rw [if_pos rfl]
    simp (disch := omega) only [e3, g66_241, g66_243, g66_246, g66_247, g66_250, g66_251, Option.toList_some, Option.toList_none, List.cons_append, List.nil_append, true_and, and_true, true_or, or_true, eq_self, ci0, ci1, cin6, forall_const, not_true_eq_false, not_false_eq_true, fimp, timp, i10, i01, cm_rne, and_assoc]
    (repeat' apply And.intro) <;> (try omega) <;> (try (intro hx; exfalso; omega))
    exact K M3 _ r3 hv2 ((f1.tr f2).tr f3)
theorem l_add1 {told : Int} {x4 x5 x6 : Option cm_V} {A1 : sA} {M1 : cm_M} (hX : isX G) (hv : vA A) (hA1 : rXA M1 A1) (hv1 : vA A1) (f1 : fr M M1 0 81) (hh : cm_in h) (hc : (sN (aS A) = 40 ∧ told = -4 ∧ A1 = A) ∨ (¬ sN (aS A) = 40 ∧ told = sN (aS A) ∧ A1 = chg A (sAdd (aS A) (adK h) (adG h) (adM h) 0))) (K : ∀ M' A', rXA M' A' → vA A' → fr M M' 0 81 → Q (some (0, 1)) G M') : Go 66 48 [some (2, 0), some (0, h), some (0, sN (aS A)), some (0, lw h 7), x4, x5, x6] [(0, told)] G M1 Q := by
  have hb := hv.1.2.1
  have hb0 := hv.1.1
  have i0 := cn0
  have hk7 := lw_b h (n := 7) (by decide)
  rcases hc with ⟨c1, c2, c3⟩ | ⟨c1, c2, c3⟩
  · rw [c3] at hA1 hv1
    rw [c1, c2]
    simp (disch := omega) only [g66_48, g66_50, g66_51, g66_53, g66_56, g66_58, g66_60, g66_63, g66_64, Option.toList_some, Option.toList_none, List.cons_append, List.nil_append, true_and, and_true, true_or, or_true, eq_self, ci0, ci1, cin6, forall_const, not_true_eq_false, not_false_eq_true, fimp, timp, i10, i01, cm_rne, and_assoc]
    (repeat' apply And.intro) <;> (try omega) <;> (try (intro hx; exfalso; omega))
    refine c66_65 (Nat.le_of_ble_eq_true rfl) hX.1 (p_count hX hA1 hv1 i0 (fun M2 r2 f2 => ?_))
    simp (disch := omega) only [xC0, c1, g66_68, g66_70, g66_73, g66_74, g66_77, g66_78, Option.toList_some, Option.toList_none, List.cons_append, List.nil_append, true_and, and_true, true_or, or_true, eq_self, ci0, ci1, cin6, forall_const, not_true_eq_false, not_false_eq_true, fimp, timp, i10, i01, cm_rne, and_assoc]
    (repeat' apply And.intro) <;> (try omega) <;> (try (intro hx; exfalso; omega))
    exact K M2 _ r2 hv1 (f1.tr f2)
  · have hn1 : sN (aS A1) = sN (aS A) + 1 := by rw [c3]; rfl
    have hn : 0 ≤ sN (aS A) ∧ sN (aS A) < sN (aS A1) := by omega
    have iN : cm_in (sN (aS A)) := ⟨by omega, by omega⟩
    have eK : sK (aS A1) (sN (aS A)) = adK h := by rw [c3]; exact if_pos rfl
    have eG : sG (aS A1) (sN (aS A)) = adG h := by rw [c3]; exact if_pos rfl
    have eM : sM (aS A1) (sN (aS A)) = adM h := by rw [c3]; exact if_pos rfl
    have eC : sC (aS A1) (sN (aS A)) = 0 := by rw [c3]; exact if_pos rfl
    obtain ⟨o0, o1, o2, -⟩ := xO hn
    rw [eK] at o0
    rw [eG] at o1
    rw [eM] at o2
    have adb := ad_b h
    -- the cue that it is to have
    have cue : ∀ u, (0 ≤ u ∧ u ≤ 30) → Go 66 105 [some (2, 0), some (0, h), some (0, sN (aS A)), some (0, lw h 7), some (0, sN (aS A)), x5, x6] [(0, u)] G M1 Q := by
      intro u hu
      simp (disch := omega) only [g66_105, g66_107, g66_109, g66_110, g66_113, g66_114, Option.toList_some, Option.toList_none, List.cons_append, List.nil_append, true_and, and_true, true_or, or_true, eq_self, ci0, ci1, cin6, forall_const, not_true_eq_false, not_false_eq_true, fimp, timp, i10, i01, cm_rne, and_assoc]
      (repeat' apply And.intro) <;> (try omega) <;> (try (intro hx; exfalso; omega))
      refine c66_115 (Nat.le_of_ble_eq_true rfl) hX.1 (p_count hX hA1 hv1 i0 (fun M2 r2 f2 => ?_))
      simp (disch := omega) only [xC0, hn1, g66_118, g66_119, g66_120, g66_121, g66_124, g66_125, g66_126, Option.toList_some, Option.toList_none, List.cons_append, List.nil_append, true_and, and_true, true_or, or_true, eq_self, ci0, ci1, cin6, forall_const, not_true_eq_false, not_false_eq_true, fimp, timp, i10, i01, cm_rne, and_assoc]
      (repeat' apply And.intro) <;> (try omega) <;> (try (intro hx; exfalso; omega))
      refine c66_127 (Nat.le_of_ble_eq_true rfl) hX.1 (p_of hX r2 hv1 iN i0 (fun M3 r3 f3 => ?_))
      rw [o0]
      have rest : ∀ (M4 : cm_M), rXA M4 A1 → fr M M4 0 81 → Go 66 145 [some (2, 0), some (0, h), some (0, sN (aS A)), some (0, lw h 7), some (0, sN (aS A)), some (0, u), x6] [] G M4 Q := by
        intro M4 r4 f4
        simp (disch := omega) only [g66_145, g66_146, g66_147, Option.toList_some, Option.toList_none, List.cons_append, List.nil_append, true_and, and_true, true_or, or_true, eq_self, ci0, ci1, cin6, forall_const, not_true_eq_false, not_false_eq_true, fimp, timp, i10, i01, cm_rne, and_assoc]
        refine c66_148 (Nat.le_of_ble_eq_true rfl) hX.1 (p_of hX r4 hv1 iN cn1 (fun M5 r5 f5 => ?_))
        rw [o1]
        have rest2 : ∀ (M6 : cm_M), rXA M6 A1 → fr M M6 0 81 → Go 66 171 [some (2, 0), some (0, h), some (0, sN (aS A)), some (0, lw h 7), some (0, sN (aS A)), some (0, u), x6] [] G M6 Q := by
          intro M6 r6 f6
          simp (disch := omega) only [g66_171, g66_172, g66_173, Option.toList_some, Option.toList_none, List.cons_append, List.nil_append, true_and, and_true, true_or, or_true, eq_self, ci0, ci1, cin6, forall_const, not_true_eq_false, not_false_eq_true, fimp, timp, i10, i01, cm_rne, and_assoc]
          refine c66_174 (Nat.le_of_ble_eq_true rfl) hX.1 (p_of hX r6 hv1 iN ⟨by decide, by decide⟩ (fun M7 r7 f7 => ?_))
          rw [o2]
          have rest3 : Go 66 199 [some (2, 0), some (0, h), some (0, sN (aS A)), some (0, lw h 7), some (0, sN (aS A)), some (0, u), x6] [] G M7 Q := by
            simp (disch := omega) only [g66_199, g66_200, g66_203, g66_204, Option.toList_some, Option.toList_none, List.cons_append, List.nil_append, true_and, and_true, true_or, or_true, eq_self, ci0, ci1, cin6, forall_const, not_true_eq_false, not_false_eq_true, fimp, timp, i10, i01, cm_rne, and_assoc]
            exact l_add2 (x6 := none) hX r7 hv1 hn hu eC (fun M' A' a b c => K M' A' a b ((f6.tr f7).tr c))
          simp (disch := omega) only [g66_177, g66_178, g66_179, g66_182, g66_183, g66_184, g66_185, g66_194, g66_196, Option.toList_some, Option.toList_none, List.cons_append, List.nil_append, true_and, and_true, true_or, or_true, eq_self, ci0, ci1, cin6, forall_const, not_true_eq_false, not_false_eq_true, fimp, timp, i10, i01, cm_rne, and_assoc]
          (repeat' apply And.intro) <;> (try omega) <;> (try (intro hx; exfalso; omega))
          · intro hz
            have e : adM h = -6 := if_neg hz
            (repeat' apply And.intro) <;> (try omega) <;> (try (intro hx; exfalso; omega))
            exact fun _ => rest3
          · intro hz
            refine c66_188 (Nat.le_of_ble_eq_true rfl) (l_low (by omega) ?_)
            have e : adM h = lw (cm_ishr h 5) 1000 := if_pos hz
            simp (disch := omega) only [g66_191, g66_194, g66_196, Option.toList_some, Option.toList_none, List.cons_append, List.nil_append, true_and, and_true, true_or, or_true, eq_self, ci0, ci1, cin6, forall_const, not_true_eq_false, not_false_eq_true, fimp, timp, i10, i01, cm_rne, and_assoc, ← e]
            (repeat' apply And.intro) <;> (try omega) <;> (try (intro hx; exfalso; omega))
            all_goals exact rest3
        simp (disch := omega) only [g66_151, g66_152, g66_153, g66_156, g66_157, g66_158, g66_159, g66_166, g66_168, Option.toList_some, Option.toList_none, List.cons_append, List.nil_append, true_and, and_true, true_or, or_true, eq_self, ci0, ci1, cin6, forall_const, not_true_eq_false, not_false_eq_true, fimp, timp, i10, i01, cm_rne, and_assoc]
        (repeat' apply And.intro) <;> (try omega) <;> (try (intro hx; exfalso; omega))
        · intro hz
          have e : adG h = -6 := if_neg hz
          (repeat' apply And.intro) <;> (try omega) <;> (try (intro hx; exfalso; omega))
          exact fun _ => rest2 M5 r5 (f4.tr f5)
        · intro hz
          refine c66_160 (Nat.le_of_ble_eq_true rfl) (l_low (by omega) ?_)
          have e : adG h = lw (cm_ishr h 3) 3 := if_pos hz
          simp (disch := omega) only [g66_163, g66_166, g66_168, Option.toList_some, Option.toList_none, List.cons_append, List.nil_append, true_and, and_true, true_or, or_true, eq_self, ci0, ci1, cin6, forall_const, not_true_eq_false, not_false_eq_true, fimp, timp, i10, i01, cm_rne, and_assoc, ← e]
          (repeat' apply And.intro) <;> (try omega) <;> (try (intro hx; exfalso; omega))
          exact rest2 M5 r5 (f4.tr f5)
      simp (disch := omega) only [g66_130, g66_131, g66_132, g66_135, g66_136, g66_139, g66_140, g66_141, g66_142, Option.toList_some, Option.toList_none, List.cons_append, List.nil_append, true_and, and_true, true_or, or_true, eq_self, ci0, ci1, cin6, forall_const, not_true_eq_false, not_false_eq_true, fimp, timp, i10, i01, cm_rne, and_assoc]
      (repeat' apply And.intro) <;> (try omega) <;> (try (intro hx; exfalso; omega))
      · intro hz
        have e : adK h = lw h 7 - 3 := if_neg hz
        (repeat' apply And.intro) <;> (try omega) <;> (try (intro hx; exfalso; omega))
        exact fun _ => rest M3 r3 ((f1.tr f2).tr f3)
      · intro hz
        have e : adK h = 0 := if_pos hz
        (repeat' apply And.intro) <;> (try omega) <;> (try (intro hx; exfalso; omega))
        exact fun _ => rest M3 r3 ((f1.tr f2).tr f3)
    rw [c2]
    simp (disch := omega) only [g66_48, g66_50, g66_51, g66_53, g66_79, g66_80, g66_82, g66_83, Option.toList_some, Option.toList_none, List.cons_append, List.nil_append, true_and, and_true, true_or, or_true, eq_self, ci0, ci1, cin6, forall_const, not_true_eq_false, not_false_eq_true, fimp, timp, i10, i01, cm_rne, and_assoc]
    (repeat' apply And.intro) <;> (try omega) <;> (try (intro hx; exfalso; omega))
    intro _
    refine c66_84 (Nat.le_of_ble_eq_true rfl) (l_low (by omega) ?_)
    have h5 := lw_b (cm_ishr h 16) (n := 5) (by decide)
    simp (disch := omega) only [g66_87, g66_90, g66_91, g66_92, g66_94, g66_95, g66_104, Option.toList_some, Option.toList_none, List.cons_append, List.nil_append, true_and, and_true, true_or, or_true, eq_self, ci0, ci1, cin6, forall_const, not_true_eq_false, not_false_eq_true, fimp, timp, i10, i01, cm_rne, and_assoc]
    (repeat' apply And.intro) <;> (try omega) <;> (try (intro hx; exfalso; omega))
    · exact fun _ => cue 0 (by omega)
    · intro _
      refine c66_97 (Nat.le_of_ble_eq_true rfl) (l_low (by omega) ?_)
      have h30 := lw_b (cm_ishr h 19) (n := 30) (by decide)
      simp (disch := omega) only [g66_100, g66_101, Option.toList_some, Option.toList_none, List.cons_append, List.nil_append, true_and, and_true, true_or, or_true, eq_self, ci0, ci1, cin6, forall_const, not_true_eq_false, not_false_eq_true, fimp, timp, i10, i01, cm_rne, and_assoc]
      exact cue _ (by omega)
theorem l_add (hX : isX G) (hA : rXA M A) (hv : vA A) (hh : cm_in h) (K : ∀ M' A', rXA M' A' → vA A' → fr M M' 0 81 → Q (some (0, 1)) G M') : Go 66 0 [some (2, 0), some (0, h), none, none, none, none, none] [] G M Q := by
  have hb := hv.1.2.1
  have hb0 := hv.1.1
  have hk7 := lw_b h (n := 7) (by decide)
  have h3 := lw_b (cm_ishr h 3) (n := 3) (by decide)
  have h5 := lw_b (cm_ishr h 5) (n := 1000) (by decide)
  have adb := ad_b h
  simp (disch := omega) only [g66_0, g66_1, Option.toList_some, Option.toList_none, List.cons_append, List.nil_append, true_and, and_true, true_or, or_true, eq_self, ci0, ci1, cin6, forall_const, not_true_eq_false, not_false_eq_true, fimp, timp, i10, i01, cm_rne, and_assoc]
  refine c66_2 (Nat.le_of_ble_eq_true rfl) hX.1 (p_count hX hA hv cn0 (fun M1 r1 f1 => ?_))
  simp (disch := omega) only [xC0, g66_5, g66_6, g66_7, Option.toList_some, Option.toList_none, List.cons_append, List.nil_append, true_and, and_true, true_or, or_true, eq_self, ci0, ci1, cin6, forall_const, not_true_eq_false, not_false_eq_true, fimp, timp, i10, i01, cm_rne, and_assoc]
  refine c66_9 (Nat.le_of_ble_eq_true rfl) (l_low (by omega) ?_)
  simp (disch := omega) only [g66_12, g66_13, g66_14, g66_15, g66_18, g66_19, g66_20, g66_21, g66_22, g66_41, g66_42, g66_43, g66_44, Option.toList_some, Option.toList_none, List.cons_append, List.nil_append, true_and, and_true, true_or, or_true, eq_self, ci0, ci1, cin6, forall_const, not_true_eq_false, not_false_eq_true, fimp, timp, i10, i01, cm_rne, and_assoc]
  (repeat' apply And.intro) <;> (try omega) <;> (try (intro hx; exfalso; omega))
  · intro hz
    have eK : adK h = lw h 7 - 3 := if_neg hz
    have eG : adG h = -6 := if_neg hz
    have eM : adM h = -6 := if_neg hz
    refine c66_45 (Nat.le_of_ble_eq_true rfl) hX.1 (p_line hX r1 hv (k := lw h 7 - 3) ⟨by omega, by omega⟩ (fun M2 r2 f2 => ?_))
    have ho := (ok_line (A := A) (k := lw h 7 - 3) hv).2
    unfold rLine at r2 ho ⊢
    rw [ite'_p (show 1 ≤ lw h 7 - 3 ∧ lw h 7 - 3 ≤ 3 by omega)] at r2 ho ⊢
    by_cases h40 : sN (aS A) = 40
    · rw [ite'_p h40] at r2 ho ⊢
      exact l_add1 hX hv r2 ho (f1.tr f2) hh (Or.inl ⟨h40, rfl, rfl⟩) K
    · rw [ite'_n h40] at r2 ho ⊢
      exact l_add1 hX hv r2 ho (f1.tr f2) hh (Or.inr ⟨h40, rfl, by show chg A _ = _; rw [eK, eG, eM]⟩) K
  · intro hz
    have eK : adK h = 0 := if_pos hz
    have eG : adG h = lw (cm_ishr h 3) 3 := if_pos hz
    have eM : adM h = lw (cm_ishr h 5) 1000 := if_pos hz
    refine c66_23 (Nat.le_of_ble_eq_true rfl) (l_low (by omega) ?_)
    simp (disch := omega) only [g66_26, g66_27, g66_28, g66_29, Option.toList_some, Option.toList_none, List.cons_append, List.nil_append, true_and, and_true, true_or, or_true, eq_self, ci0, ci1, cin6, forall_const, not_true_eq_false, not_false_eq_true, fimp, timp, i10, i01, cm_rne, and_assoc]
    refine c66_32 (Nat.le_of_ble_eq_true rfl) (l_low (by omega) ?_)
    simp (disch := omega) only [Option.toList_some, Option.toList_none, List.cons_append, List.nil_append, true_and, and_true, true_or, or_true, eq_self, ci0, ci1, cin6, forall_const, not_true_eq_false, not_false_eq_true, fimp, timp, i10, i01, cm_rne, and_assoc]
    refine c66_35 (Nat.le_of_ble_eq_true rfl) hX.1 (p_name hX r1 hv (g := lw (cm_ishr h 3) 3) (n := lw (cm_ishr h 5) 1000) ⟨by omega, by omega⟩ ⟨by omega, by omega⟩ (fun M2 r2 f2 => ?_))
    have ho := (ok_name (A := A) (g := lw (cm_ishr h 3) 3) (n := lw (cm_ishr h 5) 1000) hv).2
    unfold rName at r2 ho ⊢
    rw [ite'_p (show (0 ≤ lw (cm_ishr h 3) 3 ∧ lw (cm_ishr h 3) 3 ≤ 7) ∧ 0 ≤ lw (cm_ishr h 5) 1000 ∧ lw (cm_ishr h 5) 1000 ≤ 999 by omega)] at r2 ho ⊢
    simp (disch := omega) only [g66_38, Option.toList_some, Option.toList_none, List.cons_append, List.nil_append, true_and, and_true, true_or, or_true, eq_self, ci0, ci1, cin6, forall_const, not_true_eq_false, not_false_eq_true, fimp, timp, i10, i01, cm_rne, and_assoc]
    by_cases h40 : sN (aS A) = 40
    · rw [ite'_p h40] at r2 ho ⊢
      exact l_add1 hX hv r2 ho (f1.tr f2) hh (Or.inl ⟨h40, rfl, rfl⟩) K
    · rw [ite'_n h40] at r2 ho ⊢
      exact l_add1 hX hv r2 ho (f1.tr f2) hh (Or.inr ⟨h40, rfl, by show chg A _ = _; rw [eK, eG, eM]⟩) K
end LAW2
