/-! ===== the law: one change ===== -/
theorem sUp_at (S : sS) (a : Int) : ∀ k : Nat, sM (sUp S a k) (a + k) = sM S a ∧ sC (sUp S a k) (a + k) = sC S a
  | 0 => by
    rw [show a + ((0 : Nat) : Int) = a by omega]
    exact ⟨rfl, rfl⟩
  | k + 1 => by
    have ih := sUp_at S a k
    show sw (sM (sUp S a k)) (a + k) (a + k + 1) (a + ((k + 1 : Nat) : Int)) = sM S a ∧ sw (sC (sUp S a k)) (a + k) (a + k + 1) (a + ((k + 1 : Nat) : Int)) = sC S a
    unfold sw
    rw [if_neg (by omega), if_pos (by omega), if_neg (by omega), if_pos (by omega)]
    exact ih
theorem sDn_at (S : sS) (a : Int) : ∀ k : Nat, sM (sDn S a k) (a - k) = sM S a ∧ sC (sDn S a k) (a - k) = sC S a
  | 0 => by
    rw [show a - ((0 : Nat) : Int) = a by omega]
    exact ⟨rfl, rfl⟩
  | k + 1 => by
    have ih := sDn_at S a k
    show sw (sM (sDn S a k)) (a - k - 1) (a - k) (a - ((k + 1 : Nat) : Int)) = sM S a ∧ sw (sC (sDn S a k)) (a - k - 1) (a - k) (a - ((k + 1 : Nat) : Int)) = sC S a
    unfold sw
    rw [if_pos (by omega), if_pos (by omega)]
    exact ih
theorem sMv_at (S : sS) (a p : Int) : sM (sMv S a p) p = sM S a ∧ sC (sMv S a p) p = sC S a := by
  unfold sMv
  by_cases h : a ≤ p
  · rw [if_pos h]
    have := sUp_at S a (p - a).toNat
    rwa [show a + (((p - a).toNat : Nat) : Int) = p by omega] at this
  · rw [if_neg h]
    have := sDn_at S a (a - p).toNat
    rwa [show a - (((a - p).toNat : Nat) : Int) = p by omega] at this
section LAW10
variable {G : cm_G} {M : cm_M} {A : sA} {g many e h i kind : Int} {Q : Option cm_V → cm_G → cm_M → Prop}
theorem l_e403 (hX : isX G) (hA : rXA M A) (hv : vA A) {y10 y11 y12 y13 : Option cm_V} (K : ∀ M' A' y10 y11 y12 y13, rXA M' A' → vA A' → fr M M' 0 81 → Go 74 413 [some (2, -2), some (2, 0), some (0, g), some (0, many), some (0, e), some (0, h), some (0, sN (aS A)), some (0, i), some (0, kind), some (0, 1), y10, y11, y12, y13] [] G M' Q) : Go 74 403 [some (2, -2), some (2, 0), some (0, g), some (0, many), some (0, e), some (0, h), some (0, sN (aS A)), some (0, i), some (0, kind), some (0, 1), y10, y11, y12, y13] [] G M Q := by
  have hh := ishr_in h 5
  simp (disch := omega) only [g74_403, g74_404, g74_406, g74_407, Option.toList_some, Option.toList_none, List.cons_append, List.nil_append, true_and, and_true, true_or, or_true, eq_self, ci0, ci1, cin6, forall_const, not_true_eq_false, not_false_eq_true, fimp, timp, i10, i01, cm_rne, and_assoc]
  refine c74_408 (Nat.le_of_ble_eq_true rfl) (l_add hX hA hv hh (fun M1 A1 r1 v1 f1 => ?_))
  simp (disch := omega) only [g74_411, Option.toList_some, Option.toList_none, List.cons_append, List.nil_append, true_and, and_true, true_or, or_true, eq_self, ci0, ci1, cin6, forall_const, not_true_eq_false, not_false_eq_true, fimp, timp, i10, i01, cm_rne, and_assoc]
  exact K M1 A1 _ _ _ _ r1 v1 f1
theorem l_e357 (hX : isX G) (htb : tbl M) (hA : rXA M A) (hv : vA A) (hk : 0 ≤ kind ∧ kind < 5) {y10 y11 y12 y13 : Option cm_V} (K : ∀ M' A' y10 y11 y12 y13, rXA M' A' → vA A' → fr M M' 0 81 → Go 74 413 [some (2, -2), some (2, 0), some (0, g), some (0, many), some (0, e), some (0, h), some (0, sN (aS A)), some (0, i), some (0, kind), some (0, 1), y10, y11, y12, y13] [] G M' Q) : Go 74 357 [some (2, -2), some (2, 0), some (0, g), some (0, many), some (0, e), some (0, h), some (0, sN (aS A)), some (0, i), some (0, kind), some (0, 1), y10, y11, y12, y13] [] G M Q := by
  have hscr := hv.1.2.2.1
  simp (disch := omega) only [g74_357, g74_359, g74_360, g74_363, g74_364, Option.toList_some, Option.toList_none, List.cons_append, List.nil_append, true_and, and_true, true_or, or_true, eq_self, ci0, ci1, cin6, forall_const, not_true_eq_false, not_false_eq_true, fimp, timp, i10, i01, cm_rne, and_assoc]
  (repeat' apply And.intro) <;> (try omega) <;> (try (intro hx; exfalso; omega))
  · exact fun _ => l_e403 hX hA hv K
  · intro h3
    refine c74_366 (Nat.le_of_ble_eq_true rfl) hX.1 (p_count hX hA hv ⟨by decide, by decide⟩ (fun M1 r1 f1 => ?_))
    simp (disch := omega) only [xC7, g74_369, g74_371, g74_372, g74_373, g74_374, g74_376, g74_378, g74_379, Option.toList_some, Option.toList_none, List.cons_append, List.nil_append, true_and, and_true, true_or, or_true, eq_self, ci0, ci1, cin6, forall_const, not_true_eq_false, not_false_eq_true, fimp, timp, i10, i01, cm_rne, and_assoc]
    refine c74_381 (Nat.le_of_ble_eq_true rfl) (l_low (by omega) ?_)
    have b := lw_b (cm_ishr h 9) (n := 17) (by decide)
    simp (disch := omega) only [g74_384, Option.toList_some, Option.toList_none, List.cons_append, List.nil_append, true_and, and_true, true_or, or_true, eq_self, ci0, ci1, cin6, forall_const, not_true_eq_false, not_false_eq_true, fimp, timp, i10, i01, cm_rne, and_assoc]
    have bw : 4 ≤ 4 + lw (cm_ishr h 9) 17 ∧ 4 + lw (cm_ishr h 9) 17 ≤ 20 := by omega
    generalize 4 + lw (cm_ishr h 9) 17 = w at *
    have k1 : okS 0 w := ⟨⟨by decide, by decide⟩, by rw [if_pos rfl]; exact bw.1, by rw [if_pos rfl]; exact bw.2⟩
    have s1 : rSet A 0 w = (sT (aS A) 0, chg A (sSet (aS A) 0 w)) := by
      unfold rSet
      rw [ite'_p k1]
    refine c74_385 (Nat.le_of_ble_eq_true rfl) hX.1 (p_set hX (htb.of (fun k hk => f1 k (by omega))) r1 hv cn0 ⟨by omega, by omega⟩ (fun M2 r2' f2 => ?_))
    rw [s1] at r2' ⊢
    have r2 : rXA M2 (chg A (sSet (aS A) 0 w)) := r2'
    have v2 : vA (chg A (sSet (aS A) 0 w)) := vA_chg hv (vS_set hv.1 k1)
    simp (disch := omega) only [g74_388, g74_390, g74_393, g74_394, g74_397, g74_398, g74_400, Option.toList_some, Option.toList_none, List.cons_append, List.nil_append, true_and, and_true, true_or, or_true, eq_self, ci0, ci1, cin6, forall_const, not_true_eq_false, not_false_eq_true, fimp, timp, i10, i01, cm_rne, and_assoc]
    (repeat' apply And.intro) <;> (try omega) <;> (try (intro hx; exfalso; omega))
    exact K M2 _ _ _ _ _ r2 v2 (f1.tr f2)
theorem l_e252 (hX : isX G) (htb : tbl M) (hA : rXA M A) (hv : vA A) (hk : 0 ≤ kind ∧ kind < 5) (hi : 0 < sN (aS A) → 0 ≤ i ∧ i < sN (aS A)) {y10 y11 y12 y13 : Option cm_V} (K : ∀ M' A' y10 y11 y12 y13, rXA M' A' → vA A' → fr M M' 0 81 → Go 74 413 [some (2, -2), some (2, 0), some (0, g), some (0, many), some (0, e), some (0, h), some (0, sN (aS A)), some (0, i), some (0, kind), some (0, 1), y10, y11, y12, y13] [] G M' Q) : Go 74 252 [some (2, -2), some (2, 0), some (0, g), some (0, many), some (0, e), some (0, h), some (0, sN (aS A)), some (0, i), some (0, kind), some (0, 1), y10, y11, y12, y13] [] G M Q := by
  have hn := hv.1.2.1
  have hn0 := hv.1.1
  have i2 : cm_in 2 := ⟨by decide, by decide⟩
  have i3 : cm_in 3 := ⟨by decide, by decide⟩
  simp (disch := omega) only [g74_252, g74_254, g74_257, g74_259, g74_260, g74_263, g74_264, Option.toList_some, Option.toList_none, List.cons_append, List.nil_append, true_and, and_true, true_or, or_true, eq_self, ci0, ci1, cin6, forall_const, not_true_eq_false, not_false_eq_true, fimp, timp, i10, i01, cm_rne, and_assoc]
  (repeat' apply And.intro) <;> (try omega) <;> (try (intro hx; exfalso; omega))
  · exact fun _ => l_e357 hX htb hA hv hk K
  · intro hpos
    (repeat' apply And.intro) <;> (try omega) <;> (try (intro hx; exfalso; omega))
    · exact fun _ => l_e357 hX htb hA hv hk K
    · intro h2
      have hi' := hi hpos
      have ii : cm_in i := ⟨by omega, by omega⟩
      have w := hv.1.2.2.2.2.2 i hi'.1 hi'.2
      have hab := aI_b hv.1
      obtain ⟨o0, o1, o2, o3, -⟩ := xO hi'
      have i9 : cm_in (sM (aS A) i) := by
        by_cases hz : sK (aS A) i = 0
        · have := w.2.2.1 hz
          constructor <;> omega
        · have := (w.2.2.2.1 hz).2
          constructor <;> omega
      refine c74_265 (Nat.le_of_ble_eq_true rfl) hX.1 (p_count hX hA hv i3 (fun M1 r1 f1 => ?_))
      simp (disch := omega) only [xC3, g74_268, g74_270, g74_271, g74_273, Option.toList_some, Option.toList_none, List.cons_append, List.nil_append, true_and, and_true, true_or, or_true, eq_self, ci0, ci1, cin6, forall_const, not_true_eq_false, not_false_eq_true, fimp, timp, i10, i01, cm_rne, and_assoc]
      refine c74_274 (Nat.le_of_ble_eq_true rfl) hX.1 (p_of hX r1 hv ii i2 (fun M2 r2 f2 => ?_))
      rw [o2]
      simp (disch := omega) only [g74_277, g74_279, g74_280, g74_282, Option.toList_some, Option.toList_none, List.cons_append, List.nil_append, true_and, and_true, true_or, or_true, eq_self, ci0, ci1, cin6, forall_const, not_true_eq_false, not_false_eq_true, fimp, timp, i10, i01, cm_rne, and_assoc]
      refine c74_283 (Nat.le_of_ble_eq_true rfl) hX.1 (p_of hX r2 hv ii i3 (fun M3 r3 f3 => ?_))
      rw [o3]
      simp (disch := omega) only [g74_286, g74_288, g74_290, g74_292, g74_293, Option.toList_some, Option.toList_none, List.cons_append, List.nil_append, true_and, and_true, true_or, or_true, eq_self, ci0, ci1, cin6, forall_const, not_true_eq_false, not_false_eq_true, fimp, timp, i10, i01, cm_rne, and_assoc]
      refine c74_295 (Nat.le_of_ble_eq_true rfl) (l_low (by omega) ?_)
      have bp := lw_b (cm_ishr h 9) hpos
      generalize lw (cm_ishr h 9) (sN (aS A)) = place at *
      simp (disch := omega) only [g74_298, g74_300, g74_301, g74_303, Option.toList_some, Option.toList_none, List.cons_append, List.nil_append, true_and, and_true, true_or, or_true, eq_self, ci0, ci1, cin6, forall_const, not_true_eq_false, not_false_eq_true, fimp, timp, i10, i01, cm_rne, and_assoc]
      have s1 : rMove A i place = (10000 + aI (sMv (aS A) i place) - aI (aS A), chg A (sMv (aS A) i place)) := by
        unfold rMove
        rw [ite'_p ⟨hi', bp⟩]
      refine c74_305 (Nat.le_of_ble_eq_true rfl) hX.1 (p_move hX r3 hv ii ⟨by omega, by omega⟩ (fun M4 r4' f4 => ?_))
      rw [s1] at r4' ⊢
      have r4 : rXA M4 (chg A (sMv (aS A) i place)) := r4'
      have vm := vS_mv hv.1 hi' bp
      have v4 : vA (chg A (sMv (aS A) i place)) := vA_chg hv vm
      have hab2 := aI_b vm
      obtain ⟨m1, m2⟩ := sMv_at (aS A) i place
      have hmn := sMv_n (aS A) i place
      have hp2 : 0 ≤ place ∧ place < sN (aS (chg A (sMv (aS A) i place))) := by
        show 0 ≤ place ∧ place < sN (sMv (aS A) i place)
        omega
      obtain ⟨-, -, q2, q3, -⟩ := xO hp2
      have q2' : xOf (aS (chg A (sMv (aS A) i place))) place 2 = sM (aS A) i := q2.trans m1
      have q3' : xOf (aS (chg A (sMv (aS A) i place))) place 3 = sC (aS A) i := q3.trans m2
      have q1' : xCount (chg A (sMv (aS A) i place)) 3 = aI (sMv (aS A) i place) := rfl
      have f14 := ((f1.tr f2).tr f3).tr f4
      simp (disch := omega) only [g74_308, g74_309, Option.toList_some, Option.toList_none, List.cons_append, List.nil_append, true_and, and_true, true_or, or_true, eq_self, ci0, ci1, cin6, forall_const, not_true_eq_false, not_false_eq_true, fimp, timp, i10, i01, cm_rne, and_assoc]
      refine c74_310 (Nat.le_of_ble_eq_true rfl) hX.1 (p_count hX r4 v4 i3 (fun M5 r5 f5 => ?_))
      rw [q1']
      simp (disch := omega) only [g74_313, g74_315, g74_316, g74_319, g74_320, g74_323, g74_324, g74_326, Option.toList_some, Option.toList_none, List.cons_append, List.nil_append, true_and, and_true, true_or, or_true, eq_self, ci0, ci1, cin6, forall_const, not_true_eq_false, not_false_eq_true, fimp, timp, i10, i01, cm_rne, and_assoc]
      (repeat' apply And.intro) <;> (try omega) <;> (try (intro hx; exfalso; omega))
      intro _
      refine c74_327 (Nat.le_of_ble_eq_true rfl) hX.1 (p_of hX r5 v4 (i := place) ⟨by omega, by omega⟩ i2 (fun M6 r6 f6 => ?_))
      rw [q2']
      simp (disch := omega) only [g74_330, g74_332, g74_335, g74_336, g74_338, Option.toList_some, Option.toList_none, List.cons_append, List.nil_append, true_and, and_true, true_or, or_true, eq_self, ci0, ci1, cin6, forall_const, not_true_eq_false, not_false_eq_true, fimp, timp, i10, i01, cm_rne, and_assoc, eq_true i9]
      refine c74_339 (Nat.le_of_ble_eq_true rfl) hX.1 (p_of hX r6 v4 (i := place) ⟨by omega, by omega⟩ i3 (fun M7 r7 f7 => ?_))
      rw [q3']
      simp (disch := omega) only [g74_342, g74_344, g74_347, g74_348, g74_351, g74_352, g74_354, Option.toList_some, Option.toList_none, List.cons_append, List.nil_append, true_and, and_true, true_or, or_true, eq_self, ci0, ci1, cin6, forall_const, not_true_eq_false, not_false_eq_true, fimp, timp, i10, i01, cm_rne, and_assoc]
      (repeat' apply And.intro) <;> (try omega) <;> (try (intro hx; exfalso; omega))
      exact K M7 _ _ _ _ _ r7 v4 (((f14.tr f5).tr f6).tr f7)
theorem l_e218 (hX : isX G) (htb : tbl M) (hA : rXA M A) (hv : vA A) (hk : 0 ≤ kind ∧ kind < 5) (hi : 0 < sN (aS A) → 0 ≤ i ∧ i < sN (aS A)) {y10 y11 y12 y13 : Option cm_V} (K : ∀ M' A' y10 y11 y12 y13, rXA M' A' → vA A' → fr M M' 0 81 → Go 74 413 [some (2, -2), some (2, 0), some (0, g), some (0, many), some (0, e), some (0, h), some (0, sN (aS A)), some (0, i), some (0, kind), some (0, 1), y10, y11, y12, y13] [] G M' Q) : Go 74 218 [some (2, -2), some (2, 0), some (0, g), some (0, many), some (0, e), some (0, h), some (0, sN (aS A)), some (0, i), some (0, kind), some (0, 1), y10, y11, y12, y13] [] G M Q := by
  have hn := hv.1.2.1
  have hn0 := hv.1.1
  simp (disch := omega) only [g74_218, g74_220, g74_223, g74_225, g74_226, g74_229, g74_230, Option.toList_some, Option.toList_none, List.cons_append, List.nil_append, true_and, and_true, true_or, or_true, eq_self, ci0, ci1, cin6, forall_const, not_true_eq_false, not_false_eq_true, fimp, timp, i10, i01, cm_rne, and_assoc]
  (repeat' apply And.intro) <;> (try omega) <;> (try (intro hx; exfalso; omega))
  · exact fun _ => l_e252 hX htb hA hv hk hi K
  · intro hpos
    (repeat' apply And.intro) <;> (try omega) <;> (try (intro hx; exfalso; omega))
    · exact fun _ => l_e252 hX htb hA hv hk hi K
    · intro h1
      have hi' := hi hpos
      have s1 : rDrop A i = (sN (aS A) - 1, chg A (sCut (sMv (aS A) i (sN (aS A) - 1)))) := by
        unfold rDrop
        rw [ite'_p hi']
      refine c74_232 (Nat.le_of_ble_eq_true rfl) hX.1 (p_drop hX hA hv ⟨by omega, by omega⟩ (fun M1 r1' f1 => ?_))
      have v1' := (ok_drop (A := A) (a := i) hv).2
      rw [s1] at r1' v1' ⊢
      simp (disch := omega) only [g74_235, g74_237, g74_238, g74_239, g74_242, g74_243, g74_246, g74_247, g74_249, Option.toList_some, Option.toList_none, List.cons_append, List.nil_append, true_and, and_true, true_or, or_true, eq_self, ci0, ci1, cin6, forall_const, not_true_eq_false, not_false_eq_true, fimp, timp, i10, i01, cm_rne, and_assoc]
      (repeat' apply And.intro) <;> (try omega) <;> (try (intro hx; exfalso; omega))
      exact K M1 _ _ _ _ _ r1' v1' f1
theorem l_e148 (hX : isX G) (htb : tbl M) (hA : rXA M A) (hv : vA A) (hk : 0 ≤ kind ∧ kind < 5) (hi : 0 < sN (aS A) → 0 ≤ i ∧ i < sN (aS A)) {y10 y11 y12 y13 : Option cm_V} (K : ∀ M' A' y10 y11 y12 y13, rXA M' A' → vA A' → fr M M' 0 81 → Go 74 413 [some (2, -2), some (2, 0), some (0, g), some (0, many), some (0, e), some (0, h), some (0, sN (aS A)), some (0, i), some (0, kind), some (0, 1), y10, y11, y12, y13] [] G M' Q) : Go 74 148 [some (2, -2), some (2, 0), some (0, g), some (0, many), some (0, e), some (0, h), some (0, sN (aS A)), some (0, i), some (0, kind), some (0, 1), y10, y11, y12, y13] [] G M Q := by
  have hn := hv.1.2.1
  have hn0 := hv.1.1
  have i3 : cm_in 3 := ⟨by decide, by decide⟩
  simp (disch := omega) only [g74_148, g74_150, g74_153, g74_155, g74_158, g74_159, g74_161, Option.toList_some, Option.toList_none, List.cons_append, List.nil_append, true_and, and_true, true_or, or_true, eq_self, ci0, ci1, cin6, forall_const, not_true_eq_false, not_false_eq_true, fimp, timp, i10, i01, cm_rne, and_assoc]
  (repeat' apply And.intro) <;> (try omega) <;> (try (intro hx; exfalso; omega))
  · exact fun _ => l_e218 hX htb hA hv hk hi K
  · intro hpos
    (repeat' apply And.intro) <;> (try omega) <;> (try (intro hx; exfalso; omega))
    · exact fun _ => l_e218 hX htb hA hv hk hi K
    · intro h0
      have hi' := hi hpos
      have ii : cm_in i := ⟨by omega, by omega⟩
      have w := hv.1.2.2.2.2.2 i hi'.1 hi'.2
      refine c74_162 (Nat.le_of_ble_eq_true rfl) hX.1 (p_of hX hA hv ii i3 (fun M1 r1 f1 => ?_))
      rw [(xO hi').2.2.2.1]
      simp (disch := omega) only [g74_165, g74_167, g74_168, g74_170, g74_172, g74_174, g74_175, Option.toList_some, Option.toList_none, List.cons_append, List.nil_append, true_and, and_true, true_or, or_true, eq_self, ci0, ci1, cin6, forall_const, not_true_eq_false, not_false_eq_true, fimp, timp, i10, i01, cm_rne, and_assoc]
      refine c74_177 (Nat.le_of_ble_eq_true rfl) (l_low (by omega) ?_)
      have b := lw_b (cm_ishr h 9) (n := 31) (by decide)
      have s1 : rCue A i (lw (cm_ishr h 9) 31) = (sC (aS A) i, chg A (sCue (aS A) i (lw (cm_ishr h 9) 31))) := by
        unfold rCue
        rw [ite'_p hi', ite'_p (by omega)]
      have v2 : vA (chg A (sCue (aS A) i (lw (cm_ishr h 9) 31))) := vA_chg hv (vS_cue hv.1 (by omega))
      have e3 : xOf (aS (chg A (sCue (aS A) i (lw (cm_ishr h 9) 31)))) i 3 = lw (cm_ishr h 9) 31 := by
        rw [(xO (S := aS (chg A (sCue (aS A) i (lw (cm_ishr h 9) 31)))) hi').2.2.2.1]
        show (if i = i then lw (cm_ishr h 9) 31 else sC (aS A) i) = lw (cm_ishr h 9) 31
        rw [if_pos rfl]
      simp (disch := omega) only [Option.toList_some, Option.toList_none, List.cons_append, List.nil_append, true_and, and_true, true_or, or_true, eq_self, ci0, ci1, cin6, forall_const, not_true_eq_false, not_false_eq_true, fimp, timp, i10, i01, cm_rne, and_assoc]
      refine c74_180 (Nat.le_of_ble_eq_true rfl) hX.1 (p_cue hX r1 hv ii ⟨by omega, by omega⟩ (fun M2 r2' f2 => ?_))
      rw [s1] at r2' ⊢
      have r2 : rXA M2 (chg A (sCue (aS A) i (lw (cm_ishr h 9) 31))) := r2'
      simp (disch := omega) only [g74_183, g74_185, g74_188, g74_189, g74_191, Option.toList_some, Option.toList_none, List.cons_append, List.nil_append, true_and, and_true, true_or, or_true, eq_self, ci0, ci1, cin6, forall_const, not_true_eq_false, not_false_eq_true, fimp, timp, i10, i01, cm_rne, and_assoc]
      (repeat' apply And.intro) <;> (try omega) <;> (try (intro hx; exfalso; omega))
      refine c74_192 (Nat.le_of_ble_eq_true rfl) hX.1 (p_of hX r2 v2 ii i3 (fun M3 r3 f3 => ?_))
      rw [e3]
      simp (disch := omega) only [g74_195, g74_197, g74_199, g74_200, Option.toList_some, Option.toList_none, List.cons_append, List.nil_append, true_and, and_true, true_or, or_true, eq_self, ci0, ci1, cin6, forall_const, not_true_eq_false, not_false_eq_true, fimp, timp, i10, i01, cm_rne, and_assoc]
      refine c74_202 (Nat.le_of_ble_eq_true rfl) (l_low (by omega) ?_)
      simp (disch := omega) only [g74_205, g74_208, g74_209, g74_212, g74_213, g74_215, Option.toList_some, Option.toList_none, List.cons_append, List.nil_append, true_and, and_true, true_or, or_true, eq_self, ci0, ci1, cin6, forall_const, not_true_eq_false, not_false_eq_true, fimp, timp, i10, i01, cm_rne, and_assoc]
      (repeat' apply And.intro) <;> (try omega) <;> (try (intro hx; exfalso; omega))
      exact K M3 _ _ _ _ _ r3 v2 ((f1.tr f2).tr f3)
end LAW10
section LAW11
variable {G : cm_G} {M : cm_M} {A : sA} {g many e h : Int} {Q : Option cm_V → cm_G → cm_M → Prop}
theorem l_edit (hX : isX G) (htb : tbl M) (hA : rXA M A) (hv : vA A) {y6 y7 y8 y9 y10 y11 y12 y13 : Option cm_V} (K : ∀ M' A' i kind y10 y11 y12 y13, rXA M' A' → vA A' → fr M M' 0 81 → Go 74 413 [some (2, -2), some (2, 0), some (0, g), some (0, many), some (0, e), some (0, h), some (0, sN (aS A)), some (0, i), some (0, kind), some (0, 1), y10, y11, y12, y13] [] G M' Q) : Go 74 110 [some (2, -2), some (2, 0), some (0, g), some (0, many), some (0, e), some (0, h), y6, y7, y8, y9, y10, y11, y12, y13] [] G M Q := by
  have hn := hv.1.2.1
  have hn0 := hv.1.1
  simp (disch := omega) only [g74_110, g74_111, Option.toList_some, Option.toList_none, List.cons_append, List.nil_append, true_and, and_true, true_or, or_true, eq_self, ci0, ci1, cin6, forall_const, not_true_eq_false, not_false_eq_true, fimp, timp, i10, i01, cm_rne, and_assoc]
  refine c74_112 (Nat.le_of_ble_eq_true rfl) hX.1 (p_count hX hA hv cn0 (fun M1 r1 f1 => ?_))
  have rest : ∀ i, (0 < sN (aS A) → 0 ≤ i ∧ i < sN (aS A)) → Go 74 135 [some (2, -2), some (2, 0), some (0, g), some (0, many), some (0, e), some (0, h), some (0, sN (aS A)), y7, y8, y9, y10, y11, y12, y13] [(0, i)] G M1 Q := by
    intro i hi
    simp (disch := omega) only [g74_135, g74_137, g74_139, Option.toList_some, Option.toList_none, List.cons_append, List.nil_append, true_and, and_true, true_or, or_true, eq_self, ci0, ci1, cin6, forall_const, not_true_eq_false, not_false_eq_true, fimp, timp, i10, i01, cm_rne, and_assoc]
    refine c74_140 (Nat.le_of_ble_eq_true rfl) (l_low (by omega) ?_)
    have b := lw_b h (n := 5) (by decide)
    generalize lw h 5 = kind at *
    simp (disch := omega) only [g74_143, g74_145, g74_146, Option.toList_some, Option.toList_none, List.cons_append, List.nil_append, true_and, and_true, true_or, or_true, eq_self, ci0, ci1, cin6, forall_const, not_true_eq_false, not_false_eq_true, fimp, timp, i10, i01, cm_rne, and_assoc]
    exact l_e148 hX (htb.of (fun k hk => f1 k (by omega))) r1 hv b hi (fun M' A' a b c d r v f => K M' A' i kind a b c d r v (f1.tr f))
  simp (disch := omega) only [xC0, g74_115, g74_117, g74_119, g74_122, g74_123, g74_126, g74_128, g74_129, g74_130, Option.toList_some, Option.toList_none, List.cons_append, List.nil_append, true_and, and_true, true_or, or_true, eq_self, ci0, ci1, cin6, forall_const, not_true_eq_false, not_false_eq_true, fimp, timp, i10, i01, cm_rne, and_assoc]
  (repeat' apply And.intro) <;> (try omega) <;> (try (intro hx; exfalso; omega))
  · intro hne
    refine c74_132 (Nat.le_of_ble_eq_true rfl) (l_low (by omega) ?_)
    have b := lw_b (cm_ishr h 3) (n := sN (aS A)) (by omega)
    exact rest _ (fun _ => b)
  · intro hz
    exact rest 0 (fun z => by omega)
end LAW11
