/-! ===== the law: a call on both sides (by program) ===== -/
theorem iand31 (a : Int) : 0 ≤ cm_iand a 31 ∧ cm_iand a 31 ≤ 31 := by
  unfold cm_iand
  have h1 : (Int32.ofInt a &&& Int32.ofInt 31).toBitVec.toNat ≤ 31 := by
    have : (Int32.ofInt a &&& Int32.ofInt 31).toBitVec = (Int32.ofInt a).toBitVec &&& (Int32.ofInt 31).toBitVec := rfl
    rw [this, BitVec.toNat_and]
    exact Nat.and_le_right
  generalize Int32.ofInt a &&& Int32.ofInt 31 = y at *
  have h2 : y.toInt = (y.toBitVec.toNat : Int) := BitVec.toInt_eq_toNat_of_lt (by omega)
  omega
theorem al2 {G : cm_G} {M : cm_M} : cm_al 1 G M (-2) = M (-2) (-1) := by
  unfold cm_al
  rw [if_pos ⟨rfl, rfl⟩]
theorem rM_frL {M M' : cm_M} {z lo hi : Int} {S : sS} (h : rM M z S) (f : fr M M' lo hi) (hz : z < lo ∨ hi < z) : rM M' z S := by
  unfold rM at *
  rw [f z hz]
  exact h
theorem rXA_fr {M M' : cm_M} {lo hi : Int} {A : sA} (h : rXA M A) (f : fr M M' lo hi) (hlo : 82 ≤ lo) (hA : aH A ≤ 6) : rXA M' A := by
  obtain ⟨b1, ⟨c1, c2, c3, c4⟩, b3, b4, b5⟩ := h
  refine ⟨b1.fr f (by omega), ⟨?_, c2, ?_, fun j a b => ?_⟩, fun s a b => ?_, ?_, fun k a b => ?_⟩
  · rw [f 29 (by omega)]; exact c1
  · rw [f 29 (by omega)]; exact c3
  · rw [f 29 (by omega)]; exact (c4 j a b).fr f (by omega)
  · rw [f 69 (by omega)]
    exact ⟨(b3 s a b).1, fun z => ((b3 s a b).2 z).fr f (by omega)⟩
  · rw [f 27 (by omega)]; exact b4
  · rw [f 28 (by omega)]; exact b5 k a b
theorem rMA_fr {M M' : cm_M} {m lo hi : Int} {A : sA} (h : rMA M m A) (f : fr M M' lo hi) (hh : hi < m) : rMA M' m A := by
  obtain ⟨b1, ⟨c1, c2, c3⟩, b3, b4, b5⟩ := h
  refine ⟨rM_frL b1 f (by omega), ⟨?_, c2, fun j a b => ?_⟩, fun s a b => ?_, ?_, fun k a b => ?_⟩
  · rw [f m (by omega)]; exact c1
  · rw [f (m + 2) (by omega)]; exact c3 j a b
  · rw [f (m + 4) (by omega), f (m + 3) (by omega)]; exact b3 s a b
  · rw [f m (by omega)]; exact b4
  · rw [f (m + 5) (by omega)]; exact b5 k a b
/-- between two calls: both sides hold A, the script and the tables are as they were -/
def iL (M0 M : cm_M) (A : sA) : Prop := rXA M A ∧ rMA M 82 A ∧ vA A ∧ ∀ k, k < 0 → M k = M0 k
theorem iL.tb {M0 M : cm_M} {A : sA} (h : iL M0 M A) (ht : tbl M0) : tbl M := by
  unfold tbl
  rw [h.2.2.2 (-4) (by decide), h.2.2.2 (-5) (by decide)]
  exact ht
theorem iL.e1 {M0 M M1 : cm_M} {A : sA} (h : iL M0 M A) (f : fr M M1 0 81) : M1 (-2) = M0 (-2) := (f (-2) (by omega)).trans (h.2.2.2 (-2) (by decide))
theorem iL.m1 {M0 M M1 : cm_M} {A : sA} (h : iL M0 M A) (f : fr M M1 0 81) : rMA M1 82 A := rMA_fr h.2.1 f (by omega)
theorem iL.nx {M0 M M1 M2 : cm_M} {A A' : sA} (h : iL M0 M A) (c1 : rXA M1 A') (f1 : fr M M1 0 81) (c2 : rMA M2 82 A') (f2 : fr M1 M2 82 (82 + 11)) (hv : vA A') : iL M0 M2 A' := ⟨rXA_fr c1 f2 (by omega) hv.2.1.1.2, c2, hv, fun k hk => ((f2 k (by omega)).trans (f1 k (by omega))).trans (h.2.2.2 k hk)⟩
section LAW
variable {G : cm_G} {M M0 : cm_M} {i : Int} {L : Int} {A : sA} {Q : Option cm_V → cm_G → cm_M → Prop}
theorem l_set (hX : isX G) (hm : isM G 82) (ht : tbl M0) (hn : ∀ j, cm_in (M0 (-2) j)) (hL : M0 (-2) (-1) = L) (hi : 0 ≤ i ∧ i + 4 ≤ L) (h : iL M0 M A) (K : ∀ M' A', iL M0 M' A' → Go 139 742 [some (2, -2), some (2, 0), some (2, 82), some (0, i)] [] G M' Q) : Go 139 136 [some (2, -2), some (2, 0), some (2, 82), some (0, i)] [] G M Q := by
  have e := h.2.2.2 (-2) (by decide)
  simp (disch := omega) only [g139_136, g139_137, g139_138, g139_139, g139_140, g139_141, g139_142, g139_143, g139_144, g139_145, g139_146, Option.toList_some, Option.toList_none, List.cons_append, List.nil_append, true_and, and_true, true_or, or_true, eq_self, ci0, ci1, cin6, forall_const, not_true_eq_false, not_false_eq_true, fimp, timp, i10, i01, cm_rne, and_assoc, al2, e, hL]
  (repeat' apply And.intro) <;> (try omega) <;> (try (intro hx; exfalso; omega))
  refine c139_147 (by decide) hX.1 (p_set hX (h.tb ht) h.1 h.2.2.1 (hn (i + 1)) (hn (i + 2)) (fun M1 c1 f1 => ?_))
  have e1 := h.e1 f1
  simp (disch := omega) only [g139_150, g139_151, g139_152, g139_153, g139_154, g139_155, g139_156, g139_157, g139_158, g139_159, g139_160, Option.toList_some, Option.toList_none, List.cons_append, List.nil_append, true_and, and_true, true_or, or_true, eq_self, ci0, ci1, cin6, forall_const, not_true_eq_false, not_false_eq_true, fimp, timp, i10, i01, cm_rne, and_assoc, al2, e1, hL]
  (repeat' apply And.intro) <;> (try omega) <;> (try (intro hx; exfalso; omega))
  refine c139_161 (Nat.le_of_ble_eq_true rfl) hm.2.1 (q_set hm (h.m1 f1) h.2.2.1 (hn (i + 1)) (hn (i + 2)) (fun M2 c2 f2 => ?_))
  have ho : okR (rSet A (M0 (-2) (i + 1)) (M0 (-2) (i + 2))) := ok_set h.2.2.1
  obtain ⟨o1, o2⟩ := ho
  simp only [g139_164, Option.toList_some, Option.toList_none, List.cons_append, List.nil_append, true_and, and_true, true_or, or_true, eq_self, ci0, ci1, cin6, forall_const, not_true_eq_false, not_false_eq_true, fimp, timp, i10, i01, cm_rne, and_assoc, eq_true o1]
  exact K _ _ (h.nx c1 f1 c2 f2 o2)
theorem l_name (hX : isX G) (hm : isM G 82) (ht : tbl M0) (hn : ∀ j, cm_in (M0 (-2) j)) (hL : M0 (-2) (-1) = L) (hi : 0 ≤ i ∧ i + 4 ≤ L) (h : iL M0 M A) (K : ∀ M' A', iL M0 M' A' → Go 139 742 [some (2, -2), some (2, 0), some (2, 82), some (0, i)] [] G M' Q) : Go 139 169 [some (2, -2), some (2, 0), some (2, 82), some (0, i)] [] G M Q := by
  have e := h.2.2.2 (-2) (by decide)
  simp (disch := omega) only [g139_169, g139_170, g139_171, g139_172, g139_173, g139_174, g139_175, g139_176, g139_177, g139_178, g139_179, Option.toList_some, Option.toList_none, List.cons_append, List.nil_append, true_and, and_true, true_or, or_true, eq_self, ci0, ci1, cin6, forall_const, not_true_eq_false, not_false_eq_true, fimp, timp, i10, i01, cm_rne, and_assoc, al2, e, hL]
  (repeat' apply And.intro) <;> (try omega) <;> (try (intro hx; exfalso; omega))
  refine c139_180 (by decide) hX.1 (p_name hX h.1 h.2.2.1 (hn (i + 1)) (hn (i + 2)) (fun M1 c1 f1 => ?_))
  have e1 := h.e1 f1
  simp (disch := omega) only [g139_183, g139_184, g139_185, g139_186, g139_187, g139_188, g139_189, g139_190, g139_191, g139_192, g139_193, Option.toList_some, Option.toList_none, List.cons_append, List.nil_append, true_and, and_true, true_or, or_true, eq_self, ci0, ci1, cin6, forall_const, not_true_eq_false, not_false_eq_true, fimp, timp, i10, i01, cm_rne, and_assoc, al2, e1, hL]
  (repeat' apply And.intro) <;> (try omega) <;> (try (intro hx; exfalso; omega))
  refine c139_194 (Nat.le_of_ble_eq_true rfl) hm.2.1 (q_name hm (h.m1 f1) h.2.2.1 (hn (i + 1)) (hn (i + 2)) (fun M2 c2 f2 => ?_))
  have ho : okR (rName A (M0 (-2) (i + 1)) (M0 (-2) (i + 2))) := ok_name h.2.2.1
  obtain ⟨o1, o2⟩ := ho
  simp only [g139_197, Option.toList_some, Option.toList_none, List.cons_append, List.nil_append, true_and, and_true, true_or, or_true, eq_self, ci0, ci1, cin6, forall_const, not_true_eq_false, not_false_eq_true, fimp, timp, i10, i01, cm_rne, and_assoc, eq_true o1]
  exact K _ _ (h.nx c1 f1 c2 f2 o2)
theorem l_line (hX : isX G) (hm : isM G 82) (ht : tbl M0) (hn : ∀ j, cm_in (M0 (-2) j)) (hL : M0 (-2) (-1) = L) (hi : 0 ≤ i ∧ i + 4 ≤ L) (h : iL M0 M A) (K : ∀ M' A', iL M0 M' A' → Go 139 742 [some (2, -2), some (2, 0), some (2, 82), some (0, i)] [] G M' Q) : Go 139 202 [some (2, -2), some (2, 0), some (2, 82), some (0, i)] [] G M Q := by
  have e := h.2.2.2 (-2) (by decide)
  simp (disch := omega) only [g139_202, g139_203, g139_204, g139_205, g139_206, g139_207, Option.toList_some, Option.toList_none, List.cons_append, List.nil_append, true_and, and_true, true_or, or_true, eq_self, ci0, ci1, cin6, forall_const, not_true_eq_false, not_false_eq_true, fimp, timp, i10, i01, cm_rne, and_assoc, al2, e, hL]
  (repeat' apply And.intro) <;> (try omega) <;> (try (intro hx; exfalso; omega))
  refine c139_208 (by decide) hX.1 (p_line hX h.1 h.2.2.1 (hn (i + 1)) (fun M1 c1 f1 => ?_))
  have e1 := h.e1 f1
  simp (disch := omega) only [g139_211, g139_212, g139_213, g139_214, g139_215, g139_216, Option.toList_some, Option.toList_none, List.cons_append, List.nil_append, true_and, and_true, true_or, or_true, eq_self, ci0, ci1, cin6, forall_const, not_true_eq_false, not_false_eq_true, fimp, timp, i10, i01, cm_rne, and_assoc, al2, e1, hL]
  (repeat' apply And.intro) <;> (try omega) <;> (try (intro hx; exfalso; omega))
  refine c139_217 (Nat.le_of_ble_eq_true rfl) hm.2.1 (q_line hm (h.m1 f1) h.2.2.1 (hn (i + 1)) (fun M2 c2 f2 => ?_))
  have ho : okR (rLine A (M0 (-2) (i + 1))) := ok_line h.2.2.1
  obtain ⟨o1, o2⟩ := ho
  simp only [g139_220, Option.toList_some, Option.toList_none, List.cons_append, List.nil_append, true_and, and_true, true_or, or_true, eq_self, ci0, ci1, cin6, forall_const, not_true_eq_false, not_false_eq_true, fimp, timp, i10, i01, cm_rne, and_assoc, eq_true o1]
  exact K _ _ (h.nx c1 f1 c2 f2 o2)
theorem l_cue (hX : isX G) (hm : isM G 82) (ht : tbl M0) (hn : ∀ j, cm_in (M0 (-2) j)) (hL : M0 (-2) (-1) = L) (hi : 0 ≤ i ∧ i + 4 ≤ L) (h : iL M0 M A) (K : ∀ M' A', iL M0 M' A' → Go 139 742 [some (2, -2), some (2, 0), some (2, 82), some (0, i)] [] G M' Q) : Go 139 225 [some (2, -2), some (2, 0), some (2, 82), some (0, i)] [] G M Q := by
  have e := h.2.2.2 (-2) (by decide)
  simp (disch := omega) only [g139_225, g139_226, g139_227, g139_228, g139_229, g139_230, g139_231, g139_232, g139_233, g139_234, g139_235, Option.toList_some, Option.toList_none, List.cons_append, List.nil_append, true_and, and_true, true_or, or_true, eq_self, ci0, ci1, cin6, forall_const, not_true_eq_false, not_false_eq_true, fimp, timp, i10, i01, cm_rne, and_assoc, al2, e, hL]
  (repeat' apply And.intro) <;> (try omega) <;> (try (intro hx; exfalso; omega))
  refine c139_236 (by decide) hX.1 (p_cue hX h.1 h.2.2.1 (hn (i + 1)) (hn (i + 2)) (fun M1 c1 f1 => ?_))
  have e1 := h.e1 f1
  simp (disch := omega) only [g139_239, g139_240, g139_241, g139_242, g139_243, g139_244, g139_245, g139_246, g139_247, g139_248, g139_249, Option.toList_some, Option.toList_none, List.cons_append, List.nil_append, true_and, and_true, true_or, or_true, eq_self, ci0, ci1, cin6, forall_const, not_true_eq_false, not_false_eq_true, fimp, timp, i10, i01, cm_rne, and_assoc, al2, e1, hL]
  (repeat' apply And.intro) <;> (try omega) <;> (try (intro hx; exfalso; omega))
  refine c139_250 (Nat.le_of_ble_eq_true rfl) hm.2.1 (q_cue hm (h.m1 f1) h.2.2.1 (hn (i + 1)) (hn (i + 2)) (fun M2 c2 f2 => ?_))
  have ho : okR (rCue A (M0 (-2) (i + 1)) (M0 (-2) (i + 2))) := ok_cue h.2.2.1
  obtain ⟨o1, o2⟩ := ho
  simp only [g139_253, Option.toList_some, Option.toList_none, List.cons_append, List.nil_append, true_and, and_true, true_or, or_true, eq_self, ci0, ci1, cin6, forall_const, not_true_eq_false, not_false_eq_true, fimp, timp, i10, i01, cm_rne, and_assoc, eq_true o1]
  exact K _ _ (h.nx c1 f1 c2 f2 o2)
theorem l_move (hX : isX G) (hm : isM G 82) (ht : tbl M0) (hn : ∀ j, cm_in (M0 (-2) j)) (hL : M0 (-2) (-1) = L) (hi : 0 ≤ i ∧ i + 4 ≤ L) (h : iL M0 M A) (K : ∀ M' A', iL M0 M' A' → Go 139 742 [some (2, -2), some (2, 0), some (2, 82), some (0, i)] [] G M' Q) : Go 139 258 [some (2, -2), some (2, 0), some (2, 82), some (0, i)] [] G M Q := by
  have e := h.2.2.2 (-2) (by decide)
  simp (disch := omega) only [g139_258, g139_259, g139_260, g139_261, g139_262, g139_263, g139_264, g139_265, g139_266, g139_267, g139_268, Option.toList_some, Option.toList_none, List.cons_append, List.nil_append, true_and, and_true, true_or, or_true, eq_self, ci0, ci1, cin6, forall_const, not_true_eq_false, not_false_eq_true, fimp, timp, i10, i01, cm_rne, and_assoc, al2, e, hL]
  (repeat' apply And.intro) <;> (try omega) <;> (try (intro hx; exfalso; omega))
  refine c139_269 (by decide) hX.1 (p_move hX h.1 h.2.2.1 (hn (i + 1)) (hn (i + 2)) (fun M1 c1 f1 => ?_))
  have e1 := h.e1 f1
  simp (disch := omega) only [g139_272, g139_273, g139_274, g139_275, g139_276, g139_277, g139_278, g139_279, g139_280, g139_281, g139_282, Option.toList_some, Option.toList_none, List.cons_append, List.nil_append, true_and, and_true, true_or, or_true, eq_self, ci0, ci1, cin6, forall_const, not_true_eq_false, not_false_eq_true, fimp, timp, i10, i01, cm_rne, and_assoc, al2, e1, hL]
  (repeat' apply And.intro) <;> (try omega) <;> (try (intro hx; exfalso; omega))
  refine c139_283 (Nat.le_of_ble_eq_true rfl) hm.2.1 (q_move hm (h.m1 f1) h.2.2.1 (hn (i + 1)) (hn (i + 2)) (fun M2 c2 f2 => ?_))
  have ho : okR (rMove A (M0 (-2) (i + 1)) (M0 (-2) (i + 2))) := ok_move h.2.2.1
  obtain ⟨o1, o2⟩ := ho
  simp only [g139_286, Option.toList_some, Option.toList_none, List.cons_append, List.nil_append, true_and, and_true, true_or, or_true, eq_self, ci0, ci1, cin6, forall_const, not_true_eq_false, not_false_eq_true, fimp, timp, i10, i01, cm_rne, and_assoc, eq_true o1]
  exact K _ _ (h.nx c1 f1 c2 f2 o2)
theorem l_drop (hX : isX G) (hm : isM G 82) (ht : tbl M0) (hn : ∀ j, cm_in (M0 (-2) j)) (hL : M0 (-2) (-1) = L) (hi : 0 ≤ i ∧ i + 4 ≤ L) (h : iL M0 M A) (K : ∀ M' A', iL M0 M' A' → Go 139 742 [some (2, -2), some (2, 0), some (2, 82), some (0, i)] [] G M' Q) : Go 139 291 [some (2, -2), some (2, 0), some (2, 82), some (0, i)] [] G M Q := by
  have e := h.2.2.2 (-2) (by decide)
  simp (disch := omega) only [g139_291, g139_292, g139_293, g139_294, g139_295, g139_296, Option.toList_some, Option.toList_none, List.cons_append, List.nil_append, true_and, and_true, true_or, or_true, eq_self, ci0, ci1, cin6, forall_const, not_true_eq_false, not_false_eq_true, fimp, timp, i10, i01, cm_rne, and_assoc, al2, e, hL]
  (repeat' apply And.intro) <;> (try omega) <;> (try (intro hx; exfalso; omega))
  refine c139_297 (by decide) hX.1 (p_drop hX h.1 h.2.2.1 (hn (i + 1)) (fun M1 c1 f1 => ?_))
  have e1 := h.e1 f1
  simp (disch := omega) only [g139_300, g139_301, g139_302, g139_303, g139_304, g139_305, Option.toList_some, Option.toList_none, List.cons_append, List.nil_append, true_and, and_true, true_or, or_true, eq_self, ci0, ci1, cin6, forall_const, not_true_eq_false, not_false_eq_true, fimp, timp, i10, i01, cm_rne, and_assoc, al2, e1, hL]
  (repeat' apply And.intro) <;> (try omega) <;> (try (intro hx; exfalso; omega))
  refine c139_306 (Nat.le_of_ble_eq_true rfl) hm.2.1 (q_drop hm (h.m1 f1) h.2.2.1 (hn (i + 1)) (fun M2 c2 f2 => ?_))
  have ho : okR (rDrop A (M0 (-2) (i + 1))) := ok_drop h.2.2.1
  obtain ⟨o1, o2⟩ := ho
  simp only [g139_309, Option.toList_some, Option.toList_none, List.cons_append, List.nil_append, true_and, and_true, true_or, or_true, eq_self, ci0, ci1, cin6, forall_const, not_true_eq_false, not_false_eq_true, fimp, timp, i10, i01, cm_rne, and_assoc, eq_true o1]
  exact K _ _ (h.nx c1 f1 c2 f2 o2)
theorem l_turn (hX : isX G) (hm : isM G 82) (ht : tbl M0) (hn : ∀ j, cm_in (M0 (-2) j)) (hL : M0 (-2) (-1) = L) (hi : 0 ≤ i ∧ i + 4 ≤ L) (h : iL M0 M A) (K : ∀ M' A', iL M0 M' A' → Go 139 742 [some (2, -2), some (2, 0), some (2, 82), some (0, i)] [] G M' Q) : Go 139 314 [some (2, -2), some (2, 0), some (2, 82), some (0, i)] [] G M Q := by
  have e := h.2.2.2 (-2) (by decide)
  simp (disch := omega) only [g139_314, g139_315, g139_316, g139_317, g139_318, g139_319, g139_320, g139_321, g139_322, g139_323, g139_324, Option.toList_some, Option.toList_none, List.cons_append, List.nil_append, true_and, and_true, true_or, or_true, eq_self, ci0, ci1, cin6, forall_const, not_true_eq_false, not_false_eq_true, fimp, timp, i10, i01, cm_rne, and_assoc, al2, e, hL]
  (repeat' apply And.intro) <;> (try omega) <;> (try (intro hx; exfalso; omega))
  refine c139_325 (by decide) hX.1 (p_turn hX h.1 h.2.2.1 (hn (i + 1)) (hn (i + 2)) (fun M1 c1 f1 => ?_))
  have e1 := h.e1 f1
  simp (disch := omega) only [g139_328, g139_329, g139_330, g139_331, g139_332, g139_333, g139_334, g139_335, g139_336, g139_337, g139_338, Option.toList_some, Option.toList_none, List.cons_append, List.nil_append, true_and, and_true, true_or, or_true, eq_self, ci0, ci1, cin6, forall_const, not_true_eq_false, not_false_eq_true, fimp, timp, i10, i01, cm_rne, and_assoc, al2, e1, hL]
  (repeat' apply And.intro) <;> (try omega) <;> (try (intro hx; exfalso; omega))
  refine c139_339 (Nat.le_of_ble_eq_true rfl) hm.2.1 (q_turn hm (h.m1 f1) h.2.2.1 (hn (i + 1)) (hn (i + 2)) (fun M2 c2 f2 => ?_))
  have ho : okR (rTurn A (M0 (-2) (i + 1)) (M0 (-2) (i + 2))) := ok_turn h.2.2.1
  obtain ⟨o1, o2⟩ := ho
  simp only [g139_342, Option.toList_some, Option.toList_none, List.cons_append, List.nil_append, true_and, and_true, true_or, or_true, eq_self, ci0, ci1, cin6, forall_const, not_true_eq_false, not_false_eq_true, fimp, timp, i10, i01, cm_rne, and_assoc, eq_true o1]
  exact K _ _ (h.nx c1 f1 c2 f2 o2)
theorem l_read (hX : isX G) (hm : isM G 82) (ht : tbl M0) (hn : ∀ j, cm_in (M0 (-2) j)) (hL : M0 (-2) (-1) = L) (hi : 0 ≤ i ∧ i + 4 ≤ L) (h : iL M0 M A) (K : ∀ M' A', iL M0 M' A' → Go 139 742 [some (2, -2), some (2, 0), some (2, 82), some (0, i)] [] G M' Q) : Go 139 347 [some (2, -2), some (2, 0), some (2, 82), some (0, i)] [] G M Q := by
  have e := h.2.2.2 (-2) (by decide)
  simp (disch := omega) only [g139_347, Option.toList_some, Option.toList_none, List.cons_append, List.nil_append, true_and, and_true, true_or, or_true, eq_self, ci0, ci1, cin6, forall_const, not_true_eq_false, not_false_eq_true, fimp, timp, i10, i01, cm_rne, and_assoc, al2, e, hL]
  refine c139_348 (by decide) hX.1 (p_read hX h.1 h.2.2.1  (fun M1 c1 f1 => ?_))
  have e1 := h.e1 f1
  simp (disch := omega) only [g139_351, Option.toList_some, Option.toList_none, List.cons_append, List.nil_append, true_and, and_true, true_or, or_true, eq_self, ci0, ci1, cin6, forall_const, not_true_eq_false, not_false_eq_true, fimp, timp, i10, i01, cm_rne, and_assoc, al2, e1, hL]
  refine c139_352 (Nat.le_of_ble_eq_true rfl) hm.2.1 (q_read hm (h.m1 f1) h.2.2.1  (fun M2 c2 f2 => ?_))
  have ho : okR (rRead A) := ok_read h.2.2.1
  obtain ⟨o1, o2⟩ := ho
  simp only [g139_355, Option.toList_some, Option.toList_none, List.cons_append, List.nil_append, true_and, and_true, true_or, or_true, eq_self, ci0, ci1, cin6, forall_const, not_true_eq_false, not_false_eq_true, fimp, timp, i10, i01, cm_rne, and_assoc, eq_true o1]
  exact K _ _ (h.nx c1 f1 c2 f2 o2)
theorem l_of (hX : isX G) (hm : isM G 82) (ht : tbl M0) (hn : ∀ j, cm_in (M0 (-2) j)) (hL : M0 (-2) (-1) = L) (hi : 0 ≤ i ∧ i + 4 ≤ L) (h : iL M0 M A) (K : ∀ M' A', iL M0 M' A' → Go 139 742 [some (2, -2), some (2, 0), some (2, 82), some (0, i)] [] G M' Q) : Go 139 360 [some (2, -2), some (2, 0), some (2, 82), some (0, i)] [] G M Q := by
  have e := h.2.2.2 (-2) (by decide)
  simp (disch := omega) only [g139_360, g139_361, g139_362, g139_363, g139_364, g139_365, g139_366, g139_367, g139_368, g139_369, g139_370, Option.toList_some, Option.toList_none, List.cons_append, List.nil_append, true_and, and_true, true_or, or_true, eq_self, ci0, ci1, cin6, forall_const, not_true_eq_false, not_false_eq_true, fimp, timp, i10, i01, cm_rne, and_assoc, al2, e, hL]
  (repeat' apply And.intro) <;> (try omega) <;> (try (intro hx; exfalso; omega))
  refine c139_371 (by decide) hX.1 (p_of hX h.1 h.2.2.1 (hn (i + 1)) (hn (i + 2)) (fun M1 c1 f1 => ?_))
  have e1 := h.e1 f1
  simp (disch := omega) only [g139_374, g139_375, g139_376, g139_377, g139_378, g139_379, g139_380, g139_381, g139_382, g139_383, g139_384, Option.toList_some, Option.toList_none, List.cons_append, List.nil_append, true_and, and_true, true_or, or_true, eq_self, ci0, ci1, cin6, forall_const, not_true_eq_false, not_false_eq_true, fimp, timp, i10, i01, cm_rne, and_assoc, al2, e1, hL]
  (repeat' apply And.intro) <;> (try omega) <;> (try (intro hx; exfalso; omega))
  refine c139_385 (Nat.le_of_ble_eq_true rfl) hm.2.1 (q_of hm (h.m1 f1) h.2.2.1 (hn (i + 1)) (hn (i + 2)) (fun M2 c2 f2 => ?_))
  have o1 : cm_in (xOf (aS A) (M0 (-2) (i + 1)) (M0 (-2) (i + 2))) := ok_of h.2.2.1.1
  have o2 := h.2.2.1
  simp only [g139_388, Option.toList_some, Option.toList_none, List.cons_append, List.nil_append, true_and, and_true, true_or, or_true, eq_self, ci0, ci1, cin6, forall_const, not_true_eq_false, not_false_eq_true, fimp, timp, i10, i01, cm_rne, and_assoc, eq_true o1]
  exact K _ _ (h.nx c1 f1 c2 f2 o2)
theorem l_group (hX : isX G) (hm : isM G 82) (ht : tbl M0) (hn : ∀ j, cm_in (M0 (-2) j)) (hL : M0 (-2) (-1) = L) (hi : 0 ≤ i ∧ i + 4 ≤ L) (h : iL M0 M A) (K : ∀ M' A', iL M0 M' A' → Go 139 742 [some (2, -2), some (2, 0), some (2, 82), some (0, i)] [] G M' Q) : Go 139 393 [some (2, -2), some (2, 0), some (2, 82), some (0, i)] [] G M Q := by
  have e := h.2.2.2 (-2) (by decide)
  simp (disch := omega) only [g139_393, g139_394, g139_395, g139_396, g139_397, g139_398, g139_399, g139_400, g139_401, g139_402, g139_403, Option.toList_some, Option.toList_none, List.cons_append, List.nil_append, true_and, and_true, true_or, or_true, eq_self, ci0, ci1, cin6, forall_const, not_true_eq_false, not_false_eq_true, fimp, timp, i10, i01, cm_rne, and_assoc, al2, e, hL]
  (repeat' apply And.intro) <;> (try omega) <;> (try (intro hx; exfalso; omega))
  refine c139_404 (by decide) hX.1 (p_group hX h.1 h.2.2.1 (hn (i + 1)) (hn (i + 2)) (fun M1 c1 f1 => ?_))
  have e1 := h.e1 f1
  simp (disch := omega) only [g139_407, g139_408, g139_409, g139_410, g139_411, g139_412, g139_413, g139_414, g139_415, g139_416, g139_417, Option.toList_some, Option.toList_none, List.cons_append, List.nil_append, true_and, and_true, true_or, or_true, eq_self, ci0, ci1, cin6, forall_const, not_true_eq_false, not_false_eq_true, fimp, timp, i10, i01, cm_rne, and_assoc, al2, e1, hL]
  (repeat' apply And.intro) <;> (try omega) <;> (try (intro hx; exfalso; omega))
  refine c139_418 (Nat.le_of_ble_eq_true rfl) hm.2.1 (q_group hm (h.m1 f1) h.2.2.1 (hn (i + 1)) (hn (i + 2)) (fun M2 c2 f2 => ?_))
  have o1 : cm_in (xGroup (aS A) (M0 (-2) (i + 1)) (M0 (-2) (i + 2))) := ok_group h.2.2.1.1
  have o2 := h.2.2.1
  simp only [g139_421, Option.toList_some, Option.toList_none, List.cons_append, List.nil_append, true_and, and_true, true_or, or_true, eq_self, ci0, ci1, cin6, forall_const, not_true_eq_false, not_false_eq_true, fimp, timp, i10, i01, cm_rne, and_assoc, eq_true o1]
  exact K _ _ (h.nx c1 f1 c2 f2 o2)
theorem l_at (hX : isX G) (hm : isM G 82) (ht : tbl M0) (hn : ∀ j, cm_in (M0 (-2) j)) (hL : M0 (-2) (-1) = L) (hi : 0 ≤ i ∧ i + 4 ≤ L) (h : iL M0 M A) (K : ∀ M' A', iL M0 M' A' → Go 139 742 [some (2, -2), some (2, 0), some (2, 82), some (0, i)] [] G M' Q) : Go 139 426 [some (2, -2), some (2, 0), some (2, 82), some (0, i)] [] G M Q := by
  have e := h.2.2.2 (-2) (by decide)
  simp (disch := omega) only [g139_426, g139_427, g139_428, g139_429, g139_430, g139_431, g139_432, g139_433, g139_434, g139_435, g139_436, Option.toList_some, Option.toList_none, List.cons_append, List.nil_append, true_and, and_true, true_or, or_true, eq_self, ci0, ci1, cin6, forall_const, not_true_eq_false, not_false_eq_true, fimp, timp, i10, i01, cm_rne, and_assoc, al2, e, hL]
  (repeat' apply And.intro) <;> (try omega) <;> (try (intro hx; exfalso; omega))
  refine c139_437 (by decide) hX.1 (p_at hX h.1 h.2.2.1 (hn (i + 1)) (hn (i + 2)) (fun M1 c1 f1 => ?_))
  have e1 := h.e1 f1
  simp (disch := omega) only [g139_440, g139_441, g139_442, g139_443, g139_444, g139_445, g139_446, g139_447, g139_448, g139_449, g139_450, Option.toList_some, Option.toList_none, List.cons_append, List.nil_append, true_and, and_true, true_or, or_true, eq_self, ci0, ci1, cin6, forall_const, not_true_eq_false, not_false_eq_true, fimp, timp, i10, i01, cm_rne, and_assoc, al2, e1, hL]
  (repeat' apply And.intro) <;> (try omega) <;> (try (intro hx; exfalso; omega))
  refine c139_451 (Nat.le_of_ble_eq_true rfl) hm.2.1 (q_at hm (h.m1 f1) h.2.2.1 (hn (i + 1)) (hn (i + 2)) (fun M2 c2 f2 => ?_))
  have o1 : cm_in (xAt (aS A) (M0 (-2) (i + 1)) (M0 (-2) (i + 2))) := ok_at h.2.2.1.1
  have o2 := h.2.2.1
  simp only [g139_454, Option.toList_some, Option.toList_none, List.cons_append, List.nil_append, true_and, and_true, true_or, or_true, eq_self, ci0, ci1, cin6, forall_const, not_true_eq_false, not_false_eq_true, fimp, timp, i10, i01, cm_rne, and_assoc, eq_true o1]
  exact K _ _ (h.nx c1 f1 c2 f2 o2)
theorem l_count (hX : isX G) (hm : isM G 82) (ht : tbl M0) (hn : ∀ j, cm_in (M0 (-2) j)) (hL : M0 (-2) (-1) = L) (hi : 0 ≤ i ∧ i + 4 ≤ L) (h : iL M0 M A) (K : ∀ M' A', iL M0 M' A' → Go 139 742 [some (2, -2), some (2, 0), some (2, 82), some (0, i)] [] G M' Q) : Go 139 459 [some (2, -2), some (2, 0), some (2, 82), some (0, i)] [] G M Q := by
  have e := h.2.2.2 (-2) (by decide)
  simp (disch := omega) only [g139_459, g139_460, g139_461, g139_462, g139_463, g139_464, Option.toList_some, Option.toList_none, List.cons_append, List.nil_append, true_and, and_true, true_or, or_true, eq_self, ci0, ci1, cin6, forall_const, not_true_eq_false, not_false_eq_true, fimp, timp, i10, i01, cm_rne, and_assoc, al2, e, hL]
  (repeat' apply And.intro) <;> (try omega) <;> (try (intro hx; exfalso; omega))
  refine c139_465 (by decide) hX.1 (p_count hX h.1 h.2.2.1 (hn (i + 1)) (fun M1 c1 f1 => ?_))
  have e1 := h.e1 f1
  simp (disch := omega) only [g139_468, g139_469, g139_470, g139_471, g139_472, g139_473, Option.toList_some, Option.toList_none, List.cons_append, List.nil_append, true_and, and_true, true_or, or_true, eq_self, ci0, ci1, cin6, forall_const, not_true_eq_false, not_false_eq_true, fimp, timp, i10, i01, cm_rne, and_assoc, al2, e1, hL]
  (repeat' apply And.intro) <;> (try omega) <;> (try (intro hx; exfalso; omega))
  refine c139_474 (Nat.le_of_ble_eq_true rfl) hm.2.1 (q_count hm (h.m1 f1) h.2.2.1 (hn (i + 1)) (fun M2 c2 f2 => ?_))
  have o1 : cm_in (xCount A (M0 (-2) (i + 1))) := ok_count h.2.2.1
  have o2 := h.2.2.1
  simp only [g139_477, Option.toList_some, Option.toList_none, List.cons_append, List.nil_append, true_and, and_true, true_or, or_true, eq_self, ci0, ci1, cin6, forall_const, not_true_eq_false, not_false_eq_true, fimp, timp, i10, i01, cm_rne, and_assoc, eq_true o1]
  exact K _ _ (h.nx c1 f1 c2 f2 o2)
theorem l_blame (hX : isX G) (hm : isM G 82) (ht : tbl M0) (hn : ∀ j, cm_in (M0 (-2) j)) (hL : M0 (-2) (-1) = L) (hi : 0 ≤ i ∧ i + 4 ≤ L) (h : iL M0 M A) (K : ∀ M' A', iL M0 M' A' → Go 139 742 [some (2, -2), some (2, 0), some (2, 82), some (0, i)] [] G M' Q) : Go 139 482 [some (2, -2), some (2, 0), some (2, 82), some (0, i)] [] G M Q := by
  have e := h.2.2.2 (-2) (by decide)
  simp (disch := omega) only [g139_482, g139_483, g139_484, g139_485, g139_486, g139_487, Option.toList_some, Option.toList_none, List.cons_append, List.nil_append, true_and, and_true, true_or, or_true, eq_self, ci0, ci1, cin6, forall_const, not_true_eq_false, not_false_eq_true, fimp, timp, i10, i01, cm_rne, and_assoc, al2, e, hL]
  (repeat' apply And.intro) <;> (try omega) <;> (try (intro hx; exfalso; omega))
  refine c139_488 (by decide) hX.1 (p_blame hX h.1 h.2.2.1 (hn (i + 1)) (fun M1 c1 f1 => ?_))
  have e1 := h.e1 f1
  simp (disch := omega) only [g139_491, g139_492, g139_493, g139_494, g139_495, g139_496, Option.toList_some, Option.toList_none, List.cons_append, List.nil_append, true_and, and_true, true_or, or_true, eq_self, ci0, ci1, cin6, forall_const, not_true_eq_false, not_false_eq_true, fimp, timp, i10, i01, cm_rne, and_assoc, al2, e1, hL]
  (repeat' apply And.intro) <;> (try omega) <;> (try (intro hx; exfalso; omega))
  refine c139_497 (Nat.le_of_ble_eq_true rfl) hm.2.1 (q_blame hm (h.m1 f1) h.2.2.1 (hn (i + 1)) (fun M2 c2 f2 => ?_))
  have o1 : cm_in (xBlame (aS A) (M0 (-2) (i + 1))) := ok_blame h.2.2.1.1
  have o2 := h.2.2.1
  simp only [g139_500, Option.toList_some, Option.toList_none, List.cons_append, List.nil_append, true_and, and_true, true_or, or_true, eq_self, ci0, ci1, cin6, forall_const, not_true_eq_false, not_false_eq_true, fimp, timp, i10, i01, cm_rne, and_assoc, eq_true o1]
  exact K _ _ (h.nx c1 f1 c2 f2 o2)
theorem l_speedFor (hX : isX G) (hm : isM G 82) (ht : tbl M0) (hn : ∀ j, cm_in (M0 (-2) j)) (hL : M0 (-2) (-1) = L) (hi : 0 ≤ i ∧ i + 4 ≤ L) (h : iL M0 M A) (K : ∀ M' A', iL M0 M' A' → Go 139 742 [some (2, -2), some (2, 0), some (2, 82), some (0, i)] [] G M' Q) : Go 139 505 [some (2, -2), some (2, 0), some (2, 82), some (0, i)] [] G M Q := by
  have e := h.2.2.2 (-2) (by decide)
  simp (disch := omega) only [g139_505, g139_506, g139_507, g139_508, g139_509, g139_510, Option.toList_some, Option.toList_none, List.cons_append, List.nil_append, true_and, and_true, true_or, or_true, eq_self, ci0, ci1, cin6, forall_const, not_true_eq_false, not_false_eq_true, fimp, timp, i10, i01, cm_rne, and_assoc, al2, e, hL]
  (repeat' apply And.intro) <;> (try omega) <;> (try (intro hx; exfalso; omega))
  refine c139_511 (by decide) hX.1 (p_speedFor hX h.1 h.2.2.1 (hn (i + 1)) (fun M1 c1 f1 => ?_))
  have e1 := h.e1 f1
  simp (disch := omega) only [g139_514, g139_515, g139_516, g139_517, g139_518, g139_519, Option.toList_some, Option.toList_none, List.cons_append, List.nil_append, true_and, and_true, true_or, or_true, eq_self, ci0, ci1, cin6, forall_const, not_true_eq_false, not_false_eq_true, fimp, timp, i10, i01, cm_rne, and_assoc, al2, e1, hL]
  (repeat' apply And.intro) <;> (try omega) <;> (try (intro hx; exfalso; omega))
  refine c139_520 (Nat.le_of_ble_eq_true rfl) hm.2.1 (q_speedFor hm (h.m1 f1) h.2.2.1 (hn (i + 1)) (fun M2 c2 f2 => ?_))
  have o1 : cm_in (xFor (aS A) (M0 (-2) (i + 1))) := ok_for
  have o2 := h.2.2.1
  simp only [g139_523, Option.toList_some, Option.toList_none, List.cons_append, List.nil_append, true_and, and_true, true_or, or_true, eq_self, ci0, ci1, cin6, forall_const, not_true_eq_false, not_false_eq_true, fimp, timp, i10, i01, cm_rne, and_assoc, eq_true o1]
  exact K _ _ (h.nx c1 f1 c2 f2 o2)
theorem l_seenIf (hX : isX G) (hm : isM G 82) (ht : tbl M0) (hn : ∀ j, cm_in (M0 (-2) j)) (hL : M0 (-2) (-1) = L) (hi : 0 ≤ i ∧ i + 4 ≤ L) (h : iL M0 M A) (K : ∀ M' A', iL M0 M' A' → Go 139 742 [some (2, -2), some (2, 0), some (2, 82), some (0, i)] [] G M' Q) : Go 139 528 [some (2, -2), some (2, 0), some (2, 82), some (0, i)] [] G M Q := by
  have e := h.2.2.2 (-2) (by decide)
  simp (disch := omega) only [g139_528, g139_529, g139_530, g139_531, g139_532, g139_533, g139_534, g139_535, g139_536, g139_537, g139_538, Option.toList_some, Option.toList_none, List.cons_append, List.nil_append, true_and, and_true, true_or, or_true, eq_self, ci0, ci1, cin6, forall_const, not_true_eq_false, not_false_eq_true, fimp, timp, i10, i01, cm_rne, and_assoc, al2, e, hL]
  (repeat' apply And.intro) <;> (try omega) <;> (try (intro hx; exfalso; omega))
  refine c139_539 (by decide) hX.1 (p_seenIf hX h.1 h.2.2.1 (hn (i + 1)) (hn (i + 2)) (fun M1 c1 f1 => ?_))
  have e1 := h.e1 f1
  simp (disch := omega) only [g139_542, g139_543, g139_544, g139_545, g139_546, g139_547, g139_548, g139_549, g139_550, g139_551, g139_552, Option.toList_some, Option.toList_none, List.cons_append, List.nil_append, true_and, and_true, true_or, or_true, eq_self, ci0, ci1, cin6, forall_const, not_true_eq_false, not_false_eq_true, fimp, timp, i10, i01, cm_rne, and_assoc, al2, e1, hL]
  (repeat' apply And.intro) <;> (try omega) <;> (try (intro hx; exfalso; omega))
  refine c139_553 (Nat.le_of_ble_eq_true rfl) hm.2.1 (q_seenIf hm (h.m1 f1) h.2.2.1 (hn (i + 1)) (hn (i + 2)) (fun M2 c2 f2 => ?_))
  have o1 : cm_in (xIf (aS A) (M0 (-2) (i + 1)) (M0 (-2) (i + 2))) := ok_if h.2.2.1.1
  have o2 := h.2.2.1
  simp only [g139_556, Option.toList_some, Option.toList_none, List.cons_append, List.nil_append, true_and, and_true, true_or, or_true, eq_self, ci0, ci1, cin6, forall_const, not_true_eq_false, not_false_eq_true, fimp, timp, i10, i01, cm_rne, and_assoc, eq_true o1]
  exact K _ _ (h.nx c1 f1 c2 f2 o2)
theorem l_bestCue (hX : isX G) (hm : isM G 82) (ht : tbl M0) (hn : ∀ j, cm_in (M0 (-2) j)) (hL : M0 (-2) (-1) = L) (hi : 0 ≤ i ∧ i + 4 ≤ L) (h : iL M0 M A) (K : ∀ M' A', iL M0 M' A' → Go 139 742 [some (2, -2), some (2, 0), some (2, 82), some (0, i)] [] G M' Q) : Go 139 561 [some (2, -2), some (2, 0), some (2, 82), some (0, i)] [] G M Q := by
  have e := h.2.2.2 (-2) (by decide)
  simp (disch := omega) only [g139_561, g139_562, g139_563, g139_564, g139_565, g139_566, g139_567, g139_568, g139_569, g139_570, g139_571, g139_572, g139_573, g139_574, g139_575, g139_576, Option.toList_some, Option.toList_none, List.cons_append, List.nil_append, true_and, and_true, true_or, or_true, eq_self, ci0, ci1, cin6, forall_const, not_true_eq_false, not_false_eq_true, fimp, timp, i10, i01, cm_rne, and_assoc, al2, e, hL]
  (repeat' apply And.intro) <;> (try omega) <;> (try (intro hx; exfalso; omega))
  refine c139_577 (by decide) hX.1 (p_bestCue hX h.1 h.2.2.1 (hn (i + 1)) (hn (i + 2)) (hn (i + 3)) (fun M1 c1 f1 => ?_))
  have e1 := h.e1 f1
  simp (disch := omega) only [g139_580, g139_581, g139_582, g139_583, g139_584, g139_585, g139_586, g139_587, g139_588, g139_589, g139_590, g139_591, g139_592, g139_593, g139_594, g139_595, Option.toList_some, Option.toList_none, List.cons_append, List.nil_append, true_and, and_true, true_or, or_true, eq_self, ci0, ci1, cin6, forall_const, not_true_eq_false, not_false_eq_true, fimp, timp, i10, i01, cm_rne, and_assoc, al2, e1, hL]
  (repeat' apply And.intro) <;> (try omega) <;> (try (intro hx; exfalso; omega))
  refine c139_596 (Nat.le_of_ble_eq_true rfl) hm.2.1 (q_bestCue hm (h.m1 f1) h.2.2.1 (hn (i + 1)) (hn (i + 2)) (hn (i + 3)) (fun M2 c2 f2 => ?_))
  have o1 : cm_in (xBest (aS A) (M0 (-2) (i + 1)) (M0 (-2) (i + 2)) (M0 (-2) (i + 3))) := ok_best h.2.2.1.1
  have o2 := h.2.2.1
  simp only [g139_599, Option.toList_some, Option.toList_none, List.cons_append, List.nil_append, true_and, and_true, true_or, or_true, eq_self, ci0, ci1, cin6, forall_const, not_true_eq_false, not_false_eq_true, fimp, timp, i10, i01, cm_rne, and_assoc, eq_true o1]
  exact K _ _ (h.nx c1 f1 c2 f2 o2)
theorem l_put (hX : isX G) (hm : isM G 82) (ht : tbl M0) (hn : ∀ j, cm_in (M0 (-2) j)) (hL : M0 (-2) (-1) = L) (hi : 0 ≤ i ∧ i + 4 ≤ L) (h : iL M0 M A) (K : ∀ M' A', iL M0 M' A' → Go 139 742 [some (2, -2), some (2, 0), some (2, 82), some (0, i)] [] G M' Q) : Go 139 604 [some (2, -2), some (2, 0), some (2, 82), some (0, i)] [] G M Q := by
  have e := h.2.2.2 (-2) (by decide)
  simp (disch := omega) only [g139_604, g139_605, g139_606, g139_607, g139_608, g139_609, g139_610, g139_611, g139_613, g139_614, g139_615, g139_616, g139_617, g139_618, g139_619, g139_620, g139_623, g139_624, Option.toList_some, Option.toList_none, List.cons_append, List.nil_append, true_and, and_true, true_or, or_true, eq_self, ci0, ci1, cin6, forall_const, not_true_eq_false, not_false_eq_true, fimp, timp, i10, i01, cm_rne, and_assoc, al2, e, hL]
  (repeat' apply And.intro) <;> (try omega) <;> (try (intro hx; exfalso; omega))
  refine c139_625 (by decide) hX.1 (p_put hX h.1 h.2.2.1  (fun M1 c1 f1 => ?_))
  have e1 := h.e1 f1
  simp (disch := omega) only [g139_628, g139_629, g139_630, g139_631, g139_632, g139_633, g139_634, g139_635, g139_637, g139_638, g139_639, g139_640, g139_641, g139_642, g139_643, g139_644, g139_647, g139_648, Option.toList_some, Option.toList_none, List.cons_append, List.nil_append, true_and, and_true, true_or, or_true, eq_self, ci0, ci1, cin6, forall_const, not_true_eq_false, not_false_eq_true, fimp, timp, i10, i01, cm_rne, and_assoc, al2, e1, hL]
  (repeat' apply And.intro) <;> (try omega) <;> (try (intro hx; exfalso; omega))
  refine c139_649 (Nat.le_of_ble_eq_true rfl) hm.2.1 (q_put hm (h.m1 f1) h.2.2.1  (fun M2 c2 f2 => ?_))
  have ho : okR (rPut A (cm_lor (cm_lshl (cm_i2l (M0 (-2) (i + 1))) 32) (cm_land (cm_i2l (M0 (-2) (i + 2))) 4294967295))) := ok_put h.2.2.1
  obtain ⟨o1, o2⟩ := ho
  simp only [g139_652, Option.toList_some, Option.toList_none, List.cons_append, List.nil_append, true_and, and_true, true_or, or_true, eq_self, ci0, ci1, cin6, forall_const, not_true_eq_false, not_false_eq_true, fimp, timp, i10, i01, cm_rne, and_assoc, eq_true o1]
  exact K _ _ (h.nx c1 f1 c2 f2 o2)
theorem l_wipe (hX : isX G) (hm : isM G 82) (ht : tbl M0) (hn : ∀ j, cm_in (M0 (-2) j)) (hL : M0 (-2) (-1) = L) (hi : 0 ≤ i ∧ i + 4 ≤ L) (h : iL M0 M A) (K : ∀ M' A', iL M0 M' A' → Go 139 742 [some (2, -2), some (2, 0), some (2, 82), some (0, i)] [] G M' Q) : Go 139 657 [some (2, -2), some (2, 0), some (2, 82), some (0, i)] [] G M Q := by
  have e := h.2.2.2 (-2) (by decide)
  simp (disch := omega) only [g139_657, Option.toList_some, Option.toList_none, List.cons_append, List.nil_append, true_and, and_true, true_or, or_true, eq_self, ci0, ci1, cin6, forall_const, not_true_eq_false, not_false_eq_true, fimp, timp, i10, i01, cm_rne, and_assoc, al2, e, hL]
  refine c139_658 (by decide) hX.1 (p_wipe hX h.1 h.2.2.1  (fun M1 c1 f1 => ?_))
  have e1 := h.e1 f1
  simp (disch := omega) only [g139_661, Option.toList_some, Option.toList_none, List.cons_append, List.nil_append, true_and, and_true, true_or, or_true, eq_self, ci0, ci1, cin6, forall_const, not_true_eq_false, not_false_eq_true, fimp, timp, i10, i01, cm_rne, and_assoc, al2, e1, hL]
  refine c139_662 (Nat.le_of_ble_eq_true rfl) hm.2.1 (q_wipe hm (h.m1 f1) h.2.2.1  (fun M2 c2 f2 => ?_))
  have ho : okR (rWipe A) := ok_wipe h.2.2.1
  obtain ⟨o1, o2⟩ := ho
  simp only [g139_665, Option.toList_some, Option.toList_none, List.cons_append, List.nil_append, true_and, and_true, true_or, or_true, eq_self, ci0, ci1, cin6, forall_const, not_true_eq_false, not_false_eq_true, fimp, timp, i10, i01, cm_rne, and_assoc, eq_true o1]
  exact K _ _ (h.nx c1 f1 c2 f2 o2)
theorem l_fault (hX : isX G) (hm : isM G 82) (ht : tbl M0) (hn : ∀ j, cm_in (M0 (-2) j)) (hL : M0 (-2) (-1) = L) (hi : 0 ≤ i ∧ i + 4 ≤ L) (h : iL M0 M A) (K : ∀ M' A', iL M0 M' A' → Go 139 742 [some (2, -2), some (2, 0), some (2, 82), some (0, i)] [] G M' Q) : Go 139 670 [some (2, -2), some (2, 0), some (2, 82), some (0, i)] [] G M Q := by
  have e := h.2.2.2 (-2) (by decide)
  simp (disch := omega) only [g139_670, Option.toList_some, Option.toList_none, List.cons_append, List.nil_append, true_and, and_true, true_or, or_true, eq_self, ci0, ci1, cin6, forall_const, not_true_eq_false, not_false_eq_true, fimp, timp, i10, i01, cm_rne, and_assoc, al2, e, hL]
  refine c139_671 (by decide) hX.1 (p_fault hX h.1 h.2.2.1  (fun M1 c1 f1 => ?_))
  have e1 := h.e1 f1
  simp (disch := omega) only [g139_674, Option.toList_some, Option.toList_none, List.cons_append, List.nil_append, true_and, and_true, true_or, or_true, eq_self, ci0, ci1, cin6, forall_const, not_true_eq_false, not_false_eq_true, fimp, timp, i10, i01, cm_rne, and_assoc, al2, e1, hL]
  refine c139_675 (Nat.le_of_ble_eq_true rfl) hm.2.1 (q_fault hm (h.m1 f1) h.2.2.1  (fun M2 c2 f2 => ?_))
  have o1 : cm_in (paA A).1 := ok_pa h.2.2.1
  have o2 := h.2.2.1
  simp only [g139_678, Option.toList_some, Option.toList_none, List.cons_append, List.nil_append, true_and, and_true, true_or, or_true, eq_self, ci0, ci1, cin6, forall_const, not_true_eq_false, not_false_eq_true, fimp, timp, i10, i01, cm_rne, and_assoc, eq_true o1]
  exact K _ _ (h.nx c1 f1 c2 f2 o2)
theorem l_undo (hX : isX G) (hm : isM G 82) (ht : tbl M0) (hn : ∀ j, cm_in (M0 (-2) j)) (hL : M0 (-2) (-1) = L) (hi : 0 ≤ i ∧ i + 4 ≤ L) (h : iL M0 M A) (K : ∀ M' A', iL M0 M' A' → Go 139 742 [some (2, -2), some (2, 0), some (2, 82), some (0, i)] [] G M' Q) : Go 139 683 [some (2, -2), some (2, 0), some (2, 82), some (0, i)] [] G M Q := by
  have e := h.2.2.2 (-2) (by decide)
  simp (disch := omega) only [g139_683, Option.toList_some, Option.toList_none, List.cons_append, List.nil_append, true_and, and_true, true_or, or_true, eq_self, ci0, ci1, cin6, forall_const, not_true_eq_false, not_false_eq_true, fimp, timp, i10, i01, cm_rne, and_assoc, al2, e, hL]
  refine c139_684 (by decide) hX.1 (p_undo hX h.1 h.2.2.1  (fun M1 c1 f1 => ?_))
  have e1 := h.e1 f1
  simp (disch := omega) only [g139_687, Option.toList_some, Option.toList_none, List.cons_append, List.nil_append, true_and, and_true, true_or, or_true, eq_self, ci0, ci1, cin6, forall_const, not_true_eq_false, not_false_eq_true, fimp, timp, i10, i01, cm_rne, and_assoc, al2, e1, hL]
  refine c139_688 (Nat.le_of_ble_eq_true rfl) hm.2.1 (q_undo hm (h.m1 f1) h.2.2.1  (fun M2 c2 f2 => ?_))
  have ho : okR (rUndo A) := ok_undo h.2.2.1
  obtain ⟨o1, o2⟩ := ho
  simp only [g139_691, Option.toList_some, Option.toList_none, List.cons_append, List.nil_append, true_and, and_true, true_or, or_true, eq_self, ci0, ci1, cin6, forall_const, not_true_eq_false, not_false_eq_true, fimp, timp, i10, i01, cm_rne, and_assoc, eq_true o1]
  exact K _ _ (h.nx c1 f1 c2 f2 o2)
theorem l_save (hX : isX G) (hm : isM G 82) (ht : tbl M0) (hn : ∀ j, cm_in (M0 (-2) j)) (hL : M0 (-2) (-1) = L) (hi : 0 ≤ i ∧ i + 4 ≤ L) (h : iL M0 M A) (K : ∀ M' A', iL M0 M' A' → Go 139 742 [some (2, -2), some (2, 0), some (2, 82), some (0, i)] [] G M' Q) : Go 139 696 [some (2, -2), some (2, 0), some (2, 82), some (0, i)] [] G M Q := by
  have e := h.2.2.2 (-2) (by decide)
  simp (disch := omega) only [g139_696, g139_697, g139_698, g139_699, g139_700, g139_701, Option.toList_some, Option.toList_none, List.cons_append, List.nil_append, true_and, and_true, true_or, or_true, eq_self, ci0, ci1, cin6, forall_const, not_true_eq_false, not_false_eq_true, fimp, timp, i10, i01, cm_rne, and_assoc, al2, e, hL]
  (repeat' apply And.intro) <;> (try omega) <;> (try (intro hx; exfalso; omega))
  refine c139_702 (by decide) hX.1 (p_save hX h.1 h.2.2.1 (hn (i + 1)) (fun M1 c1 f1 => ?_))
  have e1 := h.e1 f1
  simp (disch := omega) only [g139_705, g139_706, g139_707, g139_708, g139_709, g139_710, Option.toList_some, Option.toList_none, List.cons_append, List.nil_append, true_and, and_true, true_or, or_true, eq_self, ci0, ci1, cin6, forall_const, not_true_eq_false, not_false_eq_true, fimp, timp, i10, i01, cm_rne, and_assoc, al2, e1, hL]
  (repeat' apply And.intro) <;> (try omega) <;> (try (intro hx; exfalso; omega))
  refine c139_711 (Nat.le_of_ble_eq_true rfl) hm.2.1 (q_save hm (h.m1 f1) h.2.2.1 (hn (i + 1)) (fun M2 c2 f2 => ?_))
  have ho : okR (rSave A (M0 (-2) (i + 1))) := ok_save h.2.2.1
  obtain ⟨o1, o2⟩ := ho
  simp only [g139_714, Option.toList_some, Option.toList_none, List.cons_append, List.nil_append, true_and, and_true, true_or, or_true, eq_self, ci0, ci1, cin6, forall_const, not_true_eq_false, not_false_eq_true, fimp, timp, i10, i01, cm_rne, and_assoc, eq_true o1]
  exact K _ _ (h.nx c1 f1 c2 f2 o2)
theorem l_restore (hX : isX G) (hm : isM G 82) (ht : tbl M0) (hn : ∀ j, cm_in (M0 (-2) j)) (hL : M0 (-2) (-1) = L) (hi : 0 ≤ i ∧ i + 4 ≤ L) (h : iL M0 M A) (K : ∀ M' A', iL M0 M' A' → Go 139 742 [some (2, -2), some (2, 0), some (2, 82), some (0, i)] [] G M' Q) : Go 139 719 [some (2, -2), some (2, 0), some (2, 82), some (0, i)] [] G M Q := by
  have e := h.2.2.2 (-2) (by decide)
  simp (disch := omega) only [g139_719, g139_720, g139_721, g139_722, g139_723, g139_724, Option.toList_some, Option.toList_none, List.cons_append, List.nil_append, true_and, and_true, true_or, or_true, eq_self, ci0, ci1, cin6, forall_const, not_true_eq_false, not_false_eq_true, fimp, timp, i10, i01, cm_rne, and_assoc, al2, e, hL]
  (repeat' apply And.intro) <;> (try omega) <;> (try (intro hx; exfalso; omega))
  refine c139_725 (by decide) hX.1 (p_restore hX h.1 h.2.2.1 (hn (i + 1)) (fun M1 c1 f1 => ?_))
  have e1 := h.e1 f1
  simp (disch := omega) only [g139_728, g139_729, g139_730, g139_731, g139_732, g139_733, Option.toList_some, Option.toList_none, List.cons_append, List.nil_append, true_and, and_true, true_or, or_true, eq_self, ci0, ci1, cin6, forall_const, not_true_eq_false, not_false_eq_true, fimp, timp, i10, i01, cm_rne, and_assoc, al2, e1, hL]
  (repeat' apply And.intro) <;> (try omega) <;> (try (intro hx; exfalso; omega))
  refine c139_734 (Nat.le_of_ble_eq_true rfl) hm.2.1 (q_restore hm (h.m1 f1) h.2.2.1 (hn (i + 1)) (fun M2 c2 f2 => ?_))
  have ho : okR (rRestore A (M0 (-2) (i + 1))) := ok_restore h.2.2.1
  obtain ⟨o1, o2⟩ := ho
  simp only [g139_737, Option.toList_some, Option.toList_none, List.cons_append, List.nil_append, true_and, and_true, true_or, or_true, eq_self, ci0, ci1, cin6, forall_const, not_true_eq_false, not_false_eq_true, fimp, timp, i10, i01, cm_rne, and_assoc, eq_true o1]
  exact K _ _ (h.nx c1 f1 c2 f2 o2)
theorem l_step (hX : isX G) (hm : isM G 82) (ht : tbl M0) (hn : ∀ j, cm_in (M0 (-2) j)) (hL : M0 (-2) (-1) = L) (hi : 0 ≤ i ∧ i + 4 ≤ L) (h : iL M0 M A) (K : ∀ M' A', iL M0 M' A' → Go 139 742 [some (2, -2), some (2, 0), some (2, 82), some (0, i)] [] G M' Q) : ∀ x : Int, 0 ≤ x ∧ x ≤ 31 → Go 139 32 [some (2, -2), some (2, 0), some (2, 82), some (0, i)] [(0, x)] G M Q := by
  intro x hx
  by_cases hd : 21 < x
  · exact go_table hq139 k139_32 ⟨by omega, by omega⟩ (Or.inr (Or.inl hd)) (tgt := 742) (by rw [cm_tab_d (Or.inr hd)]; decide) (K _ _ h)
  · have hc : x = 0 ∨ x = 1 ∨ x = 2 ∨ x = 3 ∨ x = 4 ∨ x = 5 ∨ x = 6 ∨ x = 7 ∨ x = 8 ∨ x = 9 ∨ x = 10 ∨ x = 11 ∨ x = 12 ∨ x = 13 ∨ x = 14 ∨ x = 15 ∨ x = 16 ∨ x = 17 ∨ x = 18 ∨ x = 19 ∨ x = 20 ∨ x = 21 := by omega
    rcases hc with rfl | rfl | rfl | rfl | rfl | rfl | rfl | rfl | rfl | rfl | rfl | rfl | rfl | rfl | rfl | rfl | rfl | rfl | rfl | rfl | rfl | rfl
    · exact go_table hq139 k139_32 ⟨by decide, by decide⟩ (by decide) (tgt := 136) (by decide) (l_set hX hm ht hn hL hi h K)
    · exact go_table hq139 k139_32 ⟨by decide, by decide⟩ (by decide) (tgt := 169) (by decide) (l_name hX hm ht hn hL hi h K)
    · exact go_table hq139 k139_32 ⟨by decide, by decide⟩ (by decide) (tgt := 202) (by decide) (l_line hX hm ht hn hL hi h K)
    · exact go_table hq139 k139_32 ⟨by decide, by decide⟩ (by decide) (tgt := 225) (by decide) (l_cue hX hm ht hn hL hi h K)
    · exact go_table hq139 k139_32 ⟨by decide, by decide⟩ (by decide) (tgt := 258) (by decide) (l_move hX hm ht hn hL hi h K)
    · exact go_table hq139 k139_32 ⟨by decide, by decide⟩ (by decide) (tgt := 291) (by decide) (l_drop hX hm ht hn hL hi h K)
    · exact go_table hq139 k139_32 ⟨by decide, by decide⟩ (by decide) (tgt := 314) (by decide) (l_turn hX hm ht hn hL hi h K)
    · exact go_table hq139 k139_32 ⟨by decide, by decide⟩ (by decide) (tgt := 347) (by decide) (l_read hX hm ht hn hL hi h K)
    · exact go_table hq139 k139_32 ⟨by decide, by decide⟩ (by decide) (tgt := 360) (by decide) (l_of hX hm ht hn hL hi h K)
    · exact go_table hq139 k139_32 ⟨by decide, by decide⟩ (by decide) (tgt := 393) (by decide) (l_group hX hm ht hn hL hi h K)
    · exact go_table hq139 k139_32 ⟨by decide, by decide⟩ (by decide) (tgt := 426) (by decide) (l_at hX hm ht hn hL hi h K)
    · exact go_table hq139 k139_32 ⟨by decide, by decide⟩ (by decide) (tgt := 459) (by decide) (l_count hX hm ht hn hL hi h K)
    · exact go_table hq139 k139_32 ⟨by decide, by decide⟩ (by decide) (tgt := 482) (by decide) (l_blame hX hm ht hn hL hi h K)
    · exact go_table hq139 k139_32 ⟨by decide, by decide⟩ (by decide) (tgt := 505) (by decide) (l_speedFor hX hm ht hn hL hi h K)
    · exact go_table hq139 k139_32 ⟨by decide, by decide⟩ (by decide) (tgt := 528) (by decide) (l_seenIf hX hm ht hn hL hi h K)
    · exact go_table hq139 k139_32 ⟨by decide, by decide⟩ (by decide) (tgt := 561) (by decide) (l_bestCue hX hm ht hn hL hi h K)
    · exact go_table hq139 k139_32 ⟨by decide, by decide⟩ (by decide) (tgt := 604) (by decide) (l_put hX hm ht hn hL hi h K)
    · exact go_table hq139 k139_32 ⟨by decide, by decide⟩ (by decide) (tgt := 657) (by decide) (l_wipe hX hm ht hn hL hi h K)
    · exact go_table hq139 k139_32 ⟨by decide, by decide⟩ (by decide) (tgt := 670) (by decide) (l_fault hX hm ht hn hL hi h K)
    · exact go_table hq139 k139_32 ⟨by decide, by decide⟩ (by decide) (tgt := 683) (by decide) (l_undo hX hm ht hn hL hi h K)
    · exact go_table hq139 k139_32 ⟨by decide, by decide⟩ (by decide) (tgt := 696) (by decide) (l_save hX hm ht hn hL hi h K)
    · exact go_table hq139 k139_32 ⟨by decide, by decide⟩ (by decide) (tgt := 719) (by decide) (l_restore hX hm ht hn hL hi h K)
end LAW
