/-! ===== the class: what it keeps, and its changes ===== -/
def isP (G : cm_G) : Prop := cm_sh G 27 = some (0, 3) ∧ G.2 27 0 = 28 ∧ ∀ M, cm_al 2 G M 28 = 60
def isH (G : cm_G) : Prop := cm_sh G 29 = some (0, 2) ∧ G.2 29 0 = 30 ∧ (∀ M, cm_al 4 G M 30 = 6) ∧ ∀ j, 0 ≤ j → j < 6 → G.2 30 j = 31 + 6 * j ∧ isC G (31 + 6 * j)
def isL (G : cm_G) : Prop := cm_sh G 67 = some (0, 4) ∧ G.2 67 0 = 68 ∧ G.2 67 1 = 69 ∧ (∀ M, cm_al 4 G M 68 = 2) ∧ (∀ M, cm_al 3 G M 69 = 2) ∧ ∀ j, 0 ≤ j → j < 2 → G.2 68 j = 70 + 6 * j ∧ isC G (70 + 6 * j)
def isX (G : cm_G) : Prop := cm_sh G 0 = some (0, 5) ∧ (G.2 0 1 = 2 ∧ G.2 0 0 = 1 ∧ G.2 0 3 = 15 ∧ G.2 0 2 = 14 ∧ G.2 0 4 = 27 ∧ G.2 0 5 = 29 ∧ G.2 0 6 = 67) ∧ isC G 2 ∧ isK G 1 2 ∧ isC G 15 ∧ isK G 14 15 ∧ isP G ∧ isH G ∧ isL G
/-- the ring of states -/
def hX (M : cm_M) (h : Int) (H : Int → sS) : Prop := M 29 1 = h ∧ (0 ≤ h ∧ h ≤ 6) ∧ (0 ≤ M 29 2 ∧ M 29 2 < 6) ∧ ∀ j, 0 ≤ j → j < h → rC M (31 + 6 * ((M 29 2 + j) % 6)) (H j)
/-- the class holds A -/
def rXA (M : cm_M) (A : sA) : Prop := rC M 2 (aS A) ∧ hX M (aH A) (aP A) ∧ (∀ s, 0 ≤ s → s < 2 → M 69 s = aF A s ∧ (aF A s = 1 → rC M (70 + 6 * s) (aL A s))) ∧ M 27 1 = aN A ∧ ∀ k, 0 ≤ k → k < aN A → M 28 k = aC A k
theorem rXA_chg {M M1 M2 : cm_M} {A : sA} {S : sS} (hA : rXA M A) (h1 : hX M1 (rcN (aH A)) (rcH (aH A) (aP A) (aS A))) (f1 : fr M M1 29 66) (f2 : fr M1 M2 1 26) (r2 : rC M2 2 S) : rXA M2 (chg A S) ∧ fr M M2 0 81 := by
  obtain ⟨b1, b2, b3, b4, b5⟩ := hA
  obtain ⟨c1, c2, c3, c4⟩ := h1
  refine ⟨⟨r2, ⟨?_, c2, ?_, fun j a b => ?_⟩, fun s a b => ?_, ?_, fun k a b => ?_⟩, fun k a => ?_⟩
  · rw [f2 29 (by omega)]; exact c1
  · rw [f2 29 (by omega)]; exact c3
  · rw [f2 29 (by omega)]; exact (c4 j a b).fr f2 (by omega)
  · rw [f2 69 (by omega), f1 69 (by omega)]
    exact ⟨(b3 s a b).1, fun z => (((b3 s a b).2 z).fr f1 (by omega)).fr f2 (by omega)⟩
  · rw [f2 27 (by omega), f1 27 (by omega)]; exact b4
  · rw [f2 28 (by omega), f1 28 (by omega)]; exact b5 k a b
  · rw [f2 k (by omega), f1 k (by omega)]
theorem rXA_q {M M1 : cm_M} {A : sA} (hA : rXA M A) (f : fr M M1 14 26) : rXA M1 A ∧ fr M M1 0 81 := by
  obtain ⟨b1, ⟨c1, c2, c3, c4⟩, b3, b4, b5⟩ := hA
  refine ⟨⟨b1.fr f (by omega), ⟨?_, c2, ?_, fun j a b => ?_⟩, fun s a b => ?_, ?_, fun k a b => ?_⟩, fun k a => ?_⟩
  · rw [f 29 (by omega)]; exact c1
  · rw [f 29 (by omega)]; exact c3
  · rw [f 29 (by omega)]; exact (c4 j a b).fr f (by omega)
  · rw [f 69 (by omega)]
    exact ⟨(b3 s a b).1, fun z => ((b3 s a b).2 z).fr f (by omega)⟩
  · rw [f 27 (by omega)]; exact b4
  · rw [f 28 (by omega)]; exact b5 k a b
  · rw [f k (by omega)]
theorem rXA_k {M M1 : cm_M} {A : sA} (hA : rXA M A) (f : fr M M1 1 13) (r : rC M1 2 (aS A)) : rXA M1 A ∧ fr M M1 0 81 := by
  obtain ⟨b1, ⟨c1, c2, c3, c4⟩, b3, b4, b5⟩ := hA
  refine ⟨⟨r, ⟨?_, c2, ?_, fun j a b => ?_⟩, fun s a b => ?_, ?_, fun k a b => ?_⟩, fun k a => ?_⟩
  · rw [f 29 (by omega)]; exact c1
  · rw [f 29 (by omega)]; exact c3
  · rw [f 29 (by omega)]; exact (c4 j a b).fr f (by omega)
  · rw [f 69 (by omega)]
    exact ⟨(b3 s a b).1, fun z => ((b3 s a b).2 z).fr f (by omega)⟩
  · rw [f 27 (by omega)]; exact b4
  · rw [f 28 (by omega)]; exact b5 k a b
  · rw [f k (by omega)]
/-- the tables -/
def tbl (M : cm_M) : Prop := (∀ j, 0 ≤ j → j < 3 → M (-4) j = if j = 0 then 4 else 1) ∧ ∀ j, 0 ≤ j → j < 3 → M (-5) j = if j = 0 then 20 else if j = 1 then 30 else 4
theorem al4 {G : cm_G} {M : cm_M} : cm_al 1 G M (-4) = 3 := by
  unfold cm_al
  rw [if_neg (by decide), if_pos (by decide)]
theorem al5 {G : cm_G} {M : cm_M} : cm_al 1 G M (-5) = 3 := by
  unfold cm_al
  rw [if_neg (by decide), if_pos (by decide)]
section CLASS1
variable {G : cm_G} {M : cm_M} {i j t v w g h s n k u a b : Int} {S : sS} {A : sA} {H : Int → sS} {Q : Option cm_V → cm_G → cm_M → Prop}
theorem p_remember (hXG : isX G) (hR : rC M 2 S) (hv : vS S) (hh : hX M h H) (K : ∀ M', hX M' (rcN h) (rcH h H S) → fr M M' 29 66 → Q none G M') : Go 42 0 [some (2, 29), some (2, 2)] [] G M Q := by
  obtain ⟨x0, xr, xc, xk, xt, xu, xp, ⟨y0, y1, y2, y3⟩, xl⟩ := hXG
  obtain ⟨h1, h2, h3, h4⟩ := hh
  have hn := hv.2.1
  have hn0 := hv.1
  have hm : (M 29 2 + h).tmod 6 = (M 29 2 + h) % 6 := Int.tmod_eq_emod_of_nonneg (by omega)
  have hb : 0 ≤ (M 29 2 + h) % 6 ∧ (M 29 2 + h) % 6 < 6 := by omega
  obtain ⟨z1, z2⟩ := y3 _ hb.1 hb.2
  simp (disch := omega) only [g42_0, g42_1, g42_4, g42_5, g42_8, g42_9, g42_12, g42_13, g42_15, g42_16, g42_17, g42_21, g42_22, g42_25, g42_27, g42_30, g42_31, g42_31b, g42_32, g42_35, g42_36, g42_37, g42_40, g42_43, g42_44, g42_45, g42_48, g42_49, g42_50, g42_52, g42_53, g42_56, Option.toList_some, Option.toList_none, List.cons_append, List.nil_append, true_and, and_true, true_or, or_true, eq_self, ci0, ci1, cin6, forall_const, not_true_eq_false, not_false_eq_true, fimp, timp, i10, i01, cm_rne, and_assoc, y0, y1, y2, h1, hm, z1]
  (repeat' apply And.intro) <;> (try omega) <;> (try (intro hx; exfalso; omega))
  refine c42_18 (by decide) z2.2.1 (p_takeFrom z2 xc hR (by omega) (by omega) (fun M1 r1 f1 => ?_))
  have e29 : M1 29 = M 29 := f1 29 (by omega)
  have g1 : M1 29 1 = h := by rw [e29]; exact h1
  have g2 : M1 29 2 = M 29 2 := by rw [e29]
  have hm2 : (M 29 2 + 1).tmod 6 = (M 29 2 + 1) % 6 := Int.tmod_eq_emod_of_nonneg (by omega)
  simp (disch := omega) only [g42_0, g42_1, g42_4, g42_5, g42_8, g42_9, g42_12, g42_13, g42_15, g42_16, g42_17, g42_21, g42_22, g42_25, g42_27, g42_30, g42_31, g42_31b, g42_32, g42_35, g42_36, g42_37, g42_40, g42_43, g42_44, g42_45, g42_48, g42_49, g42_50, g42_52, g42_53, g42_56, Option.toList_some, Option.toList_none, List.cons_append, List.nil_append, true_and, and_true, true_or, or_true, eq_self, ci0, ci1, cin6, forall_const, not_true_eq_false, not_false_eq_true, fimp, timp, i10, i01, cm_rne, and_assoc, y0, g1, g2, hm2]
  (repeat' apply And.intro) <;> (try omega) <;> (try (intro hx; exfalso; omega))
  · intro hge
    have h6 : h = 6 := by omega
    have eN : rcN h = 6 := if_pos h6
    (repeat' apply And.intro) <;> (try omega) <;> (try (intro hx; exfalso; omega))
    have fin : fr M (cm_up M1 29 2 ((M 29 2 + 1) % 6)) 29 66 := fun k hk => by rw [cm_rne (by omega)]; exact f1 k (by omega)
    refine K _ ⟨?_, by omega, ?_, fun j c d => ?_⟩ fin
    · rw [cm_up_n _ (Or.inr (by decide)), g1, eN]; exact h6
    · rw [cm_up_s]; omega
    · rw [cm_up_s]
      have e : (((M 29 2 + 1) % 6 + j) % 6 : Int) = (M 29 2 + 1 + j) % 6 := by omega
      have frc : fr M1 (cm_up M1 29 2 ((M 29 2 + 1) % 6)) 29 29 := fun k hk => cm_rne (by omega)
      rw [e]
      unfold rcH
      rw [if_pos h6]
      by_cases h5 : j = 5
      · rw [if_pos h5, show (M 29 2 + 1 + j) % 6 = (M 29 2 + h) % 6 by omega]
        exact r1.fr frc (by omega)
      · rw [if_neg h5]
        have := h4 (j + 1) (by omega) (by omega)
        rw [show M 29 2 + (j + 1) = M 29 2 + 1 + j by omega] at this
        exact (this.fr f1 (by omega)).fr frc (by omega)
  · intro hlt
    have eN : rcN h = h + 1 := if_neg (by omega)
    (repeat' apply And.intro) <;> (try omega) <;> (try (intro hx; exfalso; omega))
    have fin : fr M (cm_up M1 29 1 (h + 1)) 29 66 := fun k hk => by rw [cm_rne (by omega)]; exact f1 k (by omega)
    refine K _ ⟨?_, by omega, ?_, fun j c d => ?_⟩ fin
    · rw [cm_up_s, eN]
    · rw [cm_up_n _ (Or.inr (by decide)), g2]; exact h3
    · rw [cm_up_n _ (Or.inr (by decide)), g2]
      have frc : fr M1 (cm_up M1 29 1 (h + 1)) 29 29 := fun k hk => cm_rne (by omega)
      unfold rcH
      rw [if_neg (by omega)]
      by_cases h5 : j = h
      · rw [if_pos h5, h5]
        exact r1.fr frc (by omega)
      · rw [if_neg h5]
        exact ((h4 j c (by omega)).fr f1 (by omega)).fr frc (by omega)
theorem p_set (hX : isX G) (htb : tbl M) (hA : rXA M A) (hv : vA A) (hi : cm_in i) (hw : cm_in v) (K : ∀ M', rXA M' (rSet A i v).2 → fr M M' 0 81 → Q (some (0, (rSet A i v).1)) G M') : Go 46 0 [some (2, 0), some (0, i), some (0, v), none] [] G M Q := by
  have hX' := hX
  obtain ⟨x0, ⟨q0, q1, q2, q3, q4, q5, q6⟩, xc, xk, xt, xu, xp, xh, xl⟩ := hX
  obtain ⟨c0, cs, ⟨cf0, cf1, cf2, cf3, cf4⟩, ca0, ca1, ca2, ca3, ca4⟩ := xc
  have hA' := hA
  obtain ⟨b1, b2, b3, b4, b5⟩ := hA
  unfold rSet at K
  have bad : ¬ okS i v → Q (some (0, -2)) G M := fun z => by rw [ite'_n z] at K; exact K M hA' fr.rf
  simp (disch := omega) only [g46_0, g46_1, g46_4, g46_5, g46_6, g46_9, g46_11, g46_12, g46_13, g46_16, g46_17, g46_18, g46_21, g46_22, g46_26, g46_29, g46_31, g46_32, g46_33, g46_36, g46_37, g46_43, g46_44, g46_47, g46_50, g46_51, g46_52, g46_53, g46_54, g46_57, g46_60, g46_61, g46_62, g46_63, g46_64, Option.toList_some, Option.toList_none, List.cons_append, List.nil_append, true_and, and_true, true_or, or_true, eq_self, ci0, ci1, cin6, forall_const, not_true_eq_false, not_false_eq_true, fimp, timp, i10, i01, cm_rne, and_assoc]
  (repeat' apply And.intro) <;> (try omega) <;> (try (intro hx; exfalso; omega))
  · intro h1
    exact bad (fun z => by have := z.1; omega)
  · intro h1
    (repeat' apply And.intro) <;> (try omega) <;> (try (intro hx; exfalso; omega))
    · intro h2
      simp (disch := omega) only [g46_0, g46_1, g46_4, g46_5, g46_6, g46_9, g46_11, g46_12, g46_13, g46_16, g46_17, g46_18, g46_21, g46_22, g46_26, g46_29, g46_31, g46_32, g46_33, g46_36, g46_37, g46_43, g46_44, g46_47, g46_50, g46_51, g46_52, g46_53, g46_54, g46_57, g46_60, g46_61, g46_62, g46_63, g46_64, Option.toList_some, Option.toList_none, List.cons_append, List.nil_append, true_and, and_true, true_or, or_true, eq_self, ci0, ci1, cin6, forall_const, not_true_eq_false, not_false_eq_true, fimp, timp, i10, i01, cm_rne, and_assoc, al4, al5]
      (repeat' apply And.intro) <;> (try omega) <;> (try (intro hx; exfalso; omega))
      rw [htb.1 i (by omega) h2, htb.2 i (by omega) h2]
      refine c46_23 (Nat.le_of_ble_eq_true rfl) (p_isWithin hw (by constructor <;> omega) (by constructor <;> omega) (fun h3 => ?_) (fun h3 => ?_)) <;> simp (disch := omega) only [g46_0, g46_1, g46_4, g46_5, g46_6, g46_9, g46_11, g46_12, g46_13, g46_16, g46_17, g46_18, g46_21, g46_22, g46_26, g46_29, g46_31, g46_32, g46_33, g46_36, g46_37, g46_43, g46_44, g46_47, g46_50, g46_51, g46_52, g46_53, g46_54, g46_57, g46_60, g46_61, g46_62, g46_63, g46_64, Option.toList_some, Option.toList_none, List.cons_append, List.nil_append, true_and, and_true, true_or, or_true, eq_self, ci0, ci1, cin6, forall_const, not_true_eq_false, not_false_eq_true, fimp, timp, i10, i01, cm_rne, and_assoc, x0, q5, q0]
      · have hk : okS i v := ⟨by omega, h3⟩
        rw [ite'_p hk] at K
        (repeat' apply And.intro) <;> (try omega) <;> (try (intro hx; exfalso; omega))
        refine c46_40 (by decide) xh.1 (p_remember hX' b1 hv.1 b2 (fun M1 r1 f1 => ?_))
        have hR1 : rC M1 2 (aS A) := b1.fr f1 (by omega)
        simp (disch := omega) only [g46_0, g46_1, g46_4, g46_5, g46_6, g46_9, g46_11, g46_12, g46_13, g46_16, g46_17, g46_18, g46_21, g46_22, g46_26, g46_29, g46_31, g46_32, g46_33, g46_36, g46_37, g46_43, g46_44, g46_47, g46_50, g46_51, g46_52, g46_53, g46_54, g46_57, g46_60, g46_61, g46_62, g46_63, g46_64, Option.toList_some, Option.toList_none, List.cons_append, List.nil_append, true_and, and_true, true_or, or_true, eq_self, ci0, ci1, cin6, forall_const, not_true_eq_false, not_false_eq_true, fimp, timp, i10, i01, cm_rne, and_assoc, x0, q0, cs, cf0, ca0]
        (repeat' apply And.intro) <;> (try omega) <;> (try (intro hx; exfalso; omega))
        rw [hR1.2.1 i (by omega) h2]
        have r2 : rC (cm_up M1 (2 + 1) i v) 2 (sSet (aS A) i v) := by
          obtain ⟨w1, w2, w3⟩ := hR1
          refine ⟨by rw [cm_rne (by omega)]; exact w1, fun j a b => ?_, fun j a b => ?_⟩
          · rw [cm_req]
            show (if j = i then v else M1 (2 + 1) j) = if j = i then v else sT (aS A) j
            by_cases hj : j = i
            · rw [if_pos hj, if_pos hj]
            · rw [if_neg hj, if_neg hj]; exact w2 j a b
          · rw [cm_rne (by omega), cm_rne (by omega), cm_rne (by omega), cm_rne (by omega)]
            exact w3 j a b
        obtain ⟨k1, k2⟩ := rXA_chg hA' r1 f1 (fun k hk => cm_rne (by omega)) r2
        exact K _ k1 k2
      · exact bad (fun z => h3 z.2)
    · intro h2
      exact bad (fun z => by have := z.1; omega)
theorem p_addAsChange {m : Int} (hX : isX G) (hA : rXA M A) (hv : vA A) (K1 : sN (aS A) = 40 → Q (some (0, -4)) G M) (K0 : ¬ sN (aS A) = 40 → ∀ M', rXA M' (chg A (sAdd (aS A) k g m 0)) → fr M M' 0 81 → Q (some (0, sN (aS A))) G M') : Go 59 0 [some (2, 0), some (0, k), some (0, g), some (0, m)] [] G M Q := by
  have hX' := hX
  obtain ⟨x0, ⟨q0, q1, q2, q3, q4, q5, q6⟩, xc, xk, xt, xu, xp, xh, xl⟩ := hX
  have cs := xc.2.1
  have hA' := hA
  obtain ⟨b1, b2, b3, b4, b5⟩ := hA
  have hn := hv.1.2.1
  have hn0 := hv.1.1
  simp (disch := omega) only [g59_0, g59_1, g59_4, g59_7, g59_9, g59_12, g59_14, g59_15, g59_16, g59_19, g59_20, g59_26, g59_27, g59_30, g59_31, g59_32, g59_33, g59_37, g59_38, g59_41, g59_44, g59_45, g59_46, Option.toList_some, Option.toList_none, List.cons_append, List.nil_append, true_and, and_true, true_or, or_true, eq_self, ci0, ci1, cin6, forall_const, not_true_eq_false, not_false_eq_true, fimp, timp, i10, i01, cm_rne, and_assoc, x0, q0, cs, b1.1]
  (repeat' apply And.intro) <;> (try omega) <;> (try (intro hx; exfalso; omega))
  · intro h1
    simp (disch := omega) only [g59_0, g59_1, g59_4, g59_7, g59_9, g59_12, g59_14, g59_15, g59_16, g59_19, g59_20, g59_26, g59_27, g59_30, g59_31, g59_32, g59_33, g59_37, g59_38, g59_41, g59_44, g59_45, g59_46, Option.toList_some, Option.toList_none, List.cons_append, List.nil_append, true_and, and_true, true_or, or_true, eq_self, ci0, ci1, cin6, forall_const, not_true_eq_false, not_false_eq_true, fimp, timp, i10, i01, cm_rne, and_assoc, x0, q5, q0]
    refine c59_23 (by decide) xh.1 (p_remember hX' b1 hv.1 b2 (fun M1 r1 f1 => ?_))
    have hR1 : rC M1 2 (aS A) := b1.fr f1 (by omega)
    simp (disch := omega) only [g59_0, g59_1, g59_4, g59_7, g59_9, g59_12, g59_14, g59_15, g59_16, g59_19, g59_20, g59_26, g59_27, g59_30, g59_31, g59_32, g59_33, g59_37, g59_38, g59_41, g59_44, g59_45, g59_46, Option.toList_some, Option.toList_none, List.cons_append, List.nil_append, true_and, and_true, true_or, or_true, eq_self, ci0, ci1, cin6, forall_const, not_true_eq_false, not_false_eq_true, fimp, timp, i10, i01, cm_rne, and_assoc, x0, q0]
    refine c59_34 (by decide) cs (p_add xc hR1 (by omega) (fun M2 r2 f2 => ?_))
    simp (disch := omega) only [g59_0, g59_1, g59_4, g59_7, g59_9, g59_12, g59_14, g59_15, g59_16, g59_19, g59_20, g59_26, g59_27, g59_30, g59_31, g59_32, g59_33, g59_37, g59_38, g59_41, g59_44, g59_45, g59_46, Option.toList_some, Option.toList_none, List.cons_append, List.nil_append, true_and, and_true, true_or, or_true, eq_self, ci0, ci1, cin6, forall_const, not_true_eq_false, not_false_eq_true, fimp, timp, i10, i01, cm_rne, and_assoc, x0, q0, cs, r2.1]
    obtain ⟨k1, k2⟩ := rXA_chg hA' r1 f1 (f2.wd (by omega) (by omega)) r2
    have := K0 (by omega) M2 k1 k2
    rwa [show sN (sAdd (aS A) k g m 0) - 1 = sN (aS A) by show sN (aS A) + 1 - 1 = sN (aS A); omega]
  · intro h1
    exact K1 (by omega)
theorem p_name {n : Int} (hX : isX G) (hA : rXA M A) (hv : vA A) (hg : cm_in g) (hn : cm_in n) (K : ∀ M', rXA M' (rName A g n).2 → fr M M' 0 81 → Q (some (0, (rName A g n).1)) G M') : Go 47 0 [some (2, 0), some (0, g), some (0, n)] [] G M Q := by
  unfold rName at K
  simp (disch := omega) only [g47_0, g47_4, g47_7, g47_8, g47_9, g47_15, g47_18, g47_20, g47_21, g47_22, g47_23, g47_24, g47_28, Option.toList_some, Option.toList_none, List.cons_append, List.nil_append, true_and, and_true, true_or, or_true, eq_self, ci0, ci1, cin6, forall_const, not_true_eq_false, not_false_eq_true, fimp, timp, i10, i01, cm_rne, and_assoc]
  refine c47_1 (by decide) (p_isGroup hg (fun h1 => ?_) (fun h1 => ?_)) <;> simp (disch := omega) only [g47_0, g47_4, g47_7, g47_8, g47_9, g47_15, g47_18, g47_20, g47_21, g47_22, g47_23, g47_24, g47_28, Option.toList_some, Option.toList_none, List.cons_append, List.nil_append, true_and, and_true, true_or, or_true, eq_self, ci0, ci1, cin6, forall_const, not_true_eq_false, not_false_eq_true, fimp, timp, i10, i01, cm_rne, and_assoc]
  · refine c47_12 (Nat.le_of_ble_eq_true rfl) (p_isWithin hn cn0 ⟨by decide, by decide⟩ (fun h2 => ?_) (fun h2 => ?_)) <;> simp (disch := omega) only [g47_0, g47_4, g47_7, g47_8, g47_9, g47_15, g47_18, g47_20, g47_21, g47_22, g47_23, g47_24, g47_28, Option.toList_some, Option.toList_none, List.cons_append, List.nil_append, true_and, and_true, true_or, or_true, eq_self, ci0, ci1, cin6, forall_const, not_true_eq_false, not_false_eq_true, fimp, timp, i10, i01, cm_rne, and_assoc]
    · rw [ite'_p ⟨h1, h2⟩] at K
      refine c47_25 (by decide) hX.1 (p_addAsChange hX hA hv (fun h4 => ?_) (fun h4 M1 r1 f1 => ?_)) <;> simp (disch := omega) only [g47_0, g47_4, g47_7, g47_8, g47_9, g47_15, g47_18, g47_20, g47_21, g47_22, g47_23, g47_24, g47_28, Option.toList_some, Option.toList_none, List.cons_append, List.nil_append, true_and, and_true, true_or, or_true, eq_self, ci0, ci1, cin6, forall_const, not_true_eq_false, not_false_eq_true, fimp, timp, i10, i01, cm_rne, and_assoc]
      · rw [ite'_p h4] at K
        exact K M hA fr.rf
      · rw [ite'_n h4] at K
        exact K M1 r1 f1
    · rw [ite'_n (fun z => h2 z.2)] at K
      exact K M hA fr.rf
  · rw [ite'_n (fun z => h1 z.1)] at K
    exact K M hA fr.rf
theorem p_line (hX : isX G) (hA : rXA M A) (hv : vA A) (hk : cm_in k) (K : ∀ M', rXA M' (rLine A k).2 → fr M M' 0 81 → Q (some (0, (rLine A k).1)) G M') : Go 48 0 [some (2, 0), some (0, k)] [] G M Q := by
  unfold rLine at K
  simp (disch := omega) only [g48_0, g48_1, g48_2, g48_6, g48_9, g48_11, g48_12, g48_13, g48_14, g48_16, g48_21, Option.toList_some, Option.toList_none, List.cons_append, List.nil_append, true_and, and_true, true_or, or_true, eq_self, ci0, ci1, cin6, forall_const, not_true_eq_false, not_false_eq_true, fimp, timp, i10, i01, cm_rne, and_assoc]
  refine c48_3 (Nat.le_of_ble_eq_true rfl) (p_isWithin hk cn1 ⟨by decide, by decide⟩ (fun h2 => ?_) (fun h2 => ?_)) <;> simp (disch := omega) only [g48_0, g48_1, g48_2, g48_6, g48_9, g48_11, g48_12, g48_13, g48_14, g48_16, g48_21, Option.toList_some, Option.toList_none, List.cons_append, List.nil_append, true_and, and_true, true_or, or_true, eq_self, ci0, ci1, cin6, forall_const, not_true_eq_false, not_false_eq_true, fimp, timp, i10, i01, cm_rne, and_assoc]
  · rw [ite'_p h2] at K
    refine c48_18 (by decide) hX.1 (p_addAsChange hX hA hv (fun h4 => ?_) (fun h4 M1 r1 f1 => ?_)) <;> simp (disch := omega) only [g48_0, g48_1, g48_2, g48_6, g48_9, g48_11, g48_12, g48_13, g48_14, g48_16, g48_21, Option.toList_some, Option.toList_none, List.cons_append, List.nil_append, true_and, and_true, true_or, or_true, eq_self, ci0, ci1, cin6, forall_const, not_true_eq_false, not_false_eq_true, fimp, timp, i10, i01, cm_rne, and_assoc]
    · rw [ite'_p h4] at K
      exact K M hA fr.rf
    · rw [ite'_n h4] at K
      exact K M1 r1 f1
  · rw [ite'_n h2] at K
    exact K M hA fr.rf
/-- a cue is written -/
theorem rC_cue {M : cm_M} {c : Int} (hR : rC M c S) : rC (cm_up M (c + 5) i v) c (sCue S i v) := by
  obtain ⟨w1, w2, w3⟩ := hR
  refine ⟨by rw [cm_rne (by omega)]; exact w1, fun j a b => by rw [cm_rne (by omega)]; exact w2 j a b, fun j a b => ?_⟩
  obtain ⟨y1, y2, y3, y4⟩ := w3 j a b
  rw [cm_rne (by omega), cm_rne (by omega), cm_rne (by omega), cm_req]
  refine ⟨y1, y2, y3, ?_⟩
  show (if j = i then v else M (c + 5) j) = if j = i then v else sC S j
  by_cases hj : j = i
  · rw [if_pos hj, if_pos hj]
  · rw [if_neg hj, if_neg hj]; exact y4
theorem p_cue (hX : isX G) (hA : rXA M A) (hv : vA A) (hi : cm_in i) (hw : cm_in v) (K : ∀ M', rXA M' (rCue A i v).2 → fr M M' 0 81 → Q (some (0, (rCue A i v).1)) G M') : Go 49 0 [some (2, 0), some (0, i), some (0, v), none] [] G M Q := by
  have hX' := hX
  obtain ⟨x0, ⟨q0, q1, q2, q3, q4, q5, q6⟩, xc, xk, xt, xu, xp, xh, xl⟩ := hX
  have xc' := xc
  obtain ⟨c0, cs, ⟨cf0, cf1, cf2, cf3, cf4⟩, ca0, ca1, ca2, ca3, ca4⟩ := xc
  have hA' := hA
  obtain ⟨b1, b2, b3, b4, b5⟩ := hA
  have hn := hv.1.2.1
  unfold rCue at K
  simp (disch := omega) only [g49_0, g49_1, g49_4, g49_8, g49_11, g49_12, g49_13, g49_14, g49_17, g49_21, g49_24, g49_26, g49_27, g49_28, g49_31, g49_32, g49_38, g49_39, g49_42, g49_45, g49_46, g49_47, g49_48, g49_49, g49_52, g49_55, g49_56, g49_57, g49_58, g49_59, Option.toList_some, Option.toList_none, List.cons_append, List.nil_append, true_and, and_true, true_or, or_true, eq_self, ci0, ci1, cin6, forall_const, not_true_eq_false, not_false_eq_true, fimp, timp, i10, i01, cm_rne, and_assoc, x0, q0]
  refine c49_5 (by decide) cs (p_holds xc' b1 hv.1 hi (fun h1 => ?_) (fun h1 => ?_)) <;> simp (disch := omega) only [g49_8, g49_11, g49_12, g49_13, g49_14, g49_17, Option.toList_some, Option.toList_none, List.cons_append, List.nil_append, true_and, and_true, true_or, or_true, eq_self, ci0, ci1, cin6, forall_const, not_true_eq_false, not_false_eq_true, fimp, timp, i10, i01, cm_rne, and_assoc]
  · rw [ite'_p h1] at K
    have good : (0 ≤ v ∧ v ≤ 30) → Go 49 27 [some (2, 0), some (0, i), some (0, v), none] [] G M Q := by
      intro h2
      rw [ite'_p h2] at K
      simp (disch := omega) only [g49_0, g49_1, g49_4, g49_8, g49_11, g49_12, g49_13, g49_14, g49_17, g49_21, g49_24, g49_26, g49_27, g49_28, g49_31, g49_32, g49_38, g49_39, g49_42, g49_45, g49_46, g49_47, g49_48, g49_49, g49_52, g49_55, g49_56, g49_57, g49_58, g49_59, Option.toList_some, Option.toList_none, List.cons_append, List.nil_append, true_and, and_true, true_or, or_true, eq_self, ci0, ci1, cin6, forall_const, not_true_eq_false, not_false_eq_true, fimp, timp, i10, i01, cm_rne, and_assoc, x0, q5, q0]
      refine c49_35 (by decide) xh.1 (p_remember hX' b1 hv.1 b2 (fun M1 r1 f1 => ?_))
      have hR1 : rC M1 2 (aS A) := b1.fr f1 (by omega)
      simp (disch := omega) only [g49_0, g49_1, g49_4, g49_8, g49_11, g49_12, g49_13, g49_14, g49_17, g49_21, g49_24, g49_26, g49_27, g49_28, g49_31, g49_32, g49_38, g49_39, g49_42, g49_45, g49_46, g49_47, g49_48, g49_49, g49_52, g49_55, g49_56, g49_57, g49_58, g49_59, Option.toList_some, Option.toList_none, List.cons_append, List.nil_append, true_and, and_true, true_or, or_true, eq_self, ci0, ci1, cin6, forall_const, not_true_eq_false, not_false_eq_true, fimp, timp, i10, i01, cm_rne, and_assoc, x0, q0, cs, cf4, ca4]
      (repeat' apply And.intro) <;> (try omega) <;> (try (intro hx; exfalso; omega))
      rw [(hR1.2.2 i h1.1 h1.2).2.2.2]
      obtain ⟨k1, k2⟩ := rXA_chg hA' r1 f1 (fun k hk => cm_rne (by omega)) (rC_cue (i := i) (v := v) hR1)
      exact K _ k1 k2
    (repeat' apply And.intro) <;> (try omega) <;> (try (intro hx; exfalso; omega))
    · intro h2
      exact good (by omega)
    · intro h2
      refine c49_18 (by decide) (p_isSpeed hw (fun h3 => ?_) (fun h3 => ?_)) <;> simp (disch := omega) only [g49_21, g49_24, g49_26, Option.toList_some, Option.toList_none, List.cons_append, List.nil_append, true_and, and_true, true_or, or_true, eq_self, ci0, ci1, cin6, forall_const, not_true_eq_false, not_false_eq_true, fimp, timp, i10, i01, cm_rne, and_assoc]
      · exact good (by omega)
      · rw [ite'_n (by omega)] at K
        exact K M hA' fr.rf
  · rw [ite'_n h1] at K
    exact K M hA' fr.rf
end CLASS1
