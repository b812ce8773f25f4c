/-! ===== the class: fault, read ===== -/
theorem pa_n {P : Int → Int} {N : Int} : ∀ (f : Nat) (p : Int) (T : sS), sN T ≤ sN (pa P N f p T).2 ∧ sN (pa P N f p T).2 ≤ sN T + f
  | 0, p, T => by
    show sN T ≤ sN T ∧ sN T ≤ sN T + ((0 : Nat) : Int)
    omega
  | f + 1, p, T => by
    rw [pa_s]
    have e : ∀ k g n u : Int, sN (sAdd T k g n u) = sN T + 1 := fun _ _ _ _ => rfl
    split
    · dsimp only; omega
    · split
      · dsimp only; rw [e]; omega
      · split
        · dsimp only; rw [e]; omega
        · have := pa_n (P := P) (N := N) f ((pl P N p).2.1 + 1) (sAdd T (pl P N p).2.2.1 (pl P N p).2.2.2.1 (pl P N p).2.2.2.2.1 (pl P N p).2.2.2.2.2)
          rw [e] at this
          omega
/-- lines that may stand -/
def vT (T : sS) : Prop := 0 ≤ sN T ∧ ∀ i, 0 ≤ i → i < sN T → 0 ≤ sK T i ∧ sK T i ≤ 3 ∧ (sK T i = 0 → 0 ≤ sG T i ∧ sG T i ≤ 7 ∧ 0 ≤ sM T i ∧ sM T i ≤ 999) ∧ (¬ sK T i = 0 → sG T i = -6 ∧ sM T i = -6) ∧ 0 ≤ sC T i ∧ sC T i ≤ 30
theorem vT_add {T : sS} (h : vT T) {k g n u : Int} (hk : 0 ≤ k ∧ k ≤ 3) (h0 : k = 0 → 0 ≤ g ∧ g ≤ 7 ∧ 0 ≤ n ∧ n ≤ 999) (h1 : ¬ k = 0 → g = -6 ∧ n = -6) (hu : 0 ≤ u ∧ u ≤ 30) : vT (sAdd T k g n u) := by
  obtain ⟨k1, k6⟩ := h
  refine ⟨?_, fun j a b => ?_⟩
  · show 0 ≤ sN T + 1; omega
  · have b : j < sN T + 1 := b
    show 0 ≤ (if j = sN T then k else sK T j) ∧ (if j = sN T then k else sK T j) ≤ 3 ∧ ((if j = sN T then k else sK T j) = 0 → 0 ≤ (if j = sN T then g else sG T j) ∧ (if j = sN T then g else sG T j) ≤ 7 ∧ 0 ≤ (if j = sN T then n else sM T j) ∧ (if j = sN T then n else sM T j) ≤ 999) ∧ (¬ (if j = sN T then k else sK T j) = 0 → (if j = sN T then g else sG T j) = -6 ∧ (if j = sN T then n else sM T j) = -6) ∧ 0 ≤ (if j = sN T then u else sC T j) ∧ (if j = sN T then u else sC T j) ≤ 30
    by_cases hj : j = sN T
    · simp only [if_pos hj]
      exact ⟨hk.1, hk.2, h0, h1, hu⟩
    · simp only [if_neg hj]
      exact k6 j a (by omega)
theorem pa_v {P : Int → Int} {N : Int} : ∀ (f : Nat) (p : Int) (T : sS), p ≤ N → vT T → vT (pa P N f p T).2
  | 0, p, T, _, h => h
  | f + 1, p, T, hp, h => by
    obtain ⟨⟨bl1, bl2⟩, bl3⟩ := pl_b (P := P) hp
    rw [pa_s]
    by_cases h1 : (pl P N p).1 = 0
    · rw [if_pos h1]; exact h
    · rw [if_neg h1]
      obtain ⟨b1, b2, b3, b4, b5⟩ := bl3 (by omega)
      have hv := vT_add h b2 b3 b4 b5
      by_cases h2 : (pl P N p).2.1 = N
      · rw [if_pos h2]; exact hv
      · rw [if_neg h2]
        by_cases h3 : ¬ P (pl P N p).2.1 = 44
        · rw [if_pos h3]; exact hv
        · rw [if_neg h3]
          exact pa_v f _ _ (by omega) hv
theorem pa_b {P : Int → Int} {N : Int} : ∀ (f : Nat) (p : Int) (T : sS), 0 ≤ p → p ≤ N → -6 ≤ (pa P N f p T).1 ∧ (pa P N f p T).1 ≤ N
  | 0, p, T, h0, hp => by
    show -6 ≤ p ∧ p ≤ N
    omega
  | f + 1, p, T, h0, hp => by
    obtain ⟨⟨bl1, bl2⟩, bl3⟩ := pl_b (P := P) hp
    rw [pa_s]
    by_cases h1 : (pl P N p).1 = 0
    · rw [if_pos h1]; dsimp only; omega
    · rw [if_neg h1]
      by_cases h2 : (pl P N p).2.1 = N
      · rw [if_pos h2]; dsimp only; omega
      · rw [if_neg h2]
        by_cases h3 : ¬ P (pl P N p).2.1 = 44
        · rw [if_pos h3]; dsimp only; omega
        · rw [if_neg h3]
          exact pa_b f _ _ (by omega) (by omega)
theorem vT_pa {A : sA} (hv : vA A) : vT (paA A).2 := pa_v 61 0 sZ hv.2.2.2.1.1 ⟨Int.le_refl 0, fun i a b => by
  have b : i < 0 := b
  omega⟩
theorem vS_app {S T : sS} (hS : vS S) (hT : vT T) (h : ¬ 40 < sN S + sN T) : vS (sApp S T) := by
  obtain ⟨h1, h2, h3, h4, h5, h6⟩ := hS
  obtain ⟨t1, t2⟩ := hT
  refine ⟨?_, ?_, h3, h4, h5, fun i a b => ?_⟩
  · show 0 ≤ sN S + sN T; omega
  · show sN S + sN T ≤ 40; omega
  · have b : i < sN S + sN T := b
    show 0 ≤ (if i < sN S then sK S i else sK T (i - sN S)) ∧ (if i < sN S then sK S i else sK T (i - sN S)) ≤ 3 ∧ ((if i < sN S then sK S i else sK T (i - sN S)) = 0 → 0 ≤ (if i < sN S then sG S i else sG T (i - sN S)) ∧ (if i < sN S then sG S i else sG T (i - sN S)) ≤ 7 ∧ 0 ≤ (if i < sN S then sM S i else sM T (i - sN S)) ∧ (if i < sN S then sM S i else sM T (i - sN S)) ≤ 999) ∧ (¬ (if i < sN S then sK S i else sK T (i - sN S)) = 0 → (if i < sN S then sG S i else sG T (i - sN S)) = -6 ∧ (if i < sN S then sM S i else sM T (i - sN S)) = -6) ∧ 0 ≤ (if i < sN S then sC S i else sC T (i - sN S)) ∧ (if i < sN S then sC S i else sC T (i - sN S)) ≤ 30
    by_cases hi : i < sN S
    · simp only [if_pos hi]
      exact h6 i a hi
    · simp only [if_neg hi]
      exact t2 _ (by omega) (by omega)
theorem okP_A {A : sA} (hv : vA A) : okP (aC A) (aN A) := ⟨hv.2.2.2.1, hv.2.2.2.2⟩
theorem rXA_fq {M M1 : cm_M} {A : sA} (hA : rXA M A) (f : fq M M1) : rXA M1 A ∧ fr M M1 0 81 := by
  obtain ⟨b1, ⟨c1, c2, c3, c4⟩, b3, b4, b5⟩ := hA
  have cr : ∀ (c : Int) (S : sS), (c + 5 < 15 ∨ (20 < c ∧ c + 5 < 27) ∨ 27 < c) → rC M c S → rC M1 c S := by
    intro c S hc h
    obtain ⟨r1, r2, r3⟩ := h
    refine ⟨by rw [f.1 c (by omega) (by omega)]; exact r1, fun j a b => by rw [f.1 (c + 1) (by omega) (by omega)]; exact r2 j a b, fun i a b => ?_⟩
    rw [f.1 (c + 2) (by omega) (by omega), f.1 (c + 3) (by omega) (by omega), f.1 (c + 4) (by omega) (by omega), f.1 (c + 5) (by omega) (by omega)]
    exact r3 i a b
  refine ⟨⟨cr 2 _ (by omega) b1, ⟨?_, c2, ?_, fun j a b => ?_⟩, fun s a b => ?_, ?_, fun k a b => ?_⟩, fun k a => f.1 k (by omega) (by omega)⟩
  · rw [f.1 29 (by omega) (by omega)]; exact c1
  · rw [f.1 29 (by omega) (by omega)]; exact c3
  · rw [f.1 29 (by omega) (by omega)]; exact cr _ _ (by omega) (c4 j a b)
  · rw [f.1 69 (by omega) (by omega)]
    exact ⟨(b3 s a b).1, fun z => cr _ _ (by omega) ((b3 s a b).2 z)⟩
  · rw [f.2 1 (by decide)]; exact b4
  · rw [f.1 28 (by omega) (by omega)]; exact b5 k a b
theorem rXA_len {M : cm_M} {A : sA} (hA : rXA M A) : rXA (cm_up M 27 1 0) (aS A, aH A, aP A, aF A, aL A, 0, aC A) := by
  obtain ⟨b1, ⟨c1, c2, c3, c4⟩, b3, b4, b5⟩ := hA
  have fr1 : fr M (cm_up M 27 1 0) 27 27 := fun k hk => cm_rne (by omega)
  refine ⟨b1.fr fr1 (by omega), ⟨?_, c2, ?_, fun j a b => ?_⟩, fun s a b => ?_, cm_up_s _ _ _ _, fun k a b => ?_⟩
  · rw [fr1 29 (by omega)]; exact c1
  · rw [fr1 29 (by omega)]; exact c3
  · rw [fr1 29 (by omega)]; exact (c4 j a b).fr fr1 (by omega)
  · rw [fr1 69 (by omega)]
    exact ⟨(b3 s a b).1, fun z => ((b3 s a b).2 z).fr fr1 (by omega)⟩
  · have b : k < 0 := b
    omega
section READ
variable {G : cm_G} {M : cm_M} {i j t v w g h s n k u a b : Int} {S T : sS} {A : sA} {Q : Option cm_V → cm_G → cm_M → Prop}
theorem zero_trial {M : cm_M} : rC (cm_up M 15 5 0) 15 (wT sZ (M (15 + 1))) ∧ fq M (cm_up M 15 5 0) := by
  refine ⟨⟨cm_up_s _ _ _ _, fun j a b => by rw [cm_rne (by omega)]; rfl, fun i a b => ?_⟩, ⟨fun k a b => cm_rne (by omega), fun j _ => by rw [cm_rne (by omega)]⟩⟩
  have b : i < 0 := b
  omega
theorem p_fault (hX : isX G) (hA : rXA M A) (hv : vA A) (K : ∀ M', rXA M' A → fr M M' 0 81 → Q (some (0, (paA A).1)) G M') : Go 74 0 [some (2, 0)] [] G M Q := by
  obtain ⟨x0, ⟨q0, q1, q2, q3, q4, q5, q6⟩, xc, xk, xt, xu, xp, xh, xl⟩ := hX
  obtain ⟨z1, z2⟩ := zero_trial (M := M)
  obtain ⟨k1, k2⟩ := rXA_fq hA z2
  simp (disch := omega) only [g74_0, g74_1, g74_4, g74_5, g74_8, g74_9, g74_12, g74_13, g74_19, Option.toList_some, Option.toList_none, List.cons_append, List.nil_append, true_and, and_true, true_or, or_true, eq_self, ci0, ci1, cin6, forall_const, not_true_eq_false, not_false_eq_true, fimp, timp, i10, i01, cm_rne, and_assoc, x0, q2, q4, xt.2.1]
  refine c74_16 (by decide) xp.1 (p_parseInto xp xt k1.2.2.2.1 k1.2.2.2.2 (okP_A hv) z1 (fun M1 f1 r1 => ?_))
  simp (disch := omega) only [g74_0, g74_1, g74_4, g74_5, g74_8, g74_9, g74_12, g74_13, g74_19, Option.toList_some, Option.toList_none, List.cons_append, List.nil_append, true_and, and_true, true_or, or_true, eq_self, ci0, ci1, cin6, forall_const, not_true_eq_false, not_false_eq_true, fimp, timp, i10, i01, cm_rne, and_assoc]
  obtain ⟨k3, k4⟩ := rXA_fq k1 f1
  exact K M1 k3 (k2.tr k4)
theorem p_read (hX : isX G) (hA : rXA M A) (hv : vA A) (K : ∀ M', rXA M' (rRead A).2 → fr M M' 0 81 → Q (some (0, (rRead A).1)) G M') : Go 63 0 [some (2, 0)] [] G M Q := by
  have hX' := hX
  obtain ⟨x0, ⟨q0, q1, q2, q3, q4, q5, q6⟩, xc, xk, xt, xu, xp, xh, xl⟩ := hX
  obtain ⟨z1, z2⟩ := zero_trial (M := M)
  obtain ⟨k1, k2⟩ := rXA_fq hA z2
  have hn := hv.1.2.1
  have hn0 := hv.1.1
  have hnT : sN sZ ≤ sN (paA A).2 ∧ sN (paA A).2 ≤ sN sZ + ((61 : Nat) : Int) := pa_n 61 0 sZ
  have hz0 : sN sZ = 0 := rfl
  unfold rRead at K
  simp (disch := omega) only [g63_0, g63_1, g63_4, g63_5, g63_8, g63_9, g63_12, g63_13, g63_19, g63_21, g63_24, g63_26, g63_27, g63_28, g63_31, g63_34, g63_35, g63_38, g63_41, g63_42, g63_44, g63_47, g63_49, g63_50, g63_51, g63_54, g63_55, g63_61, g63_62, g63_65, g63_66, g63_72, g63_73, g63_76, g63_77, g63_80, g63_81, g63_84, g63_87, Option.toList_some, Option.toList_none, List.cons_append, List.nil_append, true_and, and_true, true_or, or_true, eq_self, ci0, ci1, cin6, forall_const, not_true_eq_false, not_false_eq_true, fimp, timp, i10, i01, cm_rne, and_assoc, x0, q2, q4, xt.2.1]
  refine c63_16 (by decide) xp.1 (p_parseInto xp xt k1.2.2.2.1 k1.2.2.2.2 (okP_A hv) z1 (fun M1 f1 r1 => ?_))
  obtain ⟨k3, k4⟩ := rXA_fq k1 f1
  have r1n : M1 15 5 = sN (paA A).2 := r1.1
  have hpb : -6 ≤ (paA A).1 ∧ (paA A).1 ≤ aN A := pa_b 61 0 sZ (by omega) hv.2.2.2.1.1
  have hN := hv.2.2.2.1
  rw [show pa (aC A) (aN A) 61 0 sZ = paA A from rfl]
  simp (disch := omega) only [g63_0, g63_1, g63_4, g63_5, g63_8, g63_9, g63_12, g63_13, g63_19, g63_21, g63_24, g63_26, g63_27, g63_28, g63_31, g63_34, g63_35, g63_38, g63_41, g63_42, g63_44, g63_47, g63_49, g63_50, g63_51, g63_54, g63_55, g63_61, g63_62, g63_65, g63_66, g63_72, g63_73, g63_76, g63_77, g63_80, g63_81, g63_84, g63_87, Option.toList_some, Option.toList_none, List.cons_append, List.nil_append, true_and, and_true, true_or, or_true, eq_self, ci0, ci1, cin6, forall_const, not_true_eq_false, not_false_eq_true, fimp, timp, i10, i01, cm_rne, and_assoc, x0, q0, q2, xc.2.1, xt.2.1, k3.1.1, r1n]
  (repeat' apply And.intro) <;> (try omega) <;> (try (intro hx; exfalso; omega))
  · intro he
    rw [ite'_n (fun z => z he)] at K
    (repeat' apply And.intro) <;> (try omega) <;> (try (intro hx; exfalso; omega))
    · intro h2
      rw [ite'_n h2] at K
      simp (disch := omega) only [g63_0, g63_1, g63_4, g63_5, g63_8, g63_9, g63_12, g63_13, g63_19, g63_21, g63_24, g63_26, g63_27, g63_28, g63_31, g63_34, g63_35, g63_38, g63_41, g63_42, g63_44, g63_47, g63_49, g63_50, g63_51, g63_54, g63_55, g63_61, g63_62, g63_65, g63_66, g63_72, g63_73, g63_76, g63_77, g63_80, g63_81, g63_84, g63_87, Option.toList_some, Option.toList_none, List.cons_append, List.nil_append, true_and, and_true, true_or, or_true, eq_self, ci0, ci1, cin6, forall_const, not_true_eq_false, not_false_eq_true, fimp, timp, i10, i01, cm_rne, and_assoc, x0, q0, q5]
      refine c63_58 (by decide) xh.1 (p_remember hX' k3.1 hv.1 k3.2.1 (fun M2 r2 f2 => ?_))
      have hR2 : rC M2 2 (aS A) := k3.1.fr f2 (by omega)
      have hT2 : rC M2 15 (wT (paA A).2 (M (15 + 1))) := (show rC M1 15 (wT (paA A).2 (M (15 + 1))) from r1).fr f2 (by omega)
      simp (disch := omega) only [g63_0, g63_1, g63_4, g63_5, g63_8, g63_9, g63_12, g63_13, g63_19, g63_21, g63_24, g63_26, g63_27, g63_28, g63_31, g63_34, g63_35, g63_38, g63_41, g63_42, g63_44, g63_47, g63_49, g63_50, g63_51, g63_54, g63_55, g63_61, g63_62, g63_65, g63_66, g63_72, g63_73, g63_76, g63_77, g63_80, g63_81, g63_84, g63_87, Option.toList_some, Option.toList_none, List.cons_append, List.nil_append, true_and, and_true, true_or, or_true, eq_self, ci0, ci1, cin6, forall_const, not_true_eq_false, not_false_eq_true, fimp, timp, i10, i01, cm_rne, and_assoc, x0, q0, q2]
      refine c63_69 (by decide) xc.2.1 (p_addAll xc xt hR2 hT2 (by omega) (by show 0 ≤ sN (aS A) ∧ 0 ≤ sN (paA A).2 ∧ sN (aS A) + sN (paA A).2 ≤ 40; omega) (fun M3 r3 f3 => ?_))
      have r3' : rC M3 2 (sApp (aS A) (paA A).2) := r3
      have e5 : cm_up M3 27 1 0 2 5 = sN (aS A) + sN (paA A).2 := by rw [cm_rne (by decide)]; exact r3'.1
      simp (disch := omega) only [g63_0, g63_1, g63_4, g63_5, g63_8, g63_9, g63_12, g63_13, g63_19, g63_21, g63_24, g63_26, g63_27, g63_28, g63_31, g63_34, g63_35, g63_38, g63_41, g63_42, g63_44, g63_47, g63_49, g63_50, g63_51, g63_54, g63_55, g63_61, g63_62, g63_65, g63_66, g63_72, g63_73, g63_76, g63_77, g63_80, g63_81, g63_84, g63_87, Option.toList_some, Option.toList_none, List.cons_append, List.nil_append, true_and, and_true, true_or, or_true, eq_self, ci0, ci1, cin6, forall_const, not_true_eq_false, not_false_eq_true, fimp, timp, i10, i01, cm_rne, and_assoc, x0, q0, q4, xp.1, xc.2.1, e5]
      obtain ⟨w1, w2⟩ := rXA_chg k3 r2 f2 (f3.wd (by omega) (by omega)) r3'
      exact K _ (rXA_len w1) (((k2.tr k4).tr w2).tr (fun k hk => cm_rne (by omega)))
    · intro h2
      rw [ite'_p h2] at K
      exact K M1 k3 (k2.tr k4)
  · intro hne
    rw [ite'_p hne] at K
    exact K M1 k3 (k2.tr k4)
end READ
