/-! ===== the class reads ===== -/
/-- the pad as it stands: N characters P, at the place p -/
def hPd (M : cm_M) (P : Int → Int) (N p : Int) : Prop := M 27 1 = N ∧ (∀ k, 0 ≤ k → k < N → M 28 k = P k) ∧ M 27 2 = p
/-- only the place of the pad is another -/
def fp (M M' : cm_M) : Prop := (∀ k, k ≠ 27 → M' k = M k) ∧ ∀ j, j ≠ 2 → M' 27 j = M 27 j
theorem fp.rf {M : cm_M} : fp M M := ⟨fun _ _ => rfl, fun _ _ => rfl⟩
theorem fp.tr {M M1 M2 : cm_M} (h1 : fp M M1) (h2 : fp M1 M2) : fp M M2 := ⟨fun k a => (h2.1 k a).trans (h1.1 k a), fun j a => (h2.2 j a).trans (h1.2 j a)⟩
theorem fp.up {M : cm_M} {v : Int} : fp M (cm_up M 27 2 v) := ⟨fun _ a => cm_rne a, fun _ a => cm_up_n _ (Or.inr a)⟩
theorem hPd.fp {M M1 : cm_M} {P : Int → Int} {N p q : Int} (h : hPd M P N p) (f : fp M M1) (e : M1 27 2 = q) : hPd M1 P N q := ⟨by rw [f.2 1 (by decide)]; exact h.1, fun k a b => by rw [f.1 28 (by decide)]; exact h.2.1 k a b, e⟩
section PARSE
variable {G : cm_G} {M : cm_M} {P : Int → Int} {N p i j t v w g h s n k u a b least most : Int} {S T : sS} {A : sA} {Q : Option cm_V → cm_G → cm_M → Prop}
def okP (P : Int → Int) (N : Int) : Prop := (0 ≤ N ∧ N ≤ 60) ∧ ∀ k, 0 ≤ k → k < N → 0 ≤ P k ∧ P k ≤ 65535
theorem p_character (hX : isP G) (hP : hPd M P N p) (ho : okP P N) (hp : 0 ≤ p ∧ p ≤ 100) (K1 : p < N → Q (some (0, P p)) G M) (K0 : ¬ p < N → Q (some (0, 0)) G M) : Go 53 0 [some (2, 27)] [] G M Q := by
  obtain ⟨y0, y1, y2⟩ := hX
  obtain ⟨h1, h2, h3⟩ := hP
  obtain ⟨o1, o2⟩ := ho
  simp (disch := omega) only [g53_0, g53_1, g53_4, g53_5, g53_8, g53_11, g53_12, g53_15, g53_16, g53_19, g53_20, g53_23, g53_24, Option.toList_some, Option.toList_none, List.cons_append, List.nil_append, true_and, and_true, true_or, or_true, eq_self, ci0, ci1, cin6, forall_const, not_true_eq_false, not_false_eq_true, fimp, timp, i10, i01, cm_rne, and_assoc, y0, y1, y2, h1, h3]
  (repeat' apply And.intro) <;> (try omega) <;> (try (intro hx; exfalso; omega))
  · intro hlt
    (repeat' apply And.intro) <;> (try omega) <;> (try (intro hx; exfalso; omega))
    rw [h2 p hp.1 hlt]
    exact K1 hlt
theorem p_digit (hX : isP G) (hP : hPd M P N p) (ho : okP P N) (hp : 0 ≤ p ∧ p ≤ 100) (K : Q (some (0, cD P N p)) G M) : Go 52 0 [some (2, 27), none] [] G M Q := by
  have hs := hX.1
  unfold cD at K
  simp (disch := omega) only [g52_0, g52_4, g52_5, g52_6, g52_8, g52_13, g52_16, g52_17, g52_19, g52_20, g52_23, g52_24, Option.toList_some, Option.toList_none, List.cons_append, List.nil_append, true_and, and_true, true_or, or_true, eq_self, ci0, ci1, cin6, forall_const, not_true_eq_false, not_false_eq_true, fimp, timp, i10, i01, cm_rne, and_assoc]
  refine c52_1 (by decide) hs (p_character hX hP ho hp (fun hz => ?_) (fun hz => ?_)) <;> simp (disch := omega) only [g52_0, g52_4, g52_5, g52_6, g52_8, g52_13, g52_16, g52_17, g52_19, g52_20, g52_23, g52_24, Option.toList_some, Option.toList_none, List.cons_append, List.nil_append, true_and, and_true, true_or, or_true, eq_self, ci0, ci1, cin6, forall_const, not_true_eq_false, not_false_eq_true, fimp, timp, i10, i01, cm_rne, and_assoc]
  · have ob := ho.2 p hp.1 hz
    refine c52_10 (by decide) (p_isWithin (by constructor <;> omega) ⟨by decide, by decide⟩ ⟨by decide, by decide⟩ (fun h1 => ?_) (fun h1 => ?_)) <;> simp (disch := omega) only [g52_0, g52_4, g52_5, g52_6, g52_8, g52_13, g52_16, g52_17, g52_19, g52_20, g52_23, g52_24, Option.toList_some, Option.toList_none, List.cons_append, List.nil_append, true_and, and_true, true_or, or_true, eq_self, ci0, ci1, cin6, forall_const, not_true_eq_false, not_false_eq_true, fimp, timp, i10, i01, cm_rne, and_assoc]
    · rw [if_pos ⟨hz, h1⟩] at K
      exact K
    · rw [if_neg (fun y => h1 y.2)] at K
      exact K
  · rw [if_neg (fun y => hz y.1)] at K
    refine c52_10 (by decide) (p_isWithin cn0 ⟨by decide, by decide⟩ ⟨by decide, by decide⟩ (fun h1 => ?_) (fun h1 => ?_)) <;> simp (disch := omega) only [g52_0, g52_4, g52_5, g52_6, g52_8, g52_13, g52_16, g52_17, g52_19, g52_20, g52_23, g52_24, Option.toList_some, Option.toList_none, List.cons_append, List.nil_append, true_and, and_true, true_or, or_true, eq_self, ci0, ci1, cin6, forall_const, not_true_eq_false, not_false_eq_true, fimp, timp, i10, i01, cm_rne, and_assoc]
    · omega
    · exact K
theorem p_kindHere (hX : isP G) (hP : hPd M P N p) (ho : okP P N) (hp : 0 ≤ p ∧ p ≤ 100) (K : Q (some (0, kd P N p)) G M) : Go 51 0 [some (2, 27)] [] G M Q := by
  have hs := hX.1
  unfold kd at K
  simp (disch := omega) only [g51_0, g51_48, g51_49, g51_50, g51_51, g51_52, g51_53, g51_54, g51_55, g51_56, g51_57, Option.toList_some, Option.toList_none, List.cons_append, List.nil_append, true_and, and_true, true_or, or_true, eq_self, ci0, ci1, cin6, forall_const, not_true_eq_false, not_false_eq_true, fimp, timp, i10, i01, cm_rne, and_assoc]
  refine c51_1 (by decide) hs (p_character hX hP ho hp (fun hz => ?_) (fun hz => ?_)) <;> simp (disch := omega) only [g51_0, g51_48, g51_49, g51_50, g51_51, g51_52, g51_53, g51_54, g51_55, g51_56, g51_57, Option.toList_some, Option.toList_none, List.cons_append, List.nil_append, true_and, and_true, true_or, or_true, eq_self, ci0, ci1, cin6, forall_const, not_true_eq_false, not_false_eq_true, fimp, timp, i10, i01, cm_rne, and_assoc]
  · have ob := ho.2 p hp.1 hz
    rw [if_pos hz] at K
    by_cases k1 : P p = 110
    · rw [if_pos k1] at K
      refine go_lookup hq51 k51_4 (show cm_in (P p) by constructor <;> omega) (by decide) (tgt := 48) (by rw [k1]; decide) ?_
      simp (disch := omega) only [g51_0, g51_48, g51_49, g51_50, g51_51, g51_52, g51_53, g51_54, g51_55, g51_56, g51_57, Option.toList_some, Option.toList_none, List.cons_append, List.nil_append, true_and, and_true, true_or, or_true, eq_self, ci0, ci1, cin6, forall_const, not_true_eq_false, not_false_eq_true, fimp, timp, i10, i01, cm_rne, and_assoc]
      exact K
    rw [if_neg k1] at K
    by_cases k2 : P p = 116
    · rw [if_pos k2] at K
      refine go_lookup hq51 k51_4 (show cm_in (P p) by constructor <;> omega) (by decide) (tgt := 50) (by rw [k2]; decide) ?_
      simp (disch := omega) only [g51_0, g51_48, g51_49, g51_50, g51_51, g51_52, g51_53, g51_54, g51_55, g51_56, g51_57, Option.toList_some, Option.toList_none, List.cons_append, List.nil_append, true_and, and_true, true_or, or_true, eq_self, ci0, ci1, cin6, forall_const, not_true_eq_false, not_false_eq_true, fimp, timp, i10, i01, cm_rne, and_assoc]
      exact K
    rw [if_neg k2] at K
    by_cases k3 : P p = 108
    · rw [if_pos k3] at K
      refine go_lookup hq51 k51_4 (show cm_in (P p) by constructor <;> omega) (by decide) (tgt := 52) (by rw [k3]; decide) ?_
      simp (disch := omega) only [g51_0, g51_48, g51_49, g51_50, g51_51, g51_52, g51_53, g51_54, g51_55, g51_56, g51_57, Option.toList_some, Option.toList_none, List.cons_append, List.nil_append, true_and, and_true, true_or, or_true, eq_self, ci0, ci1, cin6, forall_const, not_true_eq_false, not_false_eq_true, fimp, timp, i10, i01, cm_rne, and_assoc]
      exact K
    rw [if_neg k3] at K
    by_cases k4 : P p = 98
    · rw [if_pos k4] at K
      refine go_lookup hq51 k51_4 (show cm_in (P p) by constructor <;> omega) (by decide) (tgt := 54) (by rw [k4]; decide) ?_
      simp (disch := omega) only [g51_0, g51_48, g51_49, g51_50, g51_51, g51_52, g51_53, g51_54, g51_55, g51_56, g51_57, Option.toList_some, Option.toList_none, List.cons_append, List.nil_append, true_and, and_true, true_or, or_true, eq_self, ci0, ci1, cin6, forall_const, not_true_eq_false, not_false_eq_true, fimp, timp, i10, i01, cm_rne, and_assoc]
      exact K
    rw [if_neg k4] at K
    refine go_lookup hq51 k51_4 (show cm_in (P p) by constructor <;> omega) (by decide) (tgt := 56) ?_ ?_
    · have e : cm_lk 52 [(98, 50), (108, 48), (110, 44), (116, 46)] (P p) = 52 := by
        unfold cm_lk
        simp [Jvm.Op.lookupswitch.offset, List.find?, show ¬ (98 : Int) = P p by omega, show ¬ (108 : Int) = P p by omega, show ¬ (110 : Int) = P p by omega, show ¬ (116 : Int) = P p by omega]
      exact congrArg (fun z : Int => ((4 : Nat) : Int) + z) e
    · simp (disch := omega) only [g51_0, g51_48, g51_49, g51_50, g51_51, g51_52, g51_53, g51_54, g51_55, g51_56, g51_57, Option.toList_some, Option.toList_none, List.cons_append, List.nil_append, true_and, and_true, true_or, or_true, eq_self, ci0, ci1, cin6, forall_const, not_true_eq_false, not_false_eq_true, fimp, timp, i10, i01, cm_rne, and_assoc]
      exact K
  · rw [if_neg hz] at K
    refine go_lookup hq51 k51_4 cn0 (by decide) (tgt := 56) (by decide) ?_
    simp (disch := omega) only [g51_0, g51_48, g51_49, g51_50, g51_51, g51_52, g51_53, g51_54, g51_55, g51_56, g51_57, Option.toList_some, Option.toList_none, List.cons_append, List.nil_append, true_and, and_true, true_or, or_true, eq_self, ci0, ci1, cin6, forall_const, not_true_eq_false, not_false_eq_true, fimp, timp, i10, i01, cm_rne, and_assoc]
    exact K
theorem p_parseNumber (hX : isP G) (hP : hPd M P N p) (ho : okP P N) (hp : 0 ≤ p ∧ p ≤ N + 5) (hl : 0 ≤ least ∧ least ≤ 1) (hm : 9 ≤ most ∧ most ≤ 999) (K0 : cD P N p < least → Q (some (0, -1)) G M) (K1 : least ≤ cD P N p → ∀ M', fp M M' → M' 27 2 = (nmF P N most (cD P N p) (p + 1)).2 → Q (some (0, (nmF P N most (cD P N p) (p + 1)).1)) G M') : Go 50 0 [some (2, 27), some (0, least), some (0, most), none, none, none] [] G M Q := by
  have hs := hX.1
  have hd := cD_b P N p
  have hN := ho.1
  simp (disch := omega) only [g50_0, g50_4, g50_5, g50_6, g50_7, g50_10, g50_11, g50_12, g50_13, g50_13b, g50_14, g50_17, g50_18, g50_19, g50_22, g50_23, g50_26, g50_30, g50_31, g50_34, g50_37, g50_41, g50_43, g50_44, g50_47, g50_49, g50_50, g50_53, g50_55, g50_56, g50_57, g50_59, g50_60, g50_61, g50_64, g50_65, g50_66, g50_68, g50_69, g50_70, g50_72, g50_73, g50_74, g50_75, g50_75b, g50_76, g50_79, g50_80, g50_81, g50_84, g50_87, g50_90, g50_91, Option.toList_some, Option.toList_none, List.cons_append, List.nil_append, true_and, and_true, true_or, or_true, eq_self, ci0, ci1, cin6, forall_const, not_true_eq_false, not_false_eq_true, fimp, timp, i10, i01, cm_rne, and_assoc]
  refine c50_1 (by decide) hs (p_digit hX hP ho (by omega) ?_)
  simp (disch := omega) only [g50_0, g50_4, g50_5, g50_6, g50_7, g50_10, g50_11, g50_12, g50_13, g50_13b, g50_14, g50_17, g50_18, g50_19, g50_22, g50_23, g50_26, g50_30, g50_31, g50_34, g50_37, g50_41, g50_43, g50_44, g50_47, g50_49, g50_50, g50_53, g50_55, g50_56, g50_57, g50_59, g50_60, g50_61, g50_64, g50_65, g50_66, g50_68, g50_69, g50_70, g50_72, g50_73, g50_74, g50_75, g50_75b, g50_76, g50_79, g50_80, g50_81, g50_84, g50_87, g50_90, g50_91, Option.toList_some, Option.toList_none, List.cons_append, List.nil_append, true_and, and_true, true_or, or_true, eq_self, ci0, ci1, cin6, forall_const, not_true_eq_false, not_false_eq_true, fimp, timp, i10, i01, cm_rne, and_assoc, hs, hP.2.2, hP.1, cm_up_s]
  (repeat' apply And.intro) <;> (try omega) <;> (try (intro hx; exfalso; omega))
  · intro hge
    have hpN := hd.2.2 (by omega)
    have K2 := K1 (by omega)
    refine go_loop (σ := Int × Option cm_V × cm_M) (fun i s => [some (2, 27), some (0, least), some (0, most), some (0, s.1), some (0, i), s.2.1]) (fun s => s.2.2) (fun i s => (0 ≤ s.1 ∧ s.1 ≤ most) ∧ nmF P N most s.1 i = nmF P N most (cD P N p) (p + 1) ∧ fp M s.2.2 ∧ s.2.2 27 2 = i) N (fun i s hi0 hin hRs ih => ?_) (fun s hRs => ?_) (p + 1) (cD P N p, none, cm_up M 27 2 (p + 1)) (by omega) (by omega) ⟨⟨by show 0 ≤ cD P N p; omega, by show cD P N p ≤ most; omega⟩, rfl, fp.up, cm_up_s M 27 2 (p + 1)⟩
    · obtain ⟨v, x5, s⟩ := s
      obtain ⟨u1, u2, u3, u4⟩ := hRs
      dsimp only at u1 u2 u3 u4 ⊢
      have hPs : hPd s P N i := hP.fp u3 u4
      rw [nmF_s hin] at u2
      rw [g50_28]
      simp (disch := omega) only [g50_30, g50_31, g50_34, g50_37, Option.toList_some, Option.toList_none, List.cons_append, List.nil_append, true_and, and_true, true_or, or_true, eq_self, ci0, ci1, cin6, forall_const, not_true_eq_false, not_false_eq_true, fimp, timp, i10, i01, cm_rne, and_assoc, hs, hPs.1]
      (repeat' apply And.intro) <;> (try omega) <;> (try (intro hx; exfalso; omega))
      intro _
      refine c50_38 (by decide) hs (p_digit hX hPs ho (by omega) ?_)
      have hd2 := cD_b P N i
      have stop : ¬ (¬ v = 0 ∧ 0 ≤ cD P N i ∧ 10 * v + cD P N i ≤ most) → Q (some (0, v)) G s := by
        intro hz
        rw [if_neg hz] at u2
        rw [← u2] at K2
        exact K2 s u3 u4
      simp (disch := omega) only [g50_41, g50_43, g50_44, g50_47, g50_49, g50_50, g50_53, g50_55, g50_56, g50_57, g50_59, g50_60, g50_61, g50_64, g50_65, g50_66, g50_68, g50_69, g50_70, g50_72, g50_73, g50_74, g50_75, g50_75b, g50_76, g50_79, g50_80, g50_81, g50_84, g50_87, Option.toList_some, Option.toList_none, List.cons_append, List.nil_append, true_and, and_true, true_or, or_true, eq_self, ci0, ci1, cin6, forall_const, not_true_eq_false, not_false_eq_true, fimp, timp, i10, i01, cm_rne, and_assoc, hs, u4]
      (repeat' apply And.intro) <;> (try omega) <;> (try (intro hx; exfalso; omega))
      · intro hz
        exact stop (fun y => y.1 hz)
      · intro hz
        (repeat' apply And.intro) <;> (try omega) <;> (try (intro hx; exfalso; omega))
        · intro h1
          exact stop (by omega)
        · intro h1
          (repeat' apply And.intro) <;> (try omega) <;> (try (intro hx; exfalso; omega))
          · intro h2
            (repeat' apply And.intro) <;> (try omega) <;> (try (intro hx; exfalso; omega))
            rw [if_pos (by omega)] at u2
            refine ih (_, _, cm_up s 27 2 (i + 1)) ⟨?_, u2, u3.tr fp.up, cm_up_s s 27 2 (i + 1)⟩
            dsimp only
            omega
          · intro h2
            exact stop (by omega)
    · obtain ⟨v, x5, s⟩ := s
      obtain ⟨u1, u2, u3, u4⟩ := hRs
      dsimp only at u1 u2 u3 u4 ⊢
      have hPs : hPd s P N N := hP.fp u3 u4
      rw [nmF_e (by omega)] at u2
      rw [← u2] at K2
      rw [g50_28]
      simp (disch := omega) only [g50_30, g50_31, g50_34, g50_37, g50_41, g50_43, g50_44, g50_47, g50_49, g50_50, g50_53, g50_55, g50_56, g50_57, g50_59, g50_60, g50_61, g50_64, g50_65, g50_66, g50_68, g50_69, g50_70, g50_72, g50_73, g50_74, g50_75, g50_75b, g50_76, g50_79, g50_80, g50_81, g50_84, g50_87, g50_90, g50_91, Option.toList_some, Option.toList_none, List.cons_append, List.nil_append, true_and, and_true, true_or, or_true, eq_self, ci0, ci1, cin6, forall_const, not_true_eq_false, not_false_eq_true, fimp, timp, i10, i01, cm_rne, and_assoc, hs, hPs.1]
      (repeat' apply And.intro) <;> (try omega) <;> (try (intro hx; exfalso; omega))
      exact fun _ => K2 s u3 u4
end PARSE
