/-! ===== the law: rows above, heights, cues, groups of all lines ===== -/
section LAW5
variable {G : cm_G} {M : cm_M} {A : sA} {ra rh ru rq : Int} {Q : Option cm_V → cm_G → cm_M → Prop}
theorem l_lay (hX : isX G) (hA : rXA M A) (hv : vA A) (hr : 82 ≤ ra ∧ 82 ≤ rh ∧ 82 ≤ ru ∧ 82 ≤ rq) (hz : (∀ M, cm_al 1 G M ra = 41) ∧ (∀ M, cm_al 1 G M rh = 40) ∧ (∀ M, cm_al 1 G M ru = 40) ∧ (∀ M, cm_al 1 G M rq = 40)) (hne : ra ≠ rh ∧ ra ≠ ru ∧ ra ≠ rq ∧ rh ≠ ru ∧ rh ≠ rq ∧ ru ≠ rq)
    (K : ∀ M', rXA M' A → rdS M' ra rh ru (aS A) → (∀ i, 0 ≤ i → i < sN (aS A) → M' rq i = sG (aS A) i) → (∀ k, k < 0 ∨ 81 < k → k ≠ ra → k ≠ rh → k ≠ ru → k ≠ rq → M' k = M k) → Q none G M') :
    Go 69 0 [some (2, 0), some (2, ra), some (2, rh), some (2, ru), some (2, rq), none, none, none] [] G M Q := by
  obtain ⟨r1, r2, r3, r4⟩ := hr
  obtain ⟨a1, a2, a3, a4⟩ := hz
  obtain ⟨n1, n2, n3, n4, n5, n6⟩ := hne
  have hn := hv.1.2.1
  have hn0 := hv.1.1
  have hh6 := hv.2.1.1.2
  simp (disch := omega) only [g69_0, g69_1, Option.toList_some, Option.toList_none, List.cons_append, List.nil_append, true_and, and_true, true_or, or_true, eq_self, ci0, ci1, cin6, forall_const, not_true_eq_false, not_false_eq_true, fimp, timp, i10, i01, cm_rne, and_assoc]
  refine c69_2 (Nat.le_of_ble_eq_true rfl) hX.1 (p_count hX hA hv cn0 (fun M1 q1 f1 => ?_))
  simp (disch := omega) only [xC0, g69_5, g69_7, g69_8, g69_9, g69_10, g69_11, g69_12, Option.toList_some, Option.toList_none, List.cons_append, List.nil_append, true_and, and_true, true_or, or_true, eq_self, ci0, ci1, cin6, forall_const, not_true_eq_false, not_false_eq_true, fimp, timp, i10, i01, cm_rne, and_assoc, a1]
  (repeat' apply And.intro) <;> (try omega) <;> (try (intro hx; exfalso; omega))
  refine go_loop (σ := Option cm_V × cm_M) (fun i s => [some (2, 0), some (2, ra), some (2, rh), some (2, ru), some (2, rq), some (0, sN (aS A)), some (0, i), s.1]) (fun s => s.2) (fun i s => rXA s.2 A ∧ (∀ j, 0 ≤ j → j ≤ i → s.2 ra j = tI (aS A) j) ∧ (∀ j, 0 ≤ j → j < i → s.2 rh j = sH (aS A) j ∧ s.2 ru j = sC (aS A) j ∧ s.2 rq j = sG (aS A) j) ∧ ∀ k, k < 0 ∨ 81 < k → k ≠ ra → k ≠ rh → k ≠ ru → k ≠ rq → s.2 k = M k) (sN (aS A)) (fun i s hi0 hin hRi ihi => ?_) (fun s hRi => ?_) 0 (none, cm_up M1 ra 0 0) (by omega) hn0 ⟨rXA_hi q1 hh6 (fun k _ _ => cm_rne (by omega)), fun j a b => ?_, fun j a b => absurd a (by omega), fun k a b _ _ _ => ?_⟩
  · obtain ⟨y7, s⟩ := s
    obtain ⟨u1, u2, u3, u4⟩ := hRi
    dsimp only at u1 u2 u3 u4 ihi ⊢
    have ii : cm_in i := ⟨by omega, by omega⟩
    obtain ⟨o0, o1, o2, o3, -⟩ := xO (S := aS A) (i := i) ⟨hi0, hin⟩
    have w := hv.1.2.2.2.2.2 i hi0 hin
    have hsh := vS_h hv.1 i
    have hti := tI_b hv.1 hi0
    have hts := tI_s (aS A) hi0
    rw [g69_14]
    simp (disch := omega) only [g69_16, g69_18, g69_21, g69_22, g69_24, Option.toList_some, Option.toList_none, List.cons_append, List.nil_append, true_and, and_true, true_or, or_true, eq_self, ci0, ci1, cin6, forall_const, not_true_eq_false, not_false_eq_true, fimp, timp, i10, i01, cm_rne, and_assoc]
    (repeat' apply And.intro) <;> (try omega) <;> (try (intro hx; exfalso; omega))
    intro _
    refine c69_25 (Nat.le_of_ble_eq_true rfl) hX.1 (p_of hX u1 hv ii cn0 (fun M2 q2 f2 => ?_))
    rw [o0]
    -- behind the height
    have rest : ∀ M3, rXA M3 A → fr M2 M3 0 81 → Go 69 59 [some (2, 0), some (2, ra), some (2, rh), some (2, ru), some (2, rq), some (0, sN (aS A)), some (0, i), some (0, sK (aS A) i)] [(0, sH (aS A) i), (0, i), (2, rh)] G M3 Q := by
      intro M3 q3 f3
      have f23 := f2.tr f3
      have e1 : M3 ra = s ra := f23 ra (by omega)
      simp (disch := omega) only [g69_59, g69_60, g69_61, g69_63, g69_64, g69_65, g69_66, g69_68, g69_69, g69_70, g69_72, g69_73, g69_74, g69_75, g69_76, g69_78, g69_79, g69_81, Option.toList_some, Option.toList_none, List.cons_append, List.nil_append, true_and, and_true, true_or, or_true, eq_self, ci0, ci1, cin6, forall_const, not_true_eq_false, not_false_eq_true, fimp, timp, i10, i01, cm_rne, and_assoc, a1, a2, cm_rne, cm_up_s, e1, u2 i hi0 (Int.le_refl i)]
      (repeat' apply And.intro) <;> (try omega) <;> (try (intro hx; exfalso; omega))
      have q4 : rXA (cm_up (cm_up M3 rh i (sH (aS A) i)) ra (i + 1) (tI (aS A) i + sH (aS A) i)) A := rXA_hi q3 hh6 (fun k _ _ => by rw [cm_rne (by omega), cm_rne (by omega)])
      refine c69_82 (Nat.le_of_ble_eq_true rfl) hX.1 (p_of hX q4 hv ii ⟨by decide, by decide⟩ (fun M5 q5 f5 => ?_))
      rw [o3]
      simp (disch := omega) only [g69_85, g69_86, g69_88, g69_90, g69_91, g69_93, Option.toList_some, Option.toList_none, List.cons_append, List.nil_append, true_and, and_true, true_or, or_true, eq_self, ci0, ci1, cin6, forall_const, not_true_eq_false, not_false_eq_true, fimp, timp, i10, i01, cm_rne, and_assoc, a3]
      (repeat' apply And.intro) <;> (try omega) <;> (try (intro hx; exfalso; omega))
      have q6 : rXA (cm_up M5 ru i (sC (aS A) i)) A := rXA_hi q5 hh6 (fun k _ _ => cm_rne (by omega))
      refine c69_94 (Nat.le_of_ble_eq_true rfl) hX.1 (p_of hX q6 hv ii cn1 (fun M7 q7 f7 => ?_))
      rw [o1]
      simp (disch := omega) only [g69_97, g69_98, g69_101, Option.toList_some, Option.toList_none, List.cons_append, List.nil_append, true_and, and_true, true_or, or_true, eq_self, ci0, ci1, cin6, forall_const, not_true_eq_false, not_false_eq_true, fimp, timp, i10, i01, cm_rne, and_assoc, a4]
      (repeat' apply And.intro) <;> (try omega) <;> (try (intro hx; exfalso; omega))
      have m1 : M7 rq = s rq := by rw [f7 rq (by omega), cm_rne (by omega), f5 rq (by omega), cm_rne (by omega), cm_rne (by omega)]; exact f23 rq (by omega)
      have m2 : M7 ru = cm_up M5 ru i (sC (aS A) i) ru := f7 ru (by omega)
      have m3 : M5 ru = s ru := by rw [f5 ru (by omega), cm_rne (by omega), cm_rne (by omega)]; exact f23 ru (by omega)
      have m4 : M7 rh = cm_up M3 rh i (sH (aS A) i) rh := by rw [f7 rh (by omega), cm_rne (by omega), f5 rh (by omega), cm_rne (by omega)]
      have m5 : M3 rh = s rh := f23 rh (by omega)
      have m6 : M7 ra = cm_up (cm_up M3 rh i (sH (aS A) i)) ra (i + 1) (tI (aS A) i + sH (aS A) i) ra := by rw [f7 ra (by omega), cm_rne (by omega), f5 ra (by omega)]
      refine ihi (some (0, sK (aS A) i), cm_up M7 rq i (sG (aS A) i)) ⟨rXA_hi q7 hh6 (fun k _ _ => cm_rne (by omega)), fun j a b => ?_, fun j a b => ?_, fun k a b1 b2 b3 b4 => ?_⟩
      · dsimp only
        rw [cm_rne (by omega), m6, cm_req]
        dsimp only
        rw [cm_rne (by omega), e1]
        by_cases hj : j = i + 1
        · rw [if_pos hj, hj, hts]
        · rw [if_neg hj]; exact u2 j a (by omega)
      · dsimp only
        rw [cm_rne (show rh ≠ rq by omega), cm_rne (show ru ≠ rq by omega), m4, m2, cm_req, cm_req, cm_req, m1, m3, m5]
        dsimp only
        by_cases hj : j = i
        · rw [if_pos hj, if_pos hj, if_pos hj, hj]; exact ⟨rfl, rfl, rfl⟩
        · rw [if_neg hj, if_neg hj, if_neg hj]; exact u3 j a (by omega)
      · dsimp only
        rw [cm_rne b4, f7 k (by omega), cm_rne b3, f5 k (by omega), cm_rne b1, cm_rne b2, f23 k (by omega)]
        exact u4 k a b1 b2 b3 b4
    simp (disch := omega) only [g69_28, g69_30, g69_31, g69_33, g69_35, g69_36, g69_39, g69_40, g69_43, g69_45, g69_46, g69_49, g69_50, g69_55, g69_58, Option.toList_some, Option.toList_none, List.cons_append, List.nil_append, true_and, and_true, true_or, or_true, eq_self, ci0, ci1, cin6, forall_const, not_true_eq_false, not_false_eq_true, fimp, timp, i10, i01, cm_rne, and_assoc]
    (repeat' apply And.intro) <;> (try omega) <;> (try (intro hx; exfalso; omega))
    · intro h1
      (repeat' apply And.intro) <;> (try omega) <;> (try (intro hx; exfalso; omega))
      · intro h2
        have e : sH (aS A) i = 1 := by unfold sH; rw [if_neg h1, if_neg h2]
        rw [← e]
        exact rest M2 q2 fr.rf
      · intro h2
        have e : sH (aS A) i = sT (aS A) 2 := by unfold sH; rw [if_neg h1, if_pos h2]
        refine c69_52 (Nat.le_of_ble_eq_true rfl) hX.1 (p_count hX q2 hv ⟨by decide, by decide⟩ (fun M3 q3 f3 => ?_))
        simp (disch := omega) only [xC9, ← e, g69_55, Option.toList_some, Option.toList_none, List.cons_append, List.nil_append, true_and, and_true, true_or, or_true, eq_self, ci0, ci1, cin6, forall_const, not_true_eq_false, not_false_eq_true, fimp, timp, i10, i01, cm_rne, and_assoc]
        exact rest M3 q3 f3
    · intro h1
      have e : sH (aS A) i = 2 := by unfold sH; rw [if_pos h1]
      rw [← e]
      exact rest M2 q2 fr.rf
  · obtain ⟨y7, s⟩ := s
    obtain ⟨u1, u2, u3, u4⟩ := hRi
    dsimp only at u1 u2 u3 u4 ⊢
    rw [g69_14]
    simp (disch := omega) only [g69_16, g69_18, g69_104, Option.toList_some, Option.toList_none, List.cons_append, List.nil_append, true_and, and_true, true_or, or_true, eq_self, ci0, ci1, cin6, forall_const, not_true_eq_false, not_false_eq_true, fimp, timp, i10, i01, cm_rne, and_assoc]
    (repeat' apply And.intro) <;> (try omega) <;> (try (intro hx; exfalso; omega))
    exact fun _ => K s u1 ⟨u2, fun i a b => (u3 i a b).1, fun i a b => (u3 i a b).2.1⟩ (fun i a b => (u3 i a b).2.2) u4
  · have : j = 0 := by omega
    subst this
    exact cm_up_s _ _ _ _
  · show cm_up M1 ra 0 0 k = M k
    rw [cm_rne b]
    exact f1 k a
end LAW5
