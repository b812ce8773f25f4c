/-! ===== characters come to the pad ===== -/
section PUT
variable {G : cm_G} {M : cm_M} {m c i j t v w g h s n k u a b : Int} {S : sS} {A : sA} {Q : Option cm_V → cm_G → cm_M → Prop}
theorem vA_put (hv : vA A) (h : ¬ 60 < aN A + lNb c) : vA (aS A, aH A, aP A, aF A, aL A, aN A + lNb c, pC A c (lNb c)) := by
  have hl := (lNb_is c).1
  obtain ⟨h1, h2, h3, h4, h5⟩ := hv
  refine ⟨h1, h2, h3, ?_, fun k a b => ?_⟩
  · show 0 ≤ aN A + lNb c ∧ aN A + lNb c ≤ 60
    omega
  · have b : k < aN A + lNb c := b
    show 0 ≤ pC A c (lNb c) k ∧ pC A c (lNb c) k ≤ 65535
    unfold pC
    by_cases hk : aN A ≤ k ∧ k < aN A + lNb c
    · rw [if_pos hk]
      have := byte_b (cm_lushr c (8 * (lNb c - 1 - (k - aN A))))
      unfold lB
      omega
    · rw [if_neg hk]
      exact h5 k a (by omega)
theorem p_charactersIn (K1 : okL c → Q (some (0, lNb c)) G M) (K0 : ¬ okL c → Q (some (0, 0)) G M) : Go 46 0 [some (2, 27), some (1, c), none, none, none, none] [] G M Q := by
  obtain ⟨l1, l2, l3⟩ := lNb_is c
  simp (disch := omega) only [g46_0, g46_1, g46_2, g46_3, g46_6, g46_8, g46_11, g46_13, g46_14, g46_15, g46_18, g46_20, g46_23, g46_24, g46_25, g46_27, g46_32, g46_35, g46_36, g46_37, g46_40, g46_42, g46_44, g46_45, g46_47, g46_50, g46_51, Option.toList_some, Option.toList_none, List.cons_append, List.nil_append, true_and, and_true, true_or, or_true, eq_self, ci0, ci1, cin6, forall_const, not_true_eq_false, not_false_eq_true, fimp, timp, i10, i01, cm_rne, and_assoc]
  refine go_loop (σ := Unit) (fun i _ => [some (2, 27), some (1, c), none, some (0, i), some (1, lS c i.toNat), none]) (fun _ => M) (fun i _ => ∀ k, 0 ≤ k → k < i → lG c k) (lNb c) (fun i s hi0 hin hRs ih => ?_) (fun s hRs => ?_) 0 () (by omega) l1.1 (fun k a b => absurd a (by omega))
  · have hne := l3 i hi0 hin
    have hci := lcmp_in (lS c i.toNat) 0
    have hby := byte_b (lS c i.toNat)
    rw [g46_5]
    simp (disch := omega) only [g46_0, g46_1, g46_2, g46_3, g46_6, g46_8, g46_11, g46_13, g46_14, g46_15, g46_18, g46_20, g46_23, g46_24, g46_25, g46_27, g46_32, g46_35, g46_36, g46_37, g46_40, g46_42, g46_44, g46_45, g46_47, g46_50, g46_51, Option.toList_some, Option.toList_none, List.cons_append, List.nil_append, true_and, and_true, true_or, or_true, eq_self, ci0, ci1, cin6, forall_const, not_true_eq_false, not_false_eq_true, fimp, timp, i10, i01, cm_rne, and_assoc, eq_true hci]
    (repeat' apply And.intro) <;> (try omega) <;> (try (intro hx; exfalso; omega))
    intro _
    (repeat' apply And.intro) <;> (try omega) <;> (try (intro hx; exfalso; omega))
    intro _
    refine c46_29 (by decide) (p_isWithin (by constructor <;> omega) ⟨by decide, by decide⟩ ⟨by decide, by decide⟩ (fun hz => ?_) (fun hz => ?_)) <;> simp (disch := omega) only [g46_0, g46_1, g46_2, g46_3, g46_6, g46_8, g46_11, g46_13, g46_14, g46_15, g46_18, g46_20, g46_23, g46_24, g46_25, g46_27, g46_32, g46_35, g46_36, g46_37, g46_40, g46_42, g46_44, g46_45, g46_47, g46_50, g46_51, Option.toList_some, Option.toList_none, List.cons_append, List.nil_append, true_and, and_true, true_or, or_true, eq_self, ci0, ci1, cin6, forall_const, not_true_eq_false, not_false_eq_true, fimp, timp, i10, i01, cm_rne, and_assoc]
    · have := ih () (fun k a b => by
        by_cases hk : k = i
        · rw [hk]; exact hz
        · exact hRs k a (by omega))
      rw [show (i + 1).toNat = i.toNat + 1 by omega] at this
      exact this
    · exact K0 (fun z => hz (z.2 i hi0 hin))
  · have hci := lcmp_in (lS c (lNb c).toNat) 0
    have fin : Q (some (0, lNb c)) G M := by
      by_cases h0 : lNb c = 0
      · have := K0 (fun z => z.1 h0)
        rwa [h0]
      · exact K1 ⟨h0, hRs⟩
    rw [g46_5]
    simp (disch := omega) only [g46_0, g46_1, g46_2, g46_3, g46_6, g46_8, g46_11, g46_13, g46_14, g46_15, g46_18, g46_20, g46_23, g46_24, g46_25, g46_27, g46_32, g46_35, g46_36, g46_37, g46_40, g46_42, g46_44, g46_45, g46_47, g46_50, g46_51, Option.toList_some, Option.toList_none, List.cons_append, List.nil_append, true_and, and_true, true_or, or_true, eq_self, ci0, ci1, cin6, forall_const, not_true_eq_false, not_false_eq_true, fimp, timp, i10, i01, cm_rne, and_assoc, eq_true hci, l2]
    (repeat' apply And.intro) <;> (try omega) <;> (try (intro hx; exfalso; omega))
    · exact fun _ => fin
    · intro _
      (repeat' apply And.intro) <;> (try omega) <;> (try (intro hx; exfalso; omega))
theorem p_append (hX : isP G) (ha : M 27 1 = a) (hab : 0 ≤ a ∧ a + lNb c ≤ 60) (K : ∀ M', (∀ k, k ≠ 27 → k ≠ 28 → M' k = M k) → M' 27 1 = a + lNb c → (∀ j, M' 28 j = if a ≤ j ∧ j < a + lNb c then lB c (lNb c - 1 - (j - a)) else M 28 j) → Q none G M') : Go 47 0 [some (2, 27), some (1, c), none, some (0, lNb c), none] [] G M Q := by
  obtain ⟨y0, y1, y2⟩ := hX
  obtain ⟨l1, l2, l3⟩ := lNb_is c
  simp (disch := omega) only [g47_0, g47_1, g47_2, g47_3, g47_7, g47_10, g47_11, g47_14, g47_16, g47_19, g47_20, g47_23, g47_24, g47_27, g47_28, g47_30, g47_32, g47_33, g47_34, g47_37, g47_38, g47_39, g47_40, g47_41, g47_42, g47_42b, g47_43, g47_46, g47_47, g47_48, g47_51, g47_54, g47_57, Option.toList_some, Option.toList_none, List.cons_append, List.nil_append, true_and, and_true, true_or, or_true, eq_self, ci0, ci1, cin6, forall_const, not_true_eq_false, not_false_eq_true, fimp, timp, i10, i01, cm_rne, and_assoc]
  refine go_loopD (σ := cm_M) (fun i _ => [some (2, 27), some (1, c), none, some (0, lNb c), some (0, i)]) (fun s => s) (fun i s => i ≤ lNb c - 1 ∧ (∀ k, k ≠ 27 → k ≠ 28 → s k = M k) ∧ s 27 1 = a + (lNb c - 1 - i) ∧ (∀ j, s 28 j = if a ≤ j ∧ j < a + (lNb c - 1 - i) then lB c (lNb c - 1 - (j - a)) else M 28 j)) (-1) (fun i s hi0 hRs ih => ?_) (fun s hRs => ?_) (lNb c - 1) M (by omega) ⟨by omega, fun k _ _ => rfl, by omega, fun j => by rw [if_neg (by omega)]⟩
  · obtain ⟨u0, u1, u2, u3⟩ := hRs
    have hby := byte_b (cm_lushr c (8 * i))
    rw [g47_5]
    simp (disch := omega) only [g47_0, g47_1, g47_2, g47_3, g47_7, g47_10, g47_11, g47_14, g47_16, g47_19, g47_20, g47_23, g47_24, g47_27, g47_28, g47_30, g47_32, g47_33, g47_34, g47_37, g47_38, g47_39, g47_40, g47_41, g47_42, g47_42b, g47_43, g47_46, g47_47, g47_48, g47_51, g47_54, g47_57, Option.toList_some, Option.toList_none, List.cons_append, List.nil_append, true_and, and_true, true_or, or_true, eq_self, ci0, ci1, cin6, forall_const, not_true_eq_false, not_false_eq_true, fimp, timp, i10, i01, cm_rne, and_assoc, y0, y1, y2, u2, cm_rne]
    (repeat' apply And.intro) <;> (try omega) <;> (try (intro hx; exfalso; omega))
    intro _
    (repeat' apply And.intro) <;> (try omega) <;> (try (intro hx; exfalso; omega))
    intro _
    (repeat' apply And.intro) <;> (try omega) <;> (try (intro hx; exfalso; omega))
    refine ih _ ⟨by omega, fun k a b => by rw [cm_rne a, cm_rne b]; exact u1 k a b, ?_, fun j => ?_⟩
    · rw [cm_up_s]; omega
    · rw [cm_rne (by omega), cm_req]
      dsimp only
      by_cases hj : j = a + (lNb c - 1 - i)
      · rw [if_pos hj, if_pos (by omega)]
        show _ = lB c _
        rw [show lNb c - 1 - (j - a) = i by omega]
        rfl
      · rw [if_neg hj, u3 j]
        by_cases hj2 : a ≤ j ∧ j < a + (lNb c - 1 - i)
        · rw [if_pos hj2, if_pos (by omega)]
        · rw [if_neg hj2, if_neg (by omega)]
  · obtain ⟨u0, u1, u2, u3⟩ := hRs
    rw [g47_5]
    simp (disch := omega) only [g47_0, g47_1, g47_2, g47_3, g47_7, g47_10, g47_11, g47_14, g47_16, g47_19, g47_20, g47_23, g47_24, g47_27, g47_28, g47_30, g47_32, g47_33, g47_34, g47_37, g47_38, g47_39, g47_40, g47_41, g47_42, g47_42b, g47_43, g47_46, g47_47, g47_48, g47_51, g47_54, g47_57, Option.toList_some, Option.toList_none, List.cons_append, List.nil_append, true_and, and_true, true_or, or_true, eq_self, ci0, ci1, cin6, forall_const, not_true_eq_false, not_false_eq_true, fimp, timp, i10, i01, cm_rne, and_assoc]
    (repeat' apply And.intro) <;> (try omega) <;> (try (intro hx; exfalso; omega))
    intro _
    refine K s u1 (by rw [u2]; omega) (fun j => ?_)
    rw [u3 j]
    rw [show lNb c - 1 - (-1 : Int) = lNb c by omega]
theorem p_put (hX : isX G) (hA : rXA M A) (hv : vA A) (K : ∀ M', rXA M' (rPut A c).2 → fr M M' 0 81 → Q (some (0, (rPut A c).1)) G M') : Go 72 0 [some (2, 0), some (1, c), none, none] [] G M Q := by
  obtain ⟨x0, ⟨q0, q1, q2, q3, q4, q5, q6⟩, xc, xk, xt, xu, xp, xh, xl⟩ := hX
  have hA' := hA
  obtain ⟨b1, ⟨c1, c2, c3, c4⟩, b3, b4, b5⟩ := hA
  obtain ⟨l1, l2, l3⟩ := lNb_is c
  have hn := hv.2.2.2.1
  unfold rPut at K
  simp (disch := omega) only [g72_0, g72_1, g72_4, g72_8, g72_9, g72_10, g72_13, g72_15, g72_16, g72_17, g72_20, g72_23, g72_24, g72_25, g72_27, g72_30, g72_32, g72_33, g72_34, g72_37, g72_38, g72_42, g72_43, g72_46, g72_49, Option.toList_some, Option.toList_none, List.cons_append, List.nil_append, true_and, and_true, true_or, or_true, eq_self, ci0, ci1, cin6, forall_const, not_true_eq_false, not_false_eq_true, fimp, timp, i10, i01, cm_rne, and_assoc, x0, q4]
  refine c72_5 (by decide) xp.1 (p_charactersIn (fun h1 => ?_) (fun h1 => ?_)) <;> simp (disch := omega) only [g72_0, g72_1, g72_4, g72_8, g72_9, g72_10, g72_13, g72_15, g72_16, g72_17, g72_20, g72_23, g72_24, g72_25, g72_27, g72_30, g72_32, g72_33, g72_34, g72_37, g72_38, g72_42, g72_43, g72_46, g72_49, Option.toList_some, Option.toList_none, List.cons_append, List.nil_append, true_and, and_true, true_or, or_true, eq_self, ci0, ci1, cin6, forall_const, not_true_eq_false, not_false_eq_true, fimp, timp, i10, i01, cm_rne, and_assoc, x0, q4, xp.1, b4]
  · rw [ite'_p h1] at K
    have h0 := h1.1
    (repeat' apply And.intro) <;> (try omega) <;> (try (intro hx; exfalso; omega))
    intro _
    (repeat' apply And.intro) <;> (try omega) <;> (try (intro hx; exfalso; omega))
    · intro h2
      rw [ite'_n (by omega)] at K
      refine c72_39 (Nat.le_of_ble_eq_true rfl) xp.1 (p_append xp b4 (by omega) (fun M1 f1 e1 e2 => ?_))
      simp (disch := omega) only [g72_0, g72_1, g72_4, g72_8, g72_9, g72_10, g72_13, g72_15, g72_16, g72_17, g72_20, g72_23, g72_24, g72_25, g72_27, g72_30, g72_32, g72_33, g72_34, g72_37, g72_38, g72_42, g72_43, g72_46, g72_49, Option.toList_some, Option.toList_none, List.cons_append, List.nil_append, true_and, and_true, true_or, or_true, eq_self, ci0, ci1, cin6, forall_const, not_true_eq_false, not_false_eq_true, fimp, timp, i10, i01, cm_rne, and_assoc, x0, q4, xp.1, e1]
      have ff : ∀ k, k < 27 ∨ 28 < k → M1 k = M k := fun k hk => f1 k (by omega) (by omega)
      have fr1 : fr M M1 27 28 := fun k hk => f1 k (by omega) (by omega)
      refine K M1 ⟨b1.fr fr1 (by omega), ⟨?_, c2, ?_, fun j a b => ?_⟩, fun s a b => ?_, e1, fun k a b => ?_⟩ (fun k hk => f1 k (by omega) (by omega))
      · rw [ff 29 (by omega)]; exact c1
      · rw [ff 29 (by omega)]; exact c3
      · rw [ff 29 (by omega)]; exact (c4 j a b).fr fr1 (by omega)
      · rw [ff 69 (by omega)]
        exact ⟨(b3 s a b).1, fun z => ((b3 s a b).2 z).fr fr1 (by omega)⟩
      · rw [e2 k]
        have b : k < aN A + lNb c := b
        show _ = pC A c (lNb c) k
        unfold pC
        by_cases hk : aN A ≤ k ∧ k < aN A + lNb c
        · rw [if_pos hk, if_pos hk]
        · rw [if_neg hk, if_neg hk]
          exact b5 k a (by omega)
    · intro h2
      rw [ite'_p (by omega)] at K
      exact K M hA' fr.rf
  · rw [ite'_n h1] at K
    exact K M hA' fr.rf
theorem q_put (hm : isM G m) (hA : rMA M m A) (hv : vA A) (K : ∀ M', rMA M' m (rPut A c).2 → fr M M' m (m + 11) → Q (some (0, (rPut A c).1)) G M') : Go 130 0 [some (2, m), some (1, c), none, none, none, none, none, none] [] G M Q := by
  obtain ⟨h0, hsh, ⟨e0, e1, e2, e3, e5, e7, e8, e9, e10, e12, e13⟩, a0, a1, a2, a3, a5, a7, a8, a9, a10, a12, a13⟩ := hm
  have hA' := hA
  obtain ⟨b1, ⟨c1, c2, c3⟩, b3, b4, b5⟩ := hA
  obtain ⟨l1, l2, l3⟩ := lNb_is c
  have hn := hv.2.2.2.1
  unfold rPut at K
  simp (disch := omega) only [g130_0, g130_1, g130_2, g130_3, g130_5, g130_6, g130_10, g130_11, g130_12, g130_15, g130_17, g130_20, g130_22, g130_25, g130_26, g130_27, g130_29, g130_34, g130_36, g130_38, g130_40, g130_41, g130_43, g130_46, g130_49, g130_50, g130_53, g130_55, g130_58, g130_60, g130_61, g130_62, g130_65, g130_66, g130_67, g130_69, g130_72, g130_74, g130_75, g130_76, g130_77, g130_78, g130_82, g130_85, g130_86, g130_89, g130_90, g130_93, g130_94, g130_96, g130_98, g130_99, g130_100, g130_103, g130_104, g130_105, g130_106, g130_107, g130_108, g130_108b, g130_109, g130_112, g130_113, g130_114, g130_117, g130_120, g130_123, g130_124, g130_127, Option.toList_some, Option.toList_none, List.cons_append, List.nil_append, true_and, and_true, true_or, or_true, eq_self, ci0, ci1, cin6, forall_const, not_true_eq_false, not_false_eq_true, fimp, timp, i10, i01, cm_rne, and_assoc]
  have bad : ¬ okL c → Q (some (0, -2)) G M := fun z => by rw [ite'_n z] at K; exact K M hA' fr.rf
  refine go_loop (σ := Unit) (fun i _ => [some (2, m), some (1, c), none, some (0, i), some (1, lS c i.toNat), none, some (0, 1), none]) (fun _ => M) (fun i _ => ∀ k, 0 ≤ k → k < i → lG c k) (lNb c) (fun i s hi0 hin hRs ih => ?_) (fun s hRs => ?_) 0 () (by omega) l1.1 (fun k a b => absurd a (by omega))
  · have hne := l3 i hi0 hin
    have hci := lcmp_in (lS c i.toNat) 0
    have hby := byte_b (lS c i.toNat)
    rw [g130_8]
    simp (disch := omega) only [g130_10, g130_11, g130_12, g130_15, g130_17, g130_20, g130_22, g130_25, g130_26, g130_27, g130_29, g130_34, g130_36, g130_38, g130_40, g130_41, g130_43, g130_46, Option.toList_some, Option.toList_none, List.cons_append, List.nil_append, true_and, and_true, true_or, or_true, eq_self, ci0, ci1, cin6, forall_const, not_true_eq_false, not_false_eq_true, fimp, timp, i10, i01, cm_rne, and_assoc, eq_true hci, eq_false hne]
    (repeat' apply And.intro) <;> (try omega) <;> (try (intro hx; exfalso; omega))
    refine c130_31 (by decide) (q_in (by constructor <;> omega) ⟨by decide, by decide⟩ ⟨by decide, by decide⟩ (fun hz => ?_) (fun hz => ?_)) <;> simp (disch := omega) only [g130_34, g130_36, g130_38, g130_40, g130_41, g130_43, g130_46, Option.toList_some, Option.toList_none, List.cons_append, List.nil_append, true_and, and_true, true_or, or_true, eq_self, ci0, ci1, cin6, forall_const, not_true_eq_false, not_false_eq_true, fimp, timp, i10, i01, cm_rne, and_assoc]
    · have := ih () (fun k a b => by
        by_cases hk : k = i
        · rw [hk]; exact hz
        · exact hRs k a (by omega))
      rw [show (i + 1).toNat = i.toNat + 1 by omega] at this
      exact this
    · have hno : ¬ okL c := fun z => hz (z.2 i hi0 hin)
      have hci2 := lcmp_in (cm_lushr (lS c i.toNat) 8) 0
      rw [g130_8]
      simp (disch := omega) only [g130_10, g130_11, g130_12, g130_15, g130_17, g130_20, g130_22, g130_25, g130_26, g130_27, g130_29, g130_34, g130_36, g130_38, g130_40, g130_41, g130_43, g130_46, g130_49, g130_50, g130_53, g130_55, g130_58, g130_60, Option.toList_some, Option.toList_none, List.cons_append, List.nil_append, true_and, and_true, true_or, or_true, eq_self, ci0, ci1, cin6, forall_const, not_true_eq_false, not_false_eq_true, fimp, timp, i10, i01, cm_rne, and_assoc, eq_true hci2]
      (repeat' apply And.intro) <;> (try omega) <;> (try (intro hx; exfalso; omega))
      · intro _
        (repeat' apply And.intro) <;> (try omega) <;> (try (intro hx; exfalso; omega))
        exact fun _ => bad hno
      · intro _
        (repeat' apply And.intro) <;> (try omega) <;> (try (intro hx; exfalso; omega))
        exact fun _ => bad hno
  · have hci := lcmp_in (lS c (lNb c).toNat) 0
    rw [g130_8]
    simp (disch := omega) only [g130_10, g130_11, g130_12, g130_15, g130_17, g130_20, g130_22, g130_25, g130_26, g130_27, g130_29, g130_34, g130_36, g130_38, g130_40, g130_41, g130_43, g130_46, g130_49, g130_50, g130_53, g130_55, g130_58, g130_60, g130_61, g130_62, g130_65, g130_66, g130_67, g130_69, g130_72, g130_74, g130_75, g130_76, g130_77, g130_78, Option.toList_some, Option.toList_none, List.cons_append, List.nil_append, true_and, and_true, true_or, or_true, eq_self, ci0, ci1, cin6, forall_const, not_true_eq_false, not_false_eq_true, fimp, timp, i10, i01, cm_rne, and_assoc, eq_true hci, l2, hsh, b4]
    (repeat' apply And.intro) <;> (try omega) <;> (try (intro hx; exfalso; omega))
    · intro h1
      exact bad (fun z => z.1 h1)
    · intro h1
      have hok : okL c := ⟨h1, hRs⟩
      rw [ite'_p hok] at K
      (repeat' apply And.intro) <;> (try omega) <;> (try (intro hx; exfalso; omega))
      · intro h2
        rw [ite'_n (by omega)] at K
        refine go_loopD (σ := cm_M) (fun i _ => [some (2, m), some (1, c), none, some (0, lNb c), some (1, lS c (lNb c).toNat), none, some (0, 1), some (0, i)]) (fun s => s) (fun i s => i ≤ lNb c - 1 ∧ (∀ k, k ≠ m → k ≠ m + 5 → s k = M k) ∧ (∀ j, j ≠ 6 → s m j = M m j) ∧ s m 6 = aN A + (lNb c - 1 - i) ∧ (∀ j, s (m + 5) j = if aN A ≤ j ∧ j < aN A + (lNb c - 1 - i) then lB c (lNb c - 1 - (j - aN A)) else M (m + 5) j)) (-1) (fun i s hi0 hRs ih => ?_) (fun s hRs => ?_) (lNb c - 1) M (by omega) ⟨by omega, fun k _ _ => rfl, fun k _ => rfl, by omega, fun j => by rw [if_neg (by omega)]⟩
        · obtain ⟨u0, u1, u4, u2, u3⟩ := hRs
          have hby := byte_b (cm_lushr c (8 * i))
          rw [g130_80]
          simp (disch := omega) only [g130_82, g130_85, g130_86, g130_89, g130_90, g130_93, g130_94, g130_96, g130_98, g130_99, g130_100, g130_103, g130_104, g130_105, g130_106, g130_107, g130_108, g130_108b, g130_109, g130_112, g130_113, g130_114, g130_117, g130_120, Option.toList_some, Option.toList_none, List.cons_append, List.nil_append, true_and, and_true, true_or, or_true, eq_self, ci0, ci1, cin6, forall_const, not_true_eq_false, not_false_eq_true, fimp, timp, i10, i01, cm_rne, and_assoc, hsh, e5, a5, u2, cm_rne]
          (repeat' apply And.intro) <;> (try omega) <;> (try (intro hx; exfalso; omega))
          intro _
          (repeat' apply And.intro) <;> (try omega) <;> (try (intro hx; exfalso; omega))
          refine ih _ ⟨by omega, fun k a b => by rw [cm_rne a, cm_rne b]; exact u1 k a b, fun j hj => by rw [cm_up_n _ (Or.inr hj), cm_rne (by omega)]; exact u4 j hj, ?_, fun j => ?_⟩
          · rw [cm_up_s]; omega
          · rw [cm_rne (by omega), cm_req]
            dsimp only
            by_cases hj : j = aN A + (lNb c - 1 - i)
            · rw [if_pos hj, if_pos (by omega)]
              show _ = lB c _
              rw [show lNb c - 1 - (j - aN A) = i by omega]
              rfl
            · rw [if_neg hj, u3 j]
              by_cases hj2 : aN A ≤ j ∧ j < aN A + (lNb c - 1 - i)
              · rw [if_pos hj2, if_pos (by omega)]
              · rw [if_neg hj2, if_neg (by omega)]
        · obtain ⟨u0, u1, u4, u2, u3⟩ := hRs
          rw [show lNb c - 1 - (-1 : Int) = lNb c by omega] at u2
          rw [g130_80]
          simp (disch := omega) only [g130_82, g130_85, g130_86, g130_89, g130_90, g130_93, g130_94, g130_96, g130_98, g130_99, g130_100, g130_103, g130_104, g130_105, g130_106, g130_107, g130_108, g130_108b, g130_109, g130_112, g130_113, g130_114, g130_117, g130_120, g130_123, g130_124, g130_127, Option.toList_some, Option.toList_none, List.cons_append, List.nil_append, true_and, and_true, true_or, or_true, eq_self, ci0, ci1, cin6, forall_const, not_true_eq_false, not_false_eq_true, fimp, timp, i10, i01, cm_rne, and_assoc, hsh, u2]
          (repeat' apply And.intro) <;> (try omega) <;> (try (intro hx; exfalso; omega))
          intro _
          refine K s ⟨rM_fr b1 (u1 _ (by omega) (by omega)), ⟨?_, c2, fun j a b => ?_⟩, fun t a b => ?_, u2, fun k a b => ?_⟩ (fun k hk => u1 k (by omega) (by omega))
          · rw [u4 4 (by decide)]; exact c1
          · rw [u1 (m + 2) (by omega) (by omega)]; exact c3 j a b
          · rw [u1 (m + 4) (by omega) (by omega), u1 (m + 3) (by omega) (by omega)]; exact b3 t a b
          · have b : k < aN A + lNb c := b
            rw [u3 k, show lNb c - 1 - (-1 : Int) = lNb c by omega]
            show _ = pC A c (lNb c) k
            unfold pC
            by_cases hk : aN A ≤ k ∧ k < aN A + lNb c
            · rw [if_pos hk, if_pos hk]
            · rw [if_neg hk, if_neg hk]
              exact b5 k a (by omega)
      · intro h2
        rw [ite'_p (by omega)] at K
        exact K M hA' fr.rf
theorem p_wipe (hX : isX G) (hA : rXA M A) (hv : vA A) (K : ∀ M', rXA M' (rWipe A).2 → fr M M' 0 81 → Q (some (0, (rWipe A).1)) G M') : Go 73 0 [some (2, 0), none] [] G M Q := by
  obtain ⟨x0, ⟨q0, q1, q2, q3, q4, q5, q6⟩, xc, xk, xt, xu, xp, xh, xl⟩ := hX
  obtain ⟨b1, ⟨c1, c2, c3, c4⟩, b3, b4, b5⟩ := hA
  simp (disch := omega) only [g73_0, g73_1, g73_4, g73_7, g73_8, g73_9, g73_12, g73_13, g73_16, g73_17, Option.toList_some, Option.toList_none, List.cons_append, List.nil_append, true_and, and_true, true_or, or_true, eq_self, ci0, ci1, cin6, forall_const, not_true_eq_false, not_false_eq_true, fimp, timp, i10, i01, cm_rne, and_assoc, x0, q4, xp.1, b4]
  have fr1 : fr M (cm_up M 27 1 0) 27 27 := fun k hk => cm_rne (by omega)
  refine K _ ⟨b1.fr fr1 (by omega), ⟨?_, c2, ?_, fun j a b => ?_⟩, fun s a b => ?_, cm_up_s _ _ _ _, fun k a b => ?_⟩ (fun k hk => cm_rne (by omega))
  · rw [fr1 29 (by omega)]; exact c1
  · rw [fr1 29 (by omega)]; exact c3
  · rw [fr1 29 (by omega)]; exact (c4 j a b).fr fr1 (by omega)
  · rw [fr1 69 (by omega)]
    exact ⟨(b3 s a b).1, fun z => ((b3 s a b).2 z).fr fr1 (by omega)⟩
  · have b : k < 0 := b
    omega
theorem q_wipe (hm : isM G m) (hA : rMA M m A) (hv : vA A) (K : ∀ M', rMA M' m (rWipe A).2 → fr M M' m (m + 11) → Q (some (0, (rWipe A).1)) G M') : Go 131 0 [some (2, m), none] [] G M Q := by
  obtain ⟨h0, hsh, -⟩ := hm
  obtain ⟨b1, ⟨c1, c2, c3⟩, b3, b4, b5⟩ := hA
  simp (disch := omega) only [g131_0, g131_1, g131_4, g131_5, g131_6, g131_7, g131_10, g131_11, Option.toList_some, Option.toList_none, List.cons_append, List.nil_append, true_and, and_true, true_or, or_true, eq_self, ci0, ci1, cin6, forall_const, not_true_eq_false, not_false_eq_true, fimp, timp, i10, i01, cm_rne, and_assoc, hsh, b4]
  refine K _ ⟨rM_fr b1 (cm_rne (by omega)), ⟨?_, c2, fun j a b => ?_⟩, fun t a b => ?_, cm_up_s _ _ _ _, fun k a b => ?_⟩ (fun k hk => cm_rne (by omega))
  · rw [cm_up_n _ (Or.inr (by decide))]; exact c1
  · rw [cm_rne (by omega)]; exact c3 j a b
  · rw [cm_rne (by omega), cm_rne (by omega)]; exact b3 t a b
  · have b : k < 0 := b
    omega
end PUT
