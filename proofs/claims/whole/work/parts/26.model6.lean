/-! ===== the reference: lines and numbers that move ===== -/
noncomputable def rMove (A : sA) (a p : Int) : Int × sA := ite' ((0 ≤ a ∧ a < sN (aS A)) ∧ 0 ≤ p ∧ p < sN (aS A)) (10000 + aI (sMv (aS A) a p) - aI (aS A), chg A (sMv (aS A) a p)) (-1, A)
noncomputable def rDrop (A : sA) (a : Int) : Int × sA := ite' (0 ≤ a ∧ a < sN (aS A)) (sN (aS A) - 1, chg A (sCut (sMv (aS A) a (sN (aS A) - 1)))) (-1, A)
def rotN (S : sS) (g : Int) : Nat → sS
  | 0 => S
  | k + 1 => sRot (rotN S g k) g
theorem rotN_n (S : sS) (g : Int) (k : Nat) : sN (rotN S g k) = sN S ∧ sG (rotN S g k) = sG S := by
  induction k with
  | zero => exact ⟨rfl, rfl⟩
  | succ k ih => exact ih
theorem vS_rotN {S : sS} (h : vS S) {g : Int} (hg : 0 ≤ g ∧ g ≤ 7) (k : Nat) : vS (rotN S g k) := by
  induction k with
  | zero => exact h
  | succ k ih => exact vS_rot ih hg
noncomputable def rTurn (A : sA) (g k : Int) : Int × sA := ite' ((0 ≤ g ∧ g ≤ 7) ∧ 1 ≤ k ∧ k ≤ 40) (ite' (fstOf (fun j => sG (aS A) j = g) (sN (aS A)) = -6) (-5, A) (sM (rotN (aS A) g k.toNat) (fstOf (fun j => sG (aS A) j = g) (sN (aS A))), chg A (rotN (aS A) g k.toNat))) (-2, A)
theorem cnt0 (P : Int → Int) (g : Int) : ∀ k : Nat, (0 : Int) ≤ fP (fun i a => if P i = g then a + 1 else a) 0 k ∧ (fP (fun i a => if P i = g then a + 1 else a) (0 : Int) k = 0 ↔ ∀ j, 0 ≤ j → j < (k : Int) → ¬ P j = g)
  | 0 => ⟨Int.le_refl 0, ⟨fun _ j a b => absurd a (by omega), fun _ => rfl⟩⟩
  | k + 1 => by
    obtain ⟨h1, h2⟩ := cnt0 P g k
    have e : fP (fun i a => if P i = g then a + 1 else a) (0 : Int) (k + 1) = if P k = g then fP (fun i a => if P i = g then a + 1 else a) (0 : Int) k + 1 else fP (fun i a => if P i = g then a + 1 else a) 0 k := rfl
    rw [e]
    generalize fP (fun i a => if P i = g then a + 1 else a) (0 : Int) k = x at *
    by_cases h : P k = g
    · rw [if_pos h]
      exact ⟨by omega, fun z => absurd z (by omega), fun z => absurd h (z k (by omega) (by omega))⟩
    · rw [if_neg h]
      refine ⟨h1, fun z j a b => ?_, fun z => h2.mpr (fun j a b => z j a (by omega))⟩
      by_cases hj : j = k
      · rw [hj]; exact h
      · exact h2.mp z j a (by omega)
theorem fst0 {P : Int → Prop} {n : Int} : fstOf P n = -6 ↔ ∀ j, 0 ≤ j → j < n → ¬ P j := by
  rcases fstOf_is P n with ⟨a1, a2, a3, -⟩ | ⟨a1, a2⟩
  · exact ⟨fun z => by omega, fun z => absurd a3 (z _ a1 a2)⟩
  · exact ⟨fun _ => a2, fun _ => a1⟩
section MODEL6
variable {G : cm_G} {M : cm_M} {m i j t v w g h s n k u a b : Int} {S : sS} {A : sA} {Q : Option cm_V → cm_G → cm_M → Prop}
theorem q_exchange (hm : isM G m) (hR : rM M (m + 1) S) (hv : vS S) (hi : 0 ≤ i ∧ i + 1 < sN S) (K : ∀ M', rM M' (m + 1) (sSw S i (i + 1)) → (∀ z, z ≠ m + 1 → M' z = M z) → Q none G M') : Go 111 0 [some (2, m), some (0, i), none, none] [] G M Q := by
  obtain ⟨h0, hsh, ⟨e0, e1, e2, e3, e5, e7, e8, e9, e10, e12, e13⟩, a0, a1, a2, a3, a5, a7, a8, a9, a10, a12, a13⟩ := hm
  have hn := hv.2.1
  simp (disch := omega) only [g111_0, g111_1, g111_3, g111_4, g111_7, g111_8, g111_11, g111_12, g111_13, g111_14, g111_15, g111_16, g111_17, g111_18, g111_19, g111_20, g111_21, g111_24, g111_25, g111_26, g111_27, g111_28, g111_29, g111_30, g111_31, g111_32, g111_35, g111_36, g111_37, g111_38, g111_39, g111_40, g111_41, g111_42, g111_43, g111_44, g111_45, g111_46, g111_47, g111_50, g111_51, g111_52, g111_53, g111_54, g111_55, g111_56, g111_57, g111_58, g111_59, g111_60, g111_61, g111_64, g111_67, Option.toList_some, Option.toList_none, List.cons_append, List.nil_append, true_and, and_true, true_or, or_true, eq_self, ci0, ci1, cin6, forall_const, not_true_eq_false, not_false_eq_true, fimp, timp, i10, i01, cm_rne, and_assoc]
  refine go_loop (σ := Option cm_V × cm_M) (fun k s => [some (2, m), some (0, i), some (0, k), s.1]) (fun s => s.2) (fun k s => (∀ z, z ≠ m + 1 → s.2 z = M z) ∧ ∀ x, s.2 (m + 1) x = if 4 + 4 * i ≤ x ∧ x < 4 + 4 * i + k then M (m + 1) (x + 4) else if 8 + 4 * i ≤ x ∧ x < 8 + 4 * i + k then M (m + 1) (x - 4) else M (m + 1) x) 4 (fun k s hk0 hk4 hRs ih => ?_) (fun s hRs => ?_) 0 (none, M) (by omega) (by omega) ⟨fun z _ => rfl, fun x => by rw [if_neg (by omega), if_neg (by omega)]⟩
  · obtain ⟨x3, s⟩ := s
    obtain ⟨u1, u2⟩ := hRs
    dsimp only at u1 u2 ⊢
    rw [g111_2]
    simp (disch := omega) only [g111_0, g111_1, g111_3, g111_4, g111_7, g111_8, g111_11, g111_12, g111_13, g111_14, g111_15, g111_16, g111_17, g111_18, g111_19, g111_20, g111_21, g111_24, g111_25, g111_26, g111_27, g111_28, g111_29, g111_30, g111_31, g111_32, g111_35, g111_36, g111_37, g111_38, g111_39, g111_40, g111_41, g111_42, g111_43, g111_44, g111_45, g111_46, g111_47, g111_50, g111_51, g111_52, g111_53, g111_54, g111_55, g111_56, g111_57, g111_58, g111_59, g111_60, g111_61, g111_64, g111_67, Option.toList_some, Option.toList_none, List.cons_append, List.nil_append, true_and, and_true, true_or, or_true, eq_self, ci0, ci1, cin6, forall_const, not_true_eq_false, not_false_eq_true, fimp, timp, i10, i01, cm_rne, and_assoc, hsh, e0, a0, cm_req]
    (repeat' apply And.intro) <;> (try omega) <;> (try (intro hx; exfalso; omega))
    intro _
    (repeat' apply And.intro) <;> (try omega) <;> (try (intro hx; exfalso; omega))
    refine ih (some (0, s (m + 1) (4 + 4 * i + k)), cm_up (cm_up s (m + 1) (4 + 4 * i + k) (s (m + 1) (4 + 4 * i + 4 + k))) (m + 1) (4 + 4 * i + 4 + k) (s (m + 1) (4 + 4 * i + k))) ⟨fun z hz => by dsimp only; rw [cm_rne hz, cm_rne hz]; exact u1 z hz, fun x => ?_⟩
    dsimp only
    simp only [cm_req]
    have w1 := u2 (4 + 4 * i + k)
    have w2 := u2 (4 + 4 * i + 4 + k)
    rw [if_neg (by omega), if_neg (by omega)] at w1 w2
    by_cases h1 : x = 4 + 4 * i + 4 + k
    · rw [if_pos h1, w1, if_neg (by omega), if_pos (by omega)]
      congr 1
      omega
    · rw [if_neg h1]
      by_cases h2 : x = 4 + 4 * i + k
      · rw [if_pos h2, w2, if_pos (by omega)]
        congr 1
        omega
      · rw [if_neg h2, u2 x]
        by_cases h3 : 4 + 4 * i ≤ x ∧ x < 4 + 4 * i + k
        · rw [if_pos h3, if_pos (by omega)]
        · rw [if_neg h3]
          by_cases h4 : 8 + 4 * i ≤ x ∧ x < 8 + 4 * i + k
          · rw [if_pos h4, if_neg (by omega), if_pos (by omega)]
          · rw [if_neg h4, if_neg (by omega), if_neg (by omega)]
  · obtain ⟨x3, s⟩ := s
    obtain ⟨u1, u2⟩ := hRs
    dsimp only at u1 u2 ⊢
    obtain ⟨r1, r2, r3⟩ := hR
    rw [g111_2]
    simp (disch := omega) only [g111_0, g111_1, g111_3, g111_4, g111_7, g111_8, g111_11, g111_12, g111_13, g111_14, g111_15, g111_16, g111_17, g111_18, g111_19, g111_20, g111_21, g111_24, g111_25, g111_26, g111_27, g111_28, g111_29, g111_30, g111_31, g111_32, g111_35, g111_36, g111_37, g111_38, g111_39, g111_40, g111_41, g111_42, g111_43, g111_44, g111_45, g111_46, g111_47, g111_50, g111_51, g111_52, g111_53, g111_54, g111_55, g111_56, g111_57, g111_58, g111_59, g111_60, g111_61, g111_64, g111_67, Option.toList_some, Option.toList_none, List.cons_append, List.nil_append, true_and, and_true, true_or, or_true, eq_self, ci0, ci1, cin6, forall_const, not_true_eq_false, not_false_eq_true, fimp, timp, i10, i01, cm_rne, and_assoc]
    (repeat' apply And.intro) <;> (try omega) <;> (try (intro hx; exfalso; omega))
    intro _
    refine K s ⟨?_, fun j a b => ?_, fun j a b => ?_⟩ u1
    · rw [u2, if_neg (by omega), if_neg (by omega)]; exact r1
    · rw [u2, if_neg (by omega), if_neg (by omega)]; exact r2 j a b
    · have b : j < sN S := b
      show s (m + 1) (4 + 4 * j) = sw (sK S) i (i + 1) j ∧ s (m + 1) (4 + 4 * j + 1) = sw (sG S) i (i + 1) j ∧ s (m + 1) (4 + 4 * j + 2) = sw (sM S) i (i + 1) j ∧ s (m + 1) (4 + 4 * j + 3) = sw (sC S) i (i + 1) j
      have hw : ∀ w, 0 ≤ w → w < 4 → s (m + 1) (4 + 4 * j + w) = if j = i then M (m + 1) (4 + 4 * (i + 1) + w) else if j = i + 1 then M (m + 1) (4 + 4 * i + w) else M (m + 1) (4 + 4 * j + w) := by
        intro w w0 w4
        rw [u2]
        by_cases h1 : j = i
        · rw [if_pos (by omega), if_pos h1]
          congr 1
          omega
        · rw [if_neg (by omega), if_neg h1]
          by_cases h2 : j = i + 1
          · rw [if_pos (by omega), if_pos h2]
            congr 1
            omega
          · rw [if_neg (by omega), if_neg h2]
      have w0 := hw 0 (by decide) (by decide)
      rw [Int.add_zero, Int.add_zero, Int.add_zero] at w0
      rw [w0, hw 1 (by decide) (by decide), hw 2 (by decide) (by decide), hw 3 (by decide) (by decide)]
      unfold sw
      by_cases h1 : j = i
      · simp only [if_pos h1]
        exact r3 (i + 1) (by omega) (by omega)
      · simp only [if_neg h1]
        by_cases h2 : j = i + 1
        · simp only [if_pos h2]
          exact r3 i (by omega) (by omega)
        · simp only [if_neg h2]
          exact r3 j a b
theorem q_move (hm : isM G m) (hA : rMA M m A) (hv : vA A) (ha : cm_in a) (hb : cm_in b) (K : ∀ M', rMA M' m (rMove A a b).2 → fr M M' m (m + 11) → Q (some (0, (rMove A a b).1)) G M') : Go 112 0 [some (2, m), some (0, a), some (0, b), none, none] [] G M Q := by
  have hsh := hm.2.1
  have h0 := hm.1
  have hA' := hA
  obtain ⟨b1, b2, b3, b4, b5⟩ := hA
  have hn1 := hv.1.2.1
  have hn0 := hv.1.1
  unfold rMove at K
  have bad : ¬ ((0 ≤ a ∧ a < sN (aS A)) ∧ 0 ≤ b ∧ b < sN (aS A)) → Q (some (0, -1)) G M := fun z => by
    rw [ite'_n z] at K
    exact K M hA' fr.rf
  simp (disch := omega) only [g112_0, g112_1, g112_5, g112_8, g112_9, g112_13, g112_16, g112_17, g112_18, g112_22, g112_26, g112_27, g112_28, g112_32, g112_33, g112_36, g112_37, g112_42, g112_45, g112_48, g112_49, g112_53, g112_54, g112_57, g112_58, g112_60, g112_61, g112_65, g112_68, g112_71, g112_75, g112_76, g112_77, g112_80, g112_81, Option.toList_some, Option.toList_none, List.cons_append, List.nil_append, true_and, and_true, true_or, or_true, eq_self, ci0, ci1, cin6, forall_const, not_true_eq_false, not_false_eq_true, fimp, timp, i10, i01, cm_rne, and_assoc]
  refine c112_2 (by decide) hsh (q_isLine hm b1 hv.1 ha (fun h1 => ?_) (fun h1 => ?_)) <;> simp (disch := omega) only [g112_0, g112_1, g112_5, g112_8, g112_9, g112_13, g112_16, g112_17, g112_18, g112_22, g112_26, g112_27, g112_28, g112_32, g112_33, g112_36, g112_37, g112_42, g112_45, g112_48, g112_49, g112_53, g112_54, g112_57, g112_58, g112_60, g112_61, g112_65, g112_68, g112_71, g112_75, g112_76, g112_77, g112_80, g112_81, Option.toList_some, Option.toList_none, List.cons_append, List.nil_append, true_and, and_true, true_or, or_true, eq_self, ci0, ci1, cin6, forall_const, not_true_eq_false, not_false_eq_true, fimp, timp, i10, i01, cm_rne, and_assoc]
  · refine c112_10 (by decide) hsh (q_isLine hm b1 hv.1 hb (fun h2 => ?_) (fun h2 => ?_)) <;> simp (disch := omega) only [g112_0, g112_1, g112_5, g112_8, g112_9, g112_13, g112_16, g112_17, g112_18, g112_22, g112_26, g112_27, g112_28, g112_32, g112_33, g112_36, g112_37, g112_42, g112_45, g112_48, g112_49, g112_53, g112_54, g112_57, g112_58, g112_60, g112_61, g112_65, g112_68, g112_71, g112_75, g112_76, g112_77, g112_80, g112_81, Option.toList_some, Option.toList_none, List.cons_append, List.nil_append, true_and, and_true, true_or, or_true, eq_self, ci0, ci1, cin6, forall_const, not_true_eq_false, not_false_eq_true, fimp, timp, i10, i01, cm_rne, and_assoc]
    · rw [ite'_p ⟨h1, h2⟩] at K
      refine c112_19 (by decide) hsh (q_record hm b1 hv.1 b2 hv.2.1.2 (fun M1 r1 f1 => ?_))
      have hR1 : rM M1 (m + 1) (aS A) := rM_fr b1 (f1.1 _ (by omega) (by omega))
      simp (disch := omega) only [g112_0, g112_1, g112_5, g112_8, g112_9, g112_13, g112_16, g112_17, g112_18, g112_22, g112_26, g112_27, g112_28, g112_32, g112_33, g112_36, g112_37, g112_42, g112_45, g112_48, g112_49, g112_53, g112_54, g112_57, g112_58, g112_60, g112_61, g112_65, g112_68, g112_71, g112_75, g112_76, g112_77, g112_80, g112_81, Option.toList_some, Option.toList_none, List.cons_append, List.nil_append, true_and, and_true, true_or, or_true, eq_self, ci0, ci1, cin6, forall_const, not_true_eq_false, not_false_eq_true, fimp, timp, i10, i01, cm_rne, and_assoc]
      refine c112_23 (by decide) hsh (q_run hm hR1 hv.1 (fun M2 ran2 f2 => ?_))
      have hR2 : rM M2 (m + 1) (aS A) := rM_fr hR1 (f2.1 _ (by omega) (by omega))
      simp (disch := omega) only [g112_0, g112_1, g112_5, g112_8, g112_9, g112_13, g112_16, g112_17, g112_18, g112_22, g112_26, g112_27, g112_28, g112_32, g112_33, g112_36, g112_37, g112_42, g112_45, g112_48, g112_49, g112_53, g112_54, g112_57, g112_58, g112_60, g112_61, g112_65, g112_68, g112_71, g112_75, g112_76, g112_77, g112_80, g112_81, Option.toList_some, Option.toList_none, List.cons_append, List.nil_append, true_and, and_true, true_or, or_true, eq_self, ci0, ci1, cin6, forall_const, not_true_eq_false, not_false_eq_true, fimp, timp, i10, i01, cm_rne, and_assoc]
      have hab := aI_b hv.1
      -- at the end
      have fin : ∀ (M3 : cm_M) (x : Option cm_V), rM M3 (m + 1) (sMv (aS A) a b) → (∀ z, z ≠ m + 1 → M3 z = M2 z) → Go 112 71 [some (2, m), some (0, a), some (0, b), some (0, aI (aS A)), x] [] G M3 Q := by
        intro M3 x r3 f3
        have hvm := vS_mv hv.1 h1 h2
        have hab2 := aI_b hvm
        simp (disch := omega) only [g112_0, g112_1, g112_5, g112_8, g112_9, g112_13, g112_16, g112_17, g112_18, g112_22, g112_26, g112_27, g112_28, g112_32, g112_33, g112_36, g112_37, g112_42, g112_45, g112_48, g112_49, g112_53, g112_54, g112_57, g112_58, g112_60, g112_61, g112_65, g112_68, g112_71, g112_75, g112_76, g112_77, g112_80, g112_81, Option.toList_some, Option.toList_none, List.cons_append, List.nil_append, true_and, and_true, true_or, or_true, eq_self, ci0, ci1, cin6, forall_const, not_true_eq_false, not_false_eq_true, fimp, timp, i10, i01, cm_rne, and_assoc]
        refine c112_72 (Nat.le_of_ble_eq_true rfl) hsh (q_run hm r3 hvm (fun M4 ran4 f4 => ?_))
        simp (disch := omega) only [g112_0, g112_1, g112_5, g112_8, g112_9, g112_13, g112_16, g112_17, g112_18, g112_22, g112_26, g112_27, g112_28, g112_32, g112_33, g112_36, g112_37, g112_42, g112_45, g112_48, g112_49, g112_53, g112_54, g112_57, g112_58, g112_60, g112_61, g112_65, g112_68, g112_71, g112_75, g112_76, g112_77, g112_80, g112_81, Option.toList_some, Option.toList_none, List.cons_append, List.nil_append, true_and, and_true, true_or, or_true, eq_self, ci0, ci1, cin6, forall_const, not_true_eq_false, not_false_eq_true, fimp, timp, i10, i01, cm_rne, and_assoc]
        (repeat' apply And.intro) <;> (try omega) <;> (try (intro hx; exfalso; omega))
        obtain ⟨k1, k2⟩ := rMA_chg hA' r1 f1 ((f2.s.tr (frS.of f3)).tr f4.s) (rM_fr r3 (f4.1 _ (by omega) (by omega)))
        have := K M4 k1 k2
        rwa [show 10000 + aI (sMv (aS A) a b) - aI (aS A) = aI (sMv (aS A) a b) - aI (aS A) + 10000 by omega] at this
      have down : ∀ (T : sS) (M3 : cm_M), vS T → sN T = sN (aS A) → rM M3 (m + 1) T → (∀ z, z ≠ m + 1 → M3 z = M2 z) → (if a ≤ b then T else sDn T a (a - b).toNat) = sMv (aS A) a b → ∀ x : Option cm_V, Go 112 48 [some (2, m), some (0, a), some (0, b), some (0, aI (aS A)), x] [] G M3 Q := by
        intro T M3 hvT hnT hRT hfT hT x
        simp (disch := omega) only [g112_48, g112_49, Option.toList_some, Option.toList_none, List.cons_append, List.nil_append, true_and, and_true, true_or, or_true, eq_self, ci0, ci1, cin6, forall_const, not_true_eq_false, not_false_eq_true, fimp, timp, i10, i01, cm_rne, and_assoc]
        by_cases hab : a ≤ b
        · rw [if_pos hab] at hT
          rw [g112_51]
          simp (disch := omega) only [g112_53, g112_54, Option.toList_some, Option.toList_none, List.cons_append, List.nil_append, true_and, and_true, true_or, or_true, eq_self, ci0, ci1, cin6, forall_const, not_true_eq_false, not_false_eq_true, fimp, timp, i10, i01, cm_rne, and_assoc]
          (repeat' apply And.intro) <;> (try omega) <;> (try (intro hx; exfalso; omega))
          intro _
          exact fin M3 _ (by rw [← hT]; exact hRT) hfT
        · rw [if_neg hab] at hT
          refine go_loopD (σ := cm_M) (fun i _ => [some (2, m), some (0, a), some (0, b), some (0, aI (aS A)), some (0, i)]) (fun s => s) (fun i s => i ≤ a ∧ rM s (m + 1) (sDn T a (a - i).toNat) ∧ ∀ z, z ≠ m + 1 → s z = M2 z) b (fun i s hbi hR ih => ?_) (fun s hR => ?_) a M3 (by omega) ⟨by omega, by rw [Int.sub_self]; exact hRT, hfT⟩
          · obtain ⟨hia, hR1, hR2⟩ := hR
            rw [g112_51]
            simp (disch := omega) only [g112_53, g112_54, g112_57, g112_58, g112_60, g112_61, g112_65, g112_68, Option.toList_some, Option.toList_none, List.cons_append, List.nil_append, true_and, and_true, true_or, or_true, eq_self, ci0, ci1, cin6, forall_const, not_true_eq_false, not_false_eq_true, fimp, timp, i10, i01, cm_rne, and_assoc]
            (repeat' apply And.intro) <;> (try omega) <;> (try (intro hx; exfalso; omega))
            intro _
            have e : sN (sDn T a (a - i).toNat) = sN (aS A) := by rw [sDn_n, hnT]
            have hvi : vS (sDn T a (a - i).toNat) := vS_dn hvT (by omega) _ (by omega)
            refine c112_62 (by decide) hsh (q_exchange hm hR1 hvi (by rw [e]; omega) (fun M4 hR2' hf2 => ?_))
            simp (disch := omega) only [g112_65, g112_68, Option.toList_some, Option.toList_none, List.cons_append, List.nil_append, true_and, and_true, true_or, or_true, eq_self, ci0, ci1, cin6, forall_const, not_true_eq_false, not_false_eq_true, fimp, timp, i10, i01, cm_rne, and_assoc]
            refine ih M4 ⟨by omega, ?_, fun z hz => (hf2 z hz).trans (hR2 z hz)⟩
            rw [show (a - (i - 1)).toNat = (a - i).toNat + 1 by omega]
            unfold sDn
            rw [show a - ((a - i).toNat : Int) = i by omega]
            rwa [show i - 1 + 1 = i by omega] at hR2'
          · rw [g112_51]
            simp (disch := omega) only [g112_53, g112_54, Option.toList_some, Option.toList_none, List.cons_append, List.nil_append, true_and, and_true, true_or, or_true, eq_self, ci0, ci1, cin6, forall_const, not_true_eq_false, not_false_eq_true, fimp, timp, i10, i01, cm_rne, and_assoc]
            (repeat' apply And.intro) <;> (try omega) <;> (try (intro hx; exfalso; omega))
            intro _
            exact fin s _ (by rw [← hT]; exact hR.2.1) hR.2.2
      by_cases hab : a ≤ b
      · refine go_loop (σ := cm_M) (fun i _ => [some (2, m), some (0, a), some (0, b), some (0, aI (aS A)), some (0, i)]) (fun s => s) (fun i s => a ≤ i ∧ rM s (m + 1) (sUp (aS A) a (i - a).toNat) ∧ ∀ z, z ≠ m + 1 → s z = M2 z) b (fun i s h0 hib hR ih => ?_) (fun s hR => ?_) a M2 (by omega) hab ⟨by omega, by rw [Int.sub_self]; exact hR2, fun z _ => rfl⟩
        · obtain ⟨hia, hR1, hR2⟩ := hR
          rw [g112_30]
          simp (disch := omega) only [g112_32, g112_33, g112_36, g112_37, g112_42, g112_45, Option.toList_some, Option.toList_none, List.cons_append, List.nil_append, true_and, and_true, true_or, or_true, eq_self, ci0, ci1, cin6, forall_const, not_true_eq_false, not_false_eq_true, fimp, timp, i10, i01, cm_rne, and_assoc]
          (repeat' apply And.intro) <;> (try omega) <;> (try (intro hx; exfalso; omega))
          intro _
          have e : sN (sUp (aS A) a (i - a).toNat) = sN (aS A) := sUp_n _ _ _
          have hvi : vS (sUp (aS A) a (i - a).toNat) := vS_up hv.1 h1.1 _ (by omega)
          refine c112_39 (by decide) hsh (q_exchange hm hR1 hvi (by rw [e]; omega) (fun M4 hR2' hf2 => ?_))
          simp (disch := omega) only [g112_42, g112_45, Option.toList_some, Option.toList_none, List.cons_append, List.nil_append, true_and, and_true, true_or, or_true, eq_self, ci0, ci1, cin6, forall_const, not_true_eq_false, not_false_eq_true, fimp, timp, i10, i01, cm_rne, and_assoc]
          refine ih M4 ⟨by omega, ?_, fun z hz => (hf2 z hz).trans (hR2 z hz)⟩
          rw [show (i + 1 - a).toNat = (i - a).toNat + 1 by omega]
          unfold sUp
          rw [show a + ((i - a).toNat : Int) = i by omega]
          exact hR2'
        · rw [g112_30]
          simp (disch := omega) only [g112_32, g112_33, Option.toList_some, Option.toList_none, List.cons_append, List.nil_append, true_and, and_true, true_or, or_true, eq_self, ci0, ci1, cin6, forall_const, not_true_eq_false, not_false_eq_true, fimp, timp, i10, i01, cm_rne, and_assoc]
          (repeat' apply And.intro) <;> (try omega) <;> (try (intro hx; exfalso; omega))
          intro _
          refine down (sUp (aS A) a (b - a).toNat) s (vS_up hv.1 h1.1 _ (by omega)) (sUp_n _ _ _) hR.2.1 hR.2.2 ?_ _
          rw [if_pos hab]
          unfold sMv
          rw [if_pos hab]
      · rw [g112_30]
        simp (disch := omega) only [g112_32, g112_33, Option.toList_some, Option.toList_none, List.cons_append, List.nil_append, true_and, and_true, true_or, or_true, eq_self, ci0, ci1, cin6, forall_const, not_true_eq_false, not_false_eq_true, fimp, timp, i10, i01, cm_rne, and_assoc]
        (repeat' apply And.intro) <;> (try omega) <;> (try (intro hx; exfalso; omega))
        intro _
        refine down (aS A) M2 hv.1 rfl hR2 (fun z _ => rfl) ?_ _
        rw [if_neg hab]
        unfold sMv
        rw [if_neg hab]
    · exact bad (fun z => h2 z.2)
  · exact bad (fun z => h1 z.1)
theorem q_drop (hm : isM G m) (hA : rMA M m A) (hv : vA A) (ha : cm_in a) (K : ∀ M', rMA M' m (rDrop A a).2 → fr M M' m (m + 11) → Q (some (0, (rDrop A a).1)) G M') : Go 113 0 [some (2, m), some (0, a), none] [] G M Q := by
  have hm' := hm
  obtain ⟨h0, hsh, ⟨e0, e1, e2, e3, e5, e7, e8, e9, e10, e12, e13⟩, a0, a1, a2, a3, a5, a7, a8, a9, a10, a12, a13⟩ := hm
  have hA' := hA
  obtain ⟨b1, b2, b3, b4, b5⟩ := hA
  have hn1 := hv.1.2.1
  have hn0 := hv.1.1
  unfold rDrop at K
  simp (disch := omega) only [g113_0, g113_1, g113_5, g113_8, g113_9, g113_10, g113_14, g113_15, g113_17, g113_18, g113_19, g113_20, g113_23, g113_24, g113_25, g113_28, g113_29, g113_33, g113_36, g113_39, g113_40, g113_43, g113_44, g113_45, g113_46, g113_47, g113_48, g113_49, g113_50, g113_52, g113_53, g113_56, g113_57, g113_60, g113_61, g113_62, g113_63, g113_66, g113_67, g113_68, g113_69, g113_70, g113_71, g113_72, g113_73, g113_74, g113_77, g113_80, g113_81, g113_84, g113_85, g113_86, Option.toList_some, Option.toList_none, List.cons_append, List.nil_append, true_and, and_true, true_or, or_true, eq_self, ci0, ci1, cin6, forall_const, not_true_eq_false, not_false_eq_true, fimp, timp, i10, i01, cm_rne, and_assoc]
  refine c113_2 (by decide) hsh (q_isLine hm' b1 hv.1 ha (fun h1 => ?_) (fun h1 => ?_)) <;> simp (disch := omega) only [g113_0, g113_1, g113_5, g113_8, g113_9, g113_10, g113_14, g113_15, g113_17, g113_18, g113_19, g113_20, g113_23, g113_24, g113_25, g113_28, g113_29, g113_33, g113_36, g113_39, g113_40, g113_43, g113_44, g113_45, g113_46, g113_47, g113_48, g113_49, g113_50, g113_52, g113_53, g113_56, g113_57, g113_60, g113_61, g113_62, g113_63, g113_66, g113_67, g113_68, g113_69, g113_70, g113_71, g113_72, g113_73, g113_74, g113_77, g113_80, g113_81, g113_84, g113_85, g113_86, Option.toList_some, Option.toList_none, List.cons_append, List.nil_append, true_and, and_true, true_or, or_true, eq_self, ci0, ci1, cin6, forall_const, not_true_eq_false, not_false_eq_true, fimp, timp, i10, i01, cm_rne, and_assoc]
  · rw [ite'_p h1] at K
    refine c113_11 (by decide) hsh (q_record hm' b1 hv.1 b2 hv.2.1.2 (fun M1 r1 f1 => ?_))
    have hR1 : rM M1 (m + 1) (aS A) := rM_fr b1 (f1.1 _ (by omega) (by omega))
    simp (disch := omega) only [g113_0, g113_1, g113_5, g113_8, g113_9, g113_10, g113_14, g113_15, g113_17, g113_18, g113_19, g113_20, g113_23, g113_24, g113_25, g113_28, g113_29, g113_33, g113_36, g113_39, g113_40, g113_43, g113_44, g113_45, g113_46, g113_47, g113_48, g113_49, g113_50, g113_52, g113_53, g113_56, g113_57, g113_60, g113_61, g113_62, g113_63, g113_66, g113_67, g113_68, g113_69, g113_70, g113_71, g113_72, g113_73, g113_74, g113_77, g113_80, g113_81, g113_84, g113_85, g113_86, Option.toList_some, Option.toList_none, List.cons_append, List.nil_append, true_and, and_true, true_or, or_true, eq_self, ci0, ci1, cin6, forall_const, not_true_eq_false, not_false_eq_true, fimp, timp, i10, i01, cm_rne, and_assoc]
    refine go_loop (σ := cm_M) (fun i _ => [some (2, m), some (0, a), some (0, i)]) (fun s => s) (fun i s => a ≤ i ∧ rM s (m + 1) (sUp (aS A) a (i - a).toNat) ∧ ∀ z, z ≠ m + 1 → s z = M1 z) (sN (aS A) - 1) (fun i s h0 hib hR ih => ?_) (fun s hR => ?_) a M1 (by omega) (by omega) ⟨by omega, by rw [Int.sub_self]; exact hR1, fun z _ => rfl⟩
    · obtain ⟨hia, hR1, hR2⟩ := hR
      have e : sN (sUp (aS A) a (i - a).toNat) = sN (aS A) := sUp_n _ _ _
      have hvi : vS (sUp (aS A) a (i - a).toNat) := vS_up hv.1 h1.1 _ (by omega)
      have r3 := hR1.1
      rw [e] at r3
      rw [g113_16]
      simp (disch := omega) only [g113_0, g113_1, g113_5, g113_8, g113_9, g113_10, g113_14, g113_15, g113_17, g113_18, g113_19, g113_20, g113_23, g113_24, g113_25, g113_28, g113_29, g113_33, g113_36, g113_39, g113_40, g113_43, g113_44, g113_45, g113_46, g113_47, g113_48, g113_49, g113_50, g113_52, g113_53, g113_56, g113_57, g113_60, g113_61, g113_62, g113_63, g113_66, g113_67, g113_68, g113_69, g113_70, g113_71, g113_72, g113_73, g113_74, g113_77, g113_80, g113_81, g113_84, g113_85, g113_86, Option.toList_some, Option.toList_none, List.cons_append, List.nil_append, true_and, and_true, true_or, or_true, eq_self, ci0, ci1, cin6, forall_const, not_true_eq_false, not_false_eq_true, fimp, timp, i10, i01, cm_rne, and_assoc, hsh, e0, a0, r3]
      (repeat' apply And.intro) <;> (try omega) <;> (try (intro hx; exfalso; omega))
      intro _
      refine c113_30 (by decide) hsh (q_exchange hm' hR1 hvi (by rw [e]; omega) (fun M4 hR2' hf2 => ?_))
      simp (disch := omega) only [g113_0, g113_1, g113_5, g113_8, g113_9, g113_10, g113_14, g113_15, g113_17, g113_18, g113_19, g113_20, g113_23, g113_24, g113_25, g113_28, g113_29, g113_33, g113_36, g113_39, g113_40, g113_43, g113_44, g113_45, g113_46, g113_47, g113_48, g113_49, g113_50, g113_52, g113_53, g113_56, g113_57, g113_60, g113_61, g113_62, g113_63, g113_66, g113_67, g113_68, g113_69, g113_70, g113_71, g113_72, g113_73, g113_74, g113_77, g113_80, g113_81, g113_84, g113_85, g113_86, Option.toList_some, Option.toList_none, List.cons_append, List.nil_append, true_and, and_true, true_or, or_true, eq_self, ci0, ci1, cin6, forall_const, not_true_eq_false, not_false_eq_true, fimp, timp, i10, i01, cm_rne, and_assoc]
      refine ih M4 ⟨by omega, ?_, fun z hz => (hf2 z hz).trans (hR2 z hz)⟩
      rw [show (i + 1 - a).toNat = (i - a).toNat + 1 by omega]
      unfold sUp
      rw [show a + ((i - a).toNat : Int) = i by omega]
      exact hR2'
    · obtain ⟨hia, hR1, hR2⟩ := hR
      have e : sMv (aS A) a (sN (aS A) - 1) = sUp (aS A) a (sN (aS A) - 1 - a).toNat := by unfold sMv; rw [if_pos (by omega)]
      rw [← e] at hR1
      have en : sN (sMv (aS A) a (sN (aS A) - 1)) = sN (aS A) := sMv_n _ _ _
      generalize sMv (aS A) a (sN (aS A) - 1) = T at hR1 en K
      have r3 := hR1.1
      rw [en] at r3
      rw [g113_16]
      simp (disch := omega) only [g113_0, g113_1, g113_5, g113_8, g113_9, g113_10, g113_14, g113_15, g113_17, g113_18, g113_19, g113_20, g113_23, g113_24, g113_25, g113_28, g113_29, g113_33, g113_36, g113_39, g113_40, g113_43, g113_44, g113_45, g113_46, g113_47, g113_48, g113_49, g113_50, g113_52, g113_53, g113_56, g113_57, g113_60, g113_61, g113_62, g113_63, g113_66, g113_67, g113_68, g113_69, g113_70, g113_71, g113_72, g113_73, g113_74, g113_77, g113_80, g113_81, g113_84, g113_85, g113_86, Option.toList_some, Option.toList_none, List.cons_append, List.nil_append, true_and, and_true, true_or, or_true, eq_self, ci0, ci1, cin6, forall_const, not_true_eq_false, not_false_eq_true, fimp, timp, i10, i01, cm_rne, and_assoc, hsh, e0, a0, r3]
      (repeat' apply And.intro) <;> (try omega) <;> (try (intro hx; exfalso; omega))
      intro _
      (repeat' apply And.intro) <;> (try omega) <;> (try (intro hx; exfalso; omega))
      refine go_loop (σ := cm_M) (fun i _ => [some (2, m), some (0, a), some (0, i)]) (fun s => s) (fun i z => (∀ k, k ≠ m + 1 → z k = s k) ∧ z (m + 1) 3 = sN (aS A) - 1 ∧ ∀ x, x ≠ 3 → x < 4 + 4 * (sN (aS A) - 1) → z (m + 1) x = s (m + 1) x) 4 (fun i z h0 hib hz ih => ?_) (fun z hz => ?_) 0 _ (by omega) (by omega) ⟨fun k a => cm_rne a, cm_up_s _ _ _ _, fun x a b => by rw [cm_up_n _ (Or.inr a)]⟩
      · obtain ⟨u1, u2, u3⟩ := hz
        rw [g113_51]
        simp (disch := omega) only [g113_0, g113_1, g113_5, g113_8, g113_9, g113_10, g113_14, g113_15, g113_17, g113_18, g113_19, g113_20, g113_23, g113_24, g113_25, g113_28, g113_29, g113_33, g113_36, g113_39, g113_40, g113_43, g113_44, g113_45, g113_46, g113_47, g113_48, g113_49, g113_50, g113_52, g113_53, g113_56, g113_57, g113_60, g113_61, g113_62, g113_63, g113_66, g113_67, g113_68, g113_69, g113_70, g113_71, g113_72, g113_73, g113_74, g113_77, g113_80, g113_81, g113_84, g113_85, g113_86, Option.toList_some, Option.toList_none, List.cons_append, List.nil_append, true_and, and_true, true_or, or_true, eq_self, ci0, ci1, cin6, forall_const, not_true_eq_false, not_false_eq_true, fimp, timp, i10, i01, cm_rne, and_assoc, hsh, e0, a0, u2]
        (repeat' apply And.intro) <;> (try omega) <;> (try (intro hx; exfalso; omega))
        intro _
        (repeat' apply And.intro) <;> (try omega) <;> (try (intro hx; exfalso; omega))
        refine ih _ ⟨fun k a => by rw [cm_rne a]; exact u1 k a, ?_, fun x a b => ?_⟩
        · rw [cm_up_n _ (Or.inr (by omega))]; exact u2
        · rw [cm_up_n _ (Or.inr (by omega))]; exact u3 x a b
      · obtain ⟨u1, u2, u3⟩ := hz
        have r2 : rM z (m + 1) (sCut T) := by
          obtain ⟨q1, q2, q3⟩ := hR1
          refine ⟨?_, fun j a b => ?_, fun j a b => ?_⟩
          · rw [u2]; show _ = sN T - 1; rw [en]
          · rw [u3 j (by omega) (by omega)]; exact q2 j a b
          · have b : j < sN T - 1 := b
            rw [u3 (4 + 4 * j) (by omega) (by omega), u3 (4 + 4 * j + 1) (by omega) (by omega), u3 (4 + 4 * j + 2) (by omega) (by omega), u3 (4 + 4 * j + 3) (by omega) (by omega)]
            exact q3 j a (by omega)
        obtain ⟨k1, k2⟩ := rMA_chg hA' r1 f1 (frS.of (fun k hk => (u1 k hk).trans (hR2 k hk))) r2
        rw [g113_51]
        simp (disch := omega) only [g113_0, g113_1, g113_5, g113_8, g113_9, g113_10, g113_14, g113_15, g113_17, g113_18, g113_19, g113_20, g113_23, g113_24, g113_25, g113_28, g113_29, g113_33, g113_36, g113_39, g113_40, g113_43, g113_44, g113_45, g113_46, g113_47, g113_48, g113_49, g113_50, g113_52, g113_53, g113_56, g113_57, g113_60, g113_61, g113_62, g113_63, g113_66, g113_67, g113_68, g113_69, g113_70, g113_71, g113_72, g113_73, g113_74, g113_77, g113_80, g113_81, g113_84, g113_85, g113_86, Option.toList_some, Option.toList_none, List.cons_append, List.nil_append, true_and, and_true, true_or, or_true, eq_self, ci0, ci1, cin6, forall_const, not_true_eq_false, not_false_eq_true, fimp, timp, i10, i01, cm_rne, and_assoc, hsh, e0, a0, u2]
        (repeat' apply And.intro) <;> (try omega) <;> (try (intro hx; exfalso; omega))
        intro _
        (repeat' apply And.intro) <;> (try omega) <;> (try (intro hx; exfalso; omega))
        exact K z k1 k2
  · rw [ite'_n h1] at K
    exact K M hA' fr.rf
end MODEL6
