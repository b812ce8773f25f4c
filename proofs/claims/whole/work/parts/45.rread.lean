/-! ===== the reference: fault, read ===== -/
theorem fs3.s {M M1 : cm_M} {m : Int} (h : fs3 M M1 m) : frS M M1 m := ⟨fun k a _ c => h.1 k a (by omega), fun j a => h.2 j (by omega)⟩
theorem rMA_len {M : cm_M} {m : Int} {A : sA} (hA : rMA M m A) : rMA (cm_up M m 6 0) m (aS A, aH A, aP A, aF A, aL A, 0, aC A) := by
  obtain ⟨b1, ⟨c1, c2, c3⟩, b3, b4, b5⟩ := hA
  refine ⟨rM_fr b1 (cm_rne (by omega)), ⟨?_, c2, fun j a b => ?_⟩, fun t a b => ?_, cm_up_s _ _ _ _, fun k a b => ?_⟩
  · rw [cm_up_n _ (Or.inr (by decide))]; exact c1
  · rw [cm_rne (by omega)]; exact c3 j a b
  · rw [cm_rne (by omega), cm_rne (by omega)]; exact b3 t a b
  · have b : k < 0 := b
    omega
theorem pa_m {P : Int → Int} {N : Int} : ∀ (f : Nat) (p : Int) (T : sS), p ≤ N → 2 * sN (pa P N f p T).2 ≤ 2 * sN T + (N - p) + 1
  | 0, p, T, hp => by
    show 2 * sN T ≤ 2 * sN T + (N - p) + 1
    omega
  | f + 1, p, T, hp => by
    obtain ⟨⟨bl1, bl2⟩, bl3⟩ := pl_b (P := P) hp
    have e : ∀ k g n u : Int, sN (sAdd T k g n u) = sN T + 1 := fun _ _ _ _ => rfl
    rw [pa_s]
    by_cases h1 : (pl P N p).1 = 0
    · rw [if_pos h1]; dsimp only; omega
    · rw [if_neg h1]
      have b1 := (bl3 (by omega)).1
      by_cases h2 : (pl P N p).2.1 = N
      · rw [if_pos h2]; dsimp only; rw [e]; omega
      · rw [if_neg h2]
        by_cases h3 : ¬ P (pl P N p).2.1 = 44
        · rw [if_pos h3]; dsimp only; rw [e]; omega
        · rw [if_neg h3]
          have := pa_m (P := P) (N := N) f ((pl P N p).2.1 + 1) (sAdd T (pl P N p).2.2.1 (pl P N p).2.2.2.1 (pl P N p).2.2.2.2.1 (pl P N p).2.2.2.2.2) (by omega)
          rw [e] at this
          omega
section RREAD
variable {G : cm_G} {M : cm_M} {m i j t v w g h s n k u a b : Int} {S T : sS} {A : sA} {Q : Option cm_V → cm_G → cm_M → Prop}
theorem q_fault (hm : isM G m) (hA : rMA M m A) (hv : vA A) (K : ∀ M', rMA M' m A → fr M M' m (m + 11) → Q (some (0, (paA A).1)) G M') : Go 137 0 [some (2, m)] [] G M Q := by
  have hsh := hm.2.1
  simp (disch := omega) only [g137_0, g137_4, Option.toList_some, Option.toList_none, List.cons_append, List.nil_append, true_and, and_true, true_or, or_true, eq_self, ci0, ci1, cin6, forall_const, not_true_eq_false, not_false_eq_true, fimp, timp, i10, i01, cm_rne, and_assoc]
  refine c137_1 (by decide) hsh (q_readPad hm hA.2.2.2.1 hA.2.2.2.2 (okP_A hv) (fun M1 f1 _ => ?_))
  simp (disch := omega) only [g137_0, g137_4, Option.toList_some, Option.toList_none, List.cons_append, List.nil_append, true_and, and_true, true_or, or_true, eq_self, ci0, ci1, cin6, forall_const, not_true_eq_false, not_false_eq_true, fimp, timp, i10, i01, cm_rne, and_assoc]
  obtain ⟨k1, k2⟩ := rMA_q hA f1.s (rM_fr hA.1 (f1.1 _ (by omega) (by omega)))
  exact K M1 k1 k2
theorem q_read (hm : isM G m) (hA : rMA M m A) (hv : vA A) (K : ∀ M', rMA M' m (rRead A).2 → fr M M' m (m + 11) → Q (some (0, (rRead A).1)) G M') : Go 138 0 [some (2, m), none] [] G M Q := by
  have hm' := hm
  obtain ⟨h0, hsh, ⟨e0, e1, e2, e3, e5, e7, e8, e9, e10, e12, e13⟩, a0, a1, a2, a3, a5, a7, a8, a9, a10, a12, a13⟩ := hm
  have hn := hv.1.2.1
  have hn0 := hv.1.1
  have hN := hv.2.2.2.1
  have hnT : sN sZ ≤ sN (paA A).2 ∧ sN (paA A).2 ≤ sN sZ + ((61 : Nat) : Int) := pa_n 61 0 sZ
  have hz0 : sN sZ = 0 := rfl
  have hnM : 2 * sN (paA A).2 ≤ 2 * sN sZ + (aN A - 0) + 1 := pa_m 61 0 sZ hN.1
  have hpb : -6 ≤ (paA A).1 ∧ (paA A).1 ≤ aN A := pa_b 61 0 sZ (by omega) hN.1
  have hvT := vT_pa hv
  unfold rRead at K
  simp (disch := omega) only [g138_0, g138_4, g138_6, g138_9, g138_11, g138_12, g138_13, g138_16, g138_17, g138_18, g138_19, g138_22, g138_23, g138_25, g138_28, g138_30, g138_31, g138_35, g138_36, g138_38, g138_39, g138_42, g138_45, g138_46, g138_47, g138_50, g138_51, g138_52, g138_53, g138_54, g138_55, g138_56, g138_57, g138_60, g138_61, g138_62, g138_63, g138_64, g138_65, g138_66, g138_67, g138_70, g138_71, g138_72, g138_73, g138_74, g138_75, g138_76, g138_77, g138_80, g138_81, g138_82, g138_83, g138_84, g138_85, g138_89, g138_90, g138_93, g138_96, g138_97, g138_98, g138_101, g138_102, g138_105, g138_106, g138_107, Option.toList_some, Option.toList_none, List.cons_append, List.nil_append, true_and, and_true, true_or, or_true, eq_self, ci0, ci1, cin6, forall_const, not_true_eq_false, not_false_eq_true, fimp, timp, i10, i01, cm_rne, and_assoc]
  refine c138_1 (by decide) hsh (q_readPad hm' hA.2.2.2.1 hA.2.2.2.2 (okP_A hv) (fun M1 f1 hE => ?_))
  have hE : (paA A).1 = -6 → M1 m 14 = sN (paA A).2 ∧ isEs (M1 (m + 11)) (paA A).2 := hE
  rw [show pa (aC A) (aN A) 61 0 sZ = paA A from rfl]
  generalize paA A = R at *
  obtain ⟨k1, k2⟩ := rMA_q hA f1.s (rM_fr hA.1 (f1.1 _ (by omega) (by omega)))
  have r3 := k1.1.1
  simp (disch := omega) only [g138_4, g138_6, g138_9, g138_11, g138_12, g138_13, g138_16, g138_17, g138_18, g138_19, g138_22, g138_23, g138_25, g138_28, g138_30, g138_31, Option.toList_some, Option.toList_none, List.cons_append, List.nil_append, true_and, and_true, true_or, or_true, eq_self, ci0, ci1, cin6, forall_const, not_true_eq_false, not_false_eq_true, fimp, timp, i10, i01, cm_rne, and_assoc, hsh, e0, a0, r3]
  (repeat' apply And.intro) <;> (try omega) <;> (try (intro hx; exfalso; omega))
  · intro he
    rw [ite'_n (fun z => z he)] at K
    obtain ⟨g14, gE⟩ := hE he
    simp (disch := omega) only [Option.toList_some, Option.toList_none, List.cons_append, List.nil_append, true_and, and_true, true_or, or_true, eq_self, ci0, ci1, cin6, forall_const, not_true_eq_false, not_false_eq_true, fimp, timp, i10, i01, cm_rne, and_assoc, g14]
    (repeat' apply And.intro) <;> (try omega) <;> (try (intro hx; exfalso; omega))
    · intro h2
      rw [ite'_n h2] at K
      refine c138_32 (by decide) hsh (q_record hm' k1.1 hv.1 k1.2.1 hv.2.1.2 (fun M2 r1 f2 => ?_))
      have hR2 : rM M2 (m + 1) (aS A) := rM_fr k1.1 (f2.1 _ (by omega) (by omega))
      have g14' : M2 m 14 = sN R.2 := by rw [f2.2 14 (by decide)]; exact g14
      have gE' : isEs (M2 (m + 11)) R.2 := by rw [f2.1 _ (by omega) (by omega)]; exact gE
      simp (disch := omega) only [g138_35, g138_36, Option.toList_some, Option.toList_none, List.cons_append, List.nil_append, true_and, and_true, true_or, or_true, eq_self, ci0, ci1, cin6, forall_const, not_true_eq_false, not_false_eq_true, fimp, timp, i10, i01, cm_rne, and_assoc]
      refine go_loop (σ := cm_M) (fun i _ => [some (2, m), some (0, i)]) (fun s => s) (fun i s => rM s (m + 1) (sApp (aS A) (sTk R.2 i)) ∧ ∀ z, z ≠ m + 1 → s z = M2 z) (sN R.2) (fun i s hi0 hin hRs ih => ?_) (fun s hRs => ?_) 0 M2 (by omega) (by omega) ⟨rM_eq hR2 sApp_0, fun z _ => rfl⟩
      · obtain ⟨u1, u2⟩ := hRs
        obtain ⟨w1, w2, w3, w4⟩ := gE' i hi0 hin
        have er : s (m + 11) = M2 (m + 11) := u2 _ (by omega)
        have e14 : s m 14 = sN R.2 := by rw [u2 m (by omega)]; exact g14'
        rw [← er] at w1 w2 w3 w4
        rw [g138_37]
        simp (disch := omega) only [g138_38, g138_39, g138_42, g138_45, g138_46, g138_47, g138_50, g138_51, g138_52, g138_53, g138_54, g138_55, g138_56, g138_57, g138_60, g138_61, g138_62, g138_63, g138_64, g138_65, g138_66, g138_67, g138_70, g138_71, g138_72, g138_73, g138_74, g138_75, g138_76, g138_77, g138_80, g138_81, g138_82, g138_83, g138_84, g138_85, Option.toList_some, Option.toList_none, List.cons_append, List.nil_append, true_and, and_true, true_or, or_true, eq_self, ci0, ci1, cin6, forall_const, not_true_eq_false, not_false_eq_true, fimp, timp, i10, i01, cm_rne, and_assoc, hsh, e14, e13, a13, Int.add_zero, w1, w2, w3, w4]
        (repeat' apply And.intro) <;> (try omega) <;> (try (intro hx; exfalso; omega))
        intro _
        (repeat' apply And.intro) <;> (try omega) <;> (try (intro hx; exfalso; omega))
        have en : sN (sApp (aS A) (sTk R.2 i)) = sN (aS A) + i := rfl
        refine c138_86 (Nat.le_of_ble_eq_true rfl) hsh (q_add hm' u1 (by omega) (fun M3 r4 f3 => ?_))
        simp (disch := omega) only [g138_89, g138_90, g138_93, Option.toList_some, Option.toList_none, List.cons_append, List.nil_append, true_and, and_true, true_or, or_true, eq_self, ci0, ci1, cin6, forall_const, not_true_eq_false, not_false_eq_true, fimp, timp, i10, i01, cm_rne, and_assoc]
        exact ih M3 ⟨rM_eq r4 (sApp_s hi0), fun z hz => (f3 z hz).trans (u2 z hz)⟩
      · obtain ⟨u1, u2⟩ := hRs
        have e14 : s m 14 = sN R.2 := by rw [u2 m (by omega)]; exact g14'
        have u1' : rM s (m + 1) (sApp (aS A) R.2) := u1
        have u5 : cm_up s m 6 0 (m + 1) 3 = sN (aS A) + sN R.2 := by rw [cm_rne (by omega)]; exact u1'.1
        obtain ⟨z1, z2⟩ := rMA_chg k1 r1 f2 (frS.of u2) u1'
        rw [g138_37]
        simp (disch := omega) only [g138_38, g138_39, g138_42, g138_45, g138_46, g138_47, g138_50, g138_51, g138_52, g138_53, g138_54, g138_55, g138_56, g138_57, g138_60, g138_61, g138_62, g138_63, g138_64, g138_65, g138_66, g138_67, g138_70, g138_71, g138_72, g138_73, g138_74, g138_75, g138_76, g138_77, g138_80, g138_81, g138_82, g138_83, g138_84, g138_85, g138_89, g138_90, g138_93, g138_96, g138_97, g138_98, g138_101, g138_102, g138_105, g138_106, g138_107, Option.toList_some, Option.toList_none, List.cons_append, List.nil_append, true_and, and_true, true_or, or_true, eq_self, ci0, ci1, cin6, forall_const, not_true_eq_false, not_false_eq_true, fimp, timp, i10, i01, cm_rne, and_assoc, hsh, e14, e0, a0, u5]
        (repeat' apply And.intro) <;> (try omega) <;> (try (intro hx; exfalso; omega))
        intro _
        (repeat' apply And.intro) <;> (try omega) <;> (try (intro hx; exfalso; omega))
        exact K _ (rMA_len z1) ((k2.tr z2).tr (fun k hk => cm_rne (by omega)))
    · intro h2
      rw [ite'_p h2] at K
      exact K M1 k1 k2
  · intro hne
    rw [ite'_p hne] at K
    exact K M1 k1 k2
end RREAD
