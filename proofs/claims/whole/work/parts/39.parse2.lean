/-! ===== the class reads lines ===== -/
section PARSE2
variable {G : cm_G} {M : cm_M} {P : Int → Int} {N p i j t v w g h s n k u a b least most : Int} {S T : sS} {A : sA} {Q : Option cm_V → cm_G → cm_M → Prop}
/-- the place and the target alone are others -/
def fq (M M' : cm_M) : Prop := (∀ k, k ≠ 27 → (k < 15 ∨ 20 < k) → M' k = M k) ∧ ∀ j, j ≠ 2 → M' 27 j = M 27 j
theorem fp.q {M M' : cm_M} (h : fp M M') : fq M M' := ⟨fun k a _ => h.1 k a, h.2⟩
theorem fq.tr {M M1 M2 : cm_M} (h1 : fq M M1) (h2 : fq M1 M2) : fq M M2 := ⟨fun k a b => (h2.1 k a b).trans (h1.1 k a b), fun j a => (h2.2 j a).trans (h1.2 j a)⟩
theorem hPd.fq {M M1 : cm_M} {P : Int → Int} {N p q : Int} (h : hPd M P N p) (f : fq M M1) (e : M1 27 2 = q) : hPd M1 P N q := ⟨by rw [f.2 1 (by decide)]; exact h.1, fun k a b => by rw [f.1 28 (by decide) (by decide)]; exact h.2.1 k a b, e⟩
theorem rC.fp {M M1 : cm_M} {T : sS} (h : rC M 15 T) (f : fp M M1) : rC M1 15 T := by
  obtain ⟨r1, r2, r3⟩ := h
  refine ⟨by rw [f.1 15 (by decide)]; exact r1, fun j a b => by rw [f.1 (15 + 1) (by decide)]; exact r2 j a b, fun i a b => ?_⟩
  rw [f.1 (15 + 2) (by decide), f.1 (15 + 3) (by decide), f.1 (15 + 4) (by decide), f.1 (15 + 5) (by decide)]
  exact r3 i a b
theorem p_parseLineInto (hX : isP G) (ht : isC G 15) (hP : hPd M P N p) (ho : okP P N) (hp : 0 ≤ p ∧ p ≤ N) (hT : rC M 15 T) (hTn : 0 ≤ sN T ∧ sN T < 40) (K0 : (pl P N p).1 = 0 → ∀ M', fp M M' → M' 27 2 = (pl P N p).2.1 → Q (some (0, 0)) G M') (K1 : (pl P N p).1 = 1 → ∀ M', fq M M' → rC M' 15 (sAdd T (pl P N p).2.2.1 (pl P N p).2.2.2.1 (pl P N p).2.2.2.2.1 (pl P N p).2.2.2.2.2) → M' 27 2 = (pl P N p).2.1 → Q (some (0, 1)) G M') : Go 49 0 [some (2, 27), some (2, 15), none, none, none, none] [] G M Q := by
  have hs := hX.1
  have hk := kd_b P N p
  have hN := ho.1
  -- from the cue on
  have cue : ∀ (kk gg nn q : Int) (M1 : cm_M) (x5 : Option cm_V), q ≤ N → 0 ≤ q → fp M M1 → M1 27 2 = q → pl P N p = plC P N kk gg nn q → Go 49 75 [some (2, 27), some (2, 15), some (0, kk), some (0, gg), some (0, nn), x5] [] G M1 Q := by
    intro kk gg nn q M1 x5 hqN hq0 f1 e1 hpl
    have hP1 : hPd M1 P N q := hP.fp f1 e1
    have hT1 : rC M1 15 T := hT.fp f1
    rw [hpl] at K0 K1
    unfold plC at K0 K1
    -- the line comes to the target
    have fin : ∀ (uu q2 : Int) (M2 : cm_M), fp M1 M2 → M2 27 2 = q2 → (∀ M', fq M M' → rC M' 15 (sAdd T kk gg nn uu) → M' 27 2 = q2 → Q (some (0, 1)) G M') → Go 49 114 [some (2, 27), some (2, 15), some (0, kk), some (0, gg), some (0, nn), some (0, uu)] [] G M2 Q := by
      intro uu q2 M2 f2 e2 K2
      simp (disch := omega) only [g49_0, g49_4, g49_5, g49_6, g49_7, g49_10, g49_11, g49_12, g49_13, g49_13b, g49_14, g49_17, g49_18, g49_19, g49_22, g49_24, g49_25, g49_27, g49_29, g49_30, g49_33, g49_37, g49_38, g49_42, g49_45, g49_46, g49_47, g49_48, g49_48b, g49_49, g49_52, g49_53, g49_54, g49_57, g49_58, g49_59, g49_65, g49_67, g49_69, g49_70, g49_73, g49_74, g49_75, g49_76, g49_78, g49_82, g49_84, g49_87, g49_88, g49_88b, g49_89, g49_92, g49_93, g49_94, g49_97, g49_98, g49_99, g49_104, g49_106, g49_108, g49_109, g49_112, g49_113, g49_114, g49_115, g49_116, g49_117, g49_119, g49_124, g49_125, Option.toList_some, Option.toList_none, List.cons_append, List.nil_append, true_and, and_true, true_or, or_true, eq_self, ci0, ci1, cin6, forall_const, not_true_eq_false, not_false_eq_true, fimp, timp, i10, i01, cm_rne, and_assoc]
      refine c49_121 (Nat.le_of_ble_eq_true rfl) ht.2.1 (p_add ht (hT1.fp f2) hTn (fun M3 r3 f3 => ?_))
      simp (disch := omega) only [g49_0, g49_4, g49_5, g49_6, g49_7, g49_10, g49_11, g49_12, g49_13, g49_13b, g49_14, g49_17, g49_18, g49_19, g49_22, g49_24, g49_25, g49_27, g49_29, g49_30, g49_33, g49_37, g49_38, g49_42, g49_45, g49_46, g49_47, g49_48, g49_48b, g49_49, g49_52, g49_53, g49_54, g49_57, g49_58, g49_59, g49_65, g49_67, g49_69, g49_70, g49_73, g49_74, g49_75, g49_76, g49_78, g49_82, g49_84, g49_87, g49_88, g49_88b, g49_89, g49_92, g49_93, g49_94, g49_97, g49_98, g49_99, g49_104, g49_106, g49_108, g49_109, g49_112, g49_113, g49_114, g49_115, g49_116, g49_117, g49_119, g49_124, g49_125, Option.toList_some, Option.toList_none, List.cons_append, List.nil_append, true_and, and_true, true_or, or_true, eq_self, ci0, ci1, cin6, forall_const, not_true_eq_false, not_false_eq_true, fimp, timp, i10, i01, cm_rne, and_assoc]
      refine K2 M3 ((f1.q.tr f2.q).tr ⟨fun k a b => f3 k (by omega), fun j _ => by rw [f3 27 (by omega)]⟩) r3 ?_
      rw [f3 27 (by omega)]; exact e2
    simp (disch := omega) only [g49_75, g49_76, g49_78, g49_82, g49_84, g49_87, g49_88, g49_88b, g49_89, g49_92, g49_93, g49_94, g49_97, g49_98, g49_99, g49_104, g49_106, g49_108, g49_109, g49_112, g49_113, Option.toList_some, Option.toList_none, List.cons_append, List.nil_append, true_and, and_true, true_or, or_true, eq_self, ci0, ci1, cin6, forall_const, not_true_eq_false, not_false_eq_true, fimp, timp, i10, i01, cm_rne, and_assoc]
    refine c49_79 (by decide) hs (p_character hX hP1 ho (by omega) (fun hz => ?_) (fun hz => ?_)) <;> simp (disch := omega) only [g49_82, g49_84, g49_87, g49_88, g49_88b, g49_89, g49_92, g49_93, g49_94, g49_97, g49_98, g49_99, g49_104, g49_106, g49_108, g49_109, g49_112, g49_113, Option.toList_some, Option.toList_none, List.cons_append, List.nil_append, true_and, and_true, true_or, or_true, eq_self, ci0, ci1, cin6, forall_const, not_true_eq_false, not_false_eq_true, fimp, timp, i10, i01, cm_rne, and_assoc, hs, e1]
    · have ob := ho.2 q hq0 hz
      (repeat' apply And.intro) <;> (try omega) <;> (try (intro hx; exfalso; omega))
      · intro hne
        rw [if_neg (fun y => hne y.2)] at K0 K1
        exact fin 0 q M1 fp.rf e1 (fun M' a b c => K1 rfl M' a b c)
      · intro he
        rw [if_pos ⟨hz, he⟩] at K0 K1
        have f2 : fp M (cm_up M1 27 2 (q + 1)) := f1.tr fp.up
        have hP2 : hPd (cm_up M1 27 2 (q + 1)) P N (q + 1) := hP1.fp fp.up (cm_up_s _ _ _ _)
        refine c49_101 (by decide) hs (p_parseNumber hX hP2 ho (by omega) (by omega) (by omega) (fun hb => ?_) (fun hb M2 f3 e3 => ?_)) <;> simp (disch := omega) only [g49_104, g49_106, g49_108, g49_109, g49_112, g49_113, Option.toList_some, Option.toList_none, List.cons_append, List.nil_append, true_and, and_true, true_or, or_true, eq_self, ci0, ci1, cin6, forall_const, not_true_eq_false, not_false_eq_true, fimp, timp, i10, i01, cm_rne, and_assoc]
        · rw [if_pos hb] at K0
          (repeat' apply And.intro) <;> (try omega) <;> (try (intro hx; exfalso; omega))
          exact K0 rfl _ f2 (cm_up_s _ _ _ _)
        · rw [if_neg (by omega)] at K0 K1
          have d1 := cD_b P N (q + 1)
          have hb2 := nmF_b (P := P) (N := N) (most := 30) (v := cD P N (q + 1)) (p := q + 1 + 1) (by omega) (by omega) (by omega) (by have := d1.2.2 (by omega); omega)
          rw [show q + 2 = q + 1 + 1 by omega] at K1
          (repeat' apply And.intro) <;> (try omega) <;> (try (intro hx; exfalso; omega))
          intro _
          exact fin _ _ M2 (fp.up.tr f3) e3 (fun M' a b c => K1 rfl M' a b c)
    · rw [if_neg (fun y => hz y.1)] at K0 K1
      (repeat' apply And.intro) <;> (try omega) <;> (try (intro hx; exfalso; omega))
      exact fun _ => fin 0 q M1 fp.rf e1 (fun M' a b c => K1 rfl M' a b c)
  simp (disch := omega) only [g49_0, g49_4, g49_5, Option.toList_some, Option.toList_none, List.cons_append, List.nil_append, true_and, and_true, true_or, or_true, eq_self, ci0, ci1, cin6, forall_const, not_true_eq_false, not_false_eq_true, fimp, timp, i10, i01, cm_rne, and_assoc]
  refine c49_1 (by decide) hs (p_kindHere hX hP ho (by omega) ?_)
  simp (disch := omega) only [g49_4, g49_5, g49_6, g49_7, g49_10, g49_11, g49_12, g49_13, g49_13b, g49_14, g49_17, g49_18, g49_19, g49_22, g49_24, g49_25, g49_27, g49_29, g49_30, g49_33, g49_37, g49_38, g49_42, g49_45, g49_46, Option.toList_some, Option.toList_none, List.cons_append, List.nil_append, true_and, and_true, true_or, or_true, eq_self, ci0, ci1, cin6, forall_const, not_true_eq_false, not_false_eq_true, fimp, timp, i10, i01, cm_rne, and_assoc, hs, hP.2.2]
  (repeat' apply And.intro) <;> (try omega) <;> (try (intro hx; exfalso; omega))
  · intro hkn
    have hpN := hk.2.2 hkn
    have d1 := cD_b P N (p + 1)
    have d2 := cD_b P N (p + 2)
    have f1 : fp M (cm_up M 27 2 (p + 1)) := fp.up
    have hP1 : hPd (cm_up M 27 2 (p + 1)) P N (p + 1) := hP.fp fp.up (cm_up_s _ _ _ _)
    have epl : pl P N p = if kd P N p = 0 then (if ¬ (0 ≤ cD P N (p + 1) ∧ cD P N (p + 1) ≤ 7) then (0, p + 1, 0, 0, 0, 0) else if cD P N (p + 2) < 0 then (0, p + 2, 0, 0, 0, 0) else plC P N 0 (cD P N (p + 1)) (nmF P N 999 (cD P N (p + 2)) (p + 3)).1 (nmF P N 999 (cD P N (p + 2)) (p + 3)).2) else plC P N (kd P N p) (-6) (-6) (p + 1) := if_neg hkn
    (repeat' apply And.intro) <;> (try omega) <;> (try (intro hx; exfalso; omega))
    · intro hk0
      rw [if_neg hk0] at epl
      exact cue _ _ _ (p + 1) _ _ (by omega) (by omega) f1 (cm_up_s _ _ _ _) epl
    · intro hk0
      rw [if_pos hk0] at epl
      refine c49_34 (by decide) hs (p_digit hX hP1 ho (by omega) ?_)
      simp (disch := omega) only [g49_37, g49_38, g49_42, g49_45, g49_46, Option.toList_some, Option.toList_none, List.cons_append, List.nil_append, true_and, and_true, true_or, or_true, eq_self, ci0, ci1, cin6, forall_const, not_true_eq_false, not_false_eq_true, fimp, timp, i10, i01, cm_rne, and_assoc]
      refine c49_39 (by decide) (p_isGroup (by constructor <;> omega) (fun h3 => ?_) (fun h3 => ?_)) <;> simp (disch := omega) only [g49_42, g49_45, g49_46, g49_47, g49_48, g49_48b, g49_49, g49_52, g49_53, g49_54, g49_57, g49_58, g49_59, g49_65, g49_67, g49_69, g49_70, g49_73, g49_74, Option.toList_some, Option.toList_none, List.cons_append, List.nil_append, true_and, and_true, true_or, or_true, eq_self, ci0, ci1, cin6, forall_const, not_true_eq_false, not_false_eq_true, fimp, timp, i10, i01, cm_rne, and_assoc, hs, hP1.2.2]
      · rw [if_neg (fun z => z h3)] at epl
        have hP2 : hPd (cm_up (cm_up M 27 2 (p + 1)) 27 2 (p + 1 + 1)) P N (p + 1 + 1) := hP1.fp fp.up (cm_up_s _ _ _ _)
        have f2 : fp M (cm_up (cm_up M 27 2 (p + 1)) 27 2 (p + 1 + 1)) := f1.tr fp.up
        rw [show p + 2 = p + 1 + 1 by omega] at epl d2
        refine c49_62 (by decide) hs (p_parseNumber hX hP2 ho (by have := d1.2.2 (by omega); omega) (by omega) (by omega) (fun hb => ?_) (fun hb M2 f3 e3 => ?_)) <;> simp (disch := omega) only [g49_65, g49_67, g49_69, g49_70, g49_73, g49_74, Option.toList_some, Option.toList_none, List.cons_append, List.nil_append, true_and, and_true, true_or, or_true, eq_self, ci0, ci1, cin6, forall_const, not_true_eq_false, not_false_eq_true, fimp, timp, i10, i01, cm_rne, and_assoc]
        · rw [if_pos hb] at epl
          rw [epl] at K0
          (repeat' apply And.intro) <;> (try omega) <;> (try (intro hx; exfalso; omega))
          exact K0 rfl _ f2 (cm_up_s _ _ _ _)
        · rw [if_neg (by omega), show p + 3 = p + 1 + 1 + 1 by omega, ← hk0] at epl
          have hb2 := nmF_b (P := P) (N := N) (most := 999) (v := cD P N (p + 1 + 1)) (p := p + 1 + 1 + 1) (by omega) (by omega) (by omega) (by have := d2.2.2 (by omega); omega)
          (repeat' apply And.intro) <;> (try omega) <;> (try (intro hx; exfalso; omega))
          intro _
          exact cue _ _ _ _ M2 _ (by omega) (by omega) (f2.tr f3) e3 epl
      · rw [if_pos h3] at epl
        rw [epl] at K0
        exact K0 rfl _ f1 (cm_up_s _ _ _ _)
  · intro hkn
    have epl : pl P N p = (0, p, 0, 0, 0, 0) := if_pos hkn
    rw [epl] at K0
    exact K0 rfl M fp.rf hP.2.2
theorem pa_s {f : Nat} : pa P N (f + 1) p T = if (pl P N p).1 = 0 then ((pl P N p).2.1, T) else if (pl P N p).2.1 = N then (-6, sAdd T (pl P N p).2.2.1 (pl P N p).2.2.2.1 (pl P N p).2.2.2.2.1 (pl P N p).2.2.2.2.2) else if ¬ P (pl P N p).2.1 = 44 then ((pl P N p).2.1, sAdd T (pl P N p).2.2.1 (pl P N p).2.2.2.1 (pl P N p).2.2.2.2.1 (pl P N p).2.2.2.2.2) else pa P N f ((pl P N p).2.1 + 1) (sAdd T (pl P N p).2.2.1 (pl P N p).2.2.2.1 (pl P N p).2.2.2.2.1 (pl P N p).2.2.2.2.2) := rfl
/-- the lines of T, with other settings -/
def wT (T : sS) (f : Int → Int) : sS := sSt T f
theorem p_parseInto {f0 : Int → Int} (hX : isP G) (ht : isC G 15) (hPN : M 27 1 = N) (hPk : ∀ k, 0 ≤ k → k < N → M 28 k = P k) (ho : okP P N) (hT : rC M 15 (wT sZ f0)) (K : ∀ M', fq M M' → rC M' 15 (wT (pa P N 61 0 sZ).2 f0) → Q (some (0, (pa P N 61 0 sZ).1)) G M') : Go 48 0 [some (2, 27), some (2, 15), none] [] G M Q := by
  have hs := hX.1
  have hN := ho.1
  simp (disch := omega) only [g48_0, g48_1, g48_2, g48_5, g48_6, g48_8, g48_9, g48_12, g48_15, g48_16, g48_20, g48_23, g48_24, g48_27, g48_28, g48_29, g48_32, g48_33, g48_36, g48_39, g48_41, g48_42, g48_46, g48_48, g48_51, g48_52, g48_55, g48_56, g48_57, g48_57b, g48_58, g48_61, g48_62, g48_63, g48_66, g48_69, g48_72, g48_73, g48_76, Option.toList_some, Option.toList_none, List.cons_append, List.nil_append, true_and, and_true, true_or, or_true, eq_self, ci0, ci1, cin6, forall_const, not_true_eq_false, not_false_eq_true, fimp, timp, i10, i01, cm_rne, and_assoc, hs]
  refine go_loop (σ := Int × sS × cm_M) (fun i _ => [some (2, 27), some (2, 15), some (0, i)]) (fun s => s.2.2) (fun i s => (2 * i ≤ s.1 ∧ s.1 ≤ N) ∧ sN s.2.1 = i ∧ fq M s.2.2 ∧ hPd s.2.2 P N s.1 ∧ rC s.2.2 15 (wT s.2.1 f0) ∧ pa P N (61 - i.toNat) s.1 s.2.1 = pa P N 61 0 sZ) 31 (fun i s hi0 hin hRs ih => ?_) (fun s hRs => ?_) 0 (0, sZ, cm_up M 27 2 0) (by omega) (by omega) ⟨⟨by show 2 * (0 : Int) ≤ 0; omega, by show (0 : Int) ≤ N; omega⟩, rfl, fp.up.q, ⟨?_, fun k a b => ?_, cm_up_s M 27 2 0⟩, hT.fp fp.up, rfl⟩
  · obtain ⟨p, T, s⟩ := s
    obtain ⟨u1, u2, u3, u4, u5, u6⟩ := hRs
    dsimp only at u1 u2 u3 u4 u5 u6 ⊢
    obtain ⟨⟨bl1, bl2⟩, bl3⟩ := pl_b (P := P) u1.2
    rw [show 61 - i.toNat = (61 - (i + 1).toNat) + 1 by omega, pa_s] at u6
    rw [← u6] at K
    rw [g48_7]
    simp (disch := omega) only [g48_0, g48_1, g48_2, g48_5, g48_6, g48_8, g48_9, g48_12, g48_15, g48_16, g48_20, g48_23, g48_24, g48_27, g48_28, g48_29, g48_32, g48_33, g48_36, g48_39, g48_41, g48_42, g48_46, g48_48, g48_51, g48_52, g48_55, g48_56, g48_57, g48_57b, g48_58, g48_61, g48_62, g48_63, g48_66, g48_69, g48_72, g48_73, g48_76, Option.toList_some, Option.toList_none, List.cons_append, List.nil_append, true_and, and_true, true_or, or_true, eq_self, ci0, ci1, cin6, forall_const, not_true_eq_false, not_false_eq_true, fimp, timp, i10, i01, cm_rne, and_assoc, hs, u4.1]
    (repeat' apply And.intro) <;> (try omega) <;> (try (intro hx; exfalso; omega))
    intro _
    refine c48_17 (by decide) hs (p_parseLineInto hX ht u4 ho (by omega) u5 (by show 0 ≤ sN T ∧ sN T < 40; omega) (fun hz M1 f1 e1 => ?_) (fun hz M1 f1 r1 e1 => ?_)) <;> simp (disch := omega) only [g48_0, g48_1, g48_2, g48_5, g48_6, g48_8, g48_9, g48_12, g48_15, g48_16, g48_20, g48_23, g48_24, g48_27, g48_28, g48_29, g48_32, g48_33, g48_36, g48_39, g48_41, g48_42, g48_46, g48_48, g48_51, g48_52, g48_55, g48_56, g48_57, g48_57b, g48_58, g48_61, g48_62, g48_63, g48_66, g48_69, g48_72, g48_73, g48_76, Option.toList_some, Option.toList_none, List.cons_append, List.nil_append, true_and, and_true, true_or, or_true, eq_self, ci0, ci1, cin6, forall_const, not_true_eq_false, not_false_eq_true, fimp, timp, i10, i01, cm_rne, and_assoc, hs, e1]
    · rw [if_pos hz] at K
      exact K M1 (u3.tr f1.q) (u5.fp f1)
    · rw [if_neg (by omega)] at K u6
      obtain ⟨bl4, bl5⟩ := bl3 hz
      have e27 : M1 27 1 = N := by rw [f1.2 1 (by decide)]; exact u4.1
      have hP1 : hPd M1 P N (pl P N p).2.1 := u4.fq f1 e1
      simp (disch := omega) only [g48_0, g48_1, g48_2, g48_5, g48_6, g48_8, g48_9, g48_12, g48_15, g48_16, g48_20, g48_23, g48_24, g48_27, g48_28, g48_29, g48_32, g48_33, g48_36, g48_39, g48_41, g48_42, g48_46, g48_48, g48_51, g48_52, g48_55, g48_56, g48_57, g48_57b, g48_58, g48_61, g48_62, g48_63, g48_66, g48_69, g48_72, g48_73, g48_76, Option.toList_some, Option.toList_none, List.cons_append, List.nil_append, true_and, and_true, true_or, or_true, eq_self, ci0, ci1, cin6, forall_const, not_true_eq_false, not_false_eq_true, fimp, timp, i10, i01, cm_rne, and_assoc, hs, e1, e27]
      (repeat' apply And.intro) <;> (try omega) <;> (try (intro hx; exfalso; omega))
      · intro hne
        rw [if_neg hne] at K u6
        have hlt : (pl P N p).2.1 < N := by omega
        have ob := ho.2 _ (by omega) hlt
        refine c48_43 (by decide) hs (p_character hX hP1 ho (by omega) (fun hz2 => ?_) (fun hz2 => absurd hlt hz2))
        simp (disch := omega) only [g48_0, g48_1, g48_2, g48_5, g48_6, g48_8, g48_9, g48_12, g48_15, g48_16, g48_20, g48_23, g48_24, g48_27, g48_28, g48_29, g48_32, g48_33, g48_36, g48_39, g48_41, g48_42, g48_46, g48_48, g48_51, g48_52, g48_55, g48_56, g48_57, g48_57b, g48_58, g48_61, g48_62, g48_63, g48_66, g48_69, g48_72, g48_73, g48_76, Option.toList_some, Option.toList_none, List.cons_append, List.nil_append, true_and, and_true, true_or, or_true, eq_self, ci0, ci1, cin6, forall_const, not_true_eq_false, not_false_eq_true, fimp, timp, i10, i01, cm_rne, and_assoc, hs, e1]
        (repeat' apply And.intro) <;> (try omega) <;> (try (intro hx; exfalso; omega))
        · intro h44
          rw [if_neg (fun y => y h44)] at u6
          exact ih ((pl P N p).2.1 + 1, _, cm_up M1 27 2 ((pl P N p).2.1 + 1)) ⟨by dsimp only; omega, by show sN T + 1 = i + 1; omega, (u3.tr f1).tr fp.up.q, hP1.fp fp.up (cm_up_s M1 27 2 ((pl P N p).2.1 + 1)), (show rC M1 15 _ from r1).fp fp.up, u6⟩
        · intro h44
          rw [if_pos h44] at K
          exact K M1 (u3.tr f1) r1
      · intro he
        rw [if_pos he] at K
        exact K M1 (u3.tr f1) r1
  · obtain ⟨p, T, s⟩ := s
    obtain ⟨u1, -⟩ := hRs
    dsimp only at u1
    omega
  · dsimp only; rw [cm_up_n _ (Or.inr (by decide))]; exact hPN
  · dsimp only; rw [cm_rne (by decide)]; exact hPk k a b
end PARSE2
