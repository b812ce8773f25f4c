/-! ===== the law: a time of the scroll ===== -/
theorem isFst.y0 {P : Int → Prop} {i r : Int} (h : isFst P i r) (hi : 0 ≤ i) (hr : r < 0) (hp : P i) : isFst P (i + 1) i := by
  rcases h with ⟨a1, a2, a3, a4⟩ | ⟨a1, a2⟩
  · omega
  · exact Or.inl ⟨hi, by omega, hp, a2⟩
theorem isFst.y1 {P : Int → Prop} {i r : Int} (h : isFst P i r) (hr : ¬ r < 0) : isFst P (i + 1) r := by
  rcases h with ⟨a1, a2, a3, a4⟩ | ⟨a1, a2⟩
  · exact Or.inl ⟨a1, by omega, a3, a4⟩
  · omega
theorem isFst.no {P : Int → Prop} {i r : Int} (h : isFst P i r) (hp : ¬ P i) : isFst P (i + 1) r := by
  rcases h with ⟨a1, a2, a3, a4⟩ | ⟨a1, a2⟩
  · exact Or.inl ⟨a1, by omega, a3, a4⟩
  · refine Or.inr ⟨a1, fun j a b => ?_⟩
    by_cases hj : j = i
    · rw [hj]; exact hp
    · exact a2 j a (by omega)
theorem isLst.yes {P : Int → Prop} {i : Int} (hi : 0 ≤ i) (hp : P i) : isLst P (i + 1) i := Or.inl ⟨hi, by omega, hp, fun j a b => absurd b (by omega)⟩
theorem isLst.no {P : Int → Prop} {i r : Int} (h : isLst P i r) (hp : ¬ P i) : isLst P (i + 1) r := by
  rcases h with ⟨a1, a2, a3, a4⟩ | ⟨a1, a2⟩
  · refine Or.inl ⟨a1, by omega, a3, fun j a b => ?_⟩
    by_cases hj : j = i
    · rw [hj]; exact hp
    · exact a4 j a (by omega)
  · refine Or.inr ⟨a1, fun j a b => ?_⟩
    by_cases hj : j = i
    · rw [hj]; exact hp
    · exact a2 j a (by omega)
section LAW7
variable {G : cm_G} {M : cm_M} {A : sA} {ra rh ru t : Int} {Q : Option cm_V → cm_G → cm_M → Prop}
theorem l_times (hX : isX G) (hA : rXA M A) (hv : vA A) (hz : (82 ≤ ra ∧ 82 ≤ rh ∧ 82 ≤ ru) ∧ (∀ M, cm_al 1 G M ra = 41) ∧ (∀ M, cm_al 1 G M rh = 40) ∧ (∀ M, cm_al 1 G M ru = 40)) (hd : rdS M ra rh ru (aS A)) (ht : 0 ≤ t ∧ t ≤ 3000)
    (K : ∀ M', rXA M' A → fr M M' 0 81 → Q (some (0, 1)) G M') :
    Go 72 0 [some (2, 0), some (2, ra), some (2, rh), some (2, ru), some (0, t), none, none, none, none, none, none, none, none, none] [] G M Q := by
  obtain ⟨⟨z1, z2, z3⟩, a1, a2, a3⟩ := hz
  have hv1 := hv.1
  have hn := hv.1.2.1
  have hn0 := hv.1.1
  have hscr := hv.1.2.2.1
  have hs1 := hv.1.2.2.2.1
  have it : cm_in t := ⟨by omega, by omega⟩
  have i4 : cm_in 4 := ⟨by decide, by decide⟩
  have i7 : cm_in 7 := ⟨by decide, by decide⟩
  have i8 : cm_in 8 := ⟨by decide, by decide⟩
  have ht9 : 0 ≤ t ∧ t ≤ 9999 := by omega
  obtain ⟨x0, x1, x2, x3, x4⟩ := xA (S := aS A) ht9
  obtain ⟨d1, d2, d3⟩ := hd
  have hkn : (((sN (aS A)).toNat : Nat) : Int) ≤ sN (aS A) := by omega
  have hpb := pos_b hv1 hkn t.toNat
  have hpb2 := pos_b hv1 hkn (t + 1).toNat
  have hsn := fun i => seen_iff (i := i) hv1 t.toNat
  rw [show ((t.toNat : Nat) : Int) = t by omega] at hsn
  have hps := pos_s (aS A) (sN (aS A)).toNat t.toNat
  generalize hx : pos (aS A) (sN (aS A)).toNat t.toNat = x at *
  simp (disch := omega) only [g72_0, g72_1, Option.toList_some, Option.toList_none, List.cons_append, List.nil_append, true_and, and_true, true_or, or_true, eq_self, ci0, ci1, cin6, forall_const, not_true_eq_false, not_false_eq_true, fimp, timp, i10, i01, cm_rne, and_assoc]
  refine c72_2 (Nat.le_of_ble_eq_true rfl) hX.1 (p_count hX hA hv cn0 (fun M1 r1 f1 => ?_))
  simp (disch := omega) only [xC0, g72_5, g72_7, g72_8, g72_10, Option.toList_some, Option.toList_none, List.cons_append, List.nil_append, true_and, and_true, true_or, or_true, eq_self, ci0, ci1, cin6, forall_const, not_true_eq_false, not_false_eq_true, fimp, timp, i10, i01, cm_rne, and_assoc]
  refine c72_11 (Nat.le_of_ble_eq_true rfl) hX.1 (p_at hX r1 hv it i4 (fun M2 r2 f2 => ?_))
  rw [x4]
  simp (disch := omega) only [g72_14, g72_16, g72_18, g72_20, g72_22, g72_24, g72_25, g72_27, g72_28, Option.toList_some, Option.toList_none, List.cons_append, List.nil_append, true_and, and_true, true_or, or_true, eq_self, ci0, ci1, cin6, forall_const, not_true_eq_false, not_false_eq_true, fimp, timp, i10, i01, cm_rne, and_assoc]
  refine c72_30 (Nat.le_of_ble_eq_true rfl) hX.1 (p_count hX r2 hv i8 (fun M3 r3 f3 => ?_))
  simp (disch := omega) only [xC8, g72_33, g72_35, g72_36, Option.toList_some, Option.toList_none, List.cons_append, List.nil_append, true_and, and_true, true_or, or_true, eq_self, ci0, ci1, cin6, forall_const, not_true_eq_false, not_false_eq_true, fimp, timp, i10, i01, cm_rne, and_assoc]
  refine c72_38 (Nat.le_of_ble_eq_true rfl) hX.1 (p_count hX r3 hv i7 (fun M4 r4 f4 => ?_))
  simp (disch := omega) only [xC7, g72_41, g72_43, g72_44, Option.toList_some, Option.toList_none, List.cons_append, List.nil_append, true_and, and_true, true_or, or_true, eq_self, ci0, ci1, cin6, forall_const, not_true_eq_false, not_false_eq_true, fimp, timp, i10, i01, cm_rne, and_assoc]
  have f14 := ((f1.tr f2).tr f3).tr f4
  have e1 : ∀ i, 0 ≤ i → i ≤ sN (aS A) → M4 ra i = tI (aS A) i := fun i a b => by rw [f14 ra (by omega)]; exact d1 i a b
  have e2 : ∀ i, 0 ≤ i → i < sN (aS A) → M4 rh i = sH (aS A) i := fun i a b => by rw [f14 rh (by omega)]; exact d2 i a b
  have e3 : ∀ i, 0 ≤ i → i < sN (aS A) → M4 ru i = sC (aS A) i := fun i a b => by rw [f14 ru (by omega)]; exact d3 i a b
  refine go_loop (σ := (Int × Int) × Option cm_V) (fun i s => [some (2, 0), some (2, ra), some (2, rh), some (2, ru), some (0, t), some (0, sN (aS A)), some (0, x), some (0, s.1.1), some (0, s.1.2), some (0, cntP (seen (aS A) t) i.toNat), some (0, sp (aS A) i.toNat x), some (0, sT (aS A) 0), some (0, i), s.2]) (fun _ => M4) (fun i s => isFst (seen (aS A) t) i s.1.1 ∧ isLst (seen (aS A) t) i s.1.2) (sN (aS A)) (fun i s hi0 hin hRi ihi => ?_) (fun s hRi => ?_) 0 ((-6, -6), none) (by omega) hn0 ⟨Or.inr ⟨rfl, fun j a b => absurd a (by omega)⟩, Or.inr ⟨rfl, fun j a b => absurd a (by omega)⟩⟩
  · obtain ⟨⟨fi, la⟩, y13⟩ := s
    obtain ⟨h1, h2⟩ := hRi
    dsimp only at h1 h2 ihi ⊢
    have w := hv1.2.2.2.2.2 i hi0 hin
    have hti := tI_b hv1 hi0
    have hts := tI_s (aS A) hi0
    have hsh := vS_h hv1 i
    have next : (i + 1).toNat = i.toNat + 1 := by omega
    have ei : ((i.toNat : Nat) : Int) = i := by omega
    have stp : sp (aS A) (i.toNat + 1) x = if 0 < sC (aS A) i ∧ 10 * tI (aS A) i ≤ x then sC (aS A) i else sp (aS A) i.toNat x := by
      show (if 0 < sC (aS A) ((i.toNat : Nat) : Int) ∧ 10 * tp (aS A) i.toNat ≤ x then sC (aS A) ((i.toNat : Nat) : Int) else sp (aS A) i.toNat x) = _
      rw [ei]
      rfl
    have hc := cntP_s (seen (aS A) t) hi0
    have hcb := cntP_b (seen (aS A) t) i.toNat
    have hs := hsn i
    have hfb : -6 ≤ fi ∧ fi < 40 := by rcases h1 with ⟨a, b, -⟩ | ⟨a, -⟩ <;> omega
    -- behind the count
    have tail : ∀ (fi' la' ma' b : Int), isFst (seen (aS A) t) (i + 1) fi' → isLst (seen (aS A) t) (i + 1) la' → ma' = cntP (seen (aS A) t) (i + 1).toNat → Go 72 140 [some (2, 0), some (2, ra), some (2, rh), some (2, ru), some (0, t), some (0, sN (aS A)), some (0, x), some (0, fi'), some (0, la'), some (0, ma'), some (0, sp (aS A) i.toNat x), some (0, sT (aS A) 0), some (0, i), some (0, b)] [] G M4 Q := by
      intro fi' la' ma' b k1 k2 k3
      rw [k3]
      have go1 := ihi ((fi', la'), some (0, b)) ⟨k1, k2⟩
      dsimp only at go1
      rw [show sp (aS A) (i + 1).toNat x = sp (aS A) (i.toNat + 1) x by rw [next], stp] at go1
      simp (disch := omega) only [g72_140, g72_141, g72_143, g72_144, g72_147, g72_149, g72_151, g72_152, g72_154, g72_155, g72_156, g72_159, g72_160, g72_162, g72_163, g72_166, g72_168, g72_170, g72_173, Option.toList_some, Option.toList_none, List.cons_append, List.nil_append, true_and, and_true, true_or, or_true, eq_self, ci0, ci1, cin6, forall_const, not_true_eq_false, not_false_eq_true, fimp, timp, i10, i01, cm_rne, and_assoc, a1, a3, e1 i hi0 (by omega), e3 i hi0 hin]
      (repeat' apply And.intro) <;> (try omega) <;> (try (intro hx; exfalso; omega))
      · intro hz
        rw [if_neg (fun z => hz z.1)] at go1
        exact go1
      · intro hz
        (repeat' apply And.intro) <;> (try omega) <;> (try (intro hx; exfalso; omega))
        · intro h3
          rw [if_neg (by omega)] at go1
          exact go1
        · intro h3
          (repeat' apply And.intro) <;> (try omega) <;> (try (intro hx; exfalso; omega))
          rw [if_pos ⟨hz, by omega⟩] at go1
          exact go1
    have mid : ∀ b, (b = 1 ∧ seen (aS A) t i) ∨ (b = 0 ∧ ¬ seen (aS A) t i) → Go 72 92 [some (2, 0), some (2, ra), some (2, rh), some (2, ru), some (0, t), some (0, sN (aS A)), some (0, x), some (0, fi), some (0, la), some (0, cntP (seen (aS A) t) i.toNat), some (0, sp (aS A) i.toNat x), some (0, sT (aS A) 0), some (0, i), some (0, b)] [] G M4 Q := by
      intro b hb
      rcases hb with ⟨rfl, hb⟩ | ⟨rfl, hb⟩
      · simp (disch := omega) only [g72_92, g72_94, g72_97, g72_99, g72_102, g72_104, g72_107, g72_109, g72_111, g72_113, g72_116, g72_118, g72_121, g72_123, g72_125, g72_127, g72_129, g72_132, g72_133, g72_136, g72_137, g72_138, Option.toList_some, Option.toList_none, List.cons_append, List.nil_append, true_and, and_true, true_or, or_true, eq_self, ci0, ci1, cin6, forall_const, not_true_eq_false, not_false_eq_true, fimp, timp, i10, i01, cm_rne, and_assoc]
        (repeat' apply And.intro) <;> (try omega) <;> (try (intro hx; exfalso; omega))
        · intro hf
          exact tail fi i _ 1 (h1.y1 hf) (isLst.yes hi0 hb) (hc.1 hb).symm
        · intro hf
          exact tail i i _ 1 (h1.y0 hi0 hf hb) (isLst.yes hi0 hb) (hc.1 hb).symm
      · simp (disch := omega) only [g72_92, g72_94, g72_97, g72_99, g72_102, g72_104, g72_107, g72_109, g72_111, g72_113, g72_116, g72_118, g72_121, g72_123, g72_125, g72_127, g72_129, g72_132, g72_133, g72_136, g72_137, g72_138, Option.toList_some, Option.toList_none, List.cons_append, List.nil_append, true_and, and_true, true_or, or_true, eq_self, ci0, ci1, cin6, forall_const, not_true_eq_false, not_false_eq_true, fimp, timp, i10, i01, cm_rne, and_assoc]
        exact tail fi la _ 0 (h1.no hb) (h2.no hb) (by rw [hc.2 hb]; omega)
    rw [g72_46]
    simp (disch := omega) only [g72_48, g72_50, g72_53, g72_55, g72_57, g72_58, g72_60, g72_61, g72_62, g72_64, g72_65, g72_66, g72_67, g72_70, g72_72, g72_74, g72_75, g72_77, g72_78, g72_80, g72_81, g72_82, g72_85, g72_86, g72_89, g72_90, Option.toList_some, Option.toList_none, List.cons_append, List.nil_append, true_and, and_true, true_or, or_true, eq_self, ci0, ci1, cin6, forall_const, not_true_eq_false, not_false_eq_true, fimp, timp, i10, i01, cm_rne, and_assoc, a1, a2, e1 i hi0 (by omega), e2 i hi0 hin]
    (repeat' apply And.intro) <;> (try omega) <;> (try (intro hx; exfalso; omega))
    intro _
    (repeat' apply And.intro) <;> (try omega) <;> (try (intro hx; exfalso; omega))
    · intro h3
      exact mid 0 (Or.inr ⟨rfl, fun z => by have := hs.mp z; omega⟩)
    · intro h3
      (repeat' apply And.intro) <;> (try omega) <;> (try (intro hx; exfalso; omega))
      · intro h4
        exact mid 0 (Or.inr ⟨rfl, fun z => by have := hs.mp z; omega⟩)
      · intro h4
        exact mid 1 (Or.inl ⟨rfl, hs.mpr (by omega)⟩)
  · obtain ⟨⟨fi, la⟩, y13⟩ := s
    obtain ⟨h1, h2⟩ := hRi
    dsimp only at h1 h2 ⊢
    have hspb := sp_b hv1 (sN (aS A)).toNat x hkn
    have hcb := cntP_b (seen (aS A) t) (sN (aS A)).toNat
    have hfb : -6 ≤ fi ∧ fi < 40 := by rcases h1 with ⟨a, b, -⟩ | ⟨a, -⟩ <;> omega
    have hlb : -6 ≤ la ∧ la < 40 := by rcases h2 with ⟨a, b, -⟩ | ⟨a, -⟩ <;> omega
    rw [g72_46]
    simp (disch := omega) only [g72_48, g72_50, g72_176, g72_177, g72_179, Option.toList_some, Option.toList_none, List.cons_append, List.nil_append, true_and, and_true, true_or, or_true, eq_self, ci0, ci1, cin6, forall_const, not_true_eq_false, not_false_eq_true, fimp, timp, i10, i01, cm_rne, and_assoc]
    (repeat' apply And.intro) <;> (try omega) <;> (try (intro hx; exfalso; omega))
    intro _
    refine c72_180 (Nat.le_of_ble_eq_true rfl) hX.1 (p_at hX r4 hv it cn0 (fun M5 r5 f5 => ?_))
    rw [x0, ← fstOf_e h1]
    simp (disch := omega) only [g72_183, g72_185, g72_188, g72_189, g72_191, Option.toList_some, Option.toList_none, List.cons_append, List.nil_append, true_and, and_true, true_or, or_true, eq_self, ci0, ci1, cin6, forall_const, not_true_eq_false, not_false_eq_true, fimp, timp, i10, i01, cm_rne, and_assoc]
    (repeat' apply And.intro) <;> (try omega) <;> (try (intro hx; exfalso; omega))
    refine c72_192 (Nat.le_of_ble_eq_true rfl) hX.1 (p_at hX r5 hv it cn1 (fun M6 r6 f6 => ?_))
    rw [x1, ← lstOf_e h2]
    simp (disch := omega) only [g72_195, g72_197, g72_200, g72_201, g72_203, Option.toList_some, Option.toList_none, List.cons_append, List.nil_append, true_and, and_true, true_or, or_true, eq_self, ci0, ci1, cin6, forall_const, not_true_eq_false, not_false_eq_true, fimp, timp, i10, i01, cm_rne, and_assoc]
    (repeat' apply And.intro) <;> (try omega) <;> (try (intro hx; exfalso; omega))
    refine c72_204 (Nat.le_of_ble_eq_true rfl) hX.1 (p_at hX r6 hv it ⟨by decide, by decide⟩ (fun M7 r7 f7 => ?_))
    rw [x2]
    simp (disch := omega) only [g72_207, g72_209, g72_212, g72_213, g72_215, Option.toList_some, Option.toList_none, List.cons_append, List.nil_append, true_and, and_true, true_or, or_true, eq_self, ci0, ci1, cin6, forall_const, not_true_eq_false, not_false_eq_true, fimp, timp, i10, i01, cm_rne, and_assoc]
    (repeat' apply And.intro) <;> (try omega) <;> (try (intro hx; exfalso; omega))
    refine c72_216 (Nat.le_of_ble_eq_true rfl) hX.1 (p_at hX r7 hv it ⟨by decide, by decide⟩ (fun M8 r8 f8 => ?_))
    rw [x3]
    simp (disch := omega) only [g72_219, g72_221, g72_224, g72_225, g72_227, g72_228, g72_229, Option.toList_some, Option.toList_none, List.cons_append, List.nil_append, true_and, and_true, true_or, or_true, eq_self, ci0, ci1, cin6, forall_const, not_true_eq_false, not_false_eq_true, fimp, timp, i10, i01, cm_rne, and_assoc]
    (repeat' apply And.intro) <;> (try omega) <;> (try (intro hx; exfalso; omega))
    refine c72_230 (Nat.le_of_ble_eq_true rfl) hX.1 (p_at hX r8 hv (t := t + 1) ⟨by omega, by omega⟩ i4 (fun M9 r9 f9 => ?_))
    rw [(xA (S := aS A) (t := t + 1) (by omega)).2.2.2.2, show (t + 1).toNat = t.toNat + 1 by omega, hps]
    simp (disch := omega) only [g72_233, g72_235, g72_237, g72_238, g72_241, g72_242, g72_243, Option.toList_some, Option.toList_none, List.cons_append, List.nil_append, true_and, and_true, true_or, or_true, eq_self, ci0, ci1, cin6, forall_const, not_true_eq_false, not_false_eq_true, fimp, timp, i10, i01, cm_rne, and_assoc]
    (repeat' apply And.intro) <;> (try omega) <;> (try (intro hx; exfalso; omega))
    refine c72_244 (Nat.le_of_ble_eq_true rfl) hX.1 (p_at hX r9 hv cn0 i4 (fun Ma ra' fa => ?_))
    have e0 : xAt (aS A) 0 4 = 0 := (xA (S := aS A) (t := 0) (by omega)).2.2.2.2
    rw [e0]
    simp (disch := omega) only [g72_247, g72_250, g72_251, g72_254, g72_255, Option.toList_some, Option.toList_none, List.cons_append, List.nil_append, true_and, and_true, true_or, or_true, eq_self, ci0, ci1, cin6, forall_const, not_true_eq_false, not_false_eq_true, fimp, timp, i10, i01, cm_rne, and_assoc]
    exact K Ma ra' (((((f14.tr f5).tr f6).tr f7).tr f8).tr (f9.tr fa))
end LAW7
