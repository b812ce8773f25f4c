/-! ===== the reference reads ===== -/
/-- the pad of the reference: N characters P, the place p, the fault x -/
def hRd (M : cm_M) (m : Int) (P : Int → Int) (N p x : Int) : Prop := M m 6 = N ∧ (∀ k, 0 ≤ k → k < N → M (m + 5) k = P k) ∧ M m 15 = p ∧ M m 16 = x
/-- only place and fault are others -/
def fs2 (M M' : cm_M) (m : Int) : Prop := (∀ k, k ≠ m → M' k = M k) ∧ ∀ j, j ≠ 15 → j ≠ 16 → M' m j = M m j
theorem fs2.rf {M : cm_M} {m : Int} : fs2 M M m := ⟨fun _ _ => rfl, fun _ _ _ => rfl⟩
theorem fs2.tr {M M1 M2 : cm_M} {m : Int} (h1 : fs2 M M1 m) (h2 : fs2 M1 M2 m) : fs2 M M2 m := ⟨fun k a => (h2.1 k a).trans (h1.1 k a), fun j a b => (h2.2 j a b).trans (h1.2 j a b)⟩
theorem hRd.f {M M1 : cm_M} {m : Int} {P : Int → Int} {N p x q y : Int} (h : hRd M m P N p x) (f : fs2 M M1 m) (e : M1 m 15 = q) (e2 : M1 m 16 = y) : hRd M1 m P N q y := ⟨by rw [f.2 6 (by decide) (by decide)]; exact h.1, fun k a b => by rw [f.1 (m + 5) (by omega)]; exact h.2.1 k a b, e, e2⟩
section RPARSE
variable {G : cm_G} {M : cm_M} {P : Int → Int} {m N p x i j t v w g h s n k u a b least most : Int} {S T : sS} {A : sA} {Q : Option cm_V → cm_G → cm_M → Prop}
def rL (P : Int → Int) (N p : Int) : Int := if p < N then P p else -6
theorem rL_b (ho : okP P N) (hp : 0 ≤ p) : -6 ≤ rL P N p ∧ rL P N p ≤ 65535 := by
  unfold rL
  by_cases h : p < N
  · rw [if_pos h]; have := ho.2 p hp h; omega
  · rw [if_neg h]; omega
theorem rL_c {c : Int} (hc : 0 ≤ c) : rL P N p = c ↔ p < N ∧ P p = c := by
  unfold rL
  by_cases h : p < N
  · rw [if_pos h]; exact ⟨fun z => ⟨h, z⟩, fun z => z.2⟩
  · rw [if_neg h]; exact ⟨fun z => by omega, fun z => absurd z.1 h⟩
theorem rL_d : (0 ≤ rL P N p - 48 ∧ rL P N p - 48 ≤ 9 → cD P N p = rL P N p - 48) ∧ (¬ (0 ≤ rL P N p - 48 ∧ rL P N p - 48 ≤ 9) → cD P N p = -1) := by
  unfold rL cD
  by_cases h : p < N
  · rw [if_pos h]
    refine ⟨fun z => by rw [if_pos ⟨h, by omega, by omega⟩], fun z => by rw [if_neg (fun y => z (by omega))]⟩
  · rw [if_neg h, if_neg (fun y => h y.1)]
    exact ⟨fun z => by omega, fun _ => rfl⟩
theorem q_letter (hm : isM G m) (hP : hRd M m P N p x) (ho : okP P N) (hp : 0 ≤ p ∧ p ≤ 1000) (K : Q (some (0, rL P N p)) G M) : Go 132 0 [some (2, m)] [] G M Q := by
  obtain ⟨h0, hsh, ⟨e0, e1, e2, e3, e5, e7, e8, e9, e10, e12, e13⟩, a0, a1, a2, a3, a5, a7, a8, a9, a10, a12, a13⟩ := hm
  obtain ⟨h1, h2, h3, h4⟩ := hP
  obtain ⟨o1, o2⟩ := ho
  unfold rL at K
  simp (disch := omega) only [g132_0, g132_1, g132_4, g132_5, g132_8, g132_11, g132_12, g132_15, g132_16, g132_19, g132_20, g132_23, g132_25, Option.toList_some, Option.toList_none, List.cons_append, List.nil_append, true_and, and_true, true_or, or_true, eq_self, ci0, ci1, cin6, forall_const, not_true_eq_false, not_false_eq_true, fimp, timp, i10, i01, cm_rne, and_assoc, hsh, e5, a5, h1, h3]
  (repeat' apply And.intro) <;> (try omega) <;> (try (intro hx; exfalso; omega))
  · intro hge
    rw [if_neg hge] at K
    exact K
  · intro hlt
    rw [if_pos hlt] at K
    (repeat' apply And.intro) <;> (try omega) <;> (try (intro hx; exfalso; omega))
    rw [h2 p hp.1 hlt]
    exact K
/-- with a fault already: nothing -/
theorem q_wants2 (hm : isM G m) (hx : M m 16 = x) (hxb : cm_in x) (hne : ¬ x = -6) (K : Q none G M) : Go 133 0 [some (2, m), some (0, w)] [] G M Q := by
  have hsh := hm.2.1
  simp (disch := omega) only [g133_0, g133_1, g133_4, g133_6, g133_9, g133_10, g133_11, g133_14, g133_16, g133_19, g133_20, g133_23, g133_26, g133_27, g133_27b, g133_28, g133_31, g133_32, g133_33, g133_36, Option.toList_some, Option.toList_none, List.cons_append, List.nil_append, true_and, and_true, true_or, or_true, eq_self, ci0, ci1, cin6, forall_const, not_true_eq_false, not_false_eq_true, fimp, timp, i10, i01, cm_rne, and_assoc, hsh, hx]
  (repeat' apply And.intro) <;> (try omega) <;> (try (intro hx; exfalso; omega))
  · exact fun _ => K
theorem q_wants (hm : isM G m) (hx : M m 16 = -6) (hp : M m 15 = p) (hpb : 0 ≤ p ∧ p ≤ 1000) (hw : w = 0 ∨ w = 1) (K : ∀ M', fs2 M M' m → M' m 15 = p + 1 → M' m 16 = (if w = 1 then -6 else p) → Q none G M') : Go 133 0 [some (2, m), some (0, w)] [] G M Q := by
  have hsh := hm.2.1
  have g1 : ∀ y : Int, cm_up M m 16 y m 15 = p := fun y => by rw [cm_up_n _ (Or.inr (by decide))]; exact hp
  have fin : ∀ y : Int, fs2 M (cm_up (cm_up M m 16 y) m 15 (p + 1)) m := fun y => ⟨fun k a => by rw [cm_rne a, cm_rne a], fun j a b => by rw [cm_up_n _ (Or.inr a), cm_up_n _ (Or.inr b)]⟩
  have e2 : ∀ y : Int, cm_up (cm_up M m 16 y) m 15 (p + 1) m 16 = y := fun y => by rw [cm_up_n _ (Or.inr (by decide))]; exact cm_up_s _ _ _ _
  simp (disch := omega) only [g133_0, g133_1, g133_4, g133_6, g133_9, g133_10, g133_11, g133_14, g133_16, g133_19, g133_20, g133_23, g133_26, g133_27, g133_27b, g133_28, g133_31, g133_32, g133_33, g133_36, Option.toList_some, Option.toList_none, List.cons_append, List.nil_append, true_and, and_true, true_or, or_true, eq_self, ci0, ci1, cin6, forall_const, not_true_eq_false, not_false_eq_true, fimp, timp, i10, i01, cm_rne, and_assoc, hsh, hx, hp, g1]
  (repeat' apply And.intro) <;> (try omega) <;> (try (intro hx; exfalso; omega))
  · intro hz
    (repeat' apply And.intro) <;> (try omega) <;> (try (intro hx; exfalso; omega))
    refine K _ (fin p) (cm_up_s _ _ _ _) ?_
    rw [e2, if_neg (by omega)]
  · intro hz
    (repeat' apply And.intro) <;> (try omega) <;> (try (intro hx; exfalso; omega))
    refine K _ (fin (-6)) (cm_up_s _ _ _ _) ?_
    rw [e2, if_pos (by omega)]
/-- a number, no fault so far -/
theorem q_number (hm : isM G m) (hP : hRd M m P N p (-6)) (ho : okP P N) (hp : 0 ≤ p ∧ p ≤ N + 5) (hl : 0 ≤ least ∧ least ≤ 1) (hmo : 9 ≤ most ∧ most ≤ 999) (K0 : cD P N p < least → ∀ M' v, cm_in v → fs2 M M' m → M' m 16 = p → Q (some (0, v)) G M') (K1 : least ≤ cD P N p → ∀ M', fs2 M M' m → M' m 16 = -6 → M' m 15 = (nmF P N most (cD P N p) (p + 1)).2 → Q (some (0, (nmF P N most (cD P N p) (p + 1)).1)) G M') : Go 134 0 [some (2, m), some (0, least), some (0, most), none, none] [] G M Q := by
  have hsh := hm.2.1
  have hd := cD_b P N p
  have hN := ho.1
  have hlb := rL_b ho hp.1
  have hld := rL_d (P := P) (N := N) (p := p)
  simp (disch := omega) only [g134_0, g134_4, g134_6, g134_7, g134_8, g134_9, g134_10, g134_11, g134_19, g134_23, g134_25, g134_26, g134_29, g134_32, g134_34, g134_37, g134_38, g134_41, g134_43, g134_44, g134_49, g134_52, g134_54, g134_55, g134_56, g134_58, g134_59, g134_60, g134_63, g134_65, g134_66, g134_67, g134_69, g134_70, g134_71, g134_72, g134_72b, g134_73, g134_76, g134_77, g134_78, g134_81, g134_85, g134_87, g134_88, g134_90, g134_93, g134_94, Option.toList_some, Option.toList_none, List.cons_append, List.nil_append, true_and, and_true, true_or, or_true, eq_self, ci0, ci1, cin6, forall_const, not_true_eq_false, not_false_eq_true, fimp, timp, i10, i01, cm_rne, and_assoc]
  refine c134_1 (by decide) hsh (q_letter hm hP ho (by omega) ?_)
  simp (disch := omega) only [g134_0, g134_4, g134_6, g134_7, g134_8, g134_9, g134_10, g134_11, g134_19, g134_23, g134_25, g134_26, g134_29, g134_32, g134_34, g134_37, g134_38, g134_41, g134_43, g134_44, g134_49, g134_52, g134_54, g134_55, g134_56, g134_58, g134_59, g134_60, g134_63, g134_65, g134_66, g134_67, g134_69, g134_70, g134_71, g134_72, g134_72b, g134_73, g134_76, g134_77, g134_78, g134_81, g134_85, g134_87, g134_88, g134_90, g134_93, g134_94, Option.toList_some, Option.toList_none, List.cons_append, List.nil_append, true_and, and_true, true_or, or_true, eq_self, ci0, ci1, cin6, forall_const, not_true_eq_false, not_false_eq_true, fimp, timp, i10, i01, cm_rne, and_assoc]
  (repeat' apply And.intro) <;> (try omega) <;> (try (intro hx; exfalso; omega))
  refine c134_13 (Nat.le_of_ble_eq_true rfl) (q_in (by constructor <;> omega) (by constructor <;> omega) ⟨by decide, by decide⟩ (fun hz => ?_) (fun hz => ?_)) <;> simp (disch := omega) only [g134_0, g134_4, g134_6, g134_7, g134_8, g134_9, g134_10, g134_11, g134_19, g134_23, g134_25, g134_26, g134_29, g134_32, g134_34, g134_37, g134_38, g134_41, g134_43, g134_44, g134_49, g134_52, g134_54, g134_55, g134_56, g134_58, g134_59, g134_60, g134_63, g134_65, g134_66, g134_67, g134_69, g134_70, g134_71, g134_72, g134_72b, g134_73, g134_76, g134_77, g134_78, g134_81, g134_85, g134_87, g134_88, g134_90, g134_93, g134_94, Option.toList_some, Option.toList_none, List.cons_append, List.nil_append, true_and, and_true, true_or, or_true, eq_self, ci0, ci1, cin6, forall_const, not_true_eq_false, not_false_eq_true, fimp, timp, i10, i01, cm_rne, and_assoc]
  · -- it stands
    have ed : cD P N p = rL P N p - 48 := hld.1 (by omega)
    have hpN := hd.2.2 (by omega)
    have hz1 : least ≤ cD P N p := by omega
    rw [← ed]
    refine c134_16 (by decide) hsh (q_wants hm hP.2.2.2 hP.2.2.1 (by omega) (Or.inr rfl) (fun M1 f1 e15 e16 => ?_))
    rw [if_pos rfl] at e16
    have hP1 : hRd M1 m P N (p + 1) (-6) := hP.f f1 e15 e16
    simp (disch := omega) only [g134_0, g134_4, g134_6, g134_7, g134_8, g134_9, g134_10, g134_11, g134_19, g134_23, g134_25, g134_26, g134_29, g134_32, g134_34, g134_37, g134_38, g134_41, g134_43, g134_44, g134_49, g134_52, g134_54, g134_55, g134_56, g134_58, g134_59, g134_60, g134_63, g134_65, g134_66, g134_67, g134_69, g134_70, g134_71, g134_72, g134_72b, g134_73, g134_76, g134_77, g134_78, g134_81, g134_85, g134_87, g134_88, g134_90, g134_93, g134_94, Option.toList_some, Option.toList_none, List.cons_append, List.nil_append, true_and, and_true, true_or, or_true, eq_self, ci0, ci1, cin6, forall_const, not_true_eq_false, not_false_eq_true, fimp, timp, i10, i01, cm_rne, and_assoc]
    refine c134_20 (by decide) hsh (q_letter hm hP1 ho (by omega) ?_)
    have hlb1 := rL_b (N := N) (p := p + 1) ho (by omega)
    simp (disch := omega) only [g134_0, g134_4, g134_6, g134_7, g134_8, g134_9, g134_10, g134_11, g134_19, g134_23, g134_25, g134_26, g134_29, g134_32, g134_34, g134_37, g134_38, g134_41, g134_43, g134_44, g134_49, g134_52, g134_54, g134_55, g134_56, g134_58, g134_59, g134_60, g134_63, g134_65, g134_66, g134_67, g134_69, g134_70, g134_71, g134_72, g134_72b, g134_73, g134_76, g134_77, g134_78, g134_81, g134_85, g134_87, g134_88, g134_90, g134_93, g134_94, Option.toList_some, Option.toList_none, List.cons_append, List.nil_append, true_and, and_true, true_or, or_true, eq_self, ci0, ci1, cin6, forall_const, not_true_eq_false, not_false_eq_true, fimp, timp, i10, i01, cm_rne, and_assoc]
    (repeat' apply And.intro) <;> (try omega) <;> (try (intro hx; exfalso; omega))
    have K2 := K1 hz1
    refine go_loop (σ := Int × cm_M) (fun i s => [some (2, m), some (0, least), some (0, most), some (0, s.1), some (0, rL P N i - 48)]) (fun s => s.2) (fun i s => (0 ≤ s.1 ∧ s.1 ≤ most) ∧ nmF P N most s.1 i = nmF P N most (cD P N p) (p + 1) ∧ fs2 M s.2 m ∧ s.2 m 15 = i ∧ s.2 m 16 = -6) N (fun i s hi0 hin hRs ih => ?_) (fun s hRs => ?_) (p + 1) (cD P N p, M1) (by omega) (by omega) ⟨⟨by show 0 ≤ cD P N p; omega, by show cD P N p ≤ most; omega⟩, rfl, f1, e15, e16⟩
    · obtain ⟨v, s⟩ := s
      obtain ⟨u1, u2, u3, u4, u5⟩ := hRs
      dsimp only at u1 u2 u3 u4 u5 ⊢
      have hPs : hRd s m P N i (-6) := hP.f u3 u4 u5
      have hld2 := rL_d (P := P) (N := N) (p := i)
      have hlb2 := rL_b (N := N) ho hi0
      rw [nmF_s hin] at u2
      have stop : ¬ (¬ v = 0 ∧ 0 ≤ cD P N i ∧ 10 * v + cD P N i ≤ most) → Q (some (0, v)) G s := by
        intro hz
        rw [if_neg hz] at u2
        rw [← u2] at K2
        exact K2 s u3 u5 u4
      rw [g134_28]
      simp (disch := omega) only [g134_29, g134_32, g134_34, g134_37, g134_38, g134_41, g134_43, g134_44, g134_90, g134_93, g134_94, Option.toList_some, Option.toList_none, List.cons_append, List.nil_append, true_and, and_true, true_or, or_true, eq_self, ci0, ci1, cin6, forall_const, not_true_eq_false, not_false_eq_true, fimp, timp, i10, i01, cm_rne, and_assoc, hsh, u5]
      (repeat' apply And.intro) <;> (try omega) <;> (try (intro hx; exfalso; omega))
      · intro hv0
        exact stop (by omega)
      · intro hv0
        refine c134_46 (by decide) (q_in (by constructor <;> omega) cn0 ⟨by decide, by decide⟩ (fun h1 => ?_) (fun h1 => ?_)) <;> simp (disch := omega) only [g134_49, g134_52, g134_54, g134_55, g134_56, g134_58, g134_59, g134_60, g134_63, g134_65, g134_66, g134_67, g134_69, g134_70, g134_71, g134_72, g134_72b, g134_73, g134_76, g134_77, g134_78, g134_81, g134_90, g134_93, g134_94, Option.toList_some, Option.toList_none, List.cons_append, List.nil_append, true_and, and_true, true_or, or_true, eq_self, ci0, ci1, cin6, forall_const, not_true_eq_false, not_false_eq_true, fimp, timp, i10, i01, cm_rne, and_assoc, hsh, u4]
        · have ed2 := hld2.1 h1
          (repeat' apply And.intro) <;> (try omega) <;> (try (intro hx; exfalso; omega))
          · intro h2
            exact stop (by omega)
          · intro h2
            (repeat' apply And.intro) <;> (try omega) <;> (try (intro hx; exfalso; omega))
            rw [if_pos (by omega)] at u2
            have e6 : cm_up s m 15 (i + 1) m 16 = -6 := by rw [cm_up_n _ (Or.inr (by decide))]; exact u5
            have f6 : fs2 M (cm_up s m 15 (i + 1)) m := u3.tr ⟨fun k a => cm_rne a, fun j a b => cm_up_n _ (Or.inr a)⟩
            have hP6 : hRd (cm_up s m 15 (i + 1)) m P N (i + 1) (-6) := hP.f f6 (cm_up_s _ _ _ _) e6
            refine c134_82 (by decide) hsh (q_letter hm hP6 ho (by omega) ?_)
            have hlb3 := rL_b (N := N) (p := i + 1) ho (by omega)
            simp (disch := omega) only [g134_85, g134_87, g134_88, g134_90, Option.toList_some, Option.toList_none, List.cons_append, List.nil_append, true_and, and_true, true_or, or_true, eq_self, ci0, ci1, cin6, forall_const, not_true_eq_false, not_false_eq_true, fimp, timp, i10, i01, cm_rne, and_assoc]
            (repeat' apply And.intro) <;> (try omega) <;> (try (intro hx; exfalso; omega))
            rw [← ed2]
            refine ih (10 * v + cD P N i, cm_up s m 15 (i + 1)) ⟨by dsimp only; omega, u2, f6, cm_up_s s m 15 (i + 1), e6⟩
        · have ed2 := hld2.2 h1
          exact stop (by omega)
    · obtain ⟨v, s⟩ := s
      obtain ⟨u1, u2, u3, u4, u5⟩ := hRs
      dsimp only at u1 u2 u3 u4 u5 ⊢
      rw [nmF_e (by omega)] at u2
      rw [← u2] at K2
      have fin := K2 s u3 u5 u4
      have e6 : rL P N N = -6 := if_neg (by omega)
      rw [g134_28, e6]
      simp (disch := omega) only [g134_29, g134_32, g134_34, g134_37, g134_38, g134_41, g134_43, g134_44, g134_90, g134_93, g134_94, Option.toList_some, Option.toList_none, List.cons_append, List.nil_append, true_and, and_true, true_or, or_true, eq_self, ci0, ci1, cin6, forall_const, not_true_eq_false, not_false_eq_true, fimp, timp, i10, i01, cm_rne, and_assoc, hsh, u5]
      (repeat' apply And.intro) <;> (try omega) <;> (try (intro hx; exfalso; omega))
      · exact fun _ => fin
      · intro _
        refine c134_46 (by decide) (q_in ⟨by decide, by decide⟩ cn0 ⟨by decide, by decide⟩ (fun h1 => absurd h1 (by decide)) (fun h1 => ?_))
        simp (disch := omega) only [g134_49, g134_52, g134_54, g134_55, g134_56, g134_58, g134_59, g134_60, g134_63, g134_65, g134_66, g134_67, g134_69, g134_70, g134_71, g134_72, g134_72b, g134_73, g134_76, g134_77, g134_78, g134_81, g134_90, g134_93, g134_94, Option.toList_some, Option.toList_none, List.cons_append, List.nil_append, true_and, and_true, true_or, or_true, eq_self, ci0, ci1, cin6, forall_const, not_true_eq_false, not_false_eq_true, fimp, timp, i10, i01, cm_rne, and_assoc]
        exact fin
  · -- it does not
    have hcd : cD P N p < least := by
      by_cases h1 : 0 ≤ rL P N p - 48 ∧ rL P N p - 48 ≤ 9
      · have := hld.1 h1; omega
      · have := hld.2 h1; omega
    refine c134_16 (by decide) hsh (q_wants hm hP.2.2.2 hP.2.2.1 (by omega) (Or.inl rfl) (fun M1 f1 e15 e16 => ?_))
    rw [if_neg (by decide)] at e16
    have hP1 : hRd M1 m P N (p + 1) p := hP.f f1 e15 e16
    have hlb1 := rL_b (N := N) (p := p + 1) ho (by omega)
    simp (disch := omega) only [g134_0, g134_4, g134_6, g134_7, g134_8, g134_9, g134_10, g134_11, g134_19, g134_23, g134_25, g134_26, g134_29, g134_32, g134_34, g134_37, g134_38, g134_41, g134_43, g134_44, g134_49, g134_52, g134_54, g134_55, g134_56, g134_58, g134_59, g134_60, g134_63, g134_65, g134_66, g134_67, g134_69, g134_70, g134_71, g134_72, g134_72b, g134_73, g134_76, g134_77, g134_78, g134_81, g134_85, g134_87, g134_88, g134_90, g134_93, g134_94, Option.toList_some, Option.toList_none, List.cons_append, List.nil_append, true_and, and_true, true_or, or_true, eq_self, ci0, ci1, cin6, forall_const, not_true_eq_false, not_false_eq_true, fimp, timp, i10, i01, cm_rne, and_assoc]
    refine c134_20 (by decide) hsh (q_letter hm hP1 ho (by omega) ?_)
    simp (disch := omega) only [g134_0, g134_4, g134_6, g134_7, g134_8, g134_9, g134_10, g134_11, g134_19, g134_23, g134_25, g134_26, g134_29, g134_32, g134_34, g134_37, g134_38, g134_41, g134_43, g134_44, g134_49, g134_52, g134_54, g134_55, g134_56, g134_58, g134_59, g134_60, g134_63, g134_65, g134_66, g134_67, g134_69, g134_70, g134_71, g134_72, g134_72b, g134_73, g134_76, g134_77, g134_78, g134_81, g134_85, g134_87, g134_88, g134_90, g134_93, g134_94, Option.toList_some, Option.toList_none, List.cons_append, List.nil_append, true_and, and_true, true_or, or_true, eq_self, ci0, ci1, cin6, forall_const, not_true_eq_false, not_false_eq_true, fimp, timp, i10, i01, cm_rne, and_assoc]
    (repeat' apply And.intro) <;> (try omega) <;> (try (intro hx; exfalso; omega))
    rw [g134_28]
    simp (disch := omega) only [g134_29, g134_32, g134_34, g134_37, g134_38, g134_41, g134_43, g134_44, g134_90, g134_93, g134_94, Option.toList_some, Option.toList_none, List.cons_append, List.nil_append, true_and, and_true, true_or, or_true, eq_self, ci0, ci1, cin6, forall_const, not_true_eq_false, not_false_eq_true, fimp, timp, i10, i01, cm_rne, and_assoc, hsh, e16]
    (repeat' apply And.intro) <;> (try omega) <;> (try (intro hx; exfalso; omega))
    exact fun _ => K0 hcd M1 _ (by constructor <;> omega) f1 e16
end RPARSE
