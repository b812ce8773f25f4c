/-! ===== the reference reads a line: the whole ===== -/
section RLINE2
variable {G : cm_G} {M : cm_M} {P : Int → Int} {m N p r x i j t v w g h s n k u a b least most : Int} {S T : sS} {A : sA} {Q : Option cm_V → cm_G → cm_M → Prop}
theorem rl_store {c : Int} {M1 : cm_M} (hm : isM G m) (hc : -6 ≤ c ∧ c ≤ 65535) (hrb : 0 ≤ r ∧ r ≤ 31) (K : ∀ M4, isE (M4 (m + 11)) r (if c = 110 then 0 else if c = 116 then 1 else if c = 108 then 2 else 3) (-6) (-6) 0 → (∀ z, z ≠ m + 11 → M4 z = M1 z) → (∀ x, x < 4 * r → M4 (m + 11) x = M1 (m + 11) x) → Go 135 113 [some (2, m), some (0, 4 * r), some (0, c)] [] G M4 Q) : Go 135 45 [some (2, m), some (0, 4 * r), some (0, c)] [] G M1 Q := by
  obtain ⟨h0, hsh, ⟨-, -, -, -, -, -, -, -, -, -, e13⟩, -, -, -, -, -, -, -, -, -, -, a13⟩ := hm
  have hK : ∀ kk, kk = (if c = 110 then 0 else if c = 116 then 1 else if c = 108 then 2 else 3) → Go 135 113 [some (2, m), some (0, 4 * r), some (0, c)] [] G (cm_up (cm_up (cm_up (cm_up M1 (m + 11) (4 * r + 0) kk) (m + 11) (4 * r + 1) (-6)) (m + 11) (4 * r + 2) (-6)) (m + 11) (4 * r + 3) 0) Q := by
    intro kk hk
    refine K _ ?_ (fun z hz => by rw [cm_rne hz, cm_rne hz, cm_rne hz, cm_rne hz]) (fun x hx => by rw [cm_up_n _ (Or.inr (by omega)), cm_up_n _ (Or.inr (by omega)), cm_up_n _ (Or.inr (by omega)), cm_up_n _ (Or.inr (by omega))])
    rw [← hk]
    unfold isE
    simp only [cm_req]
    refine ⟨?_, ?_, ?_, ?_⟩
    · rw [if_neg (by omega), if_neg (by omega), if_neg (by omega), if_pos (by omega)]
    · rw [if_neg (by omega), if_neg (by omega), if_pos trivial]
    · rw [if_neg (by omega), if_pos trivial]
    · rw [if_pos trivial]
  simp (disch := omega) only [g135_45, g135_46, g135_49, g135_50, g135_51, g135_52, g135_53, g135_55, g135_58, g135_59, g135_62, g135_63, g135_65, g135_68, g135_69, g135_72, g135_73, g135_75, g135_78, g135_79, g135_82, g135_83, g135_84, g135_85, g135_88, g135_89, g135_90, g135_91, g135_93, g135_94, g135_95, g135_98, g135_99, g135_100, g135_101, g135_103, g135_104, g135_105, g135_108, g135_109, g135_110, g135_111, g135_112, Option.toList_some, Option.toList_none, List.cons_append, List.nil_append, true_and, and_true, true_or, or_true, eq_self, ci0, ci1, cin6, forall_const, not_true_eq_false, not_false_eq_true, fimp, timp, i10, i01, cm_rne, and_assoc, hsh, e13, a13]
  (repeat' apply And.intro) <;> (try omega) <;> (try (intro hx; exfalso; omega))
  · intro h1
    (repeat' apply And.intro) <;> (try omega) <;> (try (intro hx; exfalso; omega))
    · intro h2
      (repeat' apply And.intro) <;> (try omega) <;> (try (intro hx; exfalso; omega))
      · intro h3
        (repeat' apply And.intro) <;> (try omega) <;> (try (intro hx; exfalso; omega))
        exact hK 3 (by omega)
      · intro h3
        (repeat' apply And.intro) <;> (try omega) <;> (try (intro hx; exfalso; omega))
        exact hK 2 (by omega)
    · intro h2
      (repeat' apply And.intro) <;> (try omega) <;> (try (intro hx; exfalso; omega))
      exact hK 1 (by omega)
  · intro h1
    (repeat' apply And.intro) <;> (try omega) <;> (try (intro hx; exfalso; omega))
    exact hK 0 (by omega)
theorem q_readLine (hm : isM G m) (hP : hRd M m P N p (-6)) (ho : okP P N) (hp : 0 ≤ p ∧ p ≤ N) (hr : M m 14 = r) (hrb : 0 ≤ r ∧ r ≤ 31) (K0 : (pl P N p).1 = 0 → ∀ M', fs3 M M' m → M' m 16 = (pl P N p).2.1 → Q none G M') (K1 : (pl P N p).1 = 1 → ∀ M', fs3 M M' m → M' m 16 = -6 → M' m 15 = (pl P N p).2.1 → M' m 14 = r + 1 → isE (M' (m + 11)) r (pl P N p).2.2.1 (pl P N p).2.2.2.1 (pl P N p).2.2.2.2.1 (pl P N p).2.2.2.2.2 → (∀ x, x < 4 * r → M' (m + 11) x = M (m + 11) x) → Q none G M') : Go 135 0 [some (2, m), none, none] [] G M Q := by
  have hsh := hm.2.1
  have h0 := hm.1
  have hN := ho.1
  have hlb := rL_b ho hp.1
  have hkb := kd_b P N p
  have hkc := kd_c (P := P) (N := N) (p := p)
  have first : ∀ y, y = (if kd P N p = -1 then 0 else 1) → Go 135 42 [some (2, m), some (0, 4 * r), some (0, rL P N p)] [(0, y), (2, m)] G M Q := by
    intro y hy
    refine c135_42 (by decide) hsh (q_wants hm hP.2.2.2 hP.2.2.1 (by omega) (by omega) (fun M1 f1 g15 g16 => ?_))
    simp (disch := omega) only [Option.toList_some, Option.toList_none, List.cons_append, List.nil_append, true_and, and_true, true_or, or_true, eq_self, ci0, ci1, cin6, forall_const, not_true_eq_false, not_false_eq_true, fimp, timp, i10, i01, cm_rne, and_assoc]
    refine rl_store hm hlb hrb (fun M4 hE4 hM4 hB4 => ?_)
    have f4 : fs3 M M4 m := f1.t.tr ⟨fun k a b => hM4 k b, fun j a => by rw [hM4 m (by omega)]⟩
    have j14 : M4 m 14 = r := by rw [hM4 m (by omega), f1.2 14 (by decide) (by decide)]; exact hr
    have j15 : M4 m 15 = p + 1 := by rw [hM4 m (by omega)]; exact g15
    have j16 : M4 m 16 = (if y = 1 then -6 else p) := by rw [hM4 m (by omega)]; exact g16
    have hBB : ∀ x, x < 4 * r → M4 (m + 11) x = M (m + 11) x := fun x hx => by rw [hB4 x hx, f1.1 _ (by omega)]
    by_cases hk1 : kd P N p = -1
    · have epl : pl P N p = (0, p, 0, 0, 0, 0) := if_pos hk1
      have j16' : M4 m 16 = p := by omega
      rw [epl] at K0
      have hb : Go 135 211 [some (2, m), some (0, 4 * r), some (0, rL P N p)] [] G M4 Q := rl_end hm j14 hrb (fun M' f a b cc d => K0 rfl M' (f4.tr f) (a.trans j16'))
      simp (disch := omega) only [g135_113, g135_114, g135_116, g135_168, g135_169, g135_172, g135_174, Option.toList_some, Option.toList_none, List.cons_append, List.nil_append, true_and, and_true, true_or, or_true, eq_self, ci0, ci1, cin6, forall_const, not_true_eq_false, not_false_eq_true, fimp, timp, i10, i01, cm_rne, and_assoc, hsh, j16']
      (repeat' apply And.intro) <;> (try omega) <;> (try (intro hx; exfalso; omega))
      · intro _
        (repeat' apply And.intro) <;> (try omega) <;> (try (intro hx; exfalso; omega))
        exact fun _ => hb
    · have hpN := hkb.2.2 hk1
      have j16' : M4 m 16 = -6 := by omega
      have hP4 : hRd M4 m P N (p + 1) (-6) := hP.g f4 j15 j16'
      have epl : pl P N p = if kd P N p = 0 then plN P N p else plC P N (kd P N p) (-6) (-6) (p + 1) := if_neg hk1
      by_cases hk0 : kd P N p = 0
      · rw [if_pos hk0] at epl
        have e110 : rL P N p = 110 := hkc.1.mpr hk0
        rw [if_pos e110] at hE4
        rw [epl] at K0 K1
        have hn : Go 135 119 [some (2, m), some (0, 4 * r), some (0, rL P N p)] [] G M4 Q := rl_name hm hP4 ho (by omega) j14 hrb hE4 (fun hz M' f a => K0 hz M' (f4.tr f) a) (fun hz M' f a b cc d e => K1 hz M' (f4.tr f) a b cc d (fun x hx => (e x hx).trans (hBB x hx)))
        simp (disch := omega) only [g135_113, g135_114, g135_116, Option.toList_some, Option.toList_none, List.cons_append, List.nil_append, true_and, and_true, true_or, or_true, eq_self, ci0, ci1, cin6, forall_const, not_true_eq_false, not_false_eq_true, fimp, timp, i10, i01, cm_rne, and_assoc]
        (repeat' apply And.intro) <;> (try omega) <;> (try (intro hx; exfalso; omega))
        exact fun _ => hn
      · rw [if_neg hk0] at epl
        have ekk : (if rL P N p = 110 then 0 else if rL P N p = 116 then 1 else if rL P N p = 108 then 2 else 3) = kd P N p := by omega
        rw [ekk] at hE4
        rw [epl] at K0 K1
        have hc : Go 135 168 [some (2, m), some (0, 4 * r), some (0, rL P N p)] [] G M4 Q := rl_cue hm hP4 ho (by omega) j14 hrb hE4 (fun hz M' f a => K0 hz M' (f4.tr f) a) (fun hz M' f a b cc d e => K1 hz M' (f4.tr f) a b cc d (fun x hx => (e x hx).trans (hBB x hx)))
        simp (disch := omega) only [g135_113, g135_114, g135_116, Option.toList_some, Option.toList_none, List.cons_append, List.nil_append, true_and, and_true, true_or, or_true, eq_self, ci0, ci1, cin6, forall_const, not_true_eq_false, not_false_eq_true, fimp, timp, i10, i01, cm_rne, and_assoc]
        (repeat' apply And.intro) <;> (try omega) <;> (try (intro hx; exfalso; omega))
        exact fun _ => hc
  simp (disch := omega) only [g135_0, g135_1, g135_2, g135_5, g135_6, g135_7, Option.toList_some, Option.toList_none, List.cons_append, List.nil_append, true_and, and_true, true_or, or_true, eq_self, ci0, ci1, cin6, forall_const, not_true_eq_false, not_false_eq_true, fimp, timp, i10, i01, cm_rne, and_assoc, hsh, hr]
  refine c135_8 (by decide) hsh (q_letter hm hP ho (by omega) ?_)
  simp (disch := omega) only [g135_11, g135_12, g135_13, g135_14, g135_16, g135_19, g135_20, g135_22, g135_25, g135_26, g135_28, g135_31, g135_32, g135_34, g135_37, g135_38, g135_41, Option.toList_some, Option.toList_none, List.cons_append, List.nil_append, true_and, and_true, true_or, or_true, eq_self, ci0, ci1, cin6, forall_const, not_true_eq_false, not_false_eq_true, fimp, timp, i10, i01, cm_rne, and_assoc]
  repeat' (first | exact first 1 (by omega) | exact first 0 (by omega) | apply And.intro | omega | intro _)
end RLINE2
