/-! ===== the reference reads a line ===== -/
def fs3 (M M' : cm_M) (m : Int) : Prop := (∀ k, k ≠ m → k ≠ m + 11 → M' k = M k) ∧ ∀ j, j < 14 → M' m j = M m j
theorem fs3.rf {M : cm_M} {m : Int} : fs3 M M m := ⟨fun _ _ _ => rfl, fun _ _ => rfl⟩
theorem fs3.tr {M M1 M2 : cm_M} {m : Int} (h1 : fs3 M M1 m) (h2 : fs3 M1 M2 m) : fs3 M M2 m := ⟨fun k a b => (h2.1 k a b).trans (h1.1 k a b), fun j a => (h2.2 j a).trans (h1.2 j a)⟩
theorem fs2.t {M M1 : cm_M} {m : Int} (h : fs2 M M1 m) : fs3 M M1 m := ⟨fun k a _ => h.1 k a, fun j a => h.2 j (by omega) (by omega)⟩
theorem fs3.up {M : cm_M} {m j v : Int} : fs3 M (cm_up M (m + 11) j v) m := ⟨fun k a b => cm_rne b, fun j _ => by rw [cm_rne (by omega)]⟩
theorem hRd.g {M M1 : cm_M} {m : Int} {P : Int → Int} {N p x q y : Int} (h : hRd M m P N p x) (f : fs3 M M1 m) (e : M1 m 15 = q) (e2 : M1 m 16 = y) : hRd M1 m P N q y := ⟨by rw [f.2 6 (by decide)]; exact h.1, fun k a b => by rw [f.1 (m + 5) (by omega) (by omega)]; exact h.2.1 k a b, e, e2⟩
/-- an entry of what was read -/
def isE (f : Int → Int) (r k g n u : Int) : Prop := f (4 * r) = k ∧ f (4 * r + 1) = g ∧ f (4 * r + 2) = n ∧ f (4 * r + 3) = u
theorem kd_c {P : Int → Int} {N p : Int} : (rL P N p = 110 ↔ kd P N p = 0) ∧ (rL P N p = 116 ↔ kd P N p = 1) ∧ (rL P N p = 108 ↔ kd P N p = 2) ∧ (rL P N p = 98 ↔ kd P N p = 3) := by
  unfold rL kd
  by_cases h : p < N
  · rw [if_pos h, if_pos h]
    omega
  · rw [if_neg h, if_neg h]
    omega
section RLINE
variable {G : cm_G} {M : cm_M} {P : Int → Int} {m N p r x i j t v w g h s n k u a b least most : Int} {S T : sS} {A : sA} {Q : Option cm_V → cm_G → cm_M → Prop}
theorem q_numberW (hm : isM G m) (hP : hRd M m P N p x) (ho : okP P N) (hp : 0 ≤ p ∧ p ≤ 900) (hx : ¬ x = -6) (hxb : cm_in x) (hl : 0 ≤ least ∧ least ≤ 1) (K : ∀ v, cm_in v → Q (some (0, v)) G M) : Go 134 0 [some (2, m), some (0, least), some (0, most), none, none] [] G M Q := by
  have hsh := hm.2.1
  have hlb := rL_b ho hp.1
  have fin : Go 134 19 [some (2, m), some (0, least), some (0, most), some (0, rL P N p - 48), none] [] G M Q := by
    simp (disch := omega) only [g134_19, g134_23, g134_25, g134_26, Option.toList_some, Option.toList_none, List.cons_append, List.nil_append, true_and, and_true, true_or, or_true, eq_self, ci0, ci1, cin6, forall_const, not_true_eq_false, not_false_eq_true, fimp, timp, i10, i01, cm_rne, and_assoc]
    refine c134_20 (by decide) hsh (q_letter hm hP ho (by omega) ?_)
    simp (disch := omega) only [g134_19, g134_23, g134_25, g134_26, Option.toList_some, Option.toList_none, List.cons_append, List.nil_append, true_and, and_true, true_or, or_true, eq_self, ci0, ci1, cin6, forall_const, not_true_eq_false, not_false_eq_true, fimp, timp, i10, i01, cm_rne, and_assoc]
    (repeat' apply And.intro) <;> (try omega) <;> (try (intro hx; exfalso; omega))
    rw [g134_28]
    simp (disch := omega) only [g134_29, g134_32, g134_34, g134_37, g134_38, g134_41, g134_43, g134_44, g134_90, g134_93, g134_94, Option.toList_some, Option.toList_none, List.cons_append, List.nil_append, true_and, and_true, true_or, or_true, eq_self, ci0, ci1, cin6, forall_const, not_true_eq_false, not_false_eq_true, fimp, timp, i10, i01, cm_rne, and_assoc, hsh, hP.2.2.2]
    (repeat' apply And.intro) <;> (try omega) <;> (try (intro hx; exfalso; omega))
    exact fun _ => K _ (by constructor <;> omega)
  simp (disch := omega) only [g134_0, g134_4, g134_6, g134_7, g134_8, g134_9, g134_10, g134_11, Option.toList_some, Option.toList_none, List.cons_append, List.nil_append, true_and, and_true, true_or, or_true, eq_self, ci0, ci1, cin6, forall_const, not_true_eq_false, not_false_eq_true, fimp, timp, i10, i01, cm_rne, and_assoc]
  refine c134_1 (by decide) hsh (q_letter hm hP ho (by omega) ?_)
  simp (disch := omega) only [g134_0, g134_4, g134_6, g134_7, g134_8, g134_9, g134_10, g134_11, Option.toList_some, Option.toList_none, List.cons_append, List.nil_append, true_and, and_true, true_or, or_true, eq_self, ci0, ci1, cin6, forall_const, not_true_eq_false, not_false_eq_true, fimp, timp, i10, i01, cm_rne, and_assoc]
  (repeat' apply And.intro) <;> (try omega) <;> (try (intro hx; exfalso; omega))
  refine c134_13 (Nat.le_of_ble_eq_true rfl) (q_in (by constructor <;> omega) (by constructor <;> omega) ⟨by decide, by decide⟩ (fun hz => ?_) (fun hz => ?_)) <;> simp (disch := omega) only [Option.toList_some, Option.toList_none, List.cons_append, List.nil_append, true_and, and_true, true_or, or_true, eq_self, ci0, ci1, cin6, forall_const, not_true_eq_false, not_false_eq_true, fimp, timp, i10, i01, cm_rne, and_assoc]
  · exact c134_16 (by decide) hsh (q_wants2 hm hP.2.2.2 hxb hx (by simp (disch := omega) only [Option.toList_some, Option.toList_none, List.cons_append, List.nil_append, true_and, and_true, true_or, or_true, eq_self, ci0, ci1, cin6, forall_const, not_true_eq_false, not_false_eq_true, fimp, timp, i10, i01, cm_rne, and_assoc]; exact fin))
  · exact c134_16 (by decide) hsh (q_wants2 hm hP.2.2.2 hxb hx (by simp (disch := omega) only [Option.toList_some, Option.toList_none, List.cons_append, List.nil_append, true_and, and_true, true_or, or_true, eq_self, ci0, ci1, cin6, forall_const, not_true_eq_false, not_false_eq_true, fimp, timp, i10, i01, cm_rne, and_assoc]; exact fin))
theorem q_readLine (hm : isM G m) (hP : hRd M m P N p (-6)) (ho : okP P N) (hp : 0 ≤ p ∧ p ≤ N) (hr : M m 14 = r) (hrb : 0 ≤ r ∧ r ≤ 31) (K0 : (pl P N p).1 = 0 → ∀ M', fs3 M M' m → M' m 16 = (pl P N p).2.1 → Q none G M') (K1 : (pl P N p).1 = 1 → ∀ M', fs3 M M' m → M' m 16 = -6 → M' m 15 = (pl P N p).2.1 → M' m 14 = r + 1 → isE (M' (m + 11)) r (pl P N p).2.2.1 (pl P N p).2.2.2.1 (pl P N p).2.2.2.2.1 (pl P N p).2.2.2.2.2 → (∀ x, x < 4 * r → M' (m + 11) x = M (m + 11) x) → Q none G M') : Go 135 0 [some (2, m), none, none] [] G M Q := by
  have hm' := hm
  obtain ⟨h0, hsh, ⟨e0, e1, e2, e3, e5, e7, e8, e9, e10, e12, e13⟩, a0, a1, a2, a3, a5, a7, a8, a9, a10, a12, a13⟩ := hm
  have hN := ho.1
  have hlb := rL_b ho hp.1
  have hkb := kd_b P N p
  -- at the end
  have tail : ∀ (M1 : cm_M), M1 m 14 = r → Q none G (cm_up M1 m 14 (r + 1)) → Go 135 211 [some (2, m), some (0, 4 * r), some (0, rL P N p)] [] G M1 Q := by
    intro M1 h14 hQ
    simp (disch := omega) only [g135_211, g135_212, g135_212b, g135_213, g135_216, g135_217, g135_218, g135_221, Option.toList_some, Option.toList_none, List.cons_append, List.nil_append, true_and, and_true, true_or, or_true, eq_self, ci0, ci1, cin6, forall_const, not_true_eq_false, not_false_eq_true, fimp, timp, i10, i01, cm_rne, and_assoc, hsh, h14]
    exact hQ
  have fup : ∀ (M1 : cm_M) (v : Int), fs3 M1 (cm_up M1 m 14 v) m := fun M1 v => ⟨fun k a _ => cm_rne a, fun j a => cm_up_n _ (Or.inr (by omega))⟩
  have e16 : ∀ (M1 : cm_M) (v j : Int), j ≠ 14 → cm_up M1 m 14 v m j = M1 m j := fun M1 v j hj => cm_up_n _ (Or.inr hj)
  have bad : ∀ (M1 : cm_M), fs3 M M1 m → M1 m 14 = r → (pl P N p).1 = 0 → M1 m 16 = (pl P N p).2.1 → Go 135 211 [some (2, m), some (0, 4 * r), some (0, rL P N p)] [] G M1 Q := fun M1 f1 h14 hz h16 => tail M1 h14 (K0 hz _ (f1.tr (fup _ _)) (by rw [e16 _ _ _ (by decide)]; exact h16))
  have good : ∀ (M1 : cm_M), fs3 M M1 m → M1 m 14 = r → (pl P N p).1 = 1 → M1 m 16 = -6 → M1 m 15 = (pl P N p).2.1 → isE (M1 (m + 11)) r (pl P N p).2.2.1 (pl P N p).2.2.2.1 (pl P N p).2.2.2.2.1 (pl P N p).2.2.2.2.2 → (∀ x, x < 4 * r → M1 (m + 11) x = M (m + 11) x) → Go 135 211 [some (2, m), some (0, 4 * r), some (0, rL P N p)] [] G M1 Q := fun M1 f1 h14 hz h16 h15 hE hB => tail M1 h14 (K1 hz _ (f1.tr (fup _ _)) (by rw [e16 _ _ _ (by decide)]; exact h16) (by rw [e16 _ _ _ (by decide)]; exact h15) (cm_up_s _ _ _ _) (by rw [cm_rne (by omega)]; exact hE) (fun x hx => by rw [cm_rne (by omega)]; exact hB x hx))
  -- from the cue on
  have cue : ∀ (kk gg nn q : Int) (M1 : cm_M), q ≤ N → 0 ≤ q → fs3 M M1 m → M1 m 14 = r → M1 m 15 = q → M1 m 16 = -6 → isE (M1 (m + 11)) r kk gg nn 0 → (∀ x, x < 4 * r → M1 (m + 11) x = M (m + 11) x) → pl P N p = plC P N kk gg nn q → Go 135 168 [some (2, m), some (0, 4 * r), some (0, rL P N p)] [] G M1 Q := by
    intro kk gg nn q M1 hqN hq0 f1 h14 h15 h16 hE hB hpl
    have hP1 : hRd M1 m P N q (-6) := hP.g f1 h15 h16
    have hlb1 := rL_b (N := N) ho hq0
    have hc64 := rL_c (P := P) (N := N) (p := q) (c := 64) (by decide)
    rw [hpl] at bad good
    unfold plC at bad good
    simp (disch := omega) only [g135_168, g135_169, g135_172, g135_174, g135_177, Option.toList_some, Option.toList_none, List.cons_append, List.nil_append, true_and, and_true, true_or, or_true, eq_self, ci0, ci1, cin6, forall_const, not_true_eq_false, not_false_eq_true, fimp, timp, i10, i01, cm_rne, and_assoc, hsh, h16]
    (repeat' apply And.intro) <;> (try omega) <;> (try (intro hx; exfalso; omega))
    refine c135_178 (by decide) hsh (q_letter hm' hP1 ho (by omega) ?_)
    simp (disch := omega) only [g135_181, g135_183, g135_186, g135_187, g135_187b, g135_188, g135_191, g135_192, g135_193, g135_196, g135_197, g135_200, g135_201, g135_202, g135_203, g135_204, g135_205, Option.toList_some, Option.toList_none, List.cons_append, List.nil_append, true_and, and_true, true_or, or_true, eq_self, ci0, ci1, cin6, forall_const, not_true_eq_false, not_false_eq_true, fimp, timp, i10, i01, cm_rne, and_assoc, hsh, h15, e13]
    (repeat' apply And.intro) <;> (try omega) <;> (try (intro hx; exfalso; omega))
    · intro hne
      rw [if_neg (fun y => hne (hc64.mpr y))] at good
      exact good M1 f1 h14 rfl h16 h15 hE hB
    · intro he
      rw [if_pos (hc64.mp he)] at bad good
      (repeat' apply And.intro) <;> (try omega) <;> (try (intro hx; exfalso; omega))
      have f2 : fs2 M1 (cm_up M1 m 15 (q + 1)) m := ⟨fun k a => cm_rne a, fun j a b => cm_up_n _ (Or.inr a)⟩
      have hP2 : hRd (cm_up M1 m 15 (q + 1)) m P N (q + 1) (-6) := hP1.f f2 (cm_up_s _ _ _ _) (by rw [cm_up_n _ (Or.inr (by decide))]; exact h16)
      refine c135_207 (Nat.le_of_ble_eq_true rfl) hsh (q_number hm' hP2 ho (by omega) (by omega) (by omega) (fun hb M2 v hv f3 g16 => ?_) (fun hb M2 f3 g16 g15 => ?_)) <;> simp (disch := omega) only [g135_210, Option.toList_some, Option.toList_none, List.cons_append, List.nil_append, true_and, and_true, true_or, or_true, eq_self, ci0, ci1, cin6, forall_const, not_true_eq_false, not_false_eq_true, fimp, timp, i10, i01, cm_rne, and_assoc, a13]
      · rw [if_pos hb] at bad
        (repeat' apply And.intro) <;> (try omega) <;> (try (intro hx; exfalso; omega))
        refine bad _ ((f1.tr (f2.tr f3).t).tr fs3.up) ?_ rfl ?_
        · rw [cm_rne (by omega), f3.2 14 (by decide) (by decide), f2.2 14 (by decide) (by decide)]; exact h14
        · rw [cm_rne (by omega)]; exact g16
      · rw [if_neg (by omega), show q + 2 = q + 1 + 1 by omega] at good
        (repeat' apply And.intro) <;> (try omega) <;> (try (intro hx; exfalso; omega))
        have er : M2 (m + 11) = M1 (m + 11) := by rw [f3.1 _ (by omega), f2.1 _ (by omega)]
        refine good _ ((f1.tr (f2.tr f3).t).tr fs3.up) ?_ rfl ?_ ?_ ?_ (fun x hx => ?_)
        · rw [cm_rne (by omega), f3.2 14 (by decide) (by decide), f2.2 14 (by decide) (by decide)]; exact h14
        · rw [cm_rne (by omega)]; exact g16
        · rw [cm_rne (by omega)]; exact g15
        · obtain ⟨w1, w2, w3, w4⟩ := hE
          refine ⟨?_, ?_, ?_, ?_⟩
          · rw [cm_up_n _ (Or.inr (by omega)), er]; exact w1
          · rw [cm_up_n _ (Or.inr (by omega)), er]; exact w2
          · rw [cm_up_n _ (Or.inr (by omega)), er]; exact w3
          · rw [cm_up_s]
        · rw [cm_up_n _ (Or.inr (by omega)), er]; exact hB x hx
  -- what is written first
  have store : ∀ (M1 : cm_M), (∀ kk, kk = (if rL P N p = 110 then 0 else if rL P N p = 116 then 1 else if rL P N p = 108 then 2 else 3) → Go 135 113 [some (2, m), some (0, 4 * r), some (0, rL P N p)] [] G (cm_up (cm_up (cm_up (cm_up M1 (m + 11) (4 * r + 0) kk) (m + 11) (4 * r + 1) (-6)) (m + 11) (4 * r + 2) (-6)) (m + 11) (4 * r + 3) 0) Q) → Go 135 45 [some (2, m), some (0, 4 * r), some (0, rL P N p)] [] G M1 Q := by
    intro M1 hK
    simp (disch := omega) only [g135_45, g135_46, g135_49, g135_50, g135_51, g135_52, g135_53, g135_55, g135_58, g135_59, g135_62, g135_63, g135_65, g135_68, g135_69, g135_72, g135_73, g135_75, g135_78, g135_79, g135_82, g135_83, g135_84, g135_85, g135_88, g135_89, g135_90, g135_91, g135_93, g135_94, g135_95, g135_98, g135_99, g135_100, g135_101, g135_103, g135_104, g135_105, g135_108, g135_109, g135_110, g135_111, g135_112, Option.toList_some, Option.toList_none, List.cons_append, List.nil_append, true_and, and_true, true_or, or_true, eq_self, ci0, ci1, cin6, forall_const, not_true_eq_false, not_false_eq_true, fimp, timp, i10, i01, cm_rne, and_assoc, hsh, e13, a13]
    (repeat' apply And.intro) <;> (try omega) <;> (try (intro hx; exfalso; omega))
    · intro h1
      (repeat' apply And.intro) <;> (try omega) <;> (try (intro hx; exfalso; omega))
      · intro h2
        (repeat' apply And.intro) <;> (try omega) <;> (try (intro hx; exfalso; omega))
        · intro h3
          (repeat' apply And.intro) <;> (try omega) <;> (try (intro hx; exfalso; omega))
          exact hK 3 (by omega)
        · intro h3
          (repeat' apply And.intro) <;> (try omega) <;> (try (intro hx; exfalso; omega))
          exact hK 2 (by omega)
      · intro h2
        (repeat' apply And.intro) <;> (try omega) <;> (try (intro hx; exfalso; omega))
        exact hK 1 (by omega)
    · intro h1
      (repeat' apply And.intro) <;> (try omega) <;> (try (intro hx; exfalso; omega))
      exact hK 0 (by omega)
  have hkc := kd_c (P := P) (N := N) (p := p)
  -- the first letter
  have first : ∀ y, y = (if kd P N p = -1 then 0 else 1) → Go 135 42 [some (2, m), some (0, 4 * r), some (0, rL P N p)] [(0, y), (2, m)] G M Q := by
    intro y hy
    refine c135_42 (by decide) hsh (q_wants hm' hP.2.2.2 hP.2.2.1 (by omega) (by omega) (fun M1 f1 g15 g16 => ?_))
    simp (disch := omega) only [Option.toList_some, Option.toList_none, List.cons_append, List.nil_append, true_and, and_true, true_or, or_true, eq_self, ci0, ci1, cin6, forall_const, not_true_eq_false, not_false_eq_true, fimp, timp, i10, i01, cm_rne, and_assoc]
    refine store M1 (fun kk hkk => ?_)
    have f4 : fs3 M (cm_up (cm_up (cm_up (cm_up M1 (m + 11) (4 * r + 0) kk) (m + 11) (4 * r + 1) (-6)) (m + 11) (4 * r + 2) (-6)) (m + 11) (4 * r + 3) 0) m := ((((f1.t.tr fs3.up).tr fs3.up).tr fs3.up).tr fs3.up)
    have hM4 : ∀ z, z ≠ m + 11 → cm_up (cm_up (cm_up (cm_up M1 (m + 11) (4 * r + 0) kk) (m + 11) (4 * r + 1) (-6)) (m + 11) (4 * r + 2) (-6)) (m + 11) (4 * r + 3) 0 z = M1 z := fun z hz => by rw [cm_rne hz, cm_rne hz, cm_rne hz, cm_rne hz]
    have hE4 : isE (cm_up (cm_up (cm_up (cm_up M1 (m + 11) (4 * r + 0) kk) (m + 11) (4 * r + 1) (-6)) (m + 11) (4 * r + 2) (-6)) (m + 11) (4 * r + 3) 0 (m + 11)) r kk (-6) (-6) 0 := by
      unfold isE
      simp only [cm_req]
      refine ⟨?_, ?_, ?_, ?_⟩
      · rw [if_neg (by omega), if_neg (by omega), if_neg (by omega), if_pos (by omega)]
      · rw [if_neg (by omega), if_neg (by omega), if_pos trivial]
      · rw [if_neg (by omega), if_pos trivial]
      · rw [if_pos trivial]
    have hB4 : ∀ x, x < 4 * r → cm_up (cm_up (cm_up (cm_up M1 (m + 11) (4 * r + 0) kk) (m + 11) (4 * r + 1) (-6)) (m + 11) (4 * r + 2) (-6)) (m + 11) (4 * r + 3) 0 (m + 11) x = M (m + 11) x := fun x hx => by
      rw [cm_up_n _ (Or.inr (by omega)), cm_up_n _ (Or.inr (by omega)), cm_up_n _ (Or.inr (by omega)), cm_up_n _ (Or.inr (by omega)), f1.1 _ (by omega)]
    have h14 : M1 m 14 = r := by rw [f1.2 14 (by decide) (by decide)]; exact hr
    generalize cm_up (cm_up (cm_up (cm_up M1 (m + 11) (4 * r + 0) kk) (m + 11) (4 * r + 1) (-6)) (m + 11) (4 * r + 2) (-6)) (m + 11) (4 * r + 3) 0 = M4 at *
    have j14 : M4 m 14 = r := by rw [hM4 m (by omega)]; exact h14
    have j15 : M4 m 15 = p + 1 := by rw [hM4 m (by omega)]; exact g15
    have j16 : M4 m 16 = (if y = 1 then -6 else p) := by rw [hM4 m (by omega)]; exact g16
    by_cases hk1 : kd P N p = -1
    · have epl : pl P N p = (0, p, 0, 0, 0, 0) := if_pos hk1
      have j16' : M4 m 16 = p := by omega
      rw [epl] at bad
      have hb := bad M4 f4 j14 rfl j16'
      simp (disch := omega) only [g135_113, g135_114, g135_116, g135_168, g135_169, g135_172, g135_174, Option.toList_some, Option.toList_none, List.cons_append, List.nil_append, true_and, and_true, true_or, or_true, eq_self, ci0, ci1, cin6, forall_const, not_true_eq_false, not_false_eq_true, fimp, timp, i10, i01, cm_rne, and_assoc, hsh, j16']
      (repeat' apply And.intro) <;> (try omega) <;> (try (intro hx; exfalso; omega))
      · intro _
        (repeat' apply And.intro) <;> (try omega) <;> (try (intro hx; exfalso; omega))
        exact fun _ => hb
    · have hpN := hkb.2.2 hk1
      have j16' : M4 m 16 = -6 := by omega
      have epl : pl P N p = if kd P N p = 0 then (if ¬ (0 ≤ cD P N (p + 1) ∧ cD P N (p + 1) ≤ 7) then (0, p + 1, 0, 0, 0, 0) else if cD P N (p + 2) < 0 then (0, p + 2, 0, 0, 0, 0) else plC P N 0 (cD P N (p + 1)) (nmF P N 999 (cD P N (p + 2)) (p + 3)).1 (nmF P N 999 (cD P N (p + 2)) (p + 3)).2) else plC P N (kd P N p) (-6) (-6) (p + 1) := if_neg hk1
      by_cases hk0 : kd P N p = 0
      · rw [if_pos hk0] at epl
        have hP4 : hRd M4 m P N (p + 1) (-6) := hP.g f4 j15 j16'
        have hlb1 := rL_b (N := N) (p := p + 1) ho (by omega)
        have hld := rL_d (P := P) (N := N) (p := p + 1)
        have d1 := cD_b P N (p + 1)
        have d2 := cD_b P N (p + 2)
        simp (disch := omega) only [g135_113, g135_114, g135_116, g135_119, g135_120, g135_123, g135_124, g135_125, g135_126, Option.toList_some, Option.toList_none, List.cons_append, List.nil_append, true_and, and_true, true_or, or_true, eq_self, ci0, ci1, cin6, forall_const, not_true_eq_false, not_false_eq_true, fimp, timp, i10, i01, cm_rne, and_assoc, hsh, e13]
        (repeat' apply And.intro) <;> (try omega) <;> (try (intro hx; exfalso; omega))
        intro _
        refine c135_127 (Nat.le_of_ble_eq_true rfl) hsh (q_letter hm' hP4 ho (by omega) ?_)
        have egg : rL P N (p + 1) - 48 = rL P N (p + 1) - 48 := rfl
        generalize hgg : rL P N (p + 1) - 48 = gg at hld egg ⊢
        have hggb : cm_in gg := by constructor <;> omega
        simp (disch := omega) only [g135_130, g135_132, g135_133, g135_134, g135_135, g135_136, g135_139, g135_140, g135_141, g135_142, g135_143, g135_144, Option.toList_some, Option.toList_none, List.cons_append, List.nil_append, true_and, and_true, true_or, or_true, eq_self, ci0, ci1, cin6, forall_const, not_true_eq_false, not_false_eq_true, fimp, timp, i10, i01, cm_rne, and_assoc, hsh, e13, a13, hgg, cm_up_s]
        (repeat' apply And.intro) <;> (try omega) <;> (try (intro hx; exfalso; omega))
        have f5 : fs3 M (cm_up M4 (m + 11) (4 * r + 1) gg) m := f4.tr fs3.up
        have hM5 : ∀ z, z ≠ m + 11 → cm_up M4 (m + 11) (4 * r + 1) gg z = M4 z := fun z hz => cm_rne hz
        have hk00 : kk = 0 := by omega
        have hE5 : isE (cm_up M4 (m + 11) (4 * r + 1) gg (m + 11)) r 0 gg (-6) 0 := by
          obtain ⟨w1, w2, w3, w4⟩ := hE4
          refine ⟨?_, cm_up_s _ _ _ _, ?_, ?_⟩
          · rw [cm_up_n _ (Or.inr (by omega)), w1]; exact hk00
          · rw [cm_up_n _ (Or.inr (by omega))]; exact w3
          · rw [cm_up_n _ (Or.inr (by omega))]; exact w4
        have hB5 : ∀ x, x < 4 * r → cm_up M4 (m + 11) (4 * r + 1) gg (m + 11) x = M (m + 11) x := fun x hx => by rw [cm_up_n _ (Or.inr (by omega))]; exact hB4 x hx
        generalize cm_up M4 (m + 11) (4 * r + 1) gg = M5 at *
        have i14 : M5 m 14 = r := by rw [hM5 m (by omega)]; exact j14
        have i15 : M5 m 15 = p + 1 := by rw [hM5 m (by omega)]; exact j15
        have i16 : M5 m 16 = -6 := by rw [hM5 m (by omega)]; exact j16'
        refine c135_146 (Nat.le_of_ble_eq_true rfl) (q_in hggb cn0 ⟨by decide, by decide⟩ (fun hz => ?_) (fun hz => ?_)) <;> simp (disch := omega) only [Option.toList_some, Option.toList_none, List.cons_append, List.nil_append, true_and, and_true, true_or, or_true, eq_self, ci0, ci1, cin6, forall_const, not_true_eq_false, not_false_eq_true, fimp, timp, i10, i01, cm_rne, and_assoc]
        · have ed := hld.1 (by omega)
          rw [if_neg (fun z => z (by omega))] at epl
          refine c135_149 (by decide) hsh (q_wants hm' i16 i15 (by omega) (Or.inr rfl) (fun M6 f6 g15 g16 => ?_))
          rw [if_pos rfl] at g16
          have hP6 : hRd M6 m P N (p + 1 + 1) (-6) := hP.g (f5.tr f6.t) g15 g16
          have h614 : M6 m 14 = r := by rw [f6.2 14 (by decide) (by decide)]; exact i14
          simp (disch := omega) only [g135_152, g135_153, g135_156, g135_157, g135_158, g135_159, g135_160, g135_161, Option.toList_some, Option.toList_none, List.cons_append, List.nil_append, true_and, and_true, true_or, or_true, eq_self, ci0, ci1, cin6, forall_const, not_true_eq_false, not_false_eq_true, fimp, timp, i10, i01, cm_rne, and_assoc, hsh, e13]
          rw [show p + 2 = p + 1 + 1 by omega] at epl d2
          refine c135_164 (Nat.le_of_ble_eq_true rfl) hsh (q_number hm' hP6 ho (by omega) (by omega) (by omega) (fun hb M7 v hv f7 g716 => ?_) (fun hb M7 f7 g716 g715 => ?_)) <;> simp (disch := omega) only [g135_167, Option.toList_some, Option.toList_none, List.cons_append, List.nil_append, true_and, and_true, true_or, or_true, eq_self, ci0, ci1, cin6, forall_const, not_true_eq_false, not_false_eq_true, fimp, timp, i10, i01, cm_rne, and_assoc, a13]
          · rw [if_pos hb] at epl
            rw [epl] at bad
            have q16 : cm_up M7 (m + 11) (4 * r + 2) v m 16 = p + 1 + 1 := by rw [cm_rne (by omega)]; exact g716
            have hb2 := bad (cm_up M7 (m + 11) (4 * r + 2) v) ((((f5.tr f6.t).tr f7.t)).tr fs3.up) (by rw [cm_rne (by omega), f7.2 14 (by decide) (by decide)]; exact h614) rfl q16
            (repeat' apply And.intro) <;> (try omega) <;> (try (intro hx; exfalso; omega))
            simp (disch := omega) only [g135_168, g135_169, g135_172, g135_174, Option.toList_some, Option.toList_none, List.cons_append, List.nil_append, true_and, and_true, true_or, or_true, eq_self, ci0, ci1, cin6, forall_const, not_true_eq_false, not_false_eq_true, fimp, timp, i10, i01, cm_rne, and_assoc, hsh, q16]
            (repeat' apply And.intro) <;> (try omega) <;> (try (intro hx; exfalso; omega))
            exact fun _ => hb2
          · rw [if_neg (by omega), show p + 3 = p + 1 + 1 + 1 by omega] at epl
            have hb2 := nmF_b (P := P) (N := N) (most := 999) (v := cD P N (p + 1 + 1)) (p := p + 1 + 1 + 1) (by omega) (by omega) (by omega) (by have := d2.2.2 (by omega); omega)
            have er : M7 (m + 11) = M5 (m + 11) := by rw [f7.1 _ (by omega), f6.1 _ (by omega)]
            (repeat' apply And.intro) <;> (try omega) <;> (try (intro hx; exfalso; omega))
            refine cue 0 (cD P N (p + 1)) _ _ _ hb2.2.2 (by omega) ((((f5.tr f6.t).tr f7.t)).tr fs3.up) ?_ ?_ ?_ ?_ (fun x hx => ?_) epl
            · rw [cm_rne (by omega), f7.2 14 (by decide) (by decide)]; exact h614
            · rw [cm_rne (by omega)]; exact g715
            · rw [cm_rne (by omega)]; exact g716
            · obtain ⟨w1, w2, w3, w4⟩ := hE5
              refine ⟨?_, ?_, cm_up_s _ _ _ _, ?_⟩
              · rw [cm_up_n _ (Or.inr (by omega)), er]; exact w1
              · rw [cm_up_n _ (Or.inr (by omega)), er, w2]; exact ed.symm
              · rw [cm_up_n _ (Or.inr (by omega)), er]; exact w4
            · rw [cm_up_n _ (Or.inr (by omega)), er]; exact hB5 x hx
        · have hcb : ¬ (0 ≤ cD P N (p + 1) ∧ cD P N (p + 1) ≤ 7) := by
            by_cases h9 : 0 ≤ gg ∧ gg ≤ 9
            · have := hld.1 h9; omega
            · have := hld.2 h9; omega
          rw [if_pos hcb] at epl
          rw [epl] at bad
          refine c135_149 (by decide) hsh (q_wants hm' i16 i15 (by omega) (Or.inl rfl) (fun M6 f6 g15 g16 => ?_))
          rw [if_neg (by decide)] at g16
          have hP6 : hRd M6 m P N (p + 1 + 1) (p + 1) := hP.g (f5.tr f6.t) g15 g16
          have h614 : M6 m 14 = r := by rw [f6.2 14 (by decide) (by decide)]; exact i14
          simp (disch := omega) only [g135_152, g135_153, g135_156, g135_157, g135_158, g135_159, g135_160, g135_161, Option.toList_some, Option.toList_none, List.cons_append, List.nil_append, true_and, and_true, true_or, or_true, eq_self, ci0, ci1, cin6, forall_const, not_true_eq_false, not_false_eq_true, fimp, timp, i10, i01, cm_rne, and_assoc, hsh, e13]
          refine c135_164 (Nat.le_of_ble_eq_true rfl) hsh (q_numberW hm' hP6 ho (by omega) (by omega) (by constructor <;> omega) (by omega) (fun v hv => ?_))
          simp (disch := omega) only [g135_167, Option.toList_some, Option.toList_none, List.cons_append, List.nil_append, true_and, and_true, true_or, or_true, eq_self, ci0, ci1, cin6, forall_const, not_true_eq_false, not_false_eq_true, fimp, timp, i10, i01, cm_rne, and_assoc, a13]
          have q16 : cm_up M6 (m + 11) (4 * r + 2) v m 16 = p + 1 := by rw [cm_rne (by omega)]; exact g16
          have hb2 := bad (cm_up M6 (m + 11) (4 * r + 2) v) ((f5.tr f6.t).tr fs3.up) (by rw [cm_rne (by omega)]; exact h614) rfl q16
          (repeat' apply And.intro) <;> (try omega) <;> (try (intro hx; exfalso; omega))
          simp (disch := omega) only [g135_168, g135_169, g135_172, g135_174, Option.toList_some, Option.toList_none, List.cons_append, List.nil_append, true_and, and_true, true_or, or_true, eq_self, ci0, ci1, cin6, forall_const, not_true_eq_false, not_false_eq_true, fimp, timp, i10, i01, cm_rne, and_assoc, hsh, q16]
          (repeat' apply And.intro) <;> (try omega) <;> (try (intro hx; exfalso; omega))
          exact fun _ => hb2
      · rw [if_neg hk0] at epl
        have hc := cue (kd P N p) (-6) (-6) (p + 1) M4 (by omega) (by omega) f4 j14 j15 j16' (by rw [show kd P N p = kk by omega]; exact hE4) hB4 epl
        simp (disch := omega) only [g135_113, g135_114, g135_116, Option.toList_some, Option.toList_none, List.cons_append, List.nil_append, true_and, and_true, true_or, or_true, eq_self, ci0, ci1, cin6, forall_const, not_true_eq_false, not_false_eq_true, fimp, timp, i10, i01, cm_rne, and_assoc]
        (repeat' apply And.intro) <;> (try omega) <;> (try (intro hx; exfalso; omega))
        exact fun _ => hc
  simp (disch := omega) only [g135_0, g135_1, g135_2, g135_5, g135_6, g135_7, Option.toList_some, Option.toList_none, List.cons_append, List.nil_append, true_and, and_true, true_or, or_true, eq_self, ci0, ci1, cin6, forall_const, not_true_eq_false, not_false_eq_true, fimp, timp, i10, i01, cm_rne, and_assoc, hsh, hr]
  refine c135_8 (by decide) hsh (q_letter hm' hP ho (by omega) ?_)
  simp (disch := omega) only [g135_11, g135_12, g135_13, g135_14, g135_16, g135_19, g135_20, g135_22, g135_25, g135_26, g135_28, g135_31, g135_32, g135_34, g135_37, g135_38, g135_41, Option.toList_some, Option.toList_none, List.cons_append, List.nil_append, true_and, and_true, true_or, or_true, eq_self, ci0, ci1, cin6, forall_const, not_true_eq_false, not_false_eq_true, fimp, timp, i10, i01, cm_rne, and_assoc]
  (repeat' apply And.intro) <;> (try omega) <;> (try (intro hx; exfalso; omega))
  sorry
end RLINE
