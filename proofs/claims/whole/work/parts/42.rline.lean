/-! ===== the reference reads a line ===== -/
def fs3 (M M' : cm_M) (m : Int) : Prop := (∀ k, k ≠ m → k ≠ m + 11 → M' k = M k) ∧ ∀ j, j < 14 → M' m j = M m j
theorem fs3.rf {M : cm_M} {m : Int} : fs3 M M m := ⟨fun _ _ _ => rfl, fun _ _ => rfl⟩
theorem fs3.tr {M M1 M2 : cm_M} {m : Int} (h1 : fs3 M M1 m) (h2 : fs3 M1 M2 m) : fs3 M M2 m := ⟨fun k a b => (h2.1 k a b).trans (h1.1 k a b), fun j a => (h2.2 j a).trans (h1.2 j a)⟩
theorem fs2.t {M M1 : cm_M} {m : Int} (h : fs2 M M1 m) : fs3 M M1 m := ⟨fun k a _ => h.1 k a, fun j a => h.2 j (by omega) (by omega)⟩
theorem fs3.up {M : cm_M} {m j v : Int} : fs3 M (cm_up M (m + 11) j v) m := ⟨fun k a b => cm_rne b, fun j _ => by rw [cm_rne (by omega)]⟩
theorem hRd.g {M M1 : cm_M} {m : Int} {P : Int → Int} {N p x q y : Int} (h : hRd M m P N p x) (f : fs3 M M1 m) (e : M1 m 15 = q) (e2 : M1 m 16 = y) : hRd M1 m P N q y := ⟨by rw [f.2 6 (by decide)]; exact h.1, fun k a b => by rw [f.1 (m + 5) (by omega) (by omega)]; exact h.2.1 k a b, e, e2⟩
/-- an entry of what was read -/
def isE (f : Int → Int) (r k g n u : Int) : Prop := f (4 * r) = k ∧ f (4 * r + 1) = g ∧ f (4 * r + 2) = n ∧ f (4 * r + 3) = u
theorem kd_c {P : Int → Int} {N p : Int} : (rL P N p = 110 ↔ kd P N p = 0) ∧ (rL P N p = 116 ↔ kd P N p = 1) ∧ (rL P N p = 108 ↔ kd P N p = 2) ∧ (rL P N p = 98 ↔ kd P N p = 3) := by
  unfold rL kd
  by_cases h : p < N
  · rw [if_pos h, if_pos h]
    omega
  · rw [if_neg h, if_neg h]
    omega
section RLINE
variable {G : cm_G} {M : cm_M} {P : Int → Int} {m N p r x i j t v w g h s n k u a b least most : Int} {S T : sS} {A : sA} {Q : Option cm_V → cm_G → cm_M → Prop}
theorem q_numberW (hm : isM G m) (hP : hRd M m P N p x) (ho : okP P N) (hp : 0 ≤ p ∧ p ≤ 900) (hx : ¬ x = -6) (hxb : cm_in x) (hl : 0 ≤ least ∧ least ≤ 1) (K : ∀ v, cm_in v → Q (some (0, v)) G M) : Go 134 0 [some (2, m), some (0, least), some (0, most), none, none] [] G M Q := by
  have hsh := hm.2.1
  have hlb := rL_b ho hp.1
  have fin : Go 134 19 [some (2, m), some (0, least), some (0, most), some (0, rL P N p - 48), none] [] G M Q := by
    simp (disch := omega) only [g134_19, g134_23, g134_25, g134_26, Option.toList_some, Option.toList_none, List.cons_append, List.nil_append, true_and, and_true, true_or, or_true, eq_self, ci0, ci1, cin6, forall_const, not_true_eq_false, not_false_eq_true, fimp, timp, i10, i01, cm_rne, and_assoc]
    refine c134_20 (by decide) hsh (q_letter hm hP ho (by omega) ?_)
    simp (disch := omega) only [g134_19, g134_23, g134_25, g134_26, Option.toList_some, Option.toList_none, List.cons_append, List.nil_append, true_and, and_true, true_or, or_true, eq_self, ci0, ci1, cin6, forall_const, not_true_eq_false, not_false_eq_true, fimp, timp, i10, i01, cm_rne, and_assoc]
    (repeat' apply And.intro) <;> (try omega) <;> (try (intro hx; exfalso; omega))
    rw [g134_28]
    simp (disch := omega) only [g134_29, g134_32, g134_34, g134_37, g134_38, g134_41, g134_43, g134_44, g134_90, g134_93, g134_94, Option.toList_some, Option.toList_none, List.cons_append, List.nil_append, true_and, and_true, true_or, or_true, eq_self, ci0, ci1, cin6, forall_const, not_true_eq_false, not_false_eq_true, fimp, timp, i10, i01, cm_rne, and_assoc, hsh, hP.2.2.2]
    (repeat' apply And.intro) <;> (try omega) <;> (try (intro hx; exfalso; omega))
    exact fun _ => K _ (by constructor <;> omega)
  simp (disch := omega) only [g134_0, g134_4, g134_6, g134_7, g134_8, g134_9, g134_10, g134_11, Option.toList_some, Option.toList_none, List.cons_append, List.nil_append, true_and, and_true, true_or, or_true, eq_self, ci0, ci1, cin6, forall_const, not_true_eq_false, not_false_eq_true, fimp, timp, i10, i01, cm_rne, and_assoc]
  refine c134_1 (by decide) hsh (q_letter hm hP ho (by omega) ?_)
  simp (disch := omega) only [g134_0, g134_4, g134_6, g134_7, g134_8, g134_9, g134_10, g134_11, Option.toList_some, Option.toList_none, List.cons_append, List.nil_append, true_and, and_true, true_or, or_true, eq_self, ci0, ci1, cin6, forall_const, not_true_eq_false, not_false_eq_true, fimp, timp, i10, i01, cm_rne, and_assoc]
  (repeat' apply And.intro) <;> (try omega) <;> (try (intro hx; exfalso; omega))
  refine c134_13 (Nat.le_of_ble_eq_true rfl) (q_in (by constructor <;> omega) (by constructor <;> omega) ⟨by decide, by decide⟩ (fun hz => ?_) (fun hz => ?_)) <;> simp (disch := omega) only [Option.toList_some, Option.toList_none, List.cons_append, List.nil_append, true_and, and_true, true_or, or_true, eq_self, ci0, ci1, cin6, forall_const, not_true_eq_false, not_false_eq_true, fimp, timp, i10, i01, cm_rne, and_assoc]
  · exact c134_16 (by decide) hsh (q_wants2 hm hP.2.2.2 hxb hx (by simp (disch := omega) only [Option.toList_some, Option.toList_none, List.cons_append, List.nil_append, true_and, and_true, true_or, or_true, eq_self, ci0, ci1, cin6, forall_const, not_true_eq_false, not_false_eq_true, fimp, timp, i10, i01, cm_rne, and_assoc]; exact fin))
  · exact c134_16 (by decide) hsh (q_wants2 hm hP.2.2.2 hxb hx (by simp (disch := omega) only [Option.toList_some, Option.toList_none, List.cons_append, List.nil_append, true_and, and_true, true_or, or_true, eq_self, ci0, ci1, cin6, forall_const, not_true_eq_false, not_false_eq_true, fimp, timp, i10, i01, cm_rne, and_assoc]; exact fin))
theorem rl_end {c : Int} {M1 : cm_M} (hm : isM G m) (h14 : M1 m 14 = r) (hrb : 0 ≤ r ∧ r ≤ 31) (K : ∀ M', fs3 M1 M' m → M' m 16 = M1 m 16 → M' m 15 = M1 m 15 → M' m 14 = r + 1 → M' (m + 11) = M1 (m + 11) → Q none G M') : Go 135 211 [some (2, m), some (0, 4 * r), some (0, c)] [] G M1 Q := by
  have hsh := hm.2.1
  have h0 := hm.1
  simp (disch := omega) only [g135_211, g135_212, g135_212b, g135_213, g135_216, g135_217, g135_218, g135_221, Option.toList_some, Option.toList_none, List.cons_append, List.nil_append, true_and, and_true, true_or, or_true, eq_self, ci0, ci1, cin6, forall_const, not_true_eq_false, not_false_eq_true, fimp, timp, i10, i01, cm_rne, and_assoc, hsh, h14]
  exact K _ ⟨fun k a _ => cm_rne a, fun j a => cm_up_n _ (Or.inr (by omega))⟩ (cm_up_n _ (Or.inr (by decide))) (cm_up_n _ (Or.inr (by decide))) (cm_up_s _ _ _ _) (cm_rne (by omega))
theorem rl_cue {c kk gg nn q : Int} {M1 : cm_M} (hm : isM G m) (hP1 : hRd M1 m P N q (-6)) (ho : okP P N) (hq : 0 ≤ q ∧ q ≤ N) (h14 : M1 m 14 = r) (hrb : 0 ≤ r ∧ r ≤ 31) (hE : isE (M1 (m + 11)) r kk gg nn 0)
    (K0 : (plC P N kk gg nn q).1 = 0 → ∀ M', fs3 M1 M' m → M' m 16 = (plC P N kk gg nn q).2.1 → Q none G M')
    (K1 : (plC P N kk gg nn q).1 = 1 → ∀ M', fs3 M1 M' m → M' m 16 = -6 → M' m 15 = (plC P N kk gg nn q).2.1 → M' m 14 = r + 1 → isE (M' (m + 11)) r (plC P N kk gg nn q).2.2.1 (plC P N kk gg nn q).2.2.2.1 (plC P N kk gg nn q).2.2.2.2.1 (plC P N kk gg nn q).2.2.2.2.2 → (∀ x, x < 4 * r → M' (m + 11) x = M1 (m + 11) x) → Q none G M') : Go 135 168 [some (2, m), some (0, 4 * r), some (0, c)] [] G M1 Q := by
  have hm' := hm
  obtain ⟨h0, hsh, ⟨-, -, -, -, -, -, -, -, -, -, e13⟩, -, -, -, -, -, -, -, -, -, -, a13⟩ := hm
  have hN := ho.1
  have hlb1 := rL_b (N := N) ho hq.1
  have hc64 := rL_c (P := P) (N := N) (p := q) (c := 64) (by decide)
  have h16 := hP1.2.2.2
  have h15 := hP1.2.2.1
  unfold plC at K0 K1
  simp (disch := omega) only [g135_168, g135_169, g135_172, g135_174, g135_177, Option.toList_some, Option.toList_none, List.cons_append, List.nil_append, true_and, and_true, true_or, or_true, eq_self, ci0, ci1, cin6, forall_const, not_true_eq_false, not_false_eq_true, fimp, timp, i10, i01, cm_rne, and_assoc, hsh, h16]
  (repeat' apply And.intro) <;> (try omega) <;> (try (intro hx; exfalso; omega))
  refine c135_178 (by decide) hsh (q_letter hm' hP1 ho (by omega) ?_)
  simp (disch := omega) only [g135_181, g135_183, g135_186, g135_187, g135_187b, g135_188, g135_191, g135_192, g135_193, g135_196, g135_197, g135_200, g135_201, g135_202, g135_203, g135_204, g135_205, Option.toList_some, Option.toList_none, List.cons_append, List.nil_append, true_and, and_true, true_or, or_true, eq_self, ci0, ci1, cin6, forall_const, not_true_eq_false, not_false_eq_true, fimp, timp, i10, i01, cm_rne, and_assoc, hsh, h15, e13]
  (repeat' apply And.intro) <;> (try omega) <;> (try (intro hx; exfalso; omega))
  · intro hne
    rw [if_neg (fun y => hne (hc64.mpr y))] at K1
    exact rl_end hm' h14 hrb (fun M' f a b cc d => K1 rfl M' f (a.trans h16) (b.trans h15) cc (by rw [d]; exact hE) (fun x _ => by rw [d]))
  · intro he
    rw [if_pos (hc64.mp he)] at K0 K1
    (repeat' apply And.intro) <;> (try omega) <;> (try (intro hx; exfalso; omega))
    have f2 : fs2 M1 (cm_up M1 m 15 (q + 1)) m := ⟨fun k a => cm_rne a, fun j a b => cm_up_n _ (Or.inr a)⟩
    have hP2 : hRd (cm_up M1 m 15 (q + 1)) m P N (q + 1) (-6) := hP1.f f2 (cm_up_s _ _ _ _) (by rw [cm_up_n _ (Or.inr (by decide))]; exact h16)
    refine c135_207 (Nat.le_of_ble_eq_true rfl) hsh (q_number hm' hP2 ho (by omega) (by omega) (by omega) (fun hb M2 v hv f3 g16 => ?_) (fun hb M2 f3 g16 g15 => ?_)) <;> simp (disch := omega) only [g135_210, Option.toList_some, Option.toList_none, List.cons_append, List.nil_append, true_and, and_true, true_or, or_true, eq_self, ci0, ci1, cin6, forall_const, not_true_eq_false, not_false_eq_true, fimp, timp, i10, i01, cm_rne, and_assoc, a13]
    · rw [if_pos hb] at K0
      (repeat' apply And.intro) <;> (try omega) <;> (try (intro hx; exfalso; omega))
      have w14 : cm_up M2 (m + 11) (4 * r + 3) v m 14 = r := by rw [cm_rne (by omega), f3.2 14 (by decide) (by decide), f2.2 14 (by decide) (by decide)]; exact h14
      exact rl_end hm' w14 hrb (fun M' f a b cc d => K0 rfl M' (((f2.tr f3).t.tr fs3.up).tr f) (by rw [a, cm_rne (by omega)]; exact g16))
    · rw [if_neg (by omega), show q + 2 = q + 1 + 1 by omega] at K1
      (repeat' apply And.intro) <;> (try omega) <;> (try (intro hx; exfalso; omega))
      have er : M2 (m + 11) = M1 (m + 11) := by rw [f3.1 _ (by omega), f2.1 _ (by omega)]
      generalize hu : (nmF P N 30 (cD P N (q + 1)) (q + 1 + 1)).1 = uu at *
      have w14 : cm_up M2 (m + 11) (4 * r + 3) uu m 14 = r := by rw [cm_rne (by omega), f3.2 14 (by decide) (by decide), f2.2 14 (by decide) (by decide)]; exact h14
      refine rl_end hm' w14 hrb (fun M' f a b cc d => K1 rfl M' (((f2.tr f3).t.tr fs3.up).tr f) (by rw [a, cm_rne (by omega)]; exact g16) (by rw [b, cm_rne (by omega)]; exact g15) cc ?_ (fun x hx => ?_))
      · rw [d]
        obtain ⟨w1, w2, w3, w4⟩ := hE
        refine ⟨?_, ?_, ?_, ?_⟩
        · rw [cm_up_n _ (Or.inr (by omega)), er]; exact w1
        · rw [cm_up_n _ (Or.inr (by omega)), er]; exact w2
        · rw [cm_up_n _ (Or.inr (by omega)), er]; exact w3
        · rw [cm_up_s]
      · rw [d, cm_up_n _ (Or.inr (by omega)), er]
/-- a name, behind its letter -/
def plN (P : Int → Int) (N p : Int) : pR := if ¬ (0 ≤ cD P N (p + 1) ∧ cD P N (p + 1) ≤ 7) then (0, p + 1, 0, 0, 0, 0) else if cD P N (p + 2) < 0 then (0, p + 2, 0, 0, 0, 0) else plC P N 0 (cD P N (p + 1)) (nmF P N 999 (cD P N (p + 2)) (p + 3)).1 (nmF P N 999 (cD P N (p + 2)) (p + 3)).2
theorem rl_name {c : Int} {M4 : cm_M} (hm : isM G m) (hP4 : hRd M4 m P N (p + 1) (-6)) (ho : okP P N) (hp : 0 ≤ p ∧ p < N) (h14 : M4 m 14 = r) (hrb : 0 ≤ r ∧ r ≤ 31) (hE : isE (M4 (m + 11)) r 0 (-6) (-6) 0)
    (K0 : (plN P N p).1 = 0 → ∀ M', fs3 M4 M' m → M' m 16 = (plN P N p).2.1 → Q none G M')
    (K1 : (plN P N p).1 = 1 → ∀ M', fs3 M4 M' m → M' m 16 = -6 → M' m 15 = (plN P N p).2.1 → M' m 14 = r + 1 → isE (M' (m + 11)) r (plN P N p).2.2.1 (plN P N p).2.2.2.1 (plN P N p).2.2.2.2.1 (plN P N p).2.2.2.2.2 → (∀ x, x < 4 * r → M' (m + 11) x = M4 (m + 11) x) → Q none G M') : Go 135 119 [some (2, m), some (0, 4 * r), some (0, c)] [] G M4 Q := by
  have hm' := hm
  obtain ⟨h0, hsh, ⟨-, -, -, -, -, -, -, -, -, -, e13⟩, -, -, -, -, -, -, -, -, -, -, a13⟩ := hm
  have hN := ho.1
  have hlb1 := rL_b (N := N) (p := p + 1) ho (by omega)
  have hld := rL_d (P := P) (N := N) (p := p + 1)
  have d2 := cD_b P N (p + 2)
  unfold plN at K0 K1
  simp (disch := omega) only [g135_119, g135_120, g135_123, g135_124, g135_125, g135_126, Option.toList_some, Option.toList_none, List.cons_append, List.nil_append, true_and, and_true, true_or, or_true, eq_self, ci0, ci1, cin6, forall_const, not_true_eq_false, not_false_eq_true, fimp, timp, i10, i01, cm_rne, and_assoc, hsh, e13]
  refine c135_127 (Nat.le_of_ble_eq_true rfl) hsh (q_letter hm' hP4 ho (by omega) ?_)
  simp (disch := omega) only [g135_130, g135_132, g135_133, g135_134, g135_135, g135_136, g135_139, g135_140, g135_141, g135_142, g135_143, g135_144, Option.toList_some, Option.toList_none, List.cons_append, List.nil_append, true_and, and_true, true_or, or_true, eq_self, ci0, ci1, cin6, forall_const, not_true_eq_false, not_false_eq_true, fimp, timp, i10, i01, cm_rne, and_assoc, hsh, e13, a13, cm_up_s]
  generalize hgg : rL P N (p + 1) - 48 = gg at hld ⊢
  have hggb : cm_in gg := by constructor <;> omega
  (repeat' apply And.intro) <;> (try omega) <;> (try (intro hx; exfalso; omega))
  have f5 : fs3 M4 (cm_up M4 (m + 11) (4 * r + 1) gg) m := fs3.up
  have hE5 : isE (cm_up M4 (m + 11) (4 * r + 1) gg (m + 11)) r 0 gg (-6) 0 := by
    obtain ⟨w1, w2, w3, w4⟩ := hE
    refine ⟨?_, cm_up_s _ _ _ _, ?_, ?_⟩
    · rw [cm_up_n _ (Or.inr (by omega))]; exact w1
    · rw [cm_up_n _ (Or.inr (by omega))]; exact w3
    · rw [cm_up_n _ (Or.inr (by omega))]; exact w4
  have hB5 : ∀ x, x < 4 * r → cm_up M4 (m + 11) (4 * r + 1) gg (m + 11) x = M4 (m + 11) x := fun x hx => by rw [cm_up_n _ (Or.inr (by omega))]
  have i14 : cm_up M4 (m + 11) (4 * r + 1) gg m 14 = r := by rw [cm_rne (by omega)]; exact h14
  have i15 : cm_up M4 (m + 11) (4 * r + 1) gg m 15 = p + 1 := by rw [cm_rne (by omega)]; exact hP4.2.2.1
  have i16 : cm_up M4 (m + 11) (4 * r + 1) gg m 16 = -6 := by rw [cm_rne (by omega)]; exact hP4.2.2.2
  generalize cm_up M4 (m + 11) (4 * r + 1) gg = M5 at *
  refine c135_146 (Nat.le_of_ble_eq_true rfl) (q_in hggb cn0 ⟨by decide, by decide⟩ (fun hz => ?_) (fun hz => ?_)) <;> simp (disch := omega) only [Option.toList_some, Option.toList_none, List.cons_append, List.nil_append, true_and, and_true, true_or, or_true, eq_self, ci0, ci1, cin6, forall_const, not_true_eq_false, not_false_eq_true, fimp, timp, i10, i01, cm_rne, and_assoc]
  · have ed := hld.1 (by omega)
    rw [if_neg (fun z => z (by omega))] at K0 K1
    refine c135_149 (by decide) hsh (q_wants hm' i16 i15 (by omega) (Or.inr rfl) (fun M6 f6 g15 g16 => ?_))
    rw [if_pos rfl] at g16
    have hP6 : hRd M6 m P N (p + 1 + 1) (-6) := hP4.g (f5.tr f6.t) g15 g16
    have h614 : M6 m 14 = r := by rw [f6.2 14 (by decide) (by decide)]; exact i14
    simp (disch := omega) only [g135_152, g135_153, g135_156, g135_157, g135_158, g135_159, g135_160, g135_161, Option.toList_some, Option.toList_none, List.cons_append, List.nil_append, true_and, and_true, true_or, or_true, eq_self, ci0, ci1, cin6, forall_const, not_true_eq_false, not_false_eq_true, fimp, timp, i10, i01, cm_rne, and_assoc, hsh, e13]
    rw [show p + 2 = p + 1 + 1 by omega] at K0 K1 d2
    refine c135_164 (Nat.le_of_ble_eq_true rfl) hsh (q_number hm' hP6 ho (by omega) (by omega) (by omega) (fun hb M7 v hv f7 g716 => ?_) (fun hb M7 f7 g716 g715 => ?_)) <;> simp (disch := omega) only [g135_167, Option.toList_some, Option.toList_none, List.cons_append, List.nil_append, true_and, and_true, true_or, or_true, eq_self, ci0, ci1, cin6, forall_const, not_true_eq_false, not_false_eq_true, fimp, timp, i10, i01, cm_rne, and_assoc, a13]
    · rw [if_pos hb] at K0
      have q16 : cm_up M7 (m + 11) (4 * r + 2) v m 16 = p + 1 + 1 := by rw [cm_rne (by omega)]; exact g716
      have q14 : cm_up M7 (m + 11) (4 * r + 2) v m 14 = r := by rw [cm_rne (by omega), f7.2 14 (by decide) (by decide)]; exact h614
      have hb2 : Go 135 211 [some (2, m), some (0, 4 * r), some (0, c)] [] G (cm_up M7 (m + 11) (4 * r + 2) v) Q := rl_end hm' q14 hrb (fun M' f a b cc d => K0 rfl M' ((((f5.tr f6.t).tr f7.t).tr fs3.up).tr f) (a.trans q16))
      (repeat' apply And.intro) <;> (try omega) <;> (try (intro hx; exfalso; omega))
      simp (disch := omega) only [g135_168, g135_169, g135_172, g135_174, Option.toList_some, Option.toList_none, List.cons_append, List.nil_append, true_and, and_true, true_or, or_true, eq_self, ci0, ci1, cin6, forall_const, not_true_eq_false, not_false_eq_true, fimp, timp, i10, i01, cm_rne, and_assoc, hsh, q16]
      (repeat' apply And.intro) <;> (try omega) <;> (try (intro hx; exfalso; omega))
      exact fun _ => hb2
    · rw [if_neg (by omega), show p + 3 = p + 1 + 1 + 1 by omega] at K0 K1
      have hb2 := nmF_b (P := P) (N := N) (most := 999) (v := cD P N (p + 1 + 1)) (p := p + 1 + 1 + 1) (by omega) (by omega) (by omega) (by have := d2.2.2 (by omega); omega)
      have er : M7 (m + 11) = M5 (m + 11) := by rw [f7.1 _ (by omega), f6.1 _ (by omega)]
      generalize nmF P N 999 (cD P N (p + 1 + 1)) (p + 1 + 1 + 1) = F at *
      (repeat' apply And.intro) <;> (try omega) <;> (try (intro hx; exfalso; omega))
      have ff : fs3 M4 (cm_up M7 (m + 11) (4 * r + 2) F.1) m := (((f5.tr f6.t).tr f7.t)).tr fs3.up
      have hP7 : hRd (cm_up M7 (m + 11) (4 * r + 2) F.1) m P N F.2 (-6) := hP4.g ff (by rw [cm_rne (by omega)]; exact g715) (by rw [cm_rne (by omega)]; exact g716)
      have q14 : cm_up M7 (m + 11) (4 * r + 2) F.1 m 14 = r := by rw [cm_rne (by omega), f7.2 14 (by decide) (by decide)]; exact h614
      have hB7 : ∀ x, x < 4 * r → cm_up M7 (m + 11) (4 * r + 2) F.1 (m + 11) x = M4 (m + 11) x := fun x hx => by rw [cm_up_n _ (Or.inr (by omega)), er]; exact hB5 x hx
      refine rl_cue hm' hP7 ho (by omega) q14 hrb ?_ (fun hz M' f a => K0 hz M' (ff.tr f) a) (fun hz M' f a b cc d e => K1 hz M' (ff.tr f) a b cc d (fun x hx => (e x hx).trans (hB7 x hx)))
      obtain ⟨w1, w2, w3, w4⟩ := hE5
      refine ⟨?_, ?_, cm_up_s _ _ _ _, ?_⟩
      · rw [cm_up_n _ (Or.inr (by omega)), er]; exact w1
      · rw [cm_up_n _ (Or.inr (by omega)), er, w2]; exact ed.symm
      · rw [cm_up_n _ (Or.inr (by omega)), er]; exact w4
  · have hcb : ¬ (0 ≤ cD P N (p + 1) ∧ cD P N (p + 1) ≤ 7) := by
      by_cases h9 : 0 ≤ gg ∧ gg ≤ 9
      · have := hld.1 h9; omega
      · have := hld.2 h9; omega
    rw [if_pos hcb] at K0
    refine c135_149 (by decide) hsh (q_wants hm' i16 i15 (by omega) (Or.inl rfl) (fun M6 f6 g15 g16 => ?_))
    rw [if_neg (by decide)] at g16
    have hP6 : hRd M6 m P N (p + 1 + 1) (p + 1) := hP4.g (f5.tr f6.t) g15 g16
    have h614 : M6 m 14 = r := by rw [f6.2 14 (by decide) (by decide)]; exact i14
    simp (disch := omega) only [g135_152, g135_153, g135_156, g135_157, g135_158, g135_159, g135_160, g135_161, Option.toList_some, Option.toList_none, List.cons_append, List.nil_append, true_and, and_true, true_or, or_true, eq_self, ci0, ci1, cin6, forall_const, not_true_eq_false, not_false_eq_true, fimp, timp, i10, i01, cm_rne, and_assoc, hsh, e13]
    refine c135_164 (Nat.le_of_ble_eq_true rfl) hsh (q_numberW hm' hP6 ho (by omega) (by omega) (by constructor <;> omega) (by omega) (fun v hv => ?_))
    simp (disch := omega) only [g135_167, Option.toList_some, Option.toList_none, List.cons_append, List.nil_append, true_and, and_true, true_or, or_true, eq_self, ci0, ci1, cin6, forall_const, not_true_eq_false, not_false_eq_true, fimp, timp, i10, i01, cm_rne, and_assoc, a13]
    have q16 : cm_up M6 (m + 11) (4 * r + 2) v m 16 = p + 1 := by rw [cm_rne (by omega)]; exact g16
    have q14 : cm_up M6 (m + 11) (4 * r + 2) v m 14 = r := by rw [cm_rne (by omega)]; exact h614
    have hb2 : Go 135 211 [some (2, m), some (0, 4 * r), some (0, c)] [] G (cm_up M6 (m + 11) (4 * r + 2) v) Q := rl_end hm' q14 hrb (fun M' f a b cc d => K0 rfl M' (((f5.tr f6.t).tr fs3.up).tr f) (a.trans q16))
    (repeat' apply And.intro) <;> (try omega) <;> (try (intro hx; exfalso; omega))
    simp (disch := omega) only [g135_168, g135_169, g135_172, g135_174, Option.toList_some, Option.toList_none, List.cons_append, List.nil_append, true_and, and_true, true_or, or_true, eq_self, ci0, ci1, cin6, forall_const, not_true_eq_false, not_false_eq_true, fimp, timp, i10, i01, cm_rne, and_assoc, hsh, q16]
    (repeat' apply And.intro) <;> (try omega) <;> (try (intro hx; exfalso; omega))
    exact fun _ => hb2
end RLINE
