/-! ===== the law: groups ===== -/
section LAW6
variable {G : cm_G} {M : cm_M} {A : sA} {S : sS} {rt rq k u : Int} {Q : Option cm_V → cm_G → cm_M → Prop}
/-- through the lines of a group, from the last one up -/
theorem l_group1 (hv : vS S) (hk : 0 ≤ k ∧ k ≤ 7) (hz : 0 ≤ rt ∧ 0 ≤ rq ∧ (∀ M, cm_al 1 G M rt = 40) ∧ ∀ M, cm_al 1 G M rq = 40) (ht : ∀ i, 0 ≤ i → i < sN S → M rt i = eI S i) (hq : ∀ i, 0 ≤ i → i < sN S → M rq i = sG S i) {y11 : Option cm_V}
    (K : ∀ m mo le fi, gst S k (-1) m mo le fi → Go 71 102 [some (2, 0), some (2, rt), some (2, rq), some (0, sN S), some (0, u), some (0, k), some (0, m), some (0, mo), some (0, le), some (0, fi), some (0, -1), y11] [] G M Q) :
    Go 71 30 [some (2, 0), some (2, rt), some (2, rq), some (0, sN S), some (0, u), some (0, k), some (0, 0), some (0, 0), some (0, -1), some (0, -1), some (0, sN S - 1), y11] [] G M Q := by
  obtain ⟨z1, z2, a1, a2⟩ := hz
  have hn := hv.2.1
  have hn0 := hv.1
  refine go_loopD (σ := Int × Int × Int × Int) (fun i s => [some (2, 0), some (2, rt), some (2, rq), some (0, sN S), some (0, u), some (0, k), some (0, s.1), some (0, s.2.1), some (0, s.2.2.1), some (0, s.2.2.2), some (0, i), y11]) (fun _ => M) (fun i s => i < sN S ∧ gst S k i s.1 s.2.1 s.2.2.1 s.2.2.2) (-1) (fun i s hi0 hRs ih => ?_) (fun s hRs => ?_) (sN S - 1) (0, 0, -1, -1) (by omega) ⟨by omega, gst_0⟩
  · obtain ⟨m, mo, le, fi⟩ := s
    obtain ⟨hin, hg⟩ := hRs
    dsimp only at hg ih ⊢
    have hi : 0 ≤ i := by omega
    have w := hv.2.2.2.2.2 i hi hin
    have hb := eI_b hv ⟨hi, hin⟩
    have et := ht i hi hin
    have eq := hq i hi hin
    have hg' := hg
    obtain ⟨g1, g2, -, -, g5⟩ := hg'
    have c1 := cg_b S k (i := i + 1) (by omega)
    have c2 := cg_b S k (i := sN S) hn0
    have no : ¬ sG S i = k → Go 71 30 [some (2, 0), some (2, rt), some (2, rq), some (0, sN S), some (0, u), some (0, k), some (0, m), some (0, mo), some (0, le), some (0, fi), some (0, i - 1), y11] [] G M Q := fun hne => ih (m, mo, le, fi) ⟨by omega, gst_no hi hg hne⟩
    have yes : ∀ mo' le', sG S i = k → ((mo' = mo ∧ eI S i ≤ mo) ∨ (mo' = eI S i ∧ mo < eI S i)) → ((le' = i ∧ (le < 0 ∨ eI S i ≤ eI S le)) ∨ (le' = le ∧ 0 ≤ le ∧ eI S le < eI S i)) → Go 71 30 [some (2, 0), some (2, rt), some (2, rq), some (0, sN S), some (0, u), some (0, k), some (0, m + 1), some (0, mo'), some (0, le'), some (0, i), some (0, i - 1), y11] [] G M Q := fun mo' le' he hm hl => ih (m + 1, mo', le', i) ⟨by omega, gst_yes hv ⟨hi, hin⟩ hg he hm hl⟩
    -- behind the most
    have mid : ∀ mo', sG S i = k → ((mo' = mo ∧ eI S i ≤ mo) ∨ (mo' = eI S i ∧ mo < eI S i)) → Go 71 65 [some (2, 0), some (2, rt), some (2, rq), some (0, sN S), some (0, u), some (0, k), some (0, m + 1), some (0, mo), some (0, le), some (0, fi), some (0, i), y11] [(0, mo')] G M Q := by
      intro mo' he hm
      rcases g5 with ⟨rfl, -, -⟩ | ⟨⟨b1, b2, b3, -⟩, -⟩
      · simp (disch := omega) only [g71_65, g71_67, g71_69, g71_72, g71_73, g71_75, g71_76, g71_77, g71_79, g71_80, g71_83, g71_85, g71_88, g71_90, g71_92, g71_94, g71_96, g71_99, Option.toList_some, Option.toList_none, List.cons_append, List.nil_append, true_and, and_true, true_or, or_true, eq_self, ci0, ci1, cin6, forall_const, not_true_eq_false, not_false_eq_true, fimp, timp, i10, i01, cm_rne, and_assoc, a1, et]
        (repeat' apply And.intro) <;> (try omega) <;> (try (intro hx; exfalso; omega))
        first
        | exact fun _ => yes mo' i he hm (Or.inl ⟨rfl, Or.inl (by decide)⟩)
        | exact yes mo' i he hm (Or.inl ⟨rfl, Or.inl (by decide)⟩)
      · have el := ht le (by omega) b2
        have hb2 := eI_b hv (i := le) (by omega)
        simp (disch := omega) only [g71_65, g71_67, g71_69, g71_72, g71_73, g71_75, g71_76, g71_77, g71_79, g71_80, g71_83, g71_85, g71_88, g71_90, g71_92, g71_94, g71_96, g71_99, Option.toList_some, Option.toList_none, List.cons_append, List.nil_append, true_and, and_true, true_or, or_true, eq_self, ci0, ci1, cin6, forall_const, not_true_eq_false, not_false_eq_true, fimp, timp, i10, i01, cm_rne, and_assoc, a1, et, el]
        (repeat' apply And.intro) <;> (try omega) <;> (try (intro hx; exfalso; omega))
        intro _
        (repeat' apply And.intro) <;> (try omega) <;> (try (intro hx; exfalso; omega))
        · intro h3
          exact yes mo' le he hm (Or.inr ⟨rfl, by omega, h3⟩)
        · intro h3
          exact yes mo' i he hm (Or.inl ⟨rfl, Or.inr (by omega)⟩)
    rw [g71_30]
    simp (disch := omega) only [g71_32, g71_35, g71_36, g71_38, g71_39, g71_41, g71_44, g71_47, g71_48, g71_50, g71_51, g71_53, g71_56, g71_57, g71_59, g71_60, g71_63, g71_96, g71_99, Option.toList_some, Option.toList_none, List.cons_append, List.nil_append, true_and, and_true, true_or, or_true, eq_self, ci0, ci1, cin6, forall_const, not_true_eq_false, not_false_eq_true, fimp, timp, i10, i01, cm_rne, and_assoc, a1, a2, et, eq]
    (repeat' apply And.intro) <;> (try omega) <;> (try (intro hx; exfalso; omega))
    intro _
    (repeat' apply And.intro) <;> (try omega) <;> (try (intro hx; exfalso; omega))
    · exact no
    · intro he
      (repeat' apply And.intro) <;> (try omega) <;> (try (intro hx; exfalso; omega))
      · intro h2
        exact mid mo he (Or.inl ⟨rfl, by omega⟩)
      · intro h2
        (repeat' apply And.intro) <;> (try omega) <;> (try (intro hx; exfalso; omega))
        exact mid _ he (Or.inr ⟨rfl, h2⟩)
  · obtain ⟨m, mo, le, fi⟩ := s
    have fin := K m mo le fi hRs.2
    dsimp only
    rw [g71_30]
    simp (disch := omega) only [g71_32, Option.toList_some, Option.toList_none, List.cons_append, List.nil_append, true_and, and_true, true_or, or_true, eq_self, ci0, ci1, cin6, forall_const, not_true_eq_false, not_false_eq_true, fimp, timp, i10, i01, cm_rne, and_assoc]
    (repeat' apply And.intro) <;> (try omega) <;> (try (intro hx; exfalso; omega))
    first
    | exact fun _ => fin
    | exact fin
/-- a group's five answers -/
theorem l_group2 {m mo le fi : Int} (hX : isX G) (hA : rXA M A) (hv : vA A) (hk : 0 ≤ k ∧ k ≤ 7) (hz : 82 ≤ rt ∧ ∀ M, cm_al 1 G M rt = 40) (ht : ∀ i, 0 ≤ i → i < sN (aS A) → M rt i = eI (aS A) i) (hg : gst (aS A) k (-1) m mo le fi) {y11 : Option cm_V}
    (K : ∀ M' y11, rXA M' A → fr M M' 0 81 → Go 71 6 [some (2, 0), some (2, rt), some (2, rq), some (0, sN (aS A)), some (0, u), some (0, k + 1), some (0, m), some (0, mo), some (0, le), some (0, fi), some (0, spr (aS A) k), y11] [] G M' Q) :
    Go 71 135 [some (2, 0), some (2, rt), some (2, rq), some (0, sN (aS A)), some (0, u), some (0, k), some (0, m), some (0, mo), some (0, le), some (0, fi), some (0, spr (aS A) k), y11] [] G M Q := by
  obtain ⟨z1, a1⟩ := hz
  have hn := hv.1.2.1
  have ik : cm_in k := ⟨by omega, by omega⟩
  obtain ⟨x0, x1, x2, x3, x4⟩ := xG (S := aS A) hk
  obtain ⟨hm, -, hc⟩ := gst_end hv.1 hg
  have hcb := cg_b (aS A) k hv.1.1
  have hmb : 0 ≤ m ∧ m ≤ 40 := by omega
  have hsp := (spr_b hv.1 k).1
  have x0' : xGroup (aS A) k 0 = m := x0.trans hm.symm
  simp (disch := omega) only [g71_135, g71_136, g71_138, Option.toList_some, Option.toList_none, List.cons_append, List.nil_append, true_and, and_true, true_or, or_true, eq_self, ci0, ci1, cin6, forall_const, not_true_eq_false, not_false_eq_true, fimp, timp, i10, i01, cm_rne, and_assoc]
  refine c71_139 (Nat.le_of_ble_eq_true rfl) hX.1 (p_group hX hA hv ik cn0 (fun M1 r1 f1 => ?_))
  rw [x0']
  simp (disch := omega) only [g71_142, g71_144, g71_147, g71_148, g71_150, Option.toList_some, Option.toList_none, List.cons_append, List.nil_append, true_and, and_true, true_or, or_true, eq_self, ci0, ci1, cin6, forall_const, not_true_eq_false, not_false_eq_true, fimp, timp, i10, i01, cm_rne, and_assoc]
  (repeat' apply And.intro) <;> (try omega) <;> (try (intro hx; exfalso; omega))
  refine c71_151 (Nat.le_of_ble_eq_true rfl) hX.1 (p_group hX r1 hv ik cn1 (fun M2 r2 f2 => ?_))
  rw [x1]
  simp (disch := omega) only [g71_154, g71_156, g71_159, g71_160, g71_162, Option.toList_some, Option.toList_none, List.cons_append, List.nil_append, true_and, and_true, true_or, or_true, eq_self, ci0, ci1, cin6, forall_const, not_true_eq_false, not_false_eq_true, fimp, timp, i10, i01, cm_rne, and_assoc]
  (repeat' apply And.intro) <;> (try omega) <;> (try (intro hx; exfalso; omega))
  refine c71_163 (Nat.le_of_ble_eq_true rfl) hX.1 (p_group hX r2 hv ik ⟨by decide, by decide⟩ (fun M3 r3 f3 => ?_))
  rw [x2]
  have f23 := (f1.tr f2).tr f3
  rcases hc with ⟨c1, c2, c3, c4, c5⟩ | ⟨c1, c2, c3, c4, c5⟩
  · rw [if_pos c2, c5, c3, c4]
    simp (disch := omega) only [g71_166, g71_168, g71_171, g71_173, g71_180, g71_183, g71_184, g71_186, Option.toList_some, Option.toList_none, List.cons_append, List.nil_append, true_and, and_true, true_or, or_true, eq_self, ci0, ci1, cin6, forall_const, not_true_eq_false, not_false_eq_true, fimp, timp, i10, i01, cm_rne, and_assoc]
    (repeat' apply And.intro) <;> (try omega) <;> (try (intro hx; exfalso; omega))
    refine c71_187 (Nat.le_of_ble_eq_true rfl) hX.1 (p_group hX r3 hv ik ⟨by decide, by decide⟩ (fun M4 r4 f4 => ?_))
    rw [x3, c1]
    simp (disch := omega) only [g71_190, g71_192, g71_195, g71_197, g71_200, g71_202, g71_205, g71_206, g71_208, Option.toList_some, Option.toList_none, List.cons_append, List.nil_append, true_and, and_true, true_or, or_true, eq_self, ci0, ci1, cin6, forall_const, not_true_eq_false, not_false_eq_true, fimp, timp, i10, i01, cm_rne, and_assoc]
    (repeat' apply And.intro) <;> (try omega) <;> (try (intro hx; exfalso; omega))
    refine c71_209 (Nat.le_of_ble_eq_true rfl) hX.1 (p_group hX r4 hv ik ⟨by decide, by decide⟩ (fun M5 r5 f5 => ?_))
    rw [x4, if_pos c2]
    simp (disch := omega) only [g71_212, g71_214, g71_217, g71_219, g71_229, g71_232, g71_233, g71_236, g71_237, g71_239, g71_241, g71_244, g71_245, g71_246, g71_249, Option.toList_some, Option.toList_none, List.cons_append, List.nil_append, true_and, and_true, true_or, or_true, eq_self, ci0, ci1, cin6, forall_const, not_true_eq_false, not_false_eq_true, fimp, timp, i10, i01, cm_rne, and_assoc]
    (repeat' apply And.intro) <;> (try omega) <;> (try (intro hx; exfalso; omega))
    have := K M5 (some (0, 1)) r5 ((f23.tr f4).tr f5)
    rw [c5, c3, c4] at this
    exact this
  · have hne : ¬ lsL (aS A) k = -6 := by omega
    have hlo : lsO (aS A) k = eI (aS A) le := by
      unfold lsO
      rw [if_neg hne, c1]
    have hb := eI_b hv.1 (i := le) (by omega)
    have hno : ¬ nameAt (aS A) k = -6 := by omega
    have el : M3 rt le = eI (aS A) le := by rw [f23 rt (by omega)]; exact ht le c3.1 c3.2
    rw [if_neg hno, hlo]
    simp (disch := omega) only [g71_166, g71_168, g71_171, g71_173, g71_176, g71_177, g71_179, g71_180, g71_183, g71_184, g71_186, Option.toList_some, Option.toList_none, List.cons_append, List.nil_append, true_and, and_true, true_or, or_true, eq_self, ci0, ci1, cin6, forall_const, not_true_eq_false, not_false_eq_true, fimp, timp, i10, i01, cm_rne, and_assoc, a1, el]
    (repeat' apply And.intro) <;> (try omega) <;> (try (intro hx; exfalso; omega))
    intro _
    (repeat' apply And.intro) <;> (try omega) <;> (try (intro hx; exfalso; omega))
    refine c71_187 (Nat.le_of_ble_eq_true rfl) hX.1 (p_group hX r3 hv ik ⟨by decide, by decide⟩ (fun M4 r4 f4 => ?_))
    rw [x3, c1]
    simp (disch := omega) only [g71_190, g71_192, g71_195, g71_197, g71_200, g71_202, g71_205, g71_206, g71_208, Option.toList_some, Option.toList_none, List.cons_append, List.nil_append, true_and, and_true, true_or, or_true, eq_self, ci0, ci1, cin6, forall_const, not_true_eq_false, not_false_eq_true, fimp, timp, i10, i01, cm_rne, and_assoc]
    (repeat' apply And.intro) <;> (try omega) <;> (try (intro hx; exfalso; omega))
    intro _
    (repeat' apply And.intro) <;> (try omega) <;> (try (intro hx; exfalso; omega))
    refine c71_209 (Nat.le_of_ble_eq_true rfl) hX.1 (p_group hX r4 hv ik ⟨by decide, by decide⟩ (fun M5 r5 f5 => ?_))
    rw [x4, if_neg hno, c2]
    simp (disch := omega) only [g71_212, g71_214, g71_217, g71_219, g71_222, g71_223, g71_225, Option.toList_some, Option.toList_none, List.cons_append, List.nil_append, true_and, and_true, true_or, or_true, eq_self, ci0, ci1, cin6, forall_const, not_true_eq_false, not_false_eq_true, fimp, timp, i10, i01, cm_rne, and_assoc]
    (repeat' apply And.intro) <;> (try omega) <;> (try (intro hx; exfalso; omega))
    intro _
    have w := hv.1.2.2.2.2.2 fi c4.1 c4.2
    refine c71_226 (Nat.le_of_ble_eq_true rfl) hX.1 (p_of hX r5 hv (i := fi) ⟨by omega, by omega⟩ ⟨by decide, by decide⟩ (fun M6 r6 f6 => ?_))
    rw [(xO c4).2.2.1]
    have i9 : cm_in (sM (aS A) fi) := by
      by_cases hz : sK (aS A) fi = 0
      · have := w.2.2.1 hz
        constructor <;> omega
      · have := (w.2.2.2.1 hz).2
        constructor <;> omega
    simp (disch := omega) only [g71_229, g71_232, g71_233, g71_236, g71_237, g71_239, g71_241, g71_244, g71_245, g71_246, g71_249, Option.toList_some, Option.toList_none, List.cons_append, List.nil_append, true_and, and_true, true_or, or_true, eq_self, ci0, ci1, cin6, forall_const, not_true_eq_false, not_false_eq_true, fimp, timp, i10, i01, cm_rne, and_assoc, eq_true i9]
    exact K M6 (some (0, 1)) r6 (((f23.tr f4).tr f5).tr f6)
theorem l_groups (hX : isX G) (hA : rXA M A) (hv : vA A) (hz : 82 ≤ rt ∧ 82 ≤ rq ∧ (∀ M, cm_al 1 G M rt = 40) ∧ ∀ M, cm_al 1 G M rq = 40) (ht : ∀ i, 0 ≤ i → i < sN (aS A) → M rt i = eI (aS A) i) (hq : ∀ i, 0 ≤ i → i < sN (aS A) → M rq i = sG (aS A) i)
    (K : ∀ M', rXA M' A → fr M M' 0 81 → Q (some (0, 1)) G M') :
    Go 71 0 [some (2, 0), some (2, rt), some (2, rq), some (0, sN (aS A)), none, none, none, none, none, none, none, none] [] G M Q := by
  have hz' := hz
  obtain ⟨z1, z2, a1, a2⟩ := hz
  have hn := hv.1.2.1
  have hn0 := hv.1.1
  simp (disch := omega) only [g71_0, g71_1, g71_3, g71_4, Option.toList_some, Option.toList_none, List.cons_append, List.nil_append, true_and, and_true, true_or, or_true, eq_self, ci0, ci1, cin6, forall_const, not_true_eq_false, not_false_eq_true, fimp, timp, i10, i01, cm_rne, and_assoc]
  refine go_loop (σ := (Option cm_V × Option cm_V × Option cm_V × Option cm_V × Option cm_V × Option cm_V) × cm_M) (fun k s => [some (2, 0), some (2, rt), some (2, rq), some (0, sN (aS A)), some (0, fP (fun g a => if spr (aS A) g = 0 then a else a + 1) 0 k.toNat), some (0, k), s.1.1, s.1.2.1, s.1.2.2.1, s.1.2.2.2.1, s.1.2.2.2.2.1, s.1.2.2.2.2.2]) (fun s => s.2) (fun k s => (0 ≤ fP (fun g a => if spr (aS A) g = 0 then a else a + 1) (0 : Int) k.toNat ∧ fP (fun g a => if spr (aS A) g = 0 then a else a + 1) (0 : Int) k.toNat ≤ k) ∧ rXA s.2 A ∧ fr M s.2 0 81) 8 (fun k s hk0 hk8 hRs ih => ?_) (fun s hRs => ?_) 0 ((none, none, none, none, none, none), M) (by omega) (by omega) ⟨⟨Int.le_refl 0, Int.le_refl 0⟩, hA, fr.rf⟩
  · obtain ⟨⟨y6, y7, y8, y9, y10, y11⟩, s⟩ := s
    obtain ⟨hub, q1, qf⟩ := hRs
    dsimp only at q1 qf ih ⊢
    have ht1 : ∀ i, 0 ≤ i → i < sN (aS A) → s rt i = eI (aS A) i := fun i a b => by rw [qf rt (by omega)]; exact ht i a b
    have hq1 : ∀ i, 0 ≤ i → i < sN (aS A) → s rq i = sG (aS A) i := fun i a b => by rw [qf rq (by omega)]; exact hq i a b
    have stp : fP (fun g a => if spr (aS A) g = 0 then a else a + 1) (0 : Int) (k + 1).toNat = (if spr (aS A) k = 0 then fP (fun g a => if spr (aS A) g = 0 then a else a + 1) (0 : Int) k.toNat else fP (fun g a => if spr (aS A) g = 0 then a else a + 1) (0 : Int) k.toNat + 1) := fP_s _ _ hk0
    generalize hu : fP (fun g a => if spr (aS A) g = 0 then a else a + 1) (0 : Int) k.toNat = u at *
    have hsp := (spr_b hv.1 k).1
    rw [g71_6]
    simp (disch := omega) only [g71_8, g71_10, g71_13, g71_14, g71_16, g71_17, g71_19, g71_20, g71_22, g71_23, g71_25, g71_26, g71_27, g71_28, Option.toList_some, Option.toList_none, List.cons_append, List.nil_append, true_and, and_true, true_or, or_true, eq_self, ci0, ci1, cin6, forall_const, not_true_eq_false, not_false_eq_true, fimp, timp, i10, i01, cm_rne, and_assoc]
    (repeat' apply And.intro) <;> (try omega) <;> (try (intro hx; exfalso; omega))
    intro _
    refine l_group1 hv.1 ⟨hk0, by omega⟩ ⟨by omega, by omega, a1, a2⟩ ht1 hq1 (fun m mo le fi hg => ?_)
    obtain ⟨hm, hmo, hc⟩ := gst_end hv.1 hg
    have hmsb := (spr_b hv.1 k).2
    -- behind the spread
    have rest : Go 71 118 [some (2, 0), some (2, rt), some (2, rq), some (0, sN (aS A)), some (0, u), some (0, k), some (0, m), some (0, mo), some (0, le), some (0, fi), some (0, -1), y11] [(0, spr (aS A) k)] G s Q := by
      have goon : ∀ u', u' = (if spr (aS A) k = 0 then u else u + 1) → Go 71 135 [some (2, 0), some (2, rt), some (2, rq), some (0, sN (aS A)), some (0, u'), some (0, k), some (0, m), some (0, mo), some (0, le), some (0, fi), some (0, spr (aS A) k), y11] [] G s Q := by
        intro u' hu'
        refine l_group2 hX q1 hv ⟨hk0, by omega⟩ ⟨z1, a1⟩ ht1 hg (fun M' y11 r' f' => ?_)
        have := ih ((some (0, m), some (0, mo), some (0, le), some (0, fi), some (0, spr (aS A) k), y11), M') ⟨by rw [stp]; omega, r', qf.tr f'⟩
        rw [stp, ← hu'] at this
        exact this
      simp (disch := omega) only [g71_118, g71_120, g71_122, g71_124, g71_127, g71_128, g71_131, g71_132, g71_133, Option.toList_some, Option.toList_none, List.cons_append, List.nil_append, true_and, and_true, true_or, or_true, eq_self, ci0, ci1, cin6, forall_const, not_true_eq_false, not_false_eq_true, fimp, timp, i10, i01, cm_rne, and_assoc]
      (repeat' apply And.intro) <;> (try omega) <;> (try (intro hx; exfalso; omega))
      · intro h1
        exact goon (u + 0) (by rw [if_pos (by omega)]; omega)
      · intro h1
        exact goon (u + 1) (by rw [if_neg (by omega)])
    rcases hc with ⟨c1, c2, c3, c4, c5⟩ | ⟨c1, c2, c3, c4, c5⟩
    · have e0 : spr (aS A) k = 0 := by
        have h6 := hmsb.2.2 c1
        have : lsO (aS A) k = 0 := if_pos c1
        unfold spr
        omega
      rw [e0] at rest
      subst c5
      simp (disch := omega) only [g71_102, g71_104, g71_107, g71_108, Option.toList_some, Option.toList_none, List.cons_append, List.nil_append, true_and, and_true, true_or, or_true, eq_self, ci0, ci1, cin6, forall_const, not_true_eq_false, not_false_eq_true, fimp, timp, i10, i01, cm_rne, and_assoc]
      exact rest
    · have hne : ¬ lsL (aS A) k = -6 := by omega
      have hlo : lsO (aS A) k = eI (aS A) le := by
        unfold lsO
        rw [if_neg hne, c1]
      have hb := eI_b hv.1 (i := le) (by omega)
      have e1 : mo - eI (aS A) le = spr (aS A) k := by
        unfold spr
        omega
      simp (disch := omega) only [g71_102, g71_104, g71_107, g71_108, g71_111, g71_113, g71_114, g71_116, g71_117, Option.toList_some, Option.toList_none, List.cons_append, List.nil_append, true_and, and_true, true_or, or_true, eq_self, ci0, ci1, cin6, forall_const, not_true_eq_false, not_false_eq_true, fimp, timp, i10, i01, cm_rne, and_assoc, a1, ht1 le c3.1 c3.2, e1]
      (repeat' apply And.intro) <;> (try omega) <;> (try (intro hx; exfalso; omega))
      intro _
      (repeat' apply And.intro) <;> (try omega) <;> (try (intro hx; exfalso; omega))
      all_goals exact rest
  · obtain ⟨⟨y6, y7, y8, y9, y10, y11⟩, s⟩ := s
    obtain ⟨hub, q1, qf⟩ := hRs
    dsimp only at q1 qf ⊢
    have e4 : xCount A 4 = fP (fun g a => if spr (aS A) g = 0 then a else a + 1) (0 : Int) (8 : Int).toNat := rfl
    have e8 : xGroup (aS A) 8 0 = -2 := by
      unfold xGroup
      exact ite'_n (by omega)
    generalize hu : fP (fun g a => if spr (aS A) g = 0 then a else a + 1) (0 : Int) (8 : Int).toNat = u at *
    rw [g71_6]
    simp (disch := omega) only [g71_8, g71_10, g71_252, g71_253, Option.toList_some, Option.toList_none, List.cons_append, List.nil_append, true_and, and_true, true_or, or_true, eq_self, ci0, ci1, cin6, forall_const, not_true_eq_false, not_false_eq_true, fimp, timp, i10, i01, cm_rne, and_assoc]
    (repeat' apply And.intro) <;> (try omega) <;> (try (intro hx; exfalso; omega))
    have fin : Go 71 254 [some (2, 0), some (2, rt), some (2, rq), some (0, sN (aS A)), some (0, u), some (0, 8), y6, y7, y8, y9, y10, y11] [(0, 4), (2, 0)] G s Q := by
      refine c71_254 (Nat.le_of_ble_eq_true rfl) hX.1 (p_count hX q1 hv ⟨by decide, by decide⟩ (fun M1 r1 f1 => ?_))
      rw [e4]
      simp (disch := omega) only [g71_257, g71_259, g71_262, g71_263, g71_265, Option.toList_some, Option.toList_none, List.cons_append, List.nil_append, true_and, and_true, true_or, or_true, eq_self, ci0, ci1, cin6, forall_const, not_true_eq_false, not_false_eq_true, fimp, timp, i10, i01, cm_rne, and_assoc]
      (repeat' apply And.intro) <;> (try omega) <;> (try (intro hx; exfalso; omega))
      refine c71_266 (Nat.le_of_ble_eq_true rfl) hX.1 (p_group hX r1 hv ⟨by decide, by decide⟩ cn0 (fun M2 r2 f2 => ?_))
      rw [e8]
      simp (disch := omega) only [g71_269, g71_271, g71_274, g71_275, g71_278, g71_279, Option.toList_some, Option.toList_none, List.cons_append, List.nil_append, true_and, and_true, true_or, or_true, eq_self, ci0, ci1, cin6, forall_const, not_true_eq_false, not_false_eq_true, fimp, timp, i10, i01, cm_rne, and_assoc]
      (repeat' apply And.intro) <;> (try omega) <;> (try (intro hx; exfalso; omega))
      exact K M2 r2 ((qf.tr f1).tr f2)
    first
    | exact fun _ => fin
    | exact fin
end LAW6
