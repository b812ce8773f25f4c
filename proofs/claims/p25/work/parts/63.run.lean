/-! ===== the law: the scroll, tick by tick ===== -/
/-- the rows that run reads and writes -/
def isRun (G : cm_G) (ra rh ru rt rf rl : Int) : Prop := (0 ≤ ra ∧ 0 ≤ rh ∧ 0 ≤ ru ∧ 0 ≤ rt ∧ 0 ≤ rf ∧ 0 ≤ rl) ∧ ((∀ M, cm_al 1 G M ra = 41) ∧ (∀ M, cm_al 1 G M rh = 40) ∧ (∀ M, cm_al 1 G M ru = 40) ∧ (∀ M, cm_al 1 G M rt = 40) ∧ (∀ M, cm_al 1 G M rf = 40) ∧ (∀ M, cm_al 1 G M rl = 40)) ∧
  (rt ≠ ra ∧ rt ≠ rh ∧ rt ≠ ru) ∧ (rf ≠ ra ∧ rf ≠ rh ∧ rf ≠ ru) ∧ (rl ≠ ra ∧ rl ≠ rh ∧ rl ≠ ru) ∧ rt ≠ rf ∧ rt ≠ rl ∧ rf ≠ rl
/-- what run reads: rows above, heights, cues -/
def rdS (M : cm_M) (ra rh ru : Int) (S : sS) : Prop := (∀ i, 0 ≤ i → i ≤ sN S → M ra i = tI S i) ∧ (∀ i, 0 ≤ i → i < sN S → M rh i = sH S i) ∧ ∀ i, 0 ≤ i → i < sN S → M ru i = sC S i
/-- what run leaves -/
def wrS (M : cm_M) (rt rf rl : Int) (S : sS) : Prop := ∀ i, 0 ≤ i → i < sN S → M rt i = eI S i ∧ M rf i = (if eI S i = 0 then -6 else fI S i) ∧ M rl i = (if eI S i = 0 then -6 else fI S i + eI S i - 1)
def frW (M M' : cm_M) (rt rf rl : Int) : Prop := ∀ k, k ≠ rt → k ≠ rf → k ≠ rl → M' k = M k
theorem frW.tr {M M1 M2 : cm_M} {rt rf rl : Int} (h1 : frW M M1 rt rf rl) (h2 : frW M1 M2 rt rf rl) : frW M M2 rt rf rl := fun k a b c => (h2 k a b c).trans (h1 k a b c)
theorem rdS.of {G : cm_G} {M M' : cm_M} {ra rh ru rt rf rl : Int} {S : sS} (h : rdS M ra rh ru S) (hR : isRun G ra rh ru rt rf rl) (f : frW M M' rt rf rl) : rdS M' ra rh ru S := by
  obtain ⟨-, -, ⟨a1, a2, a3⟩, ⟨b1, b2, b3⟩, ⟨c1, c2, c3⟩, -⟩ := hR
  unfold rdS
  rw [f ra (by omega) (by omega) (by omega), f rh (by omega) (by omega) (by omega), f ru (by omega) (by omega) (by omega)]
  exact h
section LAW4
variable {G : cm_G} {M : cm_M} {S : sS} {ra rh ru rt rf rl x t : Int} {Q : Option cm_V → cm_G → cm_M → Prop}
/-- the speed of a tick -/
theorem l_now (hR : isRun G ra rh ru rt rf rl) (hv : vS S) (hd : rdS M ra rh ru S) (hx : 0 ≤ x ∧ x ≤ 1000000) {y13 y14 : Option cm_V}
    (K : ∀ now i, ((now ≤ 100 ∧ now = sp S (sN S).toNat x) ∨ (100 < now ∧ now - 100 = sp S (sN S).toNat x)) → -1000 ≤ now ∧ now ≤ 1000 → Go 68 119 [some (2, ra), some (2, rh), some (2, ru), some (0, sN S), some (0, sT S 0), some (0, sT S 1), some (2, rt), some (2, rf), some (2, rl), some (0, x), some (0, t), some (0, now), some (0, i), y13, y14] [] G M Q) :
    Go 68 68 [some (2, ra), some (2, rh), some (2, ru), some (0, sN S), some (0, sT S 0), some (0, sT S 1), some (2, rt), some (2, rf), some (2, rl), some (0, x), some (0, t), some (0, sT S 1), some (0, sN S - 1), y13, y14] [] G M Q := by
  obtain ⟨⟨z1, z2, z3, z4, z5, z6⟩, ⟨a1, a2, a3, a4, a5, a6⟩, -⟩ := hR
  obtain ⟨d1, d2, d3⟩ := hd
  have hn := hv.2.1
  have hn0 := hv.1
  have hs1 := hv.2.2.2.1
  refine go_loopD (σ := Unit) (fun i _ => [some (2, ra), some (2, rh), some (2, ru), some (0, sN S), some (0, sT S 0), some (0, sT S 1), some (2, rt), some (2, rf), some (2, rl), some (0, x), some (0, t), some (0, sT S 1), some (0, i), y13, y14]) (fun _ => M) (fun i _ => i < sN S ∧ sp S (sN S).toNat x = sp S (i + 1).toNat x) (-1) (fun i s hi0 hRs ih => ?_) (fun s hRs => ?_) (sN S - 1) () (by omega) ⟨by omega, by rw [show sN S - 1 + 1 = sN S by omega]⟩
  · obtain ⟨hin, hsp⟩ := hRs
    have hi : 0 ≤ i := by omega
    have w := hv.2.2.2.2.2 i hi hin
    have ht := tI_b hv hi
    have ea := d1 i hi (by omega)
    have eu := d3 i hi hin
    have next : (i + 1).toNat = i.toNat + 1 := by omega
    have ei : ((i.toNat : Nat) : Int) = i := by omega
    have stp : sp S (i.toNat + 1) x = if 0 < sC S i ∧ 10 * tI S i ≤ x then sC S i else sp S i.toNat x := by
      show (if 0 < sC S ((i.toNat : Nat) : Int) ∧ 10 * tp S i.toNat ≤ x then sC S ((i.toNat : Nat) : Int) else sp S i.toNat x) = _
      rw [ei]
      rfl
    rw [next, stp] at hsp
    rw [g68_68]
    simp (disch := omega) only [g68_70, g68_73, g68_75, g68_77, g68_80, g68_81, g68_83, g68_84, g68_87, g68_89, g68_90, g68_92, g68_93, g68_94, g68_96, g68_99, g68_100, g68_102, g68_103, g68_105, g68_106, g68_109, g68_111, g68_113, g68_116, Option.toList_some, Option.toList_none, List.cons_append, List.nil_append, true_and, and_true, true_or, or_true, eq_self, ci0, ci1, cin6, forall_const, not_true_eq_false, not_false_eq_true, fimp, timp, i10, i01, cm_rne, and_assoc, a1, a3, ea, eu]
    (repeat' apply And.intro) <;> (try omega) <;> (try (intro hx; exfalso; omega))
    intro _
    (repeat' apply And.intro) <;> (try omega) <;> (try (intro hx; exfalso; omega))
    · intro hle
      rw [if_neg (fun z => hle z.1)] at hsp
      exact ih () ⟨by omega, by rw [show i - 1 + 1 = i by omega]; exact hsp⟩
    · intro hgt
      (repeat' apply And.intro) <;> (try omega) <;> (try (intro hx; exfalso; omega))
      · intro h2
        rw [if_neg (by omega)] at hsp
        exact ih () ⟨by omega, by rw [show i - 1 + 1 = i by omega]; exact hsp⟩
      · intro h2
        rw [if_pos ⟨hgt, by omega⟩] at hsp
        rw [g68_68]
        simp (disch := omega) only [g68_70, g68_73, g68_75, g68_77, Option.toList_some, Option.toList_none, List.cons_append, List.nil_append, true_and, and_true, true_or, or_true, eq_self, ci0, ci1, cin6, forall_const, not_true_eq_false, not_false_eq_true, fimp, timp, i10, i01, cm_rne, and_assoc]
        (repeat' apply And.intro) <;> (try omega) <;> (try (intro hx; exfalso; omega))
        · exact fun _ => K _ _ (Or.inr ⟨by omega, by omega⟩) (by omega)
        · intro _
          (repeat' apply And.intro) <;> (try omega) <;> (try (intro hx; exfalso; omega))
          exact fun _ => K _ _ (Or.inr ⟨by omega, by omega⟩) (by omega)
  · obtain ⟨-, hsp⟩ := hRs
    have e0 : sp S (-1 + 1 : Int).toNat x = sT S 1 := rfl
    rw [e0] at hsp
    have fin := K (sT S 1) (-1) (Or.inl ⟨by omega, hsp.symm⟩) (by omega)
    rw [g68_68]
    simp (disch := omega) only [g68_70, Option.toList_some, Option.toList_none, List.cons_append, List.nil_append, true_and, and_true, true_or, or_true, eq_self, ci0, ci1, cin6, forall_const, not_true_eq_false, not_false_eq_true, fimp, timp, i10, i01, cm_rne, and_assoc]
    (repeat' apply And.intro) <;> (try omega) <;> (try (intro hx; exfalso; omega))
    first
    | exact fun _ => fin
    | exact fin
/-- a tick's lines, one after the other -/
theorem l_lines (hR : isRun G ra rh ru rt rf rl) (hv : vS S) (hd : rdS M ra rh ru S) (ht0 : 0 ≤ t ∧ t ≤ 100000) (hx : x = pos S (sN S).toNat (t.toNat + 1)) (hxb : 0 ≤ x ∧ x ≤ 1000000)
    (h0 : ∀ i, 0 ≤ i → i < sN S → M rt i = tkT S i t ∧ M rf i = ftT S i t ∧ M rl i = ltT S i t) {now : Int} {y13 y14 : Option cm_V}
    (K : ∀ M' i' y13 y14, (∀ i, 0 ≤ i → i < sN S → M' rt i = tkT S i (t + 1) ∧ M' rf i = ftT S i (t + 1) ∧ M' rl i = ltT S i (t + 1)) → frW M M' rt rf rl → Go 68 41 [some (2, ra), some (2, rh), some (2, ru), some (0, sN S), some (0, sT S 0), some (0, sT S 1), some (2, rt), some (2, rf), some (2, rl), some (0, x), some (0, t + 1), some (0, now), some (0, i'), y13, y14] [] G M' Q) :
    Go 68 147 [some (2, ra), some (2, rh), some (2, ru), some (0, sN S), some (0, sT S 0), some (0, sT S 1), some (2, rt), some (2, rf), some (2, rl), some (0, x), some (0, t + 1), some (0, now), some (0, 0), y13, y14] [] G M Q := by
  have hR' := hR
  obtain ⟨⟨z1, z2, z3, z4, z5, z6⟩, ⟨a1, a2, a3, a4, a5, a6⟩, ⟨n1, n2, n3⟩, ⟨n4, n5, n6⟩, ⟨n7, n8, n9⟩, n10, n11, n12⟩ := hR
  have hn := hv.2.1
  have hn0 := hv.1
  have hscr := hv.2.2.1
  refine go_loop (σ := (Option cm_V × Option cm_V) × cm_M) (fun i s => [some (2, ra), some (2, rh), some (2, ru), some (0, sN S), some (0, sT S 0), some (0, sT S 1), some (2, rt), some (2, rf), some (2, rl), some (0, x), some (0, t + 1), some (0, now), some (0, i), s.1.1, s.1.2]) (fun s => s.2) (fun i s => (∀ j, 0 ≤ j → j < i → s.2 rt j = tkT S j (t + 1) ∧ s.2 rf j = ftT S j (t + 1) ∧ s.2 rl j = ltT S j (t + 1)) ∧ (∀ j, i ≤ j → j < sN S → s.2 rt j = tkT S j t ∧ s.2 rf j = ftT S j t ∧ s.2 rl j = ltT S j t) ∧ frW M s.2 rt rf rl) (sN S) (fun i s hi0 hin hRi ihi => ?_) (fun s hRi => ?_) 0 ((y13, y14), M) (by omega) hn0 ⟨fun j a b => absurd a (by omega), fun j a b => h0 j (by omega) b, fun k _ _ _ => rfl⟩
  · obtain ⟨⟨y13, y14⟩, s⟩ := s
    obtain ⟨u2, u3, uf⟩ := hRi
    dsimp only at u2 u3 uf ihi ⊢
    obtain ⟨d1, d2, d3⟩ := hd.of hR' uf
    have ea := d1 i hi0 (by omega)
    have eh := d2 i hi0 hin
    have hb1 := fI_b hv ⟨hi0, hin⟩
    have hb2 := eI_b hv ⟨hi0, hin⟩
    have hti := tI_b hv hi0
    have hts := tI_s S hi0
    have hsh := vS_h hv i
    have hsn := seen_iff (i := i) hv (t.toNat + 1)
    rw [← hx] at hsn
    unfold seen at hsn
    obtain ⟨w1, w2, w3⟩ := u3 i (by omega) hin
    -- the three writes
    have fin : ∀ (v1 v2 v3 : Int) (y13 y14 : Option cm_V), v1 = tkT S i (t + 1) → v2 = ftT S i (t + 1) → v3 = ltT S i (t + 1) → Go 68 147 [some (2, ra), some (2, rh), some (2, ru), some (0, sN S), some (0, sT S 0), some (0, sT S 1), some (2, rt), some (2, rf), some (2, rl), some (0, x), some (0, t + 1), some (0, now), some (0, i + 1), y13, y14] [] G (cm_up (cm_up (cm_up s rt i v1) rf i v2) rl i v3) Q := by
      intro v1 v2 v3 y13 y14 e1 e2 e3
      refine ihi ((y13, y14), cm_up (cm_up (cm_up s rt i v1) rf i v2) rl i v3) ⟨fun j a b => ?_, fun j a b => ?_, uf.tr (fun k a b c => by dsimp only; rw [cm_rne c, cm_rne b, cm_rne a])⟩
      · simp (disch := omega) only [cm_rne, cm_req]
        by_cases hj : j = i
        · rw [if_pos hj, if_pos hj, if_pos hj, hj]
          exact ⟨e1, e2, e3⟩
        · rw [if_neg hj, if_neg hj, if_neg hj]
          exact u2 j a (by omega)
      · simp (disch := omega) only [cm_rne, cm_req]
        rw [if_neg (by omega), if_neg (by omega), if_neg (by omega)]
        exact u3 j (by omega) b
    have hft : cm_in (ftT S i t) ∧ (ftT S i t < 0 → t + 1 < fI S i + 1 ∨ eI S i = 0) := by
      unfold ftT
      by_cases hc : t < fI S i ∨ eI S i = 0
      · rw [if_pos hc]
        exact ⟨cn6, fun _ => by omega⟩
      · rw [if_neg hc]
        exact ⟨by constructor <;> omega, fun z => by omega⟩
    have hft1 := hft.1
    have after : ∀ (y13 : Option cm_V) (b : Int), (b = 1 ∧ (10 * tI S (i + 1) ≤ x ∧ x ≤ 10 * (tI S i + sT S 0))) ∨ (b = 0 ∧ ¬ (10 * tI S (i + 1) ≤ x ∧ x ≤ 10 * (tI S i + sT S 0))) → Go 68 198 [some (2, ra), some (2, rh), some (2, ru), some (0, sN S), some (0, sT S 0), some (0, sT S 1), some (2, rt), some (2, rf), some (2, rl), some (0, x), some (0, t + 1), some (0, now), some (0, i), y13, some (0, b)] [] G s Q := by
      intro y13 b hb
      rcases hb with ⟨rfl, hz⟩ | ⟨rfl, hz⟩
      · -- it is seen
        have hz2 : fI S i ≤ t + 1 ∧ t + 1 < fI S i + eI S i := by have := hsn.mpr hz; omega
        have g1 : tkT S i t + 1 = tkT S i (t + 1) := by
          unfold tkT
          by_cases hc : t < fI S i
          · rw [if_pos hc, if_neg (by omega), if_pos (by omega)]; omega
          · rw [if_neg hc, if_pos (by omega), if_neg (by omega), if_pos (by omega)]; omega
        have g3 : t + 1 = ltT S i (t + 1) := by
          unfold ltT
          rw [if_neg (by omega), if_pos (by omega)]
        have g2 : ftT S i (t + 1) = fI S i := by
          unfold ftT
          rw [if_neg (by omega)]
        simp (disch := omega) only [g68_198, g68_200, g68_202, g68_203, g68_204, g68_206, g68_209, g68_210, g68_213, g68_214, g68_215, g68_216, g68_218, g68_220, g68_222, g68_225, g68_227, g68_229, g68_230, g68_233, g68_235, g68_238, g68_240, g68_242, g68_243, g68_244, g68_246, g68_248, g68_250, g68_253, g68_255, g68_258, g68_260, g68_262, g68_263, g68_264, g68_267, Option.toList_some, Option.toList_none, List.cons_append, List.nil_append, true_and, and_true, true_or, or_true, eq_self, ci0, ci1, cin6, forall_const, not_true_eq_false, not_false_eq_true, fimp, timp, i10, i01, cm_rne, and_assoc, a4, a5, a6, w1, w2, cm_rne]
        (repeat' apply And.intro) <;> (try omega) <;> (try (intro hx; exfalso; omega))
        · intro hge
          (repeat' apply And.intro) <;> (try omega) <;> (try (intro hx; exfalso; omega))
          refine fin _ _ _ _ _ g1 ?_ g3
          rw [g2]
          unfold ftT at hge ⊢
          by_cases hc : t < fI S i ∨ eI S i = 0
          · rw [if_pos hc] at hge
            omega
          · rw [if_neg hc]
        · intro hlt
          (repeat' apply And.intro) <;> (try omega) <;> (try (intro hx; exfalso; omega))
          refine fin _ _ _ _ _ g1 ?_ g3
          rw [g2]
          have := hft.2 hlt
          omega
      · -- it is not
        have hz2 : ¬ (fI S i ≤ t + 1 ∧ t + 1 < fI S i + eI S i) := fun y => hz (hsn.mp (by omega))
        have g : tkT S i t + 0 = tkT S i (t + 1) ∧ ftT S i t = ftT S i (t + 1) ∧ ltT S i t = ltT S i (t + 1) := by
          by_cases hc0 : eI S i = 0
          · rw [tk0 hc0, tk0 hc0]
            unfold ftT ltT
            rw [if_pos (Or.inr hc0), if_pos (Or.inr hc0), if_pos (Or.inr hc0), if_pos (Or.inr hc0)]
            exact ⟨rfl, rfl, rfl⟩
          unfold tkT ftT ltT
          by_cases hc : t + 1 < fI S i
          · rw [if_pos (by omega), if_pos (by omega), if_pos (Or.inl (by omega)), if_pos (Or.inl (by omega)), if_pos (Or.inl (by omega)), if_pos (Or.inl (by omega))]
            exact ⟨rfl, rfl, rfl⟩
          · refine ⟨by omega, by omega, by omega⟩
        simp (disch := omega) only [g68_198, g68_200, g68_202, g68_203, g68_204, g68_206, g68_209, g68_210, g68_213, g68_214, g68_215, g68_216, g68_218, g68_220, g68_222, g68_225, g68_227, g68_229, g68_230, g68_233, g68_235, g68_238, g68_240, g68_242, g68_243, g68_244, g68_246, g68_248, g68_250, g68_253, g68_255, g68_258, g68_260, g68_262, g68_263, g68_264, g68_267, Option.toList_some, Option.toList_none, List.cons_append, List.nil_append, true_and, and_true, true_or, or_true, eq_self, ci0, ci1, cin6, forall_const, not_true_eq_false, not_false_eq_true, fimp, timp, i10, i01, cm_rne, and_assoc, a4, a5, a6, w1, w2, w3, cm_rne]
        (repeat' apply And.intro) <;> (try omega) <;> (try (intro hx; exfalso; omega))
        exact fin _ _ _ _ _ g.1 g.2.1 g.2.2
    rw [g68_147]
    simp (disch := omega) only [g68_149, g68_150, g68_153, g68_155, g68_157, g68_158, g68_160, g68_161, g68_162, g68_163, g68_165, g68_166, g68_168, g68_170, g68_173, g68_175, g68_177, g68_178, g68_180, g68_181, g68_182, g68_183, g68_185, g68_187, g68_188, g68_191, g68_192, g68_195, g68_196, Option.toList_some, Option.toList_none, List.cons_append, List.nil_append, true_and, and_true, true_or, or_true, eq_self, ci0, ci1, cin6, forall_const, not_true_eq_false, not_false_eq_true, fimp, timp, i10, i01, cm_rne, and_assoc, a1, a2, ea, eh]
    (repeat' apply And.intro) <;> (try omega) <;> (try (intro hx; exfalso; omega))
    intro _
    (repeat' apply And.intro) <;> (try omega) <;> (try (intro hx; exfalso; omega))
    · intro h1
      exact after _ 0 (Or.inr ⟨rfl, by omega⟩)
    · intro h1
      (repeat' apply And.intro) <;> (try omega) <;> (try (intro hx; exfalso; omega))
      · intro h2
        exact after _ 0 (Or.inr ⟨rfl, by omega⟩)
      · intro h2
        exact after _ 1 (Or.inl ⟨rfl, by omega⟩)
  · obtain ⟨⟨y13, y14⟩, s⟩ := s
    obtain ⟨u2, u3, uf⟩ := hRi
    dsimp only at u2 u3 uf ⊢
    rw [g68_147]
    simp (disch := omega) only [g68_149, g68_150, g68_270, Option.toList_some, Option.toList_none, List.cons_append, List.nil_append, true_and, and_true, true_or, or_true, eq_self, ci0, ci1, cin6, forall_const, not_true_eq_false, not_false_eq_true, fimp, timp, i10, i01, cm_rne, and_assoc]
    (repeat' apply And.intro) <;> (try omega) <;> (try (intro hx; exfalso; omega))
    exact fun _ => K s _ _ _ u2 uf
theorem l_run (hR : isRun G ra rh ru rt rf rl) (hv : vS S) (hd : rdS M ra rh ru S) (K : ∀ M', wrS M' rt rf rl S → frW M M' rt rf rl → Q (some (0, aI S)) G M') :
    Go 68 0 [some (2, ra), some (2, rh), some (2, ru), some (0, sN S), some (0, sT S 0), some (0, sT S 1), some (2, rt), some (2, rf), some (2, rl), none, none, none, none, none, none] [] G M Q := by
  have hR' := hR
  obtain ⟨⟨z1, z2, z3, z4, z5, z6⟩, ⟨a1, a2, a3, a4, a5, a6⟩, ⟨n1, n2, n3⟩, ⟨n4, n5, n6⟩, ⟨n7, n8, n9⟩, n10, n11, n12⟩ := hR
  have hn := hv.2.1
  have hn0 := hv.1
  have hscr := hv.2.2.1
  have hs1 := hv.2.2.2.1
  have htn := tI_b hv hn0
  have hab := aI_b hv
  have hkn : (((sN S).toNat : Nat) : Int) ≤ sN S := by omega
  simp (disch := omega) only [g68_0, g68_1, Option.toList_some, Option.toList_none, List.cons_append, List.nil_append, true_and, and_true, true_or, or_true, eq_self, ci0, ci1, cin6, forall_const, not_true_eq_false, not_false_eq_true, fimp, timp, i10, i01, cm_rne, and_assoc]
  refine go_loop (σ := cm_M) (fun i _ => [some (2, ra), some (2, rh), some (2, ru), some (0, sN S), some (0, sT S 0), some (0, sT S 1), some (2, rt), some (2, rf), some (2, rl), some (0, i), none, none, none, none, none]) (fun s => s) (fun i s => (∀ j, 0 ≤ j → j < i → s rt j = 0 ∧ s rf j = -6 ∧ s rl j = -6) ∧ frW M s rt rf rl) (sN S) (fun i s hi0 hin hRi ihi => ?_) (fun s hRi => ?_) 0 M (by omega) hn0 ⟨fun j a b => absurd a (by omega), fun k _ _ _ => rfl⟩
  · obtain ⟨u2, uf⟩ := hRi
    rw [g68_3]
    simp (disch := omega) only [g68_5, g68_6, g68_9, g68_11, g68_13, g68_14, g68_15, g68_17, g68_19, g68_21, g68_22, g68_24, g68_26, g68_28, g68_29, g68_32, Option.toList_some, Option.toList_none, List.cons_append, List.nil_append, true_and, and_true, true_or, or_true, eq_self, ci0, ci1, cin6, forall_const, not_true_eq_false, not_false_eq_true, fimp, timp, i10, i01, cm_rne, and_assoc, a4, a5, a6]
    (repeat' apply And.intro) <;> (try omega) <;> (try (intro hx; exfalso; omega))
    intro _
    (repeat' apply And.intro) <;> (try omega) <;> (try (intro hx; exfalso; omega))
    refine ihi _ ⟨fun j a b => ?_, uf.tr (fun k a b c => by rw [cm_rne c, cm_rne b, cm_rne a])⟩
    simp (disch := omega) only [cm_rne, cm_req]
    by_cases hj : j = i
    · rw [if_pos hj, if_pos hj, if_pos hj]; exact ⟨rfl, rfl, rfl⟩
    · rw [if_neg hj, if_neg hj, if_neg hj]; exact u2 j a (by omega)
  obtain ⟨u2, uf⟩ := hRi
  -- the ticks
  have ticks : ∀ y11 y12 y13 y14 : Option cm_V, Go 68 41 [some (2, ra), some (2, rh), some (2, ru), some (0, sN S), some (0, sT S 0), some (0, sT S 1), some (2, rt), some (2, rf), some (2, rl), some (0, 0), some (0, 0), y11, y12, y13, y14] [] G s Q := by
    intro y11 y12 y13 y14
    by_cases he : sN S = 0
    · have ha : aI S = 0 := by unfold aI; rw [if_pos he]
      rw [ha] at K
      rw [g68_41]
      simp (disch := omega) only [g68_42, g68_273, g68_275, Option.toList_some, Option.toList_none, List.cons_append, List.nil_append, true_and, and_true, true_or, or_true, eq_self, ci0, ci1, cin6, forall_const, not_true_eq_false, not_false_eq_true, fimp, timp, i10, i01, cm_rne, and_assoc]
      (repeat' apply And.intro) <;> (try omega) <;> (try (intro hx; exfalso; omega))
      exact fun _ => K s (fun i a b => absurd b (by omega)) uf
    have ha : aI S = tau S (10 * (tI S (sN S) + sT S 0)) := by unfold aI; rw [if_neg he]
    have hE1 : ∀ u : Nat, (u : Int) < aI S → pos S (sN S).toNat u < 10 * (tI S (sN S) + sT S 0) := fun u hu => by
      have := tau_iff hv (10 * (tI S (sN S) + sT S 0)) u
      omega
    have hE2 : 10 * (tI S (sN S) + sT S 0) ≤ pos S (sN S).toNat (aI S).toNat := by
      have := tau_iff hv (10 * (tI S (sN S) + sT S 0)) (aI S).toNat
      omega
    refine go_loop (σ := (Option cm_V × Option cm_V × Option cm_V × Option cm_V) × cm_M) (fun t s => [some (2, ra), some (2, rh), some (2, ru), some (0, sN S), some (0, sT S 0), some (0, sT S 1), some (2, rt), some (2, rf), some (2, rl), some (0, pos S (sN S).toNat t.toNat), some (0, t), s.1.1, s.1.2.1, s.1.2.2.1, s.1.2.2.2]) (fun s => s.2) (fun t s => (∀ i, 0 ≤ i → i < sN S → s.2 rt i = tkT S i t ∧ s.2 rf i = ftT S i t ∧ s.2 rl i = ltT S i t) ∧ frW M s.2 rt rf rl) (aI S) (fun t s ht0 hta hRs ih => ?_) (fun s hRs => ?_) 0 ((y11, y12, y13, y14), s) (by omega) hab.1 ⟨fun i a b => ?_, uf⟩
    · obtain ⟨⟨y11, y12, y13, y14⟩, s⟩ := s
      obtain ⟨q2, qf⟩ := hRs
      dsimp only at q2 qf ih ⊢
      have hpb := pos_b hv hkn t.toNat
      have hpb2 := pos_b hv hkn (t.toNat + 1)
      have hlt := hE1 t.toNat (by omega)
      have hds := hd.of hR' qf
      have ea := hds.1 (sN S) hn0 (by omega)
      have next : (t + 1).toNat = t.toNat + 1 := by omega
      have hspb := sp_b hv (sN S).toNat (pos S (sN S).toNat t.toNat) hkn
      rw [g68_41]
      simp (disch := omega) only [g68_42, g68_45, g68_47, g68_49, g68_50, g68_51, g68_52, g68_54, g68_55, g68_56, g68_59, g68_61, g68_63, g68_64, g68_65, g68_66, Option.toList_some, Option.toList_none, List.cons_append, List.nil_append, true_and, and_true, true_or, or_true, eq_self, ci0, ci1, cin6, forall_const, not_true_eq_false, not_false_eq_true, fimp, timp, i10, i01, cm_rne, and_assoc, a1, ea]
      (repeat' apply And.intro) <;> (try omega) <;> (try (intro hx; exfalso; omega))
      intro _
      (repeat' apply And.intro) <;> (try omega) <;> (try (intro hx; exfalso; omega))
      intro _
      refine l_now hR' hv hds (by omega) (fun now i hnow hnb => ?_)
      have hps := pos_s S (sN S).toNat t.toNat
      have last : Go 68 138 [some (2, ra), some (2, rh), some (2, ru), some (0, sN S), some (0, sT S 0), some (0, sT S 1), some (2, rt), some (2, rf), some (2, rl), some (0, pos S (sN S).toNat t.toNat), some (0, t), some (0, now), some (0, i), y13, y14] [(0, sp S (sN S).toNat (pos S (sN S).toNat t.toNat)), (0, pos S (sN S).toNat t.toNat)] G s Q := by
        simp (disch := omega) only [g68_138, g68_139, g68_141, g68_144, g68_145, Option.toList_some, Option.toList_none, List.cons_append, List.nil_append, true_and, and_true, true_or, or_true, eq_self, ci0, ci1, cin6, forall_const, not_true_eq_false, not_false_eq_true, fimp, timp, i10, i01, cm_rne, and_assoc]
        rw [← hps]
        refine l_lines hR' hv hds ⟨ht0, by omega⟩ rfl (by omega) q2 (fun M' i' y13 y14 p1 p2 => ?_)
        have := ih ((some (0, now), some (0, i'), y13, y14), M') ⟨p1, qf.tr p2⟩
        rw [next] at this
        exact this
      simp (disch := omega) only [g68_119, g68_121, g68_123, g68_125, g68_128, g68_130, g68_132, g68_133, g68_136, Option.toList_some, Option.toList_none, List.cons_append, List.nil_append, true_and, and_true, true_or, or_true, eq_self, ci0, ci1, cin6, forall_const, not_true_eq_false, not_false_eq_true, fimp, timp, i10, i01, cm_rne, and_assoc]
      rcases hnow with ⟨k1, k2⟩ | ⟨k1, k2⟩
      · rw [← k2] at last
        (repeat' apply And.intro) <;> (try omega) <;> (try (intro hx; exfalso; omega))
        exact fun _ => last
      · rw [← k2] at last
        (repeat' apply And.intro) <;> (try omega) <;> (try (intro hx; exfalso; omega))
        exact fun _ => last
    · obtain ⟨⟨y11, y12, y13, y14⟩, s⟩ := s
      obtain ⟨q2, qf⟩ := hRs
      dsimp only at q2 qf ⊢
      have hpb := pos_b hv hkn (aI S).toNat
      have hds := hd.of hR' qf
      have ea := hds.1 (sN S) hn0 (by omega)
      have fin : Q (some (0, aI S)) G s := by
        refine K s (fun i a b => ?_) qf
        obtain ⟨w1, w2, w3⟩ := q2 i a b
        rw [w1, w2, w3]
        have hb1 := fI_b hv ⟨a, b⟩
        have hb2 := eI_b hv ⟨a, b⟩
        have hz : fI S i + eI S i ≤ aI S := by
          have ht1 := tI_m hv a (show i ≤ sN S by omega)
          have := tau_m hv (g := 10 * (tI S i + sT S 0) + 1) (h := 10 * (tI S (sN S) + sT S 0)) (by omega)
          unfold eI
          omega
        by_cases hc0 : eI S i = 0
        · rw [tk0 hc0]
          unfold ftT ltT
          rw [if_pos (Or.inr hc0), if_pos (Or.inr hc0), if_pos hc0, if_pos hc0]
          exact ⟨hc0.symm, rfl, rfl⟩
        · unfold tkT ftT ltT
          refine ⟨by omega, by omega, by omega⟩
      rw [g68_41]
      simp (disch := omega) only [g68_42, g68_45, g68_47, g68_49, g68_50, g68_51, g68_52, g68_54, g68_55, g68_56, g68_273, g68_275, Option.toList_some, Option.toList_none, List.cons_append, List.nil_append, true_and, and_true, true_or, or_true, eq_self, ci0, ci1, cin6, forall_const, not_true_eq_false, not_false_eq_true, fimp, timp, i10, i01, cm_rne, and_assoc, a1, ea]
      (repeat' apply And.intro) <;> (try omega) <;> (try (intro hx; exfalso; omega))
      intro _
      (repeat' apply And.intro) <;> (try omega) <;> (try (intro hx; exfalso; omega))
      exact fun _ => fin
    · have hb1 := fI_b hv ⟨a, b⟩
      obtain ⟨w1, w2, w3⟩ := u2 i a b
      show s rt i = _ ∧ s rf i = _ ∧ s rl i = _
      rw [w1, w2, w3]
      unfold tkT ftT ltT
      rw [if_pos (by omega), if_pos (Or.inl (by omega)), if_pos (Or.inl (by omega))]
      exact ⟨rfl, rfl, rfl⟩
  rw [g68_3]
  simp (disch := omega) only [g68_5, g68_6, g68_35, g68_36, g68_38, g68_39, Option.toList_some, Option.toList_none, List.cons_append, List.nil_append, true_and, and_true, true_or, or_true, eq_self, ci0, ci1, cin6, forall_const, not_true_eq_false, not_false_eq_true, fimp, timp, i10, i01, cm_rne, and_assoc]
  (repeat' apply And.intro) <;> (try omega) <;> (try (intro hx; exfalso; omega))
  exact fun _ => ticks _ _ _ _
end LAW4
