/-! ===== what the constructors leave: the history, the slots ===== -/
section INIT2
variable {G : cm_G} {M : cm_M} {Q : Option cm_V → cm_G → cm_M → Prop}
/-- in the loop: i credits stand from b on, their numbers in the row ar of ob -/
def mk (ob : Int) (oc : Nat) (ar b : Int) (zs : Nat) (G0 : cm_G) (M0 : cm_M) (i : Int) (G : cm_G) (M : cm_M) : Prop := lz G (b + 6 * i) ∧ ex G0 M0 G M ar ∧ (cm_sh G ob = some (0, oc) ∧ G.2 ob 0 = ar ∧ cm_sh G ar = some (4, zs)) ∧ (∀ a, ar < a → a < b → cm_sh G a = cm_sh G0 a ∧ G.2 a = G0.2 a ∧ M a = M0 a) ∧ ∀ j, 0 ≤ j → j < i → G.2 ar j = b + 6 * j ∧ isC G (b + 6 * j)
theorem mk_s {ob ar b i n : Int} {oc zs : Nat} {G0 G G2 : cm_G} {M0 M M2 : cm_M} (hab : 0 ≤ ob ∧ ob < ar ∧ ar < b) (hi : 0 ≤ i) (hn : n = b + 6 * i) (h : mk ob oc ar b zs G0 M0 i G M) (l2 : lz G2 (n + 6)) (x2 : ex G M G2 M2 n) (c2 : isC G2 n) : mk ob oc ar b zs G0 M0 (i + 1) (G2.1, cm_up G2.2 ar i n) M2 := by
  obtain ⟨h1, h2, ⟨h3, h4, h5⟩, h6, h7⟩ := h
  have st : ∀ a, a ≠ ar → cm_up G2.2 ar i n a = G2.2 a := fun a ha => cm_rne ha
  have hC : ∀ c, isC G2 c → c ≠ ar → isC (G2.1, cm_up G2.2 ar i n) c := fun c hc hne => isC_st hc (fun _ _ _ => rfl) (st c hne)
  refine ⟨?_, fun a ha => ?_, ⟨?_, ?_, ?_⟩, fun a h8 h9 => ?_, fun j h8 h9 => ?_⟩
  · rw [show b + 6 * (i + 1) = n + 6 by omega]; exact l2
  · obtain ⟨y1, y2, y3⟩ := (h2.tr (x2.le (l := ar) (by omega))) a ha
    exact ⟨y1, (st a (by omega)).trans y2, y3⟩
  · exact (x2 ob (by omega)).1.trans h3
  · show cm_up G2.2 ar i n ob 0 = ar
    rw [st ob (by omega), (x2 ob (by omega)).2.1]
    exact h4
  · exact (x2 ar (by omega)).1.trans h5
  · obtain ⟨y1, y2, y3⟩ := x2 a (by omega)
    obtain ⟨w1, w2, w3⟩ := h6 a h8 h9
    exact ⟨y1.trans w1, ((st a (by omega)).trans y2).trans w2, y3.trans w3⟩
  · by_cases hj : j = i
    · rw [hj]
      refine ⟨?_, ?_⟩
      · show cm_up G2.2 ar i n ar i = b + 6 * i
        rw [cm_up_s]
        exact hn
      · rw [← hn]
        exact hC n c2 (by omega)
    · obtain ⟨w1, w2⟩ := h7 j h8 (by omega)
      refine ⟨?_, hC _ (isC_st w2 (fun a _ _ => (x2 a (by omega)).1) (x2 _ (by omega)).2.1) (by omega)⟩
      show cm_up G2.2 ar i n ar j = b + 6 * j
      rw [cm_up_n _ (Or.inr hj), (x2 ar (by omega)).2.1]
      exact w1
theorem p_initH (hl : lz G 30) (hk : cm_sh G 29 = some (0, 2)) (ht : tb3 M) (K : ∀ G' M', lz G' 67 → ex G M G' M' 29 → M' 29 = M 29 → isH G' → Q none G' M') : Go 42 0 [some (2, 29), none] [] G M Q := by
  have sa0 := fun (l) (f) => sh_app (l := l) (f := f) hl.1 (show (29 : Int) < 30 by omega)
  simp (disch := omega) only [g42_0, g42_1, g42_4, g42_5, g42_7, g42_10, Option.toList_some, Option.toList_none, List.cons_append, List.nil_append, true_and, and_true, true_or, or_true, eq_self, ci0, ci1, cin6, forall_const, not_true_eq_false, not_false_eq_true, fimp, timp, i10, i01, cm_rne, and_assoc, sa0, hk]
  (repeat' apply And.intro) <;> (try omega) <;> (try (intro hx; exfalso; omega))
  refine go_arrq (n := 30) hl (by decide) (fun G1 l1 s1 n1 r1 => ?_)
  have rr : ∀ a, a < 29 → G1.2 a = G.2 a := fun a ha => by rw [r1, cm_rne (by omega), row_n (by omega)]
  have B1 : lz G1 (31 + 6 * 0) := l1
  have B2 : ex G1 M G1 M 30 := fun a ha => ⟨rfl, rfl, rfl⟩
  have B3 : cm_sh G1 29 = some (0, 2) := (s1 29 (by omega)).trans hk
  have B4 : G1.2 29 0 = 30 := by rw [r1, cm_up_s]
  have B5 : cm_sh G1 30 = some (4, 6) := n1
  have B6 : ∀ a, (30 : Int) < a → a < 31 → cm_sh G1 a = cm_sh G1 a ∧ G1.2 a = G1.2 a ∧ M a = M a := fun a _ _ => ⟨rfl, rfl, rfl⟩
  have ht1 := ht
  simp (disch := omega) only [g42_13, g42_14, Option.toList_some, Option.toList_none, List.cons_append, List.nil_append, true_and, and_true, true_or, or_true, eq_self, ci0, ci1, cin6, forall_const, not_true_eq_false, not_false_eq_true, fimp, timp, i10, i01, cm_rne, and_assoc]
  refine go_loopG (fun i => [some (2, 29), some (0, i)]) (mk 29 2 30 31 6 G1 M) 6 (fun i G M hi0 hin hR ih => ?_) (fun G M hR => ?_) 0 _ _ (by decide) (by decide) ⟨B1, B2, ⟨B3, B4, B5⟩, B6, fun j a b => absurd a (by omega)⟩
  · have hR' := hR
    obtain ⟨h1, h2, ⟨h3, h4, h5⟩, h6, h7⟩ := hR
    have ht' : tb3 M := ht1.of (h2 (-3) (by decide)).2.2
    rw [g42_15]
    simp (disch := omega) only [g42_16, g42_18, g42_21, g42_22, g42_25, g42_26, Option.toList_some, Option.toList_none, List.cons_append, List.nil_append, true_and, and_true, true_or, or_true, eq_self, ci0, ci1, cin6, forall_const, not_true_eq_false, not_false_eq_true, fimp, timp, i10, i01, cm_rne, and_assoc, h3, h4]
    (repeat' apply And.intro) <;> (try omega) <;> (try (intro hx; exfalso; omega))
    intro _
    (repeat' apply And.intro) <;> (try omega) <;> (try (intro hx; exfalso; omega))
    refine go_obj2 h1 (by decide +kernel) (fun G2 M2 l2 x2 n2 z2 => ?_)
    simp (disch := omega) only [g42_29, Option.toList_some, Option.toList_none, List.cons_append, List.nil_append, true_and, and_true, true_or, or_true, eq_self, ci0, ci1, cin6, forall_const, not_true_eq_false, not_false_eq_true, fimp, timp, i10, i01, cm_rne, and_assoc]
    refine c42_30 (Nat.le_of_ble_eq_true rfl) n2 (p_initC l2 (by omega) n2 (ht'.of (x2 (-3) (by omega)).2.2) z2 (fun G3 M3 l3 x3 y3 i3 c3 => ?_))
    have x4 := x2.tr x3
    have a4 : cm_al 4 G3 M3 30 = 6 := al_of (by omega) ((x4 30 (by omega)).1.trans h5)
    simp (disch := omega) only [g42_33, g42_34, g42_37, Option.toList_some, Option.toList_none, List.cons_append, List.nil_append, true_and, and_true, true_or, or_true, eq_self, ci0, ci1, cin6, forall_const, not_true_eq_false, not_false_eq_true, fimp, timp, i10, i01, cm_rne, and_assoc, a4, i3.2.1]
    (repeat' apply And.intro) <;> (try omega) <;> (try (intro hx; exfalso; omega))
    exact ih _ _ (mk_s (by omega) hi0 rfl hR' l3 x4 i3)
  · obtain ⟨h1, h2, ⟨h3, h4, h5⟩, h6, h7⟩ := hR
    rw [g42_15]
    simp (disch := omega) only [g42_16, g42_18, g42_21, g42_22, g42_25, g42_26, g42_29, g42_29b, g42_33, g42_34, g42_37, g42_40, Option.toList_some, Option.toList_none, List.cons_append, List.nil_append, true_and, and_true, true_or, or_true, eq_self, ci0, ci1, cin6, forall_const, not_true_eq_false, not_false_eq_true, fimp, timp, i10, i01, cm_rne, and_assoc]
    (repeat' apply And.intro) <;> (try omega) <;> (try (intro hx; exfalso; omega))
    intro _
    exact K G M h1 (fun a ha => by
      obtain ⟨y1, y2, y3⟩ := h2 a (by omega)
      exact ⟨y1.trans (s1 a (by omega)), y2.trans (rr a ha), y3⟩) (h2 29 (by omega)).2.2 ⟨h3, h4, fun M => al_of (by omega) h5, h7⟩
theorem p_initL (hl : lz G 68) (hk : cm_sh G 67 = some (0, 4)) (ht : tb3 M) (K : ∀ G' M', lz G' 82 → ex G M G' M' 67 → M' 67 = M 67 → isL G' → M' 69 = (fun _ => 0) → Q none G' M') : Go 54 0 [some (2, 67), none] [] G M Q := by
  have sa0 := fun (l) (f) => sh_app (l := l) (f := f) hl.1 (show (67 : Int) < 68 by omega)
  simp (disch := omega) only [g54_0, g54_1, g54_4, g54_5, g54_6, g54_9, Option.toList_some, Option.toList_none, List.cons_append, List.nil_append, true_and, and_true, true_or, or_true, eq_self, ci0, ci1, cin6, forall_const, not_true_eq_false, not_false_eq_true, fimp, timp, i10, i01, cm_rne, and_assoc, sa0, hk]
  (repeat' apply And.intro) <;> (try omega) <;> (try (intro hx; exfalso; omega))
  refine go_arrq (n := 68) hl (by decide) (fun G0 l0 s0 n0 r0 => ?_)
  have hk0 : cm_sh G0 67 = some (0, 4) := (s0 67 (by omega)).trans hk
  have sa1 := fun (l) (f) => sh_app (l := l) (f := f) l0.1 (show (67 : Int) < 68 + 1 by omega)
  simp (disch := omega) only [g54_12, g54_13, g54_14, g54_16, Option.toList_some, Option.toList_none, List.cons_append, List.nil_append, true_and, and_true, true_or, or_true, eq_self, ci0, ci1, cin6, forall_const, not_true_eq_false, not_false_eq_true, fimp, timp, i10, i01, cm_rne, and_assoc, sa1, hk0]
  (repeat' apply And.intro) <;> (try omega) <;> (try (intro hx; exfalso; omega))
  refine go_arr (n := 68 + 1) l0 (by decide) (fun G1 M1 l1 s1 n1 r1 m1 => ?_)
  have rr : ∀ a, a < 67 → G1.2 a = G.2 a := fun a ha => by rw [r1, cm_rne (by omega), r0, cm_rne (by omega), row_n (by omega)]
  have ss : ∀ a, a < 68 → cm_sh G1 a = cm_sh G a := fun a ha => by rw [s1 a (by omega), s0 a (by omega)]
  have ms : ∀ a, a < 69 → M1 a = M a := fun a ha => by rw [m1, row_n (by omega)]
  have B1 : lz G1 (70 + 6 * 0) := l1
  have B2 : ex G1 M1 G1 M1 68 := fun a ha => ⟨rfl, rfl, rfl⟩
  have B3 : cm_sh G1 67 = some (0, 4) := (ss 67 (by omega)).trans hk
  have B4 : G1.2 67 0 = 68 := by rw [r1, cm_up_n _ (Or.inr (by decide)), r0, cm_up_s]
  have b4 : G1.2 67 1 = 69 := by rw [r1, cm_up_s]; rfl
  have B5 : cm_sh G1 68 = some (4, 2) := (s1 68 (by omega)).trans n0
  have B6 : ∀ a, (68 : Int) < a → a < 70 → cm_sh G1 a = cm_sh G1 a ∧ G1.2 a = G1.2 a ∧ M1 a = M1 a := fun a _ _ => ⟨rfl, rfl, rfl⟩
  have ht1 : tb3 M1 := ht.of (ms (-3) (by omega))
  simp (disch := omega) only [g54_19, g54_20, Option.toList_some, Option.toList_none, List.cons_append, List.nil_append, true_and, and_true, true_or, or_true, eq_self, ci0, ci1, cin6, forall_const, not_true_eq_false, not_false_eq_true, fimp, timp, i10, i01, cm_rne, and_assoc]
  refine go_loopG (fun i => [some (2, 67), some (0, i)]) (mk 67 4 68 70 2 G1 M1) 2 (fun i G M hi0 hin hR ih => ?_) (fun G M hR => ?_) 0 _ _ (by decide) (by decide) ⟨B1, B2, ⟨B3, B4, B5⟩, B6, fun j a b => absurd a (by omega)⟩
  · have hR' := hR
    obtain ⟨h1, h2, ⟨h3, h4, h5⟩, h6, h7⟩ := hR
    have ht' : tb3 M := ht1.of (h2 (-3) (by decide)).2.2
    rw [g54_21]
    simp (disch := omega) only [g54_22, g54_23, g54_26, g54_27, g54_30, g54_31, Option.toList_some, Option.toList_none, List.cons_append, List.nil_append, true_and, and_true, true_or, or_true, eq_self, ci0, ci1, cin6, forall_const, not_true_eq_false, not_false_eq_true, fimp, timp, i10, i01, cm_rne, and_assoc, h3, h4]
    (repeat' apply And.intro) <;> (try omega) <;> (try (intro hx; exfalso; omega))
    intro _
    (repeat' apply And.intro) <;> (try omega) <;> (try (intro hx; exfalso; omega))
    refine go_obj2 h1 (by decide +kernel) (fun G2 M2 l2 x2 n2 z2 => ?_)
    simp (disch := omega) only [g54_34, Option.toList_some, Option.toList_none, List.cons_append, List.nil_append, true_and, and_true, true_or, or_true, eq_self, ci0, ci1, cin6, forall_const, not_true_eq_false, not_false_eq_true, fimp, timp, i10, i01, cm_rne, and_assoc]
    refine c54_35 (Nat.le_of_ble_eq_true rfl) n2 (p_initC l2 (by omega) n2 (ht'.of (x2 (-3) (by omega)).2.2) z2 (fun G3 M3 l3 x3 y3 i3 c3 => ?_))
    have x4 := x2.tr x3
    have a4 : cm_al 4 G3 M3 68 = 2 := al_of (by omega) ((x4 68 (by omega)).1.trans h5)
    simp (disch := omega) only [g54_38, g54_39, g54_42, Option.toList_some, Option.toList_none, List.cons_append, List.nil_append, true_and, and_true, true_or, or_true, eq_self, ci0, ci1, cin6, forall_const, not_true_eq_false, not_false_eq_true, fimp, timp, i10, i01, cm_rne, and_assoc, a4, i3.2.1]
    (repeat' apply And.intro) <;> (try omega) <;> (try (intro hx; exfalso; omega))
    exact ih _ _ (mk_s (by omega) hi0 rfl hR' l3 x4 i3)
  · obtain ⟨h1, h2, ⟨h3, h4, h5⟩, h6, h7⟩ := hR
    rw [g54_21]
    simp (disch := omega) only [g54_22, g54_23, g54_26, g54_27, g54_30, g54_31, g54_34, g54_34b, g54_38, g54_39, g54_42, g54_45, Option.toList_some, Option.toList_none, List.cons_append, List.nil_append, true_and, and_true, true_or, or_true, eq_self, ci0, ci1, cin6, forall_const, not_true_eq_false, not_false_eq_true, fimp, timp, i10, i01, cm_rne, and_assoc]
    (repeat' apply And.intro) <;> (try omega) <;> (try (intro hx; exfalso; omega))
    intro _
    obtain ⟨w1, w2, w3⟩ := h6 69 (by omega) (by omega)
    refine K G M h1 (fun a ha => ?_) ((h2 67 (by omega)).2.2.trans (ms 67 (by omega))) ⟨h3, h4, ?_, fun M => al_of (by omega) h5, fun M => al_of (by omega) (w1.trans n1), h7⟩ ?_
    · obtain ⟨y1, y2, y3⟩ := h2 a (by omega)
      exact ⟨y1.trans (ss a (by omega)), y2.trans (rr a ha), y3.trans (ms a (by omega))⟩
    · rw [(h2 67 (by omega)).2.1]
      exact b4
    · rw [w3, m1]
      exact row_s
end INIT2
