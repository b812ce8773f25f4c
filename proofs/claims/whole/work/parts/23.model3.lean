/-! ===== the reference: what it keeps ===== -/
/-- a row of numbers holds S -/
def rF (f : Int → Int) (S : sS) : Prop := f 3 = sN S ∧ (∀ j, 0 ≤ j → j < 3 → f j = sT S j) ∧ ∀ i, 0 ≤ i → i < sN S → f (4 + 4 * i) = sK S i ∧ f (4 + 4 * i + 1) = sG S i ∧ f (4 + 4 * i + 2) = sM S i ∧ f (4 + 4 * i + 3) = sC S i
theorem rF_c {f g : Int → Int} {S : sS} (h : rF f S) (hn : sN S ≤ 40) (e : ∀ x, 0 ≤ x → x < 164 → g x = f x) : rF g S := by
  obtain ⟨r1, r2, r3⟩ := h
  refine ⟨by rw [e 3 (by decide) (by decide)]; exact r1, fun j a b => by rw [e j a (by omega)]; exact r2 j a b, fun i a b => ?_⟩
  rw [e (4 + 4 * i) (by omega) (by omega), e (4 + 4 * i + 1) (by omega) (by omega), e (4 + 4 * i + 2) (by omega) (by omega), e (4 + 4 * i + 3) (by omega) (by omega)]
  exact r3 i a b
/-- the states before the latest changes -/
def hM (M : cm_M) (m h : Int) (H : Int → sS) : Prop := M m 4 = h ∧ (0 ≤ h ∧ h ≤ 6) ∧ ∀ j, 0 ≤ j → j < h → rF (fun x => M (m + 2) (164 * j + x)) (H j)
/-- one more -/
def rcN (h : Int) : Int := if h = 6 then 6 else h + 1
def rcH (h : Int) (H : Int → sS) (S : sS) : Int → sS := fun j => if h = 6 then (if j = 5 then S else H (j + 1)) else (if j = h then S else H j)
/-- all but the rows of what is past -/
def frR (M M' : cm_M) (m : Int) : Prop := (∀ k, k ≠ m → k ≠ m + 2 → M' k = M k) ∧ ∀ j, j ≠ 4 → M' m j = M m j
section MODEL3
variable {G : cm_G} {M : cm_M} {m i j t v w g h : Int} {S : sS} {H : Int → sS} {Q : Option cm_V → cm_G → cm_M → Prop}
theorem q_record (hMm : isM G m) (hR : rM M (m + 1) S) (hv : vS S) (hh : hM M m h H) (hvH : ∀ j, 0 ≤ j → j < h → vS (H j)) (K : ∀ M', hM M' m (rcN h) (rcH h H S) → frR M M' m → Q none G M') : Go 91 0 [some (2, m), none] [] G M Q := by
  obtain ⟨h0, hs, ⟨e0, e1, e2, e3, e5, e7, e8, e9, e10, e12, e13⟩, a0, a1, a2, a3, a5, a7, a8, a9, a10, a12, a13⟩ := hMm
  have hn := hv.2.1
  have hn0 := hv.1
  obtain ⟨hh1, hh2, hh3⟩ := hh
  -- the copying, with p kept before
  have copy : ∀ (p : Int) (M1 : cm_M) (x1 : Option cm_V), (0 ≤ p ∧ p ≤ 5) → M1 m 4 = p → frR M M1 m → (∀ j, 0 ≤ j → j < p → rF (fun x => M1 (m + 2) (164 * j + x)) (rcH h H S j)) → p + 1 = rcN h → rcH h H S p = S → Go 91 50 [some (2, m), x1] [] G M1 Q := by
    intro p M1 x1 hp hp4 pf hb hrN hrH
    have hR1 : rM M1 (m + 1) S := rM_fr hR (pf.1 _ (by omega) (by omega))
    simp (disch := omega) only [g91_0, g91_1, g91_4, g91_6, g91_9, g91_10, g91_12, g91_15, g91_18, g91_19, g91_22, g91_23, g91_24, g91_27, g91_28, g91_31, g91_32, g91_33, g91_34, g91_37, g91_40, g91_41, g91_41b, g91_42, g91_45, g91_46, g91_47, g91_50, g91_51, g91_53, g91_56, g91_59, g91_60, g91_63, g91_64, g91_67, g91_70, g91_71, g91_72, g91_73, g91_74, g91_77, g91_78, g91_79, g91_80, g91_83, g91_86, g91_87, g91_87b, g91_88, g91_91, g91_92, g91_93, g91_96, Option.toList_some, Option.toList_none, List.cons_append, List.nil_append, true_and, and_true, true_or, or_true, eq_self, ci0, ci1, cin6, forall_const, not_true_eq_false, not_false_eq_true, fimp, timp, i10, i01, cm_rne, and_assoc]
    refine go_loop (σ := cm_M) (fun i _ => [some (2, m), some (0, i)]) (fun s => s) (fun i s => (∀ k, k ≠ m + 2 → s k = M1 k) ∧ (∀ x, 0 ≤ x → x < i → s (m + 2) (164 * p + x) = M1 (m + 1) x) ∧ ∀ x, x < 164 * p → s (m + 2) x = M1 (m + 2) x) 164 (fun i s hi0 hin hRs ih => ?_) (fun s hRs => ?_) 0 M1 (by omega) (by omega) ⟨fun k _ => rfl, fun x a b => absurd a (by omega), fun x _ => rfl⟩
    · obtain ⟨u1, u2, u3⟩ := hRs
      have e4 : s m 4 = p := by rw [u1 m (by omega)]; exact hp4
      rw [g91_52]
      simp (disch := omega) only [g91_0, g91_1, g91_4, g91_6, g91_9, g91_10, g91_12, g91_15, g91_18, g91_19, g91_22, g91_23, g91_24, g91_27, g91_28, g91_31, g91_32, g91_33, g91_34, g91_37, g91_40, g91_41, g91_41b, g91_42, g91_45, g91_46, g91_47, g91_50, g91_51, g91_53, g91_56, g91_59, g91_60, g91_63, g91_64, g91_67, g91_70, g91_71, g91_72, g91_73, g91_74, g91_77, g91_78, g91_79, g91_80, g91_83, g91_86, g91_87, g91_87b, g91_88, g91_91, g91_92, g91_93, g91_96, Option.toList_some, Option.toList_none, List.cons_append, List.nil_append, true_and, and_true, true_or, or_true, eq_self, ci0, ci1, cin6, forall_const, not_true_eq_false, not_false_eq_true, fimp, timp, i10, i01, cm_rne, and_assoc, hs, e0, e1, a0, a1, e4]
      (repeat' apply And.intro) <;> (try omega) <;> (try (intro hx; exfalso; omega))
      intro _
      (repeat' apply And.intro) <;> (try omega) <;> (try (intro hx; exfalso; omega))
      refine ih _ ⟨fun k hk => by rw [cm_rne hk]; exact u1 k hk, fun x a b => ?_, fun x a => ?_⟩
      · rw [cm_req]
        dsimp only
        by_cases hx : x = i
        · rw [if_pos (by omega), hx, u1 _ (by omega)]
        · rw [if_neg (by omega)]; exact u2 x a (by omega)
      · rw [cm_req]
        show (if x = _ then _ else s (m + 2) x) = _
        rw [if_neg (by omega)]; exact u3 x a
    · obtain ⟨u1, u2, u3⟩ := hRs
      have e4 : s m 4 = p := by rw [u1 m (by omega)]; exact hp4
      rw [g91_52]
      simp (disch := omega) only [g91_0, g91_1, g91_4, g91_6, g91_9, g91_10, g91_12, g91_15, g91_18, g91_19, g91_22, g91_23, g91_24, g91_27, g91_28, g91_31, g91_32, g91_33, g91_34, g91_37, g91_40, g91_41, g91_41b, g91_42, g91_45, g91_46, g91_47, g91_50, g91_51, g91_53, g91_56, g91_59, g91_60, g91_63, g91_64, g91_67, g91_70, g91_71, g91_72, g91_73, g91_74, g91_77, g91_78, g91_79, g91_80, g91_83, g91_86, g91_87, g91_87b, g91_88, g91_91, g91_92, g91_93, g91_96, Option.toList_some, Option.toList_none, List.cons_append, List.nil_append, true_and, and_true, true_or, or_true, eq_self, ci0, ci1, cin6, forall_const, not_true_eq_false, not_false_eq_true, fimp, timp, i10, i01, cm_rne, and_assoc, hs, e4]
      (repeat' apply And.intro) <;> (try omega) <;> (try (intro hx; exfalso; omega))
      intro _
      (repeat' apply And.intro) <;> (try omega) <;> (try (intro hx; exfalso; omega))
      refine K _ ⟨?_, ?_, fun j a b => ?_⟩ ⟨fun k a b => ?_, fun j a => ?_⟩
      · rw [cm_up_s, hrN]
      · omega
      · by_cases hj : j = p
        · rw [hj, hrH]
          refine rF_c (f := M1 (m + 1)) hR1 hn (fun x a b => ?_)
          rw [cm_rne (by omega)]
          exact u2 x a b
        · have hz := hb j a (by omega)
          rw [show (fun x => cm_up s m 4 (p + 1) (m + 2) (164 * j + x)) = fun x => s (m + 2) (164 * j + x) by funext x; rw [cm_rne (by omega)]]
          refine rF_c hz ?_ (fun x c d => u3 _ (by omega))
          unfold rcH
          by_cases h6 : h = 6
          · have e9 : rcN h = 6 := if_pos h6
            rw [if_pos h6]
            by_cases h5 : j = 5
            · rw [if_pos h5]; exact hn
            · rw [if_neg h5]; exact (hvH (j + 1) (by omega) (by omega)).2.1
          · have e9 : rcN h = h + 1 := if_neg h6
            rw [if_neg h6]
            by_cases h5 : j = h
            · rw [if_pos h5]; exact hn
            · rw [if_neg h5]; exact (hvH j (by omega) (by omega)).2.1
      · rw [cm_rne a, u1 k b]; exact pf.1 k a b
      · rw [cm_up_n _ (Or.inr a), u1 m (by omega)]; exact pf.2 j a
  simp (disch := omega) only [g91_0, g91_1, g91_4, g91_6, g91_9, g91_10, Option.toList_some, Option.toList_none, List.cons_append, List.nil_append, true_and, and_true, true_or, or_true, eq_self, ci0, ci1, cin6, forall_const, not_true_eq_false, not_false_eq_true, fimp, timp, i10, i01, cm_rne, and_assoc, hs, hh1]
  (repeat' apply And.intro) <;> (try omega) <;> (try (intro hx; exfalso; omega))
  · intro h6
    refine copy h M _ (by omega) hh1 ⟨fun _ _ _ => rfl, fun _ _ => rfl⟩ (fun j a b => ?_) ?_ ?_
    · unfold rcH
      rw [if_neg h6, if_neg (by omega)]
      exact hh3 j a b
    · unfold rcN; rw [if_neg h6]
    · unfold rcH; rw [if_neg h6, if_pos rfl]
  · intro h6
    refine go_loop (σ := cm_M) (fun i _ => [some (2, m), some (0, i)]) (fun s => s) (fun i s => (∀ k, k ≠ m + 2 → s k = M k) ∧ (∀ x, 0 ≤ x → x < i → s (m + 2) x = M (m + 2) (x + 164)) ∧ ∀ x, i ≤ x → s (m + 2) x = M (m + 2) x) 820 (fun i s hi0 hin hRs ih => ?_) (fun s hRs => ?_) 0 M (by omega) (by omega) ⟨fun k _ => rfl, fun x a b => absurd a (by omega), fun x _ => rfl⟩
    · obtain ⟨u1, u2, u3⟩ := hRs
      rw [g91_11]
      simp (disch := omega) only [g91_12, g91_15, g91_18, g91_19, g91_22, g91_23, g91_24, g91_27, g91_28, g91_31, g91_32, g91_33, g91_34, g91_37, Option.toList_some, Option.toList_none, List.cons_append, List.nil_append, true_and, and_true, true_or, or_true, eq_self, ci0, ci1, cin6, forall_const, not_true_eq_false, not_false_eq_true, fimp, timp, i10, i01, cm_rne, and_assoc, hs, e1, a1]
      (repeat' apply And.intro) <;> (try omega) <;> (try (intro hx; exfalso; omega))
      intro _
      (repeat' apply And.intro) <;> (try omega) <;> (try (intro hx; exfalso; omega))
      refine ih _ ⟨fun k hk => by rw [cm_rne hk]; exact u1 k hk, fun x a b => ?_, fun x a => ?_⟩
      · rw [cm_req]
        by_cases hx : x = i
        · rw [hx]
          show (if i = i then _ else _) = _
          rw [if_pos rfl]; exact u3 _ (by omega)
        · show (if x = i then _ else _) = _
          rw [if_neg (by omega)]; exact u2 x a (by omega)
      · rw [cm_req]
        show (if x = i then _ else _) = _
        rw [if_neg (by omega)]; exact u3 x (by omega)
    · obtain ⟨u1, u2, u3⟩ := hRs
      have e4 : s m 4 = h := by rw [u1 m (by omega)]; exact hh1
      rw [g91_11]
      simp (disch := omega) only [g91_12, g91_15, g91_18, g91_19, g91_22, g91_23, g91_24, g91_27, g91_28, g91_31, g91_32, g91_33, g91_34, g91_37, g91_40, g91_41, g91_41b, g91_42, g91_45, g91_46, g91_47, Option.toList_some, Option.toList_none, List.cons_append, List.nil_append, true_and, and_true, true_or, or_true, eq_self, ci0, ci1, cin6, forall_const, not_true_eq_false, not_false_eq_true, fimp, timp, i10, i01, cm_rne, and_assoc, hs, e4]
      (repeat' apply And.intro) <;> (try omega) <;> (try (intro hx; exfalso; omega))
      intro _
      (repeat' apply And.intro) <;> (try omega) <;> (try (intro hx; exfalso; omega))
      refine copy 5 _ _ (by omega) ?_ ⟨fun k a b => by rw [cm_rne a]; exact u1 k b, fun j a => by rw [cm_up_n _ (Or.inr a), u1 m (by omega)]⟩ (fun j a b => ?_) ?_ ?_
      · rw [cm_up_s]; omega
      · rw [show (fun x => cm_up s m 4 (h - 1) (m + 2) (164 * j + x)) = fun x => s (m + 2) (164 * j + x) by funext x; rw [cm_rne (by omega)]]
        unfold rcH
        rw [if_pos h6, if_neg (by omega)]
        refine rF_c (hh3 (j + 1) (by omega) (by omega)) (hvH (j + 1) (by omega) (by omega)).2.1 (fun x c d => ?_)
        rw [u2 _ (by omega) (by omega)]
        show M (m + 2) _ = M (m + 2) _
        congr 1
        omega
      · unfold rcN; rw [if_pos h6]; rfl
      · unfold rcH; rw [if_pos h6, if_pos rfl]
end MODEL3
