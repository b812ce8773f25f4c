/-! ===== the law's loop, and its end ===== -/
/-- the numbers at the start: the static tables, the script -/
def cm_ro (L : Nat) (xs : Nat → Int32) (k j : Int) : Int :=
  if k = -2 then (if j = -1 then (L : Int) else (xs j.toNat).toInt) else if k = -3 then (if j = 0 then 10 else if j = 1 then 5 else 3) else if k = -4 then (if j = 0 then 4 else 1) else if k = -5 then (if j = 0 then 20 else if j = 1 then 30 else 4) else 0
theorem l_loop {G : cm_G} {M0 M : cm_M} {L : Nat} {A : sA} {Q : Option cm_V → cm_G → cm_M → Prop} (hX : isX G) (hm : isM G 82) (ht : tbl M0) (hn : ∀ j, cm_in (M0 (-2) j)) (hL : M0 (-2) (-1) = (L : Int)) (hb : L ≤ 2048) (h : iL M0 M A) (K : ∀ M', Q (some (0, 1)) G M') : Go 139 18 [some (2, -2), some (2, 0), some (2, 82), some (0, 0)] [] G M Q := by
  refine go_loop (σ := cm_M) (fun k _ => [some (2, -2), some (2, 0), some (2, 82), some (0, 4 * k)]) (fun s => s) (fun _ s => ∃ A, iL M0 s A) ((L : Int) / 4) (fun k s hk0 hkn hR ih => ?_) (fun s hR => ?_) 0 M (by decide) (by omega) ⟨A, h⟩
  · obtain ⟨B, hB⟩ := hR
    have e := hB.2.2.2 (-2) (by decide)
    rw [g139_18]
    simp (disch := omega) only [g139_19, g139_20, g139_21, g139_22, g139_23, g139_26, g139_27, g139_28, g139_29, g139_31, Option.toList_some, Option.toList_none, List.cons_append, List.nil_append, true_and, and_true, true_or, or_true, eq_self, ci0, ci1, cin6, forall_const, not_true_eq_false, not_false_eq_true, fimp, timp, i10, i01, cm_rne, and_assoc, al2, e, hL]
    (repeat' apply And.intro) <;> (try omega) <;> (try (intro hx; exfalso; omega))
    intro _
    (repeat' apply And.intro) <;> (try omega) <;> (try (intro hx; exfalso; omega))
    refine l_step hX hm ht hn hL (by omega) hB (fun M' A' hA' => ?_) _ (iand31 _)
    simp (disch := omega) only [g139_742, g139_745]
    have := ih M' ⟨A', hA'⟩
    rw [show 4 * (k + 1) = 4 * k + 4 by omega] at this
    exact this
  · obtain ⟨B, hB⟩ := hR
    have e := hB.2.2.2 (-2) (by decide)
    rw [g139_18]
    simp (disch := omega) only [g139_19, g139_20, g139_21, g139_22, g139_23, g139_26, g139_27, g139_28, g139_29, g139_31, g139_748, g139_749, Option.toList_some, Option.toList_none, List.cons_append, List.nil_append, true_and, and_true, true_or, or_true, eq_self, ci0, ci1, cin6, forall_const, not_true_eq_false, not_false_eq_true, fimp, timp, i10, i01, cm_rne, and_assoc, al2, e, hL]
    (repeat' apply And.intro) <;> (try omega) <;> (try (intro hx; exfalso; omega))
    exact fun _ => K s
theorem cm_pure (L : Nat) (xs : Nat → Int32) (hL : L ≤ 2048) : ∃ (n : Nat) (G' : cm_G) (M' : cm_M), cm_run n 139 0 [some (2, -2), none, none, none] [] ([], fun _ _ => -1) (cm_ro L xs) = some (some (0, 1), G', M') ∧ G'.1.length - 0 ≤ 600000 ∧ cm_sl G' - 0 ≤ 7302250 := by
  have main : Go 139 0 [some (2, -2), none, none, none] [] ([], fun _ _ => -1) (cm_ro L xs) (fun r G' _ => r = some (0, 1) ∧ G'.1.length - 0 ≤ 600000 ∧ cm_sl G' - 0 ≤ 7302250) := by
    have ro2 : ∀ j, cm_in (cm_ro L xs (-2) j) := fun j => by
      show cm_in (if j = -1 then (L : Int) else (xs j.toNat).toInt)
      by_cases hj : j = -1
      · rw [if_pos hj]
        exact ⟨by omega, by omega⟩
      · rw [if_neg hj]
        exact ⟨(xs j.toNat).le_toInt, (xs j.toNat).toInt_lt⟩
    have roL : cm_ro L xs (-2) (-1) = (L : Int) := rfl
    have rot : tbl (cm_ro L xs) := ⟨fun j _ _ => rfl, fun j _ _ => rfl⟩
    have ro3 : tb3 (cm_ro L xs) := fun j _ _ => rfl
    have l0 : lz (([], fun _ _ => -1) : cm_G) 0 := ⟨rfl, by decide⟩
    generalize hM : cm_ro L xs = M0 at *
    generalize (([], fun _ _ => -1) : cm_G) = G0 at *
    simp (disch := omega) only [g139_0]
    refine go_obj2 l0 (by decide +kernel) (fun G1 M1 l1 x1 n1 z1 => ?_)
    simp (disch := omega) only [g139_3]
    refine c139_4 (Nat.le_of_ble_eq_true rfl) n1 (p_initX l1 n1 (ro3.of (x1 (-3) (by decide)).2.2) (fun G2 M2 l2 X2 e2 r2 => ?_))
    simp (disch := omega) only [g139_7, g139_8, Option.toList_some, Option.toList_none, List.cons_append, List.nil_append, true_and, and_true, true_or, or_true, eq_self, ci0, ci1, cin6, forall_const, not_true_eq_false, not_false_eq_true, fimp, timp, i10, i01, cm_rne, and_assoc]
    (repeat' apply And.intro) <;> (try omega) <;> (try (intro hx; exfalso; omega))
    refine go_obj2 l2 (by decide +kernel) (fun G3 M3 l3 x3 n3 z3 => ?_)
    simp (disch := omega) only [g139_11]
    refine c139_12 (Nat.le_of_ble_eq_true rfl) n3 (q_init l3 (by decide) n3 z3 (fun G4 M4 l4 x4 m4 r4 => ?_))
    simp (disch := omega) only [g139_15, g139_16, g139_17, Option.toList_some, Option.toList_none, List.cons_append, List.nil_append, true_and, and_true, true_or, or_true, eq_self, ci0, ci1, cin6, forall_const, not_true_eq_false, not_false_eq_true, fimp, timp, i10, i01, cm_rne, and_assoc]
    (repeat' apply And.intro) <;> (try omega) <;> (try (intro hx; exfalso; omega))
    have x := x3.tr x4
    have X4 : isX G4 := isX_st X2 (fun a ha => ⟨(x a ha).1, (x a ha).2.1⟩)
    have R4 : rXA M4 A0 := by
      obtain ⟨b1, ⟨c1, c2, c3, c4⟩, b3, b4, b5⟩ := r2
      refine ⟨rC_lt b1 (fun a ha => (x a ha).2.2) (by decide), ⟨by rw [(x 29 (by decide)).2.2]; exact c1, c2, by rw [(x 29 (by decide)).2.2]; exact c3, fun j a b => ?_⟩, fun s a b => ⟨by rw [(x 69 (by decide)).2.2]; exact (b3 s a b).1, fun h => ?_⟩, by rw [(x 27 (by decide)).2.2]; exact b4, fun k a b => ?_⟩
      · have b : j < 0 := b
        omega
      · have h : (0 : Int) = 1 := h
        omega
      · have b : k < 0 := b
        omega
    refine l_loop X4 m4 rot ro2 roL hL ⟨R4, r4, vA0, fun k hk => ?_⟩ (fun M' => ⟨rfl, ?_, ?_⟩)
    · rw [(x k (by omega)).2.2, e2 k hk]
      exact (x1 k hk).2.2
    · have := l4.1
      omega
    · have := l4.2
      omega
  obtain ⟨n0, r, G', M', h1, rfl, h2, h3⟩ := main
  exact ⟨n0, G', M', h1 n0 (Nat.le_refl _), h2, h3⟩
