/-! ===== the law, and its end ===== -/
/-- the numbers at the start: the static tables, the script -/
def cm_ro (L : Nat) (xs : Nat → Int32) (k j : Int) : Int :=
  if k = -2 then (if j = -1 then (L : Int) else (xs j.toNat).toInt) else if k = -3 then (if j = 0 then 10 else if j = 1 then 5 else 3) else if k = -4 then (if j = 0 then 4 else 1) else if k = -5 then (if j = 0 then 20 else if j = 1 then 30 else 4) else 0
/-- a loop in which all may change -/
theorem go_loopS {σ : Type} {μ h : Nat} {Q : Option cm_V → cm_G → cm_M → Prop} (f : Int → σ → List (Option cm_V)) (gm : σ → cm_G × cm_M) (R : Int → σ → Prop) (n : Int)
    (hs : ∀ i s, 0 ≤ i → i < n → R i s → (∀ s', R (i + 1) s' → Go μ h (f (i + 1) s') [] (gm s').1 (gm s').2 Q) → Go μ h (f i s) [] (gm s).1 (gm s).2 Q)
    (he : ∀ s, R n s → Go μ h (f n s) [] (gm s).1 (gm s).2 Q) : ∀ (i : Int) (s : σ), 0 ≤ i → i ≤ n → R i s → Go μ h (f i s) [] (gm s).1 (gm s).2 Q := by
  have key : ∀ (r : Nat) (i : Int) (s : σ), i + r = n → 0 ≤ i → R i s → Go μ h (f i s) [] (gm s).1 (gm s).2 Q := by
    intro r
    induction r with
    | zero =>
      intro i s h1 h2 h3
      have : i = n := by omega
      subst this
      exact he s h3
    | succ r ih =>
      intro i s h1 h2 h3
      exact hs i s h2 (by omega) h3 (fun s' h4 => ih (i + 1) s' (by omega) (by omega) h4)
  intro i s h0 h1 h2
  exact key (n - i).toNat i s (by omega) h0 h2
/-- between two steps of the law: n cells, the credits hold some state, the script and the tables are as they were -/
def iS (M0 : cm_M) (n : Int) (G : cm_G) (M : cm_M) : Prop := lz G n ∧ 82 ≤ n ∧ isX G ∧ (∃ A, rXA M A ∧ vA A) ∧ ∀ k, k < 0 → M k = M0 k
section LAW12
variable {G : cm_G} {M M0 : cm_M} {g many L n : Int} {Q : Option cm_V → cm_G → cm_M → Prop}
theorem l_edits (hL : M0 (-2) (-1) = L) (hL2 : cm_in L) (hx : ∀ j, cm_in (M0 (-2) j)) (ht : tbl M0) (h : iS M0 n G M) (K : ∀ G' M' n', n' ≤ n + 66 → iS M0 n' G' M' → Q (some (0, 1)) G' M') {y5 y6 y7 y8 y9 y10 y11 y12 y13 : Option cm_V} :
    Go 74 92 [some (2, -2), some (2, 0), some (0, g), some (0, many), some (0, 0), y5, y6, y7, y8, y9, y10, y11, y12, y13] [] G M Q := by
  refine go_loopS (σ := (Option cm_V × Option cm_V × Option cm_V × Option cm_V × Option cm_V × Option cm_V × Option cm_V × Option cm_V × Option cm_V) × cm_G × cm_M) (fun e s => [some (2, -2), some (2, 0), some (0, g), some (0, many), some (0, e), s.1.1, s.1.2.1, s.1.2.2.1, s.1.2.2.2.1, s.1.2.2.2.2.1, s.1.2.2.2.2.2.1, s.1.2.2.2.2.2.2.1, s.1.2.2.2.2.2.2.2.1, s.1.2.2.2.2.2.2.2.2]) (fun s => s.2) (fun e s => ∃ m, m ≤ n + 11 * e ∧ iS M0 m s.2.1 s.2.2) 6 (fun e s he0 he6 hR ih => ?_) (fun s hR => ?_) 0 ((y5, y6, y7, y8, y9, y10, y11, y12, y13), G, M) (by omega) (by omega) ⟨n, by omega, h⟩
  · obtain ⟨⟨y5, y6, y7, y8, y9, y10, y11, y12, y13⟩, G1, M1⟩ := s
    obtain ⟨m, hm, hl, h82, hX, ⟨A, hA, hv⟩, hneg⟩ := hR
    dsimp only at hl hX hA hneg ih ⊢
    have e2 : M1 (-2) = M0 (-2) := hneg (-2) (by decide)
    rw [g74_92]
    simp (disch := omega) only [g74_94, g74_96, g74_99, g74_100, g74_102, g74_104, Option.toList_some, Option.toList_none, List.cons_append, List.nil_append, true_and, and_true, true_or, or_true, eq_self, ci0, ci1, cin6, forall_const, not_true_eq_false, not_false_eq_true, fimp, timp, i10, i01, cm_rne, and_assoc]
    (repeat' apply And.intro) <;> (try omega) <;> (try (intro hx; exfalso; omega))
    intro _
    refine c74_105 (Nat.le_of_ble_eq_true rfl) (l_cell (L := L) (by rw [e2]; exact hL) hL2 (fun j => by rw [e2]; exact hx j) (by omega) (fun hh ihh => ?_))
    simp (disch := omega) only [g74_108, Option.toList_some, Option.toList_none, List.cons_append, List.nil_append, true_and, and_true, true_or, or_true, eq_self, ci0, ci1, cin6, forall_const, not_true_eq_false, not_false_eq_true, fimp, timp, i10, i01, cm_rne, and_assoc]
    refine l_edit hX (ht.of hneg) hA hv (fun M2 A2 i kind y10 y11 y12 y13 r2 v2 f2 => ?_)
    simp (disch := omega) only [g74_413, g74_415, g74_418, g74_419, g74_421, g74_423, Option.toList_some, Option.toList_none, List.cons_append, List.nil_append, true_and, and_true, true_or, or_true, eq_self, ci0, ci1, cin6, forall_const, not_true_eq_false, not_false_eq_true, fimp, timp, i10, i01, cm_rne, and_assoc]
    refine c74_424 (Nat.le_of_ble_eq_true rfl) (l_tells hl h82 hX r2 v2 (fun G3 M3 n3 a1 a2 l3 X3 r3 f3 => ?_))
    simp (disch := omega) only [g74_427, g74_430, g74_431, g74_432, g74_435, Option.toList_some, Option.toList_none, List.cons_append, List.nil_append, true_and, and_true, true_or, or_true, eq_self, ci0, ci1, cin6, forall_const, not_true_eq_false, not_false_eq_true, fimp, timp, i10, i01, cm_rne, and_assoc]
    exact ih ((some (0, hh), some (0, sN (aS A)), some (0, i), some (0, kind), some (0, 1), y10, y11, y12, y13), G3, M3) ⟨n3, by omega, l3, by omega, X3, ⟨A2, r3, v2⟩, fun k hk => by
      dsimp only
      rw [f3 k hk, f2 k (by omega)]
      exact hneg k hk⟩
  · obtain ⟨⟨y5, y6, y7, y8, y9, y10, y11, y12, y13⟩, G1, M1⟩ := s
    obtain ⟨m, hm, hi⟩ := hR
    dsimp only at hi ⊢
    rw [g74_92]
    simp (disch := omega) only [g74_94, g74_96, g74_438, g74_439, Option.toList_some, Option.toList_none, List.cons_append, List.nil_append, true_and, and_true, true_or, or_true, eq_self, ci0, ci1, cin6, forall_const, not_true_eq_false, not_false_eq_true, fimp, timp, i10, i01, cm_rne, and_assoc]
    have fin := K G1 M1 m (by omega) hi
    (repeat' apply And.intro) <;> (try omega) <;> (try (intro hx; exfalso; omega))
    first
    | exact fun _ => fin
    | exact fin
theorem l_body {A : sA} (hL : M0 (-2) (-1) = L) (hL2 : cm_in L) (hx : ∀ j, cm_in (M0 (-2) j)) (ht : tbl M0) (hl : lz G n) (h82 : 82 ≤ n) (hX : isX G) (hA : rXA M A) (hv : vA A) (h0 : sT (aS A) 0 = 10) (h1 : sT (aS A) 1 = 5) (h2 : sT (aS A) 2 = 3) (hneg : ∀ k, k < 0 → M k = M0 k) (K : ∀ G' M' n', n' ≤ n + 88 → iS M0 n' G' M' → Q (some (0, 1)) G' M') :
    Go 74 8 [some (2, -2), some (2, 0), none, none, none, none, none, none, none, none, none, none, none, none] [] G M Q := by
  have e2 : M (-2) = M0 (-2) := hneg (-2) (by decide)
  simp (disch := omega) only [g74_8, g74_9, Option.toList_some, Option.toList_none, List.cons_append, List.nil_append, true_and, and_true, true_or, or_true, eq_self, ci0, ci1, cin6, forall_const, not_true_eq_false, not_false_eq_true, fimp, timp, i10, i01, cm_rne, and_assoc]
  refine c74_10 (Nat.le_of_ble_eq_true rfl) (l_cell (L := L) (by rw [e2]; exact hL) hL2 (fun j => by rw [e2]; exact hx j) (by omega) (fun g ig => ?_))
  simp (disch := omega) only [g74_13, g74_14, g74_15, Option.toList_some, Option.toList_none, List.cons_append, List.nil_append, true_and, and_true, true_or, or_true, eq_self, ci0, ci1, cin6, forall_const, not_true_eq_false, not_false_eq_true, fimp, timp, i10, i01, cm_rne, and_assoc]
  refine c74_16 (Nat.le_of_ble_eq_true rfl) (l_tells hl h82 hX hA hv (fun G1 M1 n1 a1 a2 l1 X1 r1 f1 => ?_))
  have neg1 : ∀ k, k < 0 → M1 k = M0 k := fun k hk => (f1 k hk).trans (hneg k hk)
  simp (disch := omega) only [g74_19, g74_22, g74_23, Option.toList_some, Option.toList_none, List.cons_append, List.nil_append, true_and, and_true, true_or, or_true, eq_self, ci0, ci1, cin6, forall_const, not_true_eq_false, not_false_eq_true, fimp, timp, i10, i01, cm_rne, and_assoc]
  refine c74_24 (Nat.le_of_ble_eq_true rfl) (l_settings X1 (ht.of neg1) r1 hv h0 h1 h2 (fun M2 A2 r2 v2 f2 => ?_))
  have neg2 : ∀ k, k < 0 → M2 k = M0 k := fun k hk => (f2 k (by omega)).trans (neg1 k hk)
  simp (disch := omega) only [g74_27, g74_30, g74_31, g74_32, g74_33, g74_35, g74_36, Option.toList_some, Option.toList_none, List.cons_append, List.nil_append, true_and, and_true, true_or, or_true, eq_self, ci0, ci1, cin6, forall_const, not_true_eq_false, not_false_eq_true, fimp, timp, i10, i01, cm_rne, and_assoc]
  refine c74_38 (Nat.le_of_ble_eq_true rfl) (l_low (by omega) ?_)
  have bm := lw_b (cm_ishr g 13) (n := 41) (by decide)
  generalize lw (cm_ishr g 13) 41 = many at *
  simp (disch := omega) only [g74_41, g74_42, g74_43, Option.toList_some, Option.toList_none, List.cons_append, List.nil_append, true_and, and_true, true_or, or_true, eq_self, ci0, ci1, cin6, forall_const, not_true_eq_false, not_false_eq_true, fimp, timp, i10, i01, cm_rne, and_assoc]
  refine go_loop (σ := cm_M) (fun k _ => [some (2, -2), some (2, 0), some (0, g), some (0, many), some (0, k), none, none, none, none, none, none, none, none, none]) (fun s => s) (fun k s => (∃ A, rXA s A ∧ vA A) ∧ ∀ k, k < 0 → s k = M0 k) many (fun k s hk0 hkm hR ih => ?_) (fun s hR => ?_) 0 M2 (by omega) (by omega) ⟨⟨A2, r2, v2⟩, neg2⟩
  · obtain ⟨⟨B, rB, vB⟩, ng⟩ := hR
    have e3 : s (-2) = M0 (-2) := ng (-2) (by decide)
    rw [g74_45]
    simp (disch := omega) only [g74_47, g74_48, g74_51, g74_52, g74_53, g74_54, g74_56, Option.toList_some, Option.toList_none, List.cons_append, List.nil_append, true_and, and_true, true_or, or_true, eq_self, ci0, ci1, cin6, forall_const, not_true_eq_false, not_false_eq_true, fimp, timp, i10, i01, cm_rne, and_assoc]
    (repeat' apply And.intro) <;> (try omega) <;> (try (intro hx; exfalso; omega))
    intro _
    refine c74_57 (Nat.le_of_ble_eq_true rfl) (l_cell (L := L) (by rw [e3]; exact hL) hL2 (fun j => by rw [e3]; exact hx j) (by omega) (fun hh ihh => ?_))
    simp (disch := omega) only [Option.toList_some, Option.toList_none, List.cons_append, List.nil_append, true_and, and_true, true_or, or_true, eq_self, ci0, ci1, cin6, forall_const, not_true_eq_false, not_false_eq_true, fimp, timp, i10, i01, cm_rne, and_assoc]
    refine c74_60 (Nat.le_of_ble_eq_true rfl) (l_add X1 rB vB ihh (fun M3 A3 r3 v3 f3 => ?_))
    simp (disch := omega) only [g74_63, g74_66, g74_67, g74_68, g74_71, Option.toList_some, Option.toList_none, List.cons_append, List.nil_append, true_and, and_true, true_or, or_true, eq_self, ci0, ci1, cin6, forall_const, not_true_eq_false, not_false_eq_true, fimp, timp, i10, i01, cm_rne, and_assoc]
    exact ih M3 ⟨⟨A3, r3, v3⟩, fun k hk => (f3 k (by omega)).trans (ng k hk)⟩
  · obtain ⟨⟨B, rB, vB⟩, ng⟩ := hR
    have e3 : s (-2) = M0 (-2) := ng (-2) (by decide)
    rw [g74_45]
    simp (disch := omega) only [g74_47, g74_48, g74_74, g74_75, g74_76, Option.toList_some, Option.toList_none, List.cons_append, List.nil_append, true_and, and_true, true_or, or_true, eq_self, ci0, ci1, cin6, forall_const, not_true_eq_false, not_false_eq_true, fimp, timp, i10, i01, cm_rne, and_assoc]
    (repeat' apply And.intro) <;> (try omega) <;> (try (intro hx; exfalso; omega))
    intro _
    refine c74_78 (Nat.le_of_ble_eq_true rfl) (l_cell (L := L) (by rw [e3]; exact hL) hL2 (fun j => by rw [e3]; exact hx j) (by omega) (fun hh ihh => ?_))
    simp (disch := omega) only [Option.toList_some, Option.toList_none, List.cons_append, List.nil_append, true_and, and_true, true_or, or_true, eq_self, ci0, ci1, cin6, forall_const, not_true_eq_false, not_false_eq_true, fimp, timp, i10, i01, cm_rne, and_assoc]
    refine c74_81 (Nat.le_of_ble_eq_true rfl) (l_tells l1 (by omega) X1 rB vB (fun G4 M4 n4 b1 b2 l4 X4 r4 f4 => ?_))
    simp (disch := omega) only [g74_84, g74_87, g74_88, g74_89, g74_90, Option.toList_some, Option.toList_none, List.cons_append, List.nil_append, true_and, and_true, true_or, or_true, eq_self, ci0, ci1, cin6, forall_const, not_true_eq_false, not_false_eq_true, fimp, timp, i10, i01, cm_rne, and_assoc]
    exact l_edits hL hL2 hx ht ⟨l4, by omega, X4, ⟨B, r4, vB⟩, fun k hk => (f4 k hk).trans (ng k hk)⟩ (fun G' M' n' hn hi => K G' M' n' (by omega) hi)
end LAW12
theorem cm_pure (L : Nat) (xs : Nat → Int32) (hL : L ≤ 260) : ∃ (n : Nat) (G' : cm_G) (M' : cm_M), cm_run n 74 0 [some (2, -2), none, none, none, none, none, none, none, none, none, none, none, none, none] [] ([], fun _ _ => -1) (cm_ro L xs) = some (some (0, 1), G', M') ∧ G'.1.length - 0 ≤ 600000 ∧ cm_sl G' - 0 ≤ 7302250 := by
  have main : Go 74 0 [some (2, -2), none, none, none, none, none, none, none, none, none, none, none, none, none] [] ([], fun _ _ => -1) (cm_ro L xs) (fun r G' _ => r = some (0, 1) ∧ G'.1.length - 0 ≤ 600000 ∧ cm_sl G' - 0 ≤ 7302250) := by
    have ro2 : ∀ j, cm_in (cm_ro L xs (-2) j) := fun j => by
      show cm_in (if j = -1 then (L : Int) else (xs j.toNat).toInt)
      by_cases hj : j = -1
      · rw [if_pos hj]
        exact ⟨by omega, by omega⟩
      · rw [if_neg hj]
        exact ⟨(xs j.toNat).le_toInt, (xs j.toNat).toInt_lt⟩
    have roL : cm_ro L xs (-2) (-1) = (L : Int) := rfl
    have rot : tbl (cm_ro L xs) := ⟨fun j _ _ => rfl, fun j _ _ => rfl⟩
    have ro3 : tb3 (cm_ro L xs) := fun j _ _ => rfl
    have l0 : lz (([], fun _ _ => -1) : cm_G) 0 := ⟨rfl, by decide⟩
    have iLL : cm_in (L : Int) := ⟨by omega, by omega⟩
    generalize hM : cm_ro L xs = M0 at *
    generalize (([], fun _ _ => -1) : cm_G) = G0 at *
    simp (disch := omega) only [g74_0]
    refine go_obj2 l0 (by decide +kernel) (fun G1 M1 l1 x1 n1 z1 => ?_)
    simp (disch := omega) only [g74_3]
    refine c74_4 (Nat.le_of_ble_eq_true rfl) n1 (p_initX l1 n1 (ro3.of (x1 (-3) (by decide)).2.2) (fun G2 M2 l2 X2 e2 r2 => ?_))
    simp (disch := omega) only [g74_7, Option.toList_some, Option.toList_none, List.cons_append, List.nil_append, true_and, and_true, true_or, or_true, eq_self, ci0, ci1, cin6, forall_const, not_true_eq_false, not_false_eq_true, fimp, timp, i10, i01, cm_rne, and_assoc]
    (repeat' apply And.intro) <;> (try omega) <;> (try (intro hx; exfalso; omega))
    refine l_body (A := A0) (n := 82) (L := (L : Int)) roL iLL ro2 rot l2 (by omega) X2 r2 vA0 rfl rfl rfl (fun k hk => ?_) (fun G' M' n' hn hi => ⟨rfl, ?_, ?_⟩)
    · rw [e2 k hk]
      exact (x1 k hk).2.2
    · have := hi.1.1
      omega
    · have := hi.1.2
      omega
  obtain ⟨n0, r, G', M', h1, rfl, h2, h3⟩ := main
  exact ⟨n0, G', M', h1 n0 (Nat.le_refl _), h2, h3⟩
