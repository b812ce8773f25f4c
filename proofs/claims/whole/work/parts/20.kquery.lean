/-! ===== what Course tells ===== -/
def lstep (S : sS) (e : Int → Int) (g i f : Int) : Int := if sG S i = g then (if f = -6 then i else if e i < e f then i else f) else f
noncomputable def lsL (S : sS) (g : Int) : Int := fP (lstep S (eI S) g) (-6) (sN S).toNat
def mstep (S : sS) (e : Int → Int) (g i a : Int) : Int := if sG S i = g then (if a < e i then e i else a) else a
noncomputable def msO (S : sS) (g : Int) : Int := fP (mstep S (eI S) g) 0 (sN S).toNat
noncomputable def lsO (S : sS) (g : Int) : Int := if lsL S g = -6 then 0 else eI S (lsL S g)
noncomputable def spr (S : sS) (g : Int) : Int := msO S g - lsO S g
noncomputable def sprA (S : sS) : Int := fP (fun g a => a + spr S g) 0 8
noncomputable def uneq (S : sS) : Int := fP (fun g a => if spr S g = 0 then a else a + 1) 0 8
noncomputable def never (S : sS) : Int := fP (fun i a => if sK S i = 0 then (if eI S i = 0 then a + 1 else a) else a) 0 (sN S).toNat
theorem ls_inv {S : sS} (hv : vS S) (g : Int) : ∀ k : Nat, (k : Int) ≤ sN S → (fP (lstep S (eI S) g) (-6) k = -6 ∧ fP (mstep S (eI S) g) 0 k = 0) ∨ (0 ≤ fP (lstep S (eI S) g) (-6) k ∧ fP (lstep S (eI S) g) (-6) k < k ∧ sG S (fP (lstep S (eI S) g) (-6) k) = g ∧ eI S (fP (lstep S (eI S) g) (-6) k) ≤ fP (mstep S (eI S) g) 0 k ∧ fP (mstep S (eI S) g) 0 k ≤ 1801)
  | 0, _ => Or.inl ⟨rfl, rfl⟩
  | k + 1, hk => by
    have ih := ls_inv hv g k (by omega)
    have hb := eI_b hv (i := k) (by omega)
    show (lstep S (eI S) g k (fP (lstep S (eI S) g) (-6) k) = -6 ∧ mstep S (eI S) g k (fP (mstep S (eI S) g) 0 k) = 0) ∨ (0 ≤ lstep S (eI S) g k (fP (lstep S (eI S) g) (-6) k) ∧ lstep S (eI S) g k (fP (lstep S (eI S) g) (-6) k) < ((k + 1 : Nat) : Int) ∧ sG S (lstep S (eI S) g k (fP (lstep S (eI S) g) (-6) k)) = g ∧ eI S (lstep S (eI S) g k (fP (lstep S (eI S) g) (-6) k)) ≤ mstep S (eI S) g k (fP (mstep S (eI S) g) 0 k) ∧ mstep S (eI S) g k (fP (mstep S (eI S) g) 0 k) ≤ 1801)
    generalize fP (lstep S (eI S) g) (-6) k = f at ih ⊢
    generalize fP (mstep S (eI S) g) 0 k = a at ih ⊢
    unfold lstep mstep
    by_cases h1 : sG S k = g
    · rw [if_pos h1, if_pos h1]
      right
      by_cases h2 : f = -6
      · rw [if_pos h2]
        refine ⟨by omega, by omega, h1, ?_, ?_⟩ <;> split <;> omega
      · rw [if_neg h2]
        rcases ih with ⟨z, -⟩ | ⟨z1, z2, z3, z4, z5⟩
        · exact absurd z h2
        · by_cases h3 : eI S k < eI S f
          · rw [if_pos h3]
            refine ⟨by omega, by omega, h1, ?_, ?_⟩ <;> split <;> omega
          · rw [if_neg h3]
            refine ⟨by omega, by omega, z3, ?_, ?_⟩ <;> split <;> omega
    · rw [if_neg h1, if_neg h1]
      rcases ih with z | ⟨z1, z2, z3, z4, z5⟩
      · exact Or.inl z
      · exact Or.inr ⟨z1, by omega, z3, z4, z5⟩
theorem lsL_b {S : sS} (hv : vS S) (g : Int) : lsL S g = -6 ∨ (0 ≤ lsL S g ∧ lsL S g < sN S ∧ sG S (lsL S g) = g) := by
  have hn := hv.1
  rcases ls_inv hv g (sN S).toNat (by omega) with ⟨z, -⟩ | ⟨z1, z2, z3, -⟩
  · exact Or.inl z
  · exact Or.inr ⟨z1, by unfold lsL; omega, z3⟩
theorem spr_b {S : sS} (hv : vS S) (g : Int) : (0 ≤ spr S g ∧ spr S g ≤ 1801) ∧ (0 ≤ msO S g ∧ msO S g ≤ 1801) ∧ (0 ≤ lsO S g ∧ lsO S g ≤ 1801) ∧ (lsL S g = -6 → msO S g = 0) := by
  have hn := hv.1
  have h := ls_inv hv g (sN S).toNat (by omega)
  unfold spr lsO msO lsL
  rcases h with ⟨z, z2⟩ | ⟨z1, z2, z3, z4, z5⟩
  · rw [z, z2, if_pos rfl]
    omega
  · rw [if_neg (by omega)]
    have := eI_b hv (i := fP (lstep S (eI S) g) (-6) (sN S).toNat) (by omega)
    omega
section KQ
variable {G : cm_G} {M : cm_M} {d c i j t v g : Int} {S : sS} {Q : Option cm_V → cm_G → cm_M → Prop}
theorem p_ticksInAll (hK : isK G d c) (hv : vS S) (hR : rC M c S) (hF : fol M d S) (K : Q (some (0, aI S)) G M) : Go 10 0 [some (2, d), none] [] G M Q := by
  have hK' := hK
  obtain ⟨h0, hs, ⟨e0, e1, e2, e3, e5, e6, e7⟩, ⟨a1, a2, a3, a4, a5, a6⟩, hC, hd⟩ := hK
  obtain ⟨hc0, hcs, ⟨f0, f1, f2, f3, f4⟩, b1, b2, b3, b4, b5⟩ := hC
  obtain ⟨g1, g2, g3⟩ := hF
  have hn := hv.2.1
  have hn0 := hv.1
  have hscr := hv.2.2.1
  have htb := tI_b hv hn0
  have r2 := hR.2.1 0 (by decide) (by decide)
  have hs1 := g3.1
  have hH0 : M (d + 11) 0 = 0 := g3.2.1.2
  simp (disch := omega) only [g10_0, g10_1, g10_4, g10_7, g10_10, g10_11, g10_12, g10_14, g10_15, g10_18, g10_19, g10_22, g10_25, g10_26, g10_27, g10_28, g10_29, g10_30, g10_31, g10_32, g10_33, g10_37, g10_41, Option.toList_some, Option.toList_none, List.cons_append, List.nil_append, true_and, and_true, true_or, or_true, eq_self, ci0, ci1, cin6, forall_const, not_true_eq_false, not_false_eq_true, fimp, timp, i10, i01, cm_rne, and_assoc, hs, e0, hcs, hR.1, f0, b1, r2, g2]
  (repeat' apply And.intro) <;> (try omega) <;> (try (intro hx; exfalso; omega))
  · intro hne
    (repeat' apply And.intro) <;> (try omega) <;> (try (intro hx; exfalso; omega))
    refine c10_34 (Nat.le_of_ble_eq_true rfl) hs (p_stretchReaching hK' hv g3 (by omega) (by omega) (by rw [hH0]; omega) (by omega) (fun j k1 k2 k3 => ?_))
    simp (disch := omega) only [g10_0, g10_1, g10_4, g10_7, g10_10, g10_11, g10_12, g10_14, g10_15, g10_18, g10_19, g10_22, g10_25, g10_26, g10_27, g10_28, g10_29, g10_30, g10_31, g10_32, g10_33, g10_37, g10_41, Option.toList_some, Option.toList_none, List.cons_append, List.nil_append, true_and, and_true, true_or, or_true, eq_self, ci0, ci1, cin6, forall_const, not_true_eq_false, not_false_eq_true, fimp, timp, i10, i01, cm_rne, and_assoc]
    refine c10_38 (by decide) hs (p_timeIn hK' hv g3 (by omega) k2 k3 (by omega) ?_)
    simp (disch := omega) only [g10_0, g10_1, g10_4, g10_7, g10_10, g10_11, g10_12, g10_14, g10_15, g10_18, g10_19, g10_22, g10_25, g10_26, g10_27, g10_28, g10_29, g10_30, g10_31, g10_32, g10_33, g10_37, g10_41, Option.toList_some, Option.toList_none, List.cons_append, List.nil_append, true_and, and_true, true_or, or_true, eq_self, ci0, ci1, cin6, forall_const, not_true_eq_false, not_false_eq_true, fimp, timp, i10, i01, cm_rne, and_assoc]
    unfold aI at K
    rw [if_neg hne] at K
    exact K
  · intro he
    unfold aI at K
    rw [if_pos he] at K
    exact K
theorem p_stretchAt {k : Nat} (hK : isK G d c) (hv : vS S) (hst : stM M d S k) (hk : (k : Int) ≤ sN S) (ht : 0 ≤ t ∧ t ≤ 9999) (K : ∀ j, (0 ≤ j ∧ j < M d 8) → M (d + 10) j ≤ t → (j + 1 < M d 8 → t < M (d + 10) (j + 1)) → Q (some (0, j)) G M) : Go 11 0 [some (2, d), some (0, t), none, none] [] G M Q := by
  obtain ⟨h0, hs, ⟨e0, e1, e2, e3, e5, e6, e7⟩, ⟨a1, a2, a3, a4, a5, a6⟩, hC, hd⟩ := hK
  have hn := hv.2.1
  have hs1 := hst.1
  have hT0 : M (d + 10) 0 = 0 := hst.2.1.1
  simp (disch := omega) only [g11_0, g11_1, g11_2, g11_3, g11_5, g11_6, g11_9, g11_12, g11_13, g11_16, g11_17, g11_18, g11_19, g11_22, g11_23, g11_24, g11_27, g11_30, g11_31, Option.toList_some, Option.toList_none, List.cons_append, List.nil_append, true_and, and_true, true_or, or_true, eq_self, ci0, ci1, cin6, forall_const, not_true_eq_false, not_false_eq_true, fimp, timp, i10, i01, cm_rne, and_assoc]
  refine go_loop (σ := Unit) (fun i _ => [some (2, d), some (0, t), some (0, i - 1), some (0, i)]) (fun _ => M) (fun i _ => 1 ≤ i ∧ M (d + 10) (i - 1) ≤ t) (M d 8) (fun i s hi0 hin hRs ih => ?_) (fun s hRs => ?_) 1 () (by omega) (by omega) ⟨by omega, by show M (d + 10) 0 ≤ t; omega⟩
  · obtain ⟨b1, b2, b3⟩ := stM_b hv hk hst (j := i) ⟨hi0, hin⟩
    rw [g11_4]
    simp (disch := omega) only [g11_0, g11_1, g11_2, g11_3, g11_5, g11_6, g11_9, g11_12, g11_13, g11_16, g11_17, g11_18, g11_19, g11_22, g11_23, g11_24, g11_27, g11_30, g11_31, Option.toList_some, Option.toList_none, List.cons_append, List.nil_append, true_and, and_true, true_or, or_true, eq_self, ci0, ci1, cin6, forall_const, not_true_eq_false, not_false_eq_true, fimp, timp, i10, i01, cm_rne, and_assoc, hs, e5, a4]
    (repeat' apply And.intro) <;> (try omega) <;> (try (intro hx; exfalso; omega))
    intro _
    (repeat' apply And.intro) <;> (try omega) <;> (try (intro hx; exfalso; omega))
    · intro hz
      exact K (i - 1) (by omega) hRs.2 (fun _ => by rw [show i - 1 + 1 = i by omega]; omega)
    · intro hz
      have := ih () ⟨by omega, by rw [show i + 1 - 1 = i by omega]; omega⟩
      rwa [show i + 1 - 1 = i by omega] at this
  · rw [g11_4]
    simp (disch := omega) only [g11_0, g11_1, g11_2, g11_3, g11_5, g11_6, g11_9, g11_12, g11_13, g11_16, g11_17, g11_18, g11_19, g11_22, g11_23, g11_24, g11_27, g11_30, g11_31, Option.toList_some, Option.toList_none, List.cons_append, List.nil_append, true_and, and_true, true_or, or_true, eq_self, ci0, ci1, cin6, forall_const, not_true_eq_false, not_false_eq_true, fimp, timp, i10, i01, cm_rne, and_assoc, hs]
    (repeat' apply And.intro) <;> (try omega) <;> (try (intro hx; exfalso; omega))
    exact fun _ => K _ (by omega) hRs.2 (fun z => absurd z (by omega))
/-- positions out of the stretch of a time -/
theorem stR_pos {k : Nat} {s : Int} {T H V : Int → Int} (hs : stR S k s T H V) {n : Nat} (hj : 0 ≤ j ∧ j < s) (h1 : T j ≤ n) (h2 : j + 1 < s → (n : Int) ≤ T (j + 1)) : pos S k n = H j + (n - T j) * V j := by
  by_cases hl : j + 1 < s
  · exact (hs.2.2.2.1 j hj.1 hl).2 n h1 (h2 hl)
  · have : j = s - 1 := by omega
    subst this
    exact hs.2.2.2.2.1 n h1
theorem p_movedAt (hK : isK G d c) (hv : vS S) (hst : stM M d S (sN S).toNat) (ht : 0 ≤ t ∧ t ≤ 9999) (K : Q (some (0, pos S (sN S).toNat t.toNat)) G M) : Go 13 0 [some (2, d), some (0, t), none] [] G M Q := by
  have hK' := hK
  obtain ⟨h0, hs, ⟨e0, e1, e2, e3, e5, e6, e7⟩, ⟨a1, a2, a3, a4, a5, a6⟩, hC, hd⟩ := hK
  have hn := hv.2.1
  have hn0 := hv.1
  have hs1 := hst.1
  simp (disch := omega) only [g13_0, g13_1, g13_5, g13_6, g13_7, g13_10, g13_11, g13_12, g13_13, g13_14, g13_17, g13_18, g13_19, g13_20, g13_21, g13_24, g13_25, g13_26, g13_27, g13_28, Option.toList_some, Option.toList_none, List.cons_append, List.nil_append, true_and, and_true, true_or, or_true, eq_self, ci0, ci1, cin6, forall_const, not_true_eq_false, not_false_eq_true, fimp, timp, i10, i01, cm_rne, and_assoc]
  refine c13_2 (by decide) hs (p_stretchAt hK' hv hst (by omega) ht (fun j k1 k2 k3 => ?_))
  simp (disch := omega) only [g13_0, g13_1, g13_5, g13_6, g13_7, g13_10, g13_11, g13_12, g13_13, g13_14, g13_17, g13_18, g13_19, g13_20, g13_21, g13_24, g13_25, g13_26, g13_27, g13_28, Option.toList_some, Option.toList_none, List.cons_append, List.nil_append, true_and, and_true, true_or, or_true, eq_self, ci0, ci1, cin6, forall_const, not_true_eq_false, not_false_eq_true, fimp, timp, i10, i01, cm_rne, and_assoc, hs, e5, e6, e7, a4, a5, a6]
  (repeat' apply And.intro) <;> (try omega) <;> (try (intro hx; exfalso; omega))
  have := stR_pos hst k1 (n := t.toNat) (by omega) (by omega)
  rw [show ((t.toNat : Nat) : Int) = t by omega] at this
  rw [← this]
  exact K
theorem p_speedAt (hK : isK G d c) (hv : vS S) (hst : stM M d S (sN S).toNat) (ht : 0 ≤ t ∧ t ≤ 9999) (K : Q (some (0, sp S (sN S).toNat (pos S (sN S).toNat t.toNat))) G M) : Go 12 0 [some (2, d), some (0, t)] [] G M Q := by
  have hK' := hK
  obtain ⟨h0, hs, ⟨e0, e1, e2, e3, e5, e6, e7⟩, ⟨a1, a2, a3, a4, a5, a6⟩, hC, hd⟩ := hK
  have hn := hv.2.1
  have hn0 := hv.1
  have hs1 := hst.1
  simp (disch := omega) only [g12_0, g12_1, g12_4, g12_5, g12_9, g12_10, Option.toList_some, Option.toList_none, List.cons_append, List.nil_append, true_and, and_true, true_or, or_true, eq_self, ci0, ci1, cin6, forall_const, not_true_eq_false, not_false_eq_true, fimp, timp, i10, i01, cm_rne, and_assoc, hs, e7]
  refine c12_6 (Nat.le_of_ble_eq_true rfl) hs (p_stretchAt hK' hv hst (by omega) ht (fun j k1 k2 k3 => ?_))
  simp (disch := omega) only [g12_0, g12_1, g12_4, g12_5, g12_9, g12_10, Option.toList_some, Option.toList_none, List.cons_append, List.nil_append, true_and, and_true, true_or, or_true, eq_self, ci0, ci1, cin6, forall_const, not_true_eq_false, not_false_eq_true, fimp, timp, i10, i01, cm_rne, and_assoc, hs, a6]
  (repeat' apply And.intro) <;> (try omega) <;> (try (intro hx; exfalso; omega))
  have h1 := stR_pos hst k1 (n := t.toNat) (by omega) (by omega)
  have h2 := stR_pos hst k1 (n := t.toNat + 1) (by omega) (by omega)
  rw [pos_s, show ((t.toNat + 1 : Nat) : Int) = t + 1 by omega, show t + 1 - M (d + 10) j = t - M (d + 10) j + 1 by omega, Int.add_mul] at h2
  rw [show ((t.toNat : Nat) : Int) = t by omega] at h1
  have e : M (d + 12) j = sp S (sN S).toNat (pos S (sN S).toNat t.toNat) := by omega
  rw [e]
  exact K
theorem p_isSeenAt (hK : isK G d c) (hv : vS S) (hF : fol M d S) (hi : 0 ≤ i ∧ i < sN S) (ht : 0 ≤ t ∧ t ≤ 9999) (K1 : fI S i ≤ t ∧ t < fI S i + eI S i → Q (some (0, 1)) G M) (K0 : ¬ (fI S i ≤ t ∧ t < fI S i + eI S i) → Q (some (0, 0)) G M) : Go 14 0 [some (2, d), some (0, i), some (0, t)] [] G M Q := by
  obtain ⟨h0, hs, ⟨e0, e1, e2, e3, e5, e6, e7⟩, ⟨a1, a2, a3, a4, a5, a6⟩, hC, hd⟩ := hK
  have hn := hv.2.1
  obtain ⟨-, q2, q3⟩ := hF.1 i hi.1 hi.2
  have b1 := fI_b hv hi
  have b2 := eI_b hv hi
  simp (disch := omega) only [g14_0, g14_1, g14_2, g14_5, g14_6, g14_7, g14_10, g14_11, g14_12, g14_15, g14_16, g14_17, g14_18, g14_21, g14_22, g14_23, g14_24, g14_27, g14_28, g14_31, g14_32, Option.toList_some, Option.toList_none, List.cons_append, List.nil_append, true_and, and_true, true_or, or_true, eq_self, ci0, ci1, cin6, forall_const, not_true_eq_false, not_false_eq_true, fimp, timp, i10, i01, cm_rne, and_assoc, hs, e2, e3, a2, a3, q2, q3]
  (repeat' apply And.intro) <;> (try omega) <;> (try (intro hx; exfalso; omega))
  · intro h; exact K0 (by omega)
  · intro h
    (repeat' apply And.intro) <;> (try omega) <;> (try (intro hx; exfalso; omega))
    · intro h2; exact K0 (by omega)
    · intro h2; exact K1 (by omega)
def seen (S : sS) (t : Int) (i : Int) : Prop := fI S i ≤ t ∧ t < fI S i + eI S i
theorem p_firstSeenAt (hK : isK G d c) (hv : vS S) (hR : rC M c S) (hF : fol M d S) (ht : 0 ≤ t ∧ t ≤ 9999) (K : ∀ r, isFst (seen S t) (sN S) r → Q (some (0, r)) G M) : Go 15 0 [some (2, d), some (0, t), none] [] G M Q := by
  have hK' := hK
  obtain ⟨h0, hs, ⟨e0, e1, e2, e3, e5, e6, e7⟩, ⟨a1, a2, a3, a4, a5, a6⟩, hC, hd⟩ := hK
  have hcs := hC.2.1
  have hn := hv.2.1
  have hn0 := hv.1
  simp (disch := omega) only [g15_0, g15_1, g15_3, g15_4, g15_7, g15_10, g15_13, g15_14, g15_15, g15_19, g15_22, g15_23, g15_24, g15_27, g15_30, g15_32, Option.toList_some, Option.toList_none, List.cons_append, List.nil_append, true_and, and_true, true_or, or_true, eq_self, ci0, ci1, cin6, forall_const, not_true_eq_false, not_false_eq_true, fimp, timp, i10, i01, cm_rne, and_assoc]
  refine go_loop (σ := Unit) (fun i _ => [some (2, d), some (0, t), some (0, i)]) (fun _ => M) (fun i _ => ∀ j, 0 ≤ j → j < i → ¬ seen S t j) (sN S) (fun i s hi0 hin hRs ih => ?_) (fun s hRs => ?_) 0 () (by omega) (by omega) (fun j a b => absurd a (by omega))
  · rw [g15_2]
    simp (disch := omega) only [g15_0, g15_1, g15_3, g15_4, g15_7, g15_10, g15_13, g15_14, g15_15, g15_19, g15_22, g15_23, g15_24, g15_27, g15_30, g15_32, Option.toList_some, Option.toList_none, List.cons_append, List.nil_append, true_and, and_true, true_or, or_true, eq_self, ci0, ci1, cin6, forall_const, not_true_eq_false, not_false_eq_true, fimp, timp, i10, i01, cm_rne, and_assoc, hs, e0, hcs, hR.1]
    (repeat' apply And.intro) <;> (try omega) <;> (try (intro hx; exfalso; omega))
    intro _
    refine c15_16 (by decide) hs (p_isSeenAt hK' hv hF ⟨hi0, hin⟩ ht (fun hz => ?_) (fun hz => ?_)) <;> simp (disch := omega) only [g15_0, g15_1, g15_3, g15_4, g15_7, g15_10, g15_13, g15_14, g15_15, g15_19, g15_22, g15_23, g15_24, g15_27, g15_30, g15_32, Option.toList_some, Option.toList_none, List.cons_append, List.nil_append, true_and, and_true, true_or, or_true, eq_self, ci0, ci1, cin6, forall_const, not_true_eq_false, not_false_eq_true, fimp, timp, i10, i01, cm_rne, and_assoc]
    · exact K i (Or.inl ⟨hi0, hin, hz, hRs⟩)
    · exact ih () (fun j a b => by
        by_cases hj : j = i
        · rw [hj]; exact hz
        · exact hRs j a (by omega))
  · rw [g15_2]
    simp (disch := omega) only [g15_0, g15_1, g15_3, g15_4, g15_7, g15_10, g15_13, g15_14, g15_15, g15_19, g15_22, g15_23, g15_24, g15_27, g15_30, g15_32, Option.toList_some, Option.toList_none, List.cons_append, List.nil_append, true_and, and_true, true_or, or_true, eq_self, ci0, ci1, cin6, forall_const, not_true_eq_false, not_false_eq_true, fimp, timp, i10, i01, cm_rne, and_assoc, hs, e0, hcs, hR.1]
    (repeat' apply And.intro) <;> (try omega) <;> (try (intro hx; exfalso; omega))
    exact fun _ => K _ (Or.inr ⟨rfl, hRs⟩)
/-- the last place of a kind below n, or -6 -/
def isLst (P : Int → Prop) (n r : Int) : Prop := (0 ≤ r ∧ r < n ∧ P r ∧ ∀ j, r < j → j < n → ¬ P j) ∨ (r = -6 ∧ ∀ j, 0 ≤ j → j < n → ¬ P j)
theorem isLst.uniq {P : Int → Prop} {n r s : Int} (h1 : isLst P n r) (h2 : isLst P n s) : r = s := by
  rcases h1 with ⟨a1, a2, a3, a4⟩ | ⟨a1, a2⟩ <;> rcases h2 with ⟨b1, b2, b3, b4⟩ | ⟨b1, b2⟩
  · by_cases h : r < s
    · exact absurd b3 (a4 s h b2)
    · by_cases h' : s < r
      · exact absurd a3 (b4 r h' a2)
      · omega
  · exact absurd a3 (b2 r a1 a2)
  · exact absurd b3 (a2 s b1 b2)
  · omega
theorem p_lastSeenAt (hK : isK G d c) (hv : vS S) (hR : rC M c S) (hF : fol M d S) (ht : 0 ≤ t ∧ t ≤ 9999) (K : ∀ r, isLst (seen S t) (sN S) r → Q (some (0, r)) G M) : Go 16 0 [some (2, d), some (0, t), none] [] G M Q := by
  have hK' := hK
  obtain ⟨h0, hs, ⟨e0, e1, e2, e3, e5, e6, e7⟩, ⟨a1, a2, a3, a4, a5, a6⟩, hC, hd⟩ := hK
  have hcs := hC.2.1
  have hn := hv.2.1
  have hn0 := hv.1
  simp (disch := omega) only [g16_0, g16_1, g16_4, g16_7, g16_8, g16_9, g16_11, g16_14, g16_15, g16_16, g16_20, g16_23, g16_24, g16_25, g16_28, g16_31, g16_33, Option.toList_some, Option.toList_none, List.cons_append, List.nil_append, true_and, and_true, true_or, or_true, eq_self, ci0, ci1, cin6, forall_const, not_true_eq_false, not_false_eq_true, fimp, timp, i10, i01, cm_rne, and_assoc, hs, e0, hcs, hR.1]
  refine go_loopD (σ := Unit) (fun i _ => [some (2, d), some (0, t), some (0, i)]) (fun _ => M) (fun i _ => i < sN S ∧ ∀ j, i < j → j < sN S → ¬ seen S t j) (-1) (fun i s hi0 hRs ih => ?_) (fun s hRs => ?_) (sN S - 1) () (by omega) ⟨by omega, fun j a b => absurd a (by omega)⟩
  · rw [g16_10]
    simp (disch := omega) only [g16_0, g16_1, g16_4, g16_7, g16_8, g16_9, g16_11, g16_14, g16_15, g16_16, g16_20, g16_23, g16_24, g16_25, g16_28, g16_31, g16_33, Option.toList_some, Option.toList_none, List.cons_append, List.nil_append, true_and, and_true, true_or, or_true, eq_self, ci0, ci1, cin6, forall_const, not_true_eq_false, not_false_eq_true, fimp, timp, i10, i01, cm_rne, and_assoc]
    (repeat' apply And.intro) <;> (try omega) <;> (try (intro hx; exfalso; omega))
    intro _
    refine c16_17 (by decide) hs (p_isSeenAt hK' hv hF ⟨by omega, hRs.1⟩ ht (fun hz => ?_) (fun hz => ?_)) <;> simp (disch := omega) only [g16_0, g16_1, g16_4, g16_7, g16_8, g16_9, g16_11, g16_14, g16_15, g16_16, g16_20, g16_23, g16_24, g16_25, g16_28, g16_31, g16_33, Option.toList_some, Option.toList_none, List.cons_append, List.nil_append, true_and, and_true, true_or, or_true, eq_self, ci0, ci1, cin6, forall_const, not_true_eq_false, not_false_eq_true, fimp, timp, i10, i01, cm_rne, and_assoc]
    · exact K i (Or.inl ⟨by omega, hRs.1, hz, hRs.2⟩)
    · exact ih () ⟨by omega, fun j a b => by
        by_cases hj : j = i
        · rw [hj]; exact hz
        · exact hRs.2 j (by omega) b⟩
  · rw [g16_10]
    simp (disch := omega) only [g16_0, g16_1, g16_4, g16_7, g16_8, g16_9, g16_11, g16_14, g16_15, g16_16, g16_20, g16_23, g16_24, g16_25, g16_28, g16_31, g16_33, Option.toList_some, Option.toList_none, List.cons_append, List.nil_append, true_and, and_true, true_or, or_true, eq_self, ci0, ci1, cin6, forall_const, not_true_eq_false, not_false_eq_true, fimp, timp, i10, i01, cm_rne, and_assoc]
    (repeat' apply And.intro) <;> (try omega) <;> (try (intro hx; exfalso; omega))
    exact fun _ => K _ (Or.inr ⟨rfl, fun j a b => hRs.2 j (by omega) b⟩)
/-- how many below k are of a kind -/
noncomputable def cntP (P : Int → Prop) (k : Nat) : Int := fP (fun i a => a + (Classical.epsilon (fun x : Int => (P i ∧ x = 1) ∨ (¬ P i ∧ x = 0)))) 0 k
theorem cntP_s (P : Int → Prop) {i : Int} (h : 0 ≤ i) : (P i → cntP P (i + 1).toNat = cntP P i.toNat + 1) ∧ (¬ P i → cntP P (i + 1).toNat = cntP P i.toNat) := by
  have e := fP_s (fun i a => a + (Classical.epsilon (fun x : Int => (P i ∧ x = 1) ∨ (¬ P i ∧ x = 0)))) 0 h
  have hx := Classical.epsilon_spec (p := fun x : Int => (P i ∧ x = 1) ∨ (¬ P i ∧ x = 0)) (by
    by_cases hp : P i
    · exact ⟨1, Or.inl ⟨hp, rfl⟩⟩
    · exact ⟨0, Or.inr ⟨hp, rfl⟩⟩)
  unfold cntP
  rw [e]
  refine ⟨fun hp => ?_, fun hp => ?_⟩
  · rcases hx with ⟨-, hx⟩ | ⟨hz, -⟩
    · rw [hx]
    · exact absurd hp hz
  · rcases hx with ⟨hz, -⟩ | ⟨-, hx⟩
    · exact absurd hz hp
    · rw [hx]; omega
theorem p_howManySeenAt (hK : isK G d c) (hv : vS S) (hR : rC M c S) (hF : fol M d S) (ht : 0 ≤ t ∧ t ≤ 9999) (K : Q (some (0, cntP (seen S t) (sN S).toNat)) G M) : Go 17 0 [some (2, d), some (0, t), none, none] [] G M Q := by
  have hK' := hK
  obtain ⟨h0, hs, ⟨e0, e1, e2, e3, e5, e6, e7⟩, ⟨a1, a2, a3, a4, a5, a6⟩, hC, hd⟩ := hK
  have hcs := hC.2.1
  have hn := hv.2.1
  have hn0 := hv.1
  simp (disch := omega) only [g17_0, g17_1, g17_2, g17_3, g17_5, g17_6, g17_9, g17_12, g17_15, g17_16, g17_17, g17_21, g17_24, g17_27, g17_30, g17_33, g17_34, Option.toList_some, Option.toList_none, List.cons_append, List.nil_append, true_and, and_true, true_or, or_true, eq_self, ci0, ci1, cin6, forall_const, not_true_eq_false, not_false_eq_true, fimp, timp, i10, i01, cm_rne, and_assoc]
  refine go_loop (σ := Int) (fun i s => [some (2, d), some (0, t), some (0, s), some (0, i)]) (fun _ => M) (fun i s => s = cntP (seen S t) i.toNat) (sN S) (fun i s hi0 hin hRs ih => ?_) (fun s hRs => ?_) 0 0 (by omega) (by omega) rfl
  · rw [g17_4]
    simp (disch := omega) only [g17_0, g17_1, g17_2, g17_3, g17_5, g17_6, g17_9, g17_12, g17_15, g17_16, g17_17, g17_21, g17_24, g17_27, g17_30, g17_33, g17_34, Option.toList_some, Option.toList_none, List.cons_append, List.nil_append, true_and, and_true, true_or, or_true, eq_self, ci0, ci1, cin6, forall_const, not_true_eq_false, not_false_eq_true, fimp, timp, i10, i01, cm_rne, and_assoc, hs, e0, hcs, hR.1]
    (repeat' apply And.intro) <;> (try omega) <;> (try (intro hx; exfalso; omega))
    intro _
    have hc := cntP_s (seen S t) hi0
    refine c17_18 (by decide) hs (p_isSeenAt hK' hv hF ⟨hi0, hin⟩ ht (fun hz => ?_) (fun hz => ?_)) <;> simp (disch := omega) only [g17_0, g17_1, g17_2, g17_3, g17_5, g17_6, g17_9, g17_12, g17_15, g17_16, g17_17, g17_21, g17_24, g17_27, g17_30, g17_33, g17_34, Option.toList_some, Option.toList_none, List.cons_append, List.nil_append, true_and, and_true, true_or, or_true, eq_self, ci0, ci1, cin6, forall_const, not_true_eq_false, not_false_eq_true, fimp, timp, i10, i01, cm_rne, and_assoc]
    · exact ih _ (by rw [hc.1 hz, hRs])
    · exact ih _ (by rw [hc.2 hz, hRs])
  · rw [g17_4]
    simp (disch := omega) only [g17_0, g17_1, g17_2, g17_3, g17_5, g17_6, g17_9, g17_12, g17_15, g17_16, g17_17, g17_21, g17_24, g17_27, g17_30, g17_33, g17_34, Option.toList_some, Option.toList_none, List.cons_append, List.nil_append, true_and, and_true, true_or, or_true, eq_self, ci0, ci1, cin6, forall_const, not_true_eq_false, not_false_eq_true, fimp, timp, i10, i01, cm_rne, and_assoc, hs, e0, hcs, hR.1]
    (repeat' apply And.intro) <;> (try omega) <;> (try (intro hx; exfalso; omega))
    intro _
    rw [hRs]
    exact K
theorem p_leastSeenLineOf (hK : isK G d c) (hv : vS S) (hR : rC M c S) (hF : fol M d S) (hg : cm_in g) (K : Q (some (0, lsL S g)) G M) : Go 18 0 [some (2, d), some (0, g), none, none] [] G M Q := by
  have hinv := ls_inv hv g
  obtain ⟨h0, hs, ⟨e0, e1, e2, e3, e5, e6, e7⟩, ⟨a1, a2, a3, a4, a5, a6⟩, hC, hd⟩ := hK
  obtain ⟨hc0, hcs, ⟨f0, f1, f2, f3, f4⟩, b1, b2, b3, b4, b5⟩ := hC
  obtain ⟨r1, r2, r3⟩ := hR
  have hn := hv.2.1
  have hn0 := hv.1
  simp (disch := omega) only [g18_0, g18_2, g18_3, g18_4, g18_6, g18_7, g18_10, g18_13, g18_16, g18_17, g18_20, g18_23, g18_24, g18_25, g18_26, g18_29, g18_30, g18_32, g18_35, g18_36, g18_39, g18_40, g18_41, g18_42, g18_45, g18_46, g18_47, g18_50, g18_51, g18_52, g18_55, g18_58, g18_59, Option.toList_some, Option.toList_none, List.cons_append, List.nil_append, true_and, and_true, true_or, or_true, eq_self, ci0, ci1, cin6, forall_const, not_true_eq_false, not_false_eq_true, fimp, timp, i10, i01, cm_rne, and_assoc]
  refine go_loop (σ := Int) (fun i s => [some (2, d), some (0, g), some (0, s), some (0, i)]) (fun _ => M) (fun i s => s = fP (lstep S (eI S) g) (-6) i.toNat) (sN S) (fun i s hi0 hin hRs ih => ?_) (fun s hRs => ?_) 0 (-6) (by omega) (by omega) rfl
  · have w := hv.2.2.2.2.2 i hi0 hin
    have hb := eI_b hv ⟨hi0, hin⟩
    have q3 := (hF.1 i hi0 hin).2.2
    have hz := hinv i.toNat (by omega)
    rw [← hRs] at hz
    have stp := fP_s (lstep S (eI S) g) (-6) hi0
    rw [← hRs] at stp
    rw [g18_5]
    simp (disch := omega) only [g18_0, g18_2, g18_3, g18_4, g18_6, g18_7, g18_10, g18_13, g18_16, g18_17, g18_20, g18_23, g18_24, g18_25, g18_26, g18_29, g18_30, g18_32, g18_35, g18_36, g18_39, g18_40, g18_41, g18_42, g18_45, g18_46, g18_47, g18_50, g18_51, g18_52, g18_55, g18_58, g18_59, Option.toList_some, Option.toList_none, List.cons_append, List.nil_append, true_and, and_true, true_or, or_true, eq_self, ci0, ci1, cin6, forall_const, not_true_eq_false, not_false_eq_true, fimp, timp, i10, i01, cm_rne, and_assoc, hs, e0, hcs, f2, b3, r1, (r3 i hi0 hin).2.1]
    (repeat' apply And.intro) <;> (try omega) <;> (try (intro hx; exfalso; omega))
    intro _
    (repeat' apply And.intro) <;> (try omega) <;> (try (intro hx; exfalso; omega))
    · intro hne
      exact ih s (by rw [stp]; unfold lstep; rw [if_neg hne])
    · intro he
      (repeat' apply And.intro) <;> (try omega) <;> (try (intro hx; exfalso; omega))
      · intro h6
        exact ih i (by rw [stp]; unfold lstep; rw [if_pos he, if_pos h6])
      · intro h6
        obtain ⟨z1, z2⟩ : 0 ≤ s ∧ s < i := by
          rcases hz with ⟨z, -⟩ | ⟨z1, z2, -⟩
          · exact absurd z h6
          · omega
        have q4 := (hF.1 s z1 (by omega)).2.2
        have hb2 := eI_b hv (i := s) (by omega)
        simp (disch := omega) only [g18_0, g18_2, g18_3, g18_4, g18_6, g18_7, g18_10, g18_13, g18_16, g18_17, g18_20, g18_23, g18_24, g18_25, g18_26, g18_29, g18_30, g18_32, g18_35, g18_36, g18_39, g18_40, g18_41, g18_42, g18_45, g18_46, g18_47, g18_50, g18_51, g18_52, g18_55, g18_58, g18_59, Option.toList_some, Option.toList_none, List.cons_append, List.nil_append, true_and, and_true, true_or, or_true, eq_self, ci0, ci1, cin6, forall_const, not_true_eq_false, not_false_eq_true, fimp, timp, i10, i01, cm_rne, and_assoc, hs, e3, a3, q3, q4]
        (repeat' apply And.intro) <;> (try omega) <;> (try (intro hx; exfalso; omega))
        · intro hge
          exact ih s (by rw [stp]; unfold lstep; rw [if_pos he, if_neg h6, if_neg hge])
        · intro hlt
          exact ih i (by rw [stp]; unfold lstep; rw [if_pos he, if_neg h6, if_pos hlt])
  · rw [g18_5]
    simp (disch := omega) only [g18_0, g18_2, g18_3, g18_4, g18_6, g18_7, g18_10, g18_13, g18_16, g18_17, g18_20, g18_23, g18_24, g18_25, g18_26, g18_29, g18_30, g18_32, g18_35, g18_36, g18_39, g18_40, g18_41, g18_42, g18_45, g18_46, g18_47, g18_50, g18_51, g18_52, g18_55, g18_58, g18_59, Option.toList_some, Option.toList_none, List.cons_append, List.nil_append, true_and, and_true, true_or, or_true, eq_self, ci0, ci1, cin6, forall_const, not_true_eq_false, not_false_eq_true, fimp, timp, i10, i01, cm_rne, and_assoc, hs, e0, hcs, r1]
    (repeat' apply And.intro) <;> (try omega) <;> (try (intro hx; exfalso; omega))
    intro _
    rw [hRs]
    exact K
theorem p_leastSeenOf (hK : isK G d c) (hv : vS S) (hR : rC M c S) (hF : fol M d S) (hg : cm_in g) (K : Q (some (0, lsO S g)) G M) : Go 19 0 [some (2, d), some (0, g), none] [] G M Q := by
  have hK' := hK
  obtain ⟨h0, hs, ⟨e0, e1, e2, e3, e5, e6, e7⟩, ⟨a1, a2, a3, a4, a5, a6⟩, hC, hd⟩ := hK
  have hn := hv.2.1
  have hl := lsL_b hv g
  simp (disch := omega) only [g19_0, g19_1, g19_5, g19_6, g19_7, g19_9, g19_12, g19_13, g19_16, g19_17, g19_20, g19_21, g19_22, Option.toList_some, Option.toList_none, List.cons_append, List.nil_append, true_and, and_true, true_or, or_true, eq_self, ci0, ci1, cin6, forall_const, not_true_eq_false, not_false_eq_true, fimp, timp, i10, i01, cm_rne, and_assoc]
  refine c19_2 (by decide) hs (p_leastSeenLineOf hK' hv hR hF hg ?_)
  unfold lsO at K
  simp (disch := omega) only [g19_0, g19_1, g19_5, g19_6, g19_7, g19_9, g19_12, g19_13, g19_16, g19_17, g19_20, g19_21, g19_22, Option.toList_some, Option.toList_none, List.cons_append, List.nil_append, true_and, and_true, true_or, or_true, eq_self, ci0, ci1, cin6, forall_const, not_true_eq_false, not_false_eq_true, fimp, timp, i10, i01, cm_rne, and_assoc, hs, e3, a3]
  (repeat' apply And.intro) <;> (try omega) <;> (try (intro hx; exfalso; omega))
  · intro hne
    rw [if_neg hne] at K
    have hl2 : 0 ≤ lsL S g ∧ lsL S g < sN S := by omega
    (repeat' apply And.intro) <;> (try omega) <;> (try (intro hx; exfalso; omega))
    rw [(hF.1 _ hl2.1 hl2.2).2.2]
    exact K
  · intro he
    rw [if_pos he] at K
    exact K
theorem p_mostSeenOf (hK : isK G d c) (hv : vS S) (hR : rC M c S) (hF : fol M d S) (hg : cm_in g) (K : Q (some (0, msO S g)) G M) : Go 20 0 [some (2, d), some (0, g), none, none] [] G M Q := by
  have hinv := ls_inv hv g
  obtain ⟨h0, hs, ⟨e0, e1, e2, e3, e5, e6, e7⟩, ⟨a1, a2, a3, a4, a5, a6⟩, hC, hd⟩ := hK
  obtain ⟨hc0, hcs, ⟨f0, f1, f2, f3, f4⟩, b1, b2, b3, b4, b5⟩ := hC
  obtain ⟨r1, r2, r3⟩ := hR
  have hn := hv.2.1
  have hn0 := hv.1
  simp (disch := omega) only [g20_0, g20_1, g20_2, g20_3, g20_5, g20_6, g20_9, g20_12, g20_15, g20_16, g20_19, g20_22, g20_23, g20_24, g20_25, g20_28, g20_29, g20_30, g20_33, g20_34, g20_35, g20_38, g20_39, g20_42, g20_45, g20_46, Option.toList_some, Option.toList_none, List.cons_append, List.nil_append, true_and, and_true, true_or, or_true, eq_self, ci0, ci1, cin6, forall_const, not_true_eq_false, not_false_eq_true, fimp, timp, i10, i01, cm_rne, and_assoc]
  refine go_loop (σ := Int) (fun i s => [some (2, d), some (0, g), some (0, s), some (0, i)]) (fun _ => M) (fun i s => s = fP (mstep S (eI S) g) 0 i.toNat) (sN S) (fun i s hi0 hin hRs ih => ?_) (fun s hRs => ?_) 0 0 (by omega) (by omega) rfl
  · have w := hv.2.2.2.2.2 i hi0 hin
    have hb := eI_b hv ⟨hi0, hin⟩
    have q3 := (hF.1 i hi0 hin).2.2
    have hz := hinv i.toNat (by omega)
    rw [← hRs] at hz
    have hsb : 0 ≤ s ∧ s ≤ 1801 := by
      rcases hz with ⟨-, z⟩ | ⟨z1, z2, -, z4, z5⟩
      · omega
      · have := eI_b hv (i := fP (lstep S (eI S) g) (-6) i.toNat) (by omega)
        omega
    have stp := fP_s (mstep S (eI S) g) 0 hi0
    rw [← hRs] at stp
    rw [g20_4]
    simp (disch := omega) only [g20_0, g20_1, g20_2, g20_3, g20_5, g20_6, g20_9, g20_12, g20_15, g20_16, g20_19, g20_22, g20_23, g20_24, g20_25, g20_28, g20_29, g20_30, g20_33, g20_34, g20_35, g20_38, g20_39, g20_42, g20_45, g20_46, Option.toList_some, Option.toList_none, List.cons_append, List.nil_append, true_and, and_true, true_or, or_true, eq_self, ci0, ci1, cin6, forall_const, not_true_eq_false, not_false_eq_true, fimp, timp, i10, i01, cm_rne, and_assoc, hs, e0, hcs, f2, b3, r1, (r3 i hi0 hin).2.1, e3, a3, q3]
    (repeat' apply And.intro) <;> (try omega) <;> (try (intro hx; exfalso; omega))
    intro _
    (repeat' apply And.intro) <;> (try omega) <;> (try (intro hx; exfalso; omega))
    · intro hne
      exact ih s (by rw [stp]; unfold mstep; rw [if_neg hne])
    · intro he
      (repeat' apply And.intro) <;> (try omega) <;> (try (intro hx; exfalso; omega))
      · exact Nat.le_of_ble_eq_true rfl
      · exact ih _ (by rw [stp]; unfold mstep; rw [if_pos he])
  · rw [g20_4]
    simp (disch := omega) only [g20_0, g20_1, g20_2, g20_3, g20_5, g20_6, g20_9, g20_12, g20_15, g20_16, g20_19, g20_22, g20_23, g20_24, g20_25, g20_28, g20_29, g20_30, g20_33, g20_34, g20_35, g20_38, g20_39, g20_42, g20_45, g20_46, Option.toList_some, Option.toList_none, List.cons_append, List.nil_append, true_and, and_true, true_or, or_true, eq_self, ci0, ci1, cin6, forall_const, not_true_eq_false, not_false_eq_true, fimp, timp, i10, i01, cm_rne, and_assoc, hs, e0, hcs, r1]
    (repeat' apply And.intro) <;> (try omega) <;> (try (intro hx; exfalso; omega))
    intro _
    rw [hRs]
    exact K
theorem p_spreadOf (hK : isK G d c) (hv : vS S) (hR : rC M c S) (hF : fol M d S) (hg : cm_in g) (K : Q (some (0, spr S g)) G M) : Go 21 0 [some (2, d), some (0, g)] [] G M Q := by
  have hs := hK.2.1
  simp (disch := omega) only [g21_0, g21_1, g21_5, g21_6, g21_10, g21_11, Option.toList_some, Option.toList_none, List.cons_append, List.nil_append, true_and, and_true, true_or, or_true, eq_self, ci0, ci1, cin6, forall_const, not_true_eq_false, not_false_eq_true, fimp, timp, i10, i01, cm_rne, and_assoc]
  refine c21_2 (by decide) hs (p_mostSeenOf hK hv hR hF hg ?_)
  simp (disch := omega) only [g21_0, g21_1, g21_5, g21_6, g21_10, g21_11, Option.toList_some, Option.toList_none, List.cons_append, List.nil_append, true_and, and_true, true_or, or_true, eq_self, ci0, ci1, cin6, forall_const, not_true_eq_false, not_false_eq_true, fimp, timp, i10, i01, cm_rne, and_assoc]
  refine c21_7 (Nat.le_of_ble_eq_true rfl) hs (p_leastSeenOf hK hv hR hF hg ?_)
  simp (disch := omega) only [g21_0, g21_1, g21_5, g21_6, g21_10, g21_11, Option.toList_some, Option.toList_none, List.cons_append, List.nil_append, true_and, and_true, true_or, or_true, eq_self, ci0, ci1, cin6, forall_const, not_true_eq_false, not_false_eq_true, fimp, timp, i10, i01, cm_rne, and_assoc]
  exact K
theorem p_spreadsInAll (hK : isK G d c) (hv : vS S) (hR : rC M c S) (hF : fol M d S) (K : Q (some (0, sprA S)) G M) : Go 22 0 [some (2, d), none, none] [] G M Q := by
  have hs := hK.2.1
  simp (disch := omega) only [g22_0, g22_1, g22_2, g22_3, g22_5, g22_7, g22_10, g22_11, g22_12, g22_16, g22_17, g22_18, g22_21, g22_24, g22_25, Option.toList_some, Option.toList_none, List.cons_append, List.nil_append, true_and, and_true, true_or, or_true, eq_self, ci0, ci1, cin6, forall_const, not_true_eq_false, not_false_eq_true, fimp, timp, i10, i01, cm_rne, and_assoc]
  refine go_loop (σ := Int) (fun i s => [some (2, d), some (0, s), some (0, i)]) (fun _ => M) (fun i s => s = fP (fun g a => a + spr S g) 0 i.toNat) 8 (fun i s hi0 hin hRs ih => ?_) (fun s hRs => ?_) 0 0 (by omega) (by omega) rfl
  · rw [g22_4]
    simp (disch := omega) only [g22_0, g22_1, g22_2, g22_3, g22_5, g22_7, g22_10, g22_11, g22_12, g22_16, g22_17, g22_18, g22_21, g22_24, g22_25, Option.toList_some, Option.toList_none, List.cons_append, List.nil_append, true_and, and_true, true_or, or_true, eq_self, ci0, ci1, cin6, forall_const, not_true_eq_false, not_false_eq_true, fimp, timp, i10, i01, cm_rne, and_assoc]
    (repeat' apply And.intro) <;> (try omega) <;> (try (intro hx; exfalso; omega))
    intro _
    refine c22_13 (Nat.le_of_ble_eq_true rfl) hs (p_spreadOf hK hv hR hF (show cm_in i by omega) ?_)
    simp (disch := omega) only [g22_0, g22_1, g22_2, g22_3, g22_5, g22_7, g22_10, g22_11, g22_12, g22_16, g22_17, g22_18, g22_21, g22_24, g22_25, Option.toList_some, Option.toList_none, List.cons_append, List.nil_append, true_and, and_true, true_or, or_true, eq_self, ci0, ci1, cin6, forall_const, not_true_eq_false, not_false_eq_true, fimp, timp, i10, i01, cm_rne, and_assoc]
    exact ih _ (by rw [fP_s _ _ hi0, hRs])
  · rw [g22_4]
    simp (disch := omega) only [g22_0, g22_1, g22_2, g22_3, g22_5, g22_7, g22_10, g22_11, g22_12, g22_16, g22_17, g22_18, g22_21, g22_24, g22_25, Option.toList_some, Option.toList_none, List.cons_append, List.nil_append, true_and, and_true, true_or, or_true, eq_self, ci0, ci1, cin6, forall_const, not_true_eq_false, not_false_eq_true, fimp, timp, i10, i01, cm_rne, and_assoc]
    (repeat' apply And.intro) <;> (try omega) <;> (try (intro hx; exfalso; omega))
    intro _
    rw [hRs]
    exact K
theorem p_unequalGroups (hK : isK G d c) (hv : vS S) (hR : rC M c S) (hF : fol M d S) (K : Q (some (0, uneq S)) G M) : Go 23 0 [some (2, d), none, none] [] G M Q := by
  have hs := hK.2.1
  simp (disch := omega) only [g23_0, g23_1, g23_2, g23_3, g23_5, g23_7, g23_10, g23_11, g23_15, g23_18, g23_21, g23_24, g23_27, g23_28, Option.toList_some, Option.toList_none, List.cons_append, List.nil_append, true_and, and_true, true_or, or_true, eq_self, ci0, ci1, cin6, forall_const, not_true_eq_false, not_false_eq_true, fimp, timp, i10, i01, cm_rne, and_assoc]
  refine go_loop (σ := Int) (fun i s => [some (2, d), some (0, s), some (0, i)]) (fun _ => M) (fun i s => s = fP (fun g a => if spr S g = 0 then a else a + 1) 0 i.toNat) 8 (fun i s hi0 hin hRs ih => ?_) (fun s hRs => ?_) 0 0 (by omega) (by omega) rfl
  · have hb := (spr_b hv i).1
    rw [g23_4]
    simp (disch := omega) only [g23_0, g23_1, g23_2, g23_3, g23_5, g23_7, g23_10, g23_11, g23_15, g23_18, g23_21, g23_24, g23_27, g23_28, Option.toList_some, Option.toList_none, List.cons_append, List.nil_append, true_and, and_true, true_or, or_true, eq_self, ci0, ci1, cin6, forall_const, not_true_eq_false, not_false_eq_true, fimp, timp, i10, i01, cm_rne, and_assoc]
    (repeat' apply And.intro) <;> (try omega) <;> (try (intro hx; exfalso; omega))
    intro _
    refine c23_12 (by decide) hs (p_spreadOf hK hv hR hF (show cm_in i by omega) ?_)
    simp (disch := omega) only [g23_0, g23_1, g23_2, g23_3, g23_5, g23_7, g23_10, g23_11, g23_15, g23_18, g23_21, g23_24, g23_27, g23_28, Option.toList_some, Option.toList_none, List.cons_append, List.nil_append, true_and, and_true, true_or, or_true, eq_self, ci0, ci1, cin6, forall_const, not_true_eq_false, not_false_eq_true, fimp, timp, i10, i01, cm_rne, and_assoc]
    (repeat' apply And.intro) <;> (try omega) <;> (try (intro hx; exfalso; omega))
    · intro he
      exact ih _ (by rw [fP_s _ _ hi0, hRs, if_pos he])
    · intro hne
      exact ih _ (by rw [fP_s _ _ hi0, hRs, if_neg hne])
  · rw [g23_4]
    simp (disch := omega) only [g23_0, g23_1, g23_2, g23_3, g23_5, g23_7, g23_10, g23_11, g23_15, g23_18, g23_21, g23_24, g23_27, g23_28, Option.toList_some, Option.toList_none, List.cons_append, List.nil_append, true_and, and_true, true_or, or_true, eq_self, ci0, ci1, cin6, forall_const, not_true_eq_false, not_false_eq_true, fimp, timp, i10, i01, cm_rne, and_assoc]
    (repeat' apply And.intro) <;> (try omega) <;> (try (intro hx; exfalso; omega))
    intro _
    rw [hRs]
    exact K
theorem p_neverSeenNames (hK : isK G d c) (hv : vS S) (hR : rC M c S) (hF : fol M d S) (K : Q (some (0, never S)) G M) : Go 24 0 [some (2, d), none, none] [] G M Q := by
  obtain ⟨h0, hs, ⟨e0, e1, e2, e3, e5, e6, e7⟩, ⟨a1, a2, a3, a4, a5, a6⟩, hC, hd⟩ := hK
  obtain ⟨hc0, hcs, ⟨f0, f1, f2, f3, f4⟩, b1, b2, b3, b4, b5⟩ := hC
  obtain ⟨r1, r2, r3⟩ := hR
  have hn := hv.2.1
  have hn0 := hv.1
  simp (disch := omega) only [g24_0, g24_1, g24_2, g24_3, g24_5, g24_6, g24_9, g24_12, g24_15, g24_16, g24_19, g24_22, g24_23, g24_24, g24_27, g24_28, g24_31, g24_32, g24_33, g24_36, g24_39, g24_42, g24_45, g24_46, Option.toList_some, Option.toList_none, List.cons_append, List.nil_append, true_and, and_true, true_or, or_true, eq_self, ci0, ci1, cin6, forall_const, not_true_eq_false, not_false_eq_true, fimp, timp, i10, i01, cm_rne, and_assoc]
  refine go_loop (σ := Int) (fun i s => [some (2, d), some (0, s), some (0, i)]) (fun _ => M) (fun i s => s = fP (fun i a => if sK S i = 0 then (if eI S i = 0 then a + 1 else a) else a) 0 i.toNat) (sN S) (fun i s hi0 hin hRs ih => ?_) (fun s hRs => ?_) 0 0 (by omega) (by omega) rfl
  · have w := hv.2.2.2.2.2 i hi0 hin
    have hb := eI_b hv ⟨hi0, hin⟩
    have q3 := (hF.1 i hi0 hin).2.2
    rw [g24_4]
    simp (disch := omega) only [g24_0, g24_1, g24_2, g24_3, g24_5, g24_6, g24_9, g24_12, g24_15, g24_16, g24_19, g24_22, g24_23, g24_24, g24_27, g24_28, g24_31, g24_32, g24_33, g24_36, g24_39, g24_42, g24_45, g24_46, Option.toList_some, Option.toList_none, List.cons_append, List.nil_append, true_and, and_true, true_or, or_true, eq_self, ci0, ci1, cin6, forall_const, not_true_eq_false, not_false_eq_true, fimp, timp, i10, i01, cm_rne, and_assoc, hs, e0, hcs, f1, b2, r1, (r3 i hi0 hin).1, e3, a3, q3]
    (repeat' apply And.intro) <;> (try omega) <;> (try (intro hx; exfalso; omega))
    intro _
    (repeat' apply And.intro) <;> (try omega) <;> (try (intro hx; exfalso; omega))
    · intro hne
      exact ih s (by rw [fP_s _ _ hi0, hRs, if_neg hne])
    · intro he
      (repeat' apply And.intro) <;> (try omega) <;> (try (intro hx; exfalso; omega))
      · intro h2
        exact ih s (by rw [fP_s _ _ hi0, hRs, if_pos he, if_neg h2])
      · intro h2
        exact ih _ (by rw [fP_s _ _ hi0, hRs, if_pos he, if_pos h2])
  · rw [g24_4]
    simp (disch := omega) only [g24_0, g24_1, g24_2, g24_3, g24_5, g24_6, g24_9, g24_12, g24_15, g24_16, g24_19, g24_22, g24_23, g24_24, g24_27, g24_28, g24_31, g24_32, g24_33, g24_36, g24_39, g24_42, g24_45, g24_46, Option.toList_some, Option.toList_none, List.cons_append, List.nil_append, true_and, and_true, true_or, or_true, eq_self, ci0, ci1, cin6, forall_const, not_true_eq_false, not_false_eq_true, fimp, timp, i10, i01, cm_rne, and_assoc, hs, e0, hcs, r1]
    (repeat' apply And.intro) <;> (try omega) <;> (try (intro hx; exfalso; omega))
    intro _
    rw [hRs]
    exact K
theorem p_showsNamesFor (hK : isK G d c) (hv : vS S) (hR : rC M c S) (hF : fol M d S) (ht : cm_in t) (K1 : (∀ i, 0 ≤ i → i < sN S → sK S i = 0 → t ≤ eI S i) → Q (some (0, 1)) G M) (K0 : (¬ ∀ i, 0 ≤ i → i < sN S → sK S i = 0 → t ≤ eI S i) → Q (some (0, 0)) G M) : Go 25 0 [some (2, d), some (0, t), none] [] G M Q := by
  obtain ⟨h0, hs, ⟨e0, e1, e2, e3, e5, e6, e7⟩, ⟨a1, a2, a3, a4, a5, a6⟩, hC, hd⟩ := hK
  obtain ⟨hc0, hcs, ⟨f0, f1, f2, f3, f4⟩, b1, b2, b3, b4, b5⟩ := hC
  obtain ⟨r1, r2, r3⟩ := hR
  have hn := hv.2.1
  have hn0 := hv.1
  simp (disch := omega) only [g25_0, g25_1, g25_3, g25_4, g25_7, g25_10, g25_13, g25_14, g25_17, g25_20, g25_21, g25_22, g25_25, g25_26, g25_29, g25_30, g25_31, g25_32, g25_35, g25_36, g25_37, g25_40, g25_43, g25_44, Option.toList_some, Option.toList_none, List.cons_append, List.nil_append, true_and, and_true, true_or, or_true, eq_self, ci0, ci1, cin6, forall_const, not_true_eq_false, not_false_eq_true, fimp, timp, i10, i01, cm_rne, and_assoc]
  refine go_loop (σ := Unit) (fun i _ => [some (2, d), some (0, t), some (0, i)]) (fun _ => M) (fun i _ => ∀ j, 0 ≤ j → j < i → sK S j = 0 → t ≤ eI S j) (sN S) (fun i s hi0 hin hRs ih => ?_) (fun s hRs => ?_) 0 () (by omega) (by omega) (fun j a b => absurd a (by omega))
  · have w := hv.2.2.2.2.2 i hi0 hin
    have hb := eI_b hv ⟨hi0, hin⟩
    have q3 := (hF.1 i hi0 hin).2.2
    have next : (sK S i = 0 → t ≤ eI S i) → ∀ j, 0 ≤ j → j < i + 1 → sK S j = 0 → t ≤ eI S j := by
      intro hz j a b z
      by_cases hj : j = i
      · rw [hj] at z ⊢; exact hz z
      · exact hRs j a (by omega) z
    rw [g25_2]
    simp (disch := omega) only [g25_0, g25_1, g25_3, g25_4, g25_7, g25_10, g25_13, g25_14, g25_17, g25_20, g25_21, g25_22, g25_25, g25_26, g25_29, g25_30, g25_31, g25_32, g25_35, g25_36, g25_37, g25_40, g25_43, g25_44, Option.toList_some, Option.toList_none, List.cons_append, List.nil_append, true_and, and_true, true_or, or_true, eq_self, ci0, ci1, cin6, forall_const, not_true_eq_false, not_false_eq_true, fimp, timp, i10, i01, cm_rne, and_assoc, hs, e0, hcs, f1, b2, r1, (r3 i hi0 hin).1, e3, a3, q3]
    (repeat' apply And.intro) <;> (try omega) <;> (try (intro hx; exfalso; omega))
    intro _
    (repeat' apply And.intro) <;> (try omega) <;> (try (intro hx; exfalso; omega))
    · intro hne
      exact ih () (next (fun z => absurd z hne))
    · intro he
      (repeat' apply And.intro) <;> (try omega) <;> (try (intro hx; exfalso; omega))
      · intro h2
        exact ih () (next (fun _ => by omega))
      · intro h2
        exact K0 (fun z => by have := z i hi0 hin he; omega)
  · rw [g25_2]
    simp (disch := omega) only [g25_0, g25_1, g25_3, g25_4, g25_7, g25_10, g25_13, g25_14, g25_17, g25_20, g25_21, g25_22, g25_25, g25_26, g25_29, g25_30, g25_31, g25_32, g25_35, g25_36, g25_37, g25_40, g25_43, g25_44, Option.toList_some, Option.toList_none, List.cons_append, List.nil_append, true_and, and_true, true_or, or_true, eq_self, ci0, ci1, cin6, forall_const, not_true_eq_false, not_false_eq_true, fimp, timp, i10, i01, cm_rne, and_assoc, hs, e0, hcs, r1]
    (repeat' apply And.intro) <;> (try omega) <;> (try (intro hx; exfalso; omega))
    exact fun _ => K1 hRs
end KQ
