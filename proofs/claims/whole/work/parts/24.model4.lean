/-! ===== all that is kept: the credits, what is past, what is saved, the pad; and what calls make of it ===== -/
abbrev sA : Type := sS × Int × (Int → sS) × (Int → Int) × (Int → sS) × Int × (Int → Int)
def aS (A : sA) : sS := A.1
def aH (A : sA) : Int := A.2.1
def aP (A : sA) : Int → sS := A.2.2.1
def aF (A : sA) : Int → Int := A.2.2.2.1
def aL (A : sA) : Int → sS := A.2.2.2.2.1
def aN (A : sA) : Int := A.2.2.2.2.2.1
def aC (A : sA) : Int → Int := A.2.2.2.2.2.2
def vA (A : sA) : Prop := vS (aS A) ∧ ((0 ≤ aH A ∧ aH A ≤ 6) ∧ ∀ j, 0 ≤ j → j < aH A → vS (aP A j)) ∧ (∀ s, 0 ≤ s → s < 2 → (aF A s = 0 ∨ aF A s = 1) ∧ (aF A s = 1 → vS (aL A s))) ∧ (0 ≤ aN A ∧ aN A ≤ 60) ∧ ∀ k, 0 ≤ k → k < aN A → 0 ≤ aC A k ∧ aC A k ≤ 65535
/-- the reference at m holds A -/
def rMA (M : cm_M) (m : Int) (A : sA) : Prop := rM M (m + 1) (aS A) ∧ hM M m (aH A) (aP A) ∧ (∀ s, 0 ≤ s → s < 2 → M (m + 4) s = aF A s ∧ (aF A s = 1 → rF (fun x => M (m + 3) (164 * s + x)) (aL A s))) ∧ M m 6 = aN A ∧ ∀ k, 0 ≤ k → k < aN A → M (m + 5) k = aC A k
/-- a change that can be taken back -/
def chg (A : sA) (S : sS) : sA := (S, rcN (aH A), rcH (aH A) (aP A) (aS A), aF A, aL A, aN A, aC A)
theorem vA_chg {A : sA} (h : vA A) {S : sS} (hS : vS S) : vA (chg A S) := by
  obtain ⟨h1, ⟨h2, h3⟩, h4, h5, h6⟩ := h
  refine ⟨hS, ⟨?_, fun j a b => ?_⟩, h4, h5, h6⟩
  · show 0 ≤ rcN (aH A) ∧ rcN (aH A) ≤ 6
    unfold rcN
    split <;> omega
  · have b : j < rcN (aH A) := b
    show vS (rcH (aH A) (aP A) (aS A) j)
    unfold rcN at b
    unfold rcH
    by_cases h7 : aH A = 6
    · rw [if_pos h7] at b ⊢
      by_cases h8 : j = 5
      · rw [if_pos h8]; exact h1
      · rw [if_neg h8]; exact h3 _ (by omega) (by omega)
    · rw [if_neg h7] at b ⊢
      by_cases h8 : j = aH A
      · rw [if_pos h8]; exact h1
      · rw [if_neg h8]; exact h3 _ a (by omega)
def frS (M M' : cm_M) (m : Int) : Prop := (∀ k, k ≠ m → k ≠ m + 1 → (k < m + 6 ∨ m + 11 < k) → M' k = M k) ∧ ∀ j, j < 11 → M' m j = M m j
theorem frS.rf {M : cm_M} {m : Int} : frS M M m := ⟨fun _ _ _ _ => rfl, fun _ _ => rfl⟩
theorem frS.tr {M M1 M2 : cm_M} {m : Int} (h1 : frS M M1 m) (h2 : frS M1 M2 m) : frS M M2 m := ⟨fun k a b c => (h2.1 k a b c).trans (h1.1 k a b c), fun j a => (h2.2 j a).trans (h1.2 j a)⟩
theorem frB.s {M M1 : cm_M} {m : Int} (h : frB M M1 m) : frS M M1 m := ⟨fun k a _ c => h.1 k a (by omega), fun j a => h.2 j (by omega)⟩
/-- only the credits' row -/
theorem frS.of {M M1 : cm_M} {m : Int} (h : ∀ k, k ≠ m + 1 → M1 k = M k) : frS M M1 m := ⟨fun k _ b _ => h k b, fun j _ => by rw [h m (by omega)]⟩
theorem rMA_chg {M M1 M2 : cm_M} {m : Int} {A : sA} {S : sS} (hA : rMA M m A) (h1 : hM M1 m (rcN (aH A)) (rcH (aH A) (aP A) (aS A))) (f1 : frR M M1 m) (f2 : frS M1 M2 m) (r2 : rM M2 (m + 1) S) : rMA M2 m (chg A S) ∧ fr M M2 m (m + 11) := by
  obtain ⟨b1, b2, b3, b4, b5⟩ := hA
  obtain ⟨c1, c2, c3⟩ := h1
  refine ⟨⟨r2, ⟨?_, c2, fun j a b => ?_⟩, fun s a b => ?_, ?_, fun k a b => ?_⟩, fun k a => ?_⟩
  · rw [f2.2 4 (by decide)]; exact c1
  · rw [f2.1 (m + 2) (by omega) (by omega) (by omega)]; exact c3 j a b
  · rw [f2.1 (m + 4) (by omega) (by omega) (by omega), f1.1 (m + 4) (by omega) (by omega), f2.1 (m + 3) (by omega) (by omega) (by omega), f1.1 (m + 3) (by omega) (by omega)]
    exact b3 s a b
  · rw [f2.2 6 (by decide), f1.2 6 (by decide)]; exact b4
  · rw [f2.1 (m + 5) (by omega) (by omega) (by omega), f1.1 (m + 5) (by omega) (by omega)]
    exact b5 k a b
  · rw [f2.1 k (by omega) (by omega) (by omega), f1.1 k (by omega) (by omega)]
/-- questions leave all as it is -/
theorem rMA_q {M M1 : cm_M} {m : Int} {A : sA} (hA : rMA M m A) (f : frS M M1 m) (r : rM M1 (m + 1) (aS A)) : rMA M1 m A ∧ fr M M1 m (m + 11) := by
  obtain ⟨b1, ⟨c1, c2, c3⟩, b3, b4, b5⟩ := hA
  refine ⟨⟨r, ⟨?_, c2, fun j a b => ?_⟩, fun s a b => ?_, ?_, fun k a b => ?_⟩, fun k a => ?_⟩
  · rw [f.2 4 (by decide)]; exact c1
  · rw [f.1 (m + 2) (by omega) (by omega) (by omega)]; exact c3 j a b
  · rw [f.1 (m + 4) (by omega) (by omega) (by omega), f.1 (m + 3) (by omega) (by omega) (by omega)]
    exact b3 s a b
  · rw [f.2 6 (by decide)]; exact b4
  · rw [f.1 (m + 5) (by omega) (by omega) (by omega)]; exact b5 k a b
  · rw [f.1 k (by omega) (by omega) (by omega)]
/-! the answers, and what is kept then -/
def okS (i v : Int) : Prop := (0 ≤ i ∧ i ≤ 2) ∧ (if i = 0 then 4 else 1) ≤ v ∧ v ≤ (if i = 0 then 20 else if i = 1 then 30 else 4)
noncomputable def ite' (p : Prop) {α : Type} (a b : α) : α := if (Classical.epsilon (fun x : Int => (p ∧ x = 1) ∨ (¬ p ∧ x = 0))) = 1 then a else b
theorem ite'_p {p : Prop} {α : Type} {a b : α} (h : p) : ite' p a b = a := by
  have hx := Classical.epsilon_spec (p := fun x : Int => (p ∧ x = 1) ∨ (¬ p ∧ x = 0)) ⟨1, Or.inl ⟨h, rfl⟩⟩
  unfold ite'
  rcases hx with ⟨-, hx⟩ | ⟨hx, -⟩
  · rw [if_pos hx]
  · exact absurd h hx
theorem ite'_n {p : Prop} {α : Type} {a b : α} (h : ¬ p) : ite' p a b = b := by
  have hx := Classical.epsilon_spec (p := fun x : Int => (p ∧ x = 1) ∨ (¬ p ∧ x = 0)) ⟨0, Or.inr ⟨h, rfl⟩⟩
  unfold ite'
  rcases hx with ⟨hx, -⟩ | ⟨-, hx⟩
  · exact absurd hx h
  · rw [if_neg (by omega)]
noncomputable def fstOf (P : Int → Prop) (n : Int) : Int := Classical.epsilon (fun r => isFst P n r)
theorem fstOf_e {P : Int → Prop} {n r : Int} (h : isFst P n r) : r = fstOf P n := h.uniq (Classical.epsilon_spec ⟨r, h⟩)
theorem fst_ex (P : Int → Prop) {n : Int} : ∃ r, isFst P n r := by
  by_cases h : ∃ k : Nat, (k : Int) < n ∧ P k
  · obtain ⟨k, h1, h2⟩ := h
    obtain ⟨k, ⟨h1, h2⟩, h3⟩ := ex_least (fun k => (k : Int) < n ∧ P k) k ⟨h1, h2⟩
    refine ⟨k, Or.inl ⟨by omega, h1, h2, fun j a b c => h3 j.toNat (by omega) ⟨by omega, ?_⟩⟩⟩
    rwa [show ((j.toNat : Nat) : Int) = j by omega]
  · exact ⟨-6, Or.inr ⟨rfl, fun j a b c => h ⟨j.toNat, by omega, by rwa [show ((j.toNat : Nat) : Int) = j by omega]⟩⟩⟩
theorem fstOf_is (P : Int → Prop) (n : Int) : isFst P n (fstOf P n) := Classical.epsilon_spec (fst_ex P)
noncomputable def lstOf (P : Int → Prop) (n : Int) : Int := Classical.epsilon (fun r => isLst P n r)
theorem lstOf_e {P : Int → Prop} {n r : Int} (h : isLst P n r) : r = lstOf P n := h.uniq (Classical.epsilon_spec ⟨r, h⟩)
def sSet (S : sS) (i v : Int) : sS := sSt S (fun j => if j = i then v else sT S j)
def sCue (S : sS) (i v : Int) : sS := sCu S (fun j => if j = i then v else sC S j)
noncomputable def rSet (A : sA) (i v : Int) : Int × sA := ite' (okS i v) (sT (aS A) i, chg A (sSet (aS A) i v)) (-2, A)
noncomputable def rName (A : sA) (g n : Int) : Int × sA := ite' ((0 ≤ g ∧ g ≤ 7) ∧ 0 ≤ n ∧ n ≤ 999) (ite' (sN (aS A) = 40) (-4, A) (sN (aS A), chg A (sAdd (aS A) 0 g n 0))) (-2, A)
noncomputable def rLine (A : sA) (k : Int) : Int × sA := ite' (1 ≤ k ∧ k ≤ 3) (ite' (sN (aS A) = 40) (-4, A) (sN (aS A), chg A (sAdd (aS A) k (-6) (-6) 0))) (-2, A)
noncomputable def rCue (A : sA) (i v : Int) : Int × sA := ite' (0 ≤ i ∧ i < sN (aS A)) (ite' (0 ≤ v ∧ v ≤ 30) (sC (aS A) i, chg A (sCue (aS A) i v)) (-2, A)) (-1, A)
noncomputable def rUndo (A : sA) : Int × sA := ite' (aH A = 0) (-5, A) (aH A - 1, (aP A (aH A - 1), aH A - 1, aP A, aF A, aL A, aN A, aC A))
noncomputable def rSave (A : sA) (s : Int) : Int × sA := ite' (0 ≤ s ∧ s ≤ 1) (sN (aS A), (aS A, aH A, aP A, (fun t => if t = s then 1 else aF A t), (fun t => if t = s then aS A else aL A t), aN A, aC A)) (-2, A)
noncomputable def rRestore (A : sA) (s : Int) : Int × sA := ite' (0 ≤ s ∧ s ≤ 1) (ite' (aF A s = 1) (sN (aL A s), chg A (aL A s)) (-5, A)) (-2, A)
theorem vS_set {S : sS} (h : vS S) {i v : Int} (hk : okS i v) : vS (sSet S i v) := by
  obtain ⟨h1, h2, h3, h4, h5, h6⟩ := h
  obtain ⟨k1, k2, k3⟩ := hk
  refine ⟨h1, h2, ?_, ?_, ?_, h6⟩
  · show 4 ≤ (if (0 : Int) = i then v else sT S 0) ∧ (if (0 : Int) = i then v else sT S 0) ≤ 20
    omega
  · show 1 ≤ (if (1 : Int) = i then v else sT S 1) ∧ (if (1 : Int) = i then v else sT S 1) ≤ 30
    omega
  · show 1 ≤ (if (2 : Int) = i then v else sT S 2) ∧ (if (2 : Int) = i then v else sT S 2) ≤ 4
    omega
theorem vS_cue {S : sS} (h : vS S) {i v : Int} (hv : 0 ≤ v ∧ v ≤ 30) : vS (sCue S i v) := by
  obtain ⟨h1, h2, h3, h4, h5, h6⟩ := h
  refine ⟨h1, h2, h3, h4, h5, fun j a b => ?_⟩
  obtain ⟨k1, k2, k3, k4, k5, k6⟩ := h6 j a b
  refine ⟨k1, k2, k3, k4, ?_, ?_⟩
  · show 0 ≤ (if j = i then v else sC S j)
    omega
  · show (if j = i then v else sC S j) ≤ 30
    omega
theorem vS_add {S : sS} (h : vS S) {k g n u : Int} (hn : sN S < 40) (hk : 0 ≤ k ∧ k ≤ 3) (h0 : k = 0 → 0 ≤ g ∧ g ≤ 7 ∧ 0 ≤ n ∧ n ≤ 999) (h1 : ¬ k = 0 → g = -6 ∧ n = -6) (hu : 0 ≤ u ∧ u ≤ 30) : vS (sAdd S k g n u) := by
  obtain ⟨k1, k2, k3, k4, k5, k6⟩ := h
  refine ⟨?_, ?_, k3, k4, k5, fun j a b => ?_⟩
  · show 0 ≤ sN S + 1; omega
  · show sN S + 1 ≤ 40; omega
  · have b : j < sN S + 1 := b
    show 0 ≤ (if j = sN S then k else sK S j) ∧ (if j = sN S then k else sK S j) ≤ 3 ∧ ((if j = sN S then k else sK S j) = 0 → 0 ≤ (if j = sN S then g else sG S j) ∧ (if j = sN S then g else sG S j) ≤ 7 ∧ 0 ≤ (if j = sN S then n else sM S j) ∧ (if j = sN S then n else sM S j) ≤ 999) ∧ (¬ (if j = sN S then k else sK S j) = 0 → (if j = sN S then g else sG S j) = -6 ∧ (if j = sN S then n else sM S j) = -6) ∧ 0 ≤ (if j = sN S then u else sC S j) ∧ (if j = sN S then u else sC S j) ≤ 30
    by_cases hj : j = sN S
    · simp only [if_pos hj]
      exact ⟨hk.1, hk.2, h0, h1, hu⟩
    · simp only [if_neg hj]
      exact k6 j a (by omega)
theorem vA_step {A : sA} (h : vA A) {S : sS} (hS : vS S) {r : Int} : vA ((r, chg A S) : Int × sA).2 := vA_chg h hS
section MODEL4
variable {G : cm_G} {M : cm_M} {m i j t v w g h s : Int} {S : sS} {A : sA} {Q : Option cm_V → cm_G → cm_M → Prop}
/-- numbers come to the row of the credits from elsewhere -/
theorem rF_rM {M : cm_M} {z : Int} {S : sS} {f : Int → Int} (h : rF f S) (hn : sN S ≤ 40) (e : ∀ x, 0 ≤ x → x < 164 → M z x = f x) : rM M z S := rF_c h hn e
theorem q_undo (hm : isM G m) (hA : rMA M m A) (hv : vA A) (K : ∀ M', rMA M' m (rUndo A).2 → fr M M' m (m + 11) → Q (some (0, (rUndo A).1)) G M') : Go 92 0 [some (2, m), none] [] G M Q := by
  obtain ⟨h0, hs, ⟨e0, e1, e2, e3, e5, e7, e8, e9, e10, e12, e13⟩, a0, a1, a2, a3, a5, a7, a8, a9, a10, a12, a13⟩ := hm
  have hA' := hA
  obtain ⟨b1, ⟨c1, c2, c3⟩, b3, b4, b5⟩ := hA
  simp (disch := omega) only [g92_0, g92_1, g92_4, g92_7, g92_9, g92_10, g92_11, g92_11b, g92_12, g92_15, g92_16, g92_17, g92_20, g92_21, g92_23, g92_26, g92_29, g92_30, g92_33, g92_34, g92_35, g92_38, g92_39, g92_42, g92_45, g92_46, g92_47, g92_48, g92_49, g92_50, g92_53, g92_56, g92_57, g92_60, Option.toList_some, Option.toList_none, List.cons_append, List.nil_append, true_and, and_true, true_or, or_true, eq_self, ci0, ci1, cin6, forall_const, not_true_eq_false, not_false_eq_true, fimp, timp, i10, i01, cm_rne, and_assoc, hs, c1]
  unfold rUndo at K
  (repeat' apply And.intro) <;> (try omega) <;> (try (intro hx; exfalso; omega))
  · intro hne
    rw [ite'_n hne] at K
    (repeat' apply And.intro) <;> (try omega) <;> (try (intro hx; exfalso; omega))
    refine go_loop (σ := cm_M) (fun i _ => [some (2, m), some (0, i)]) (fun s => s) (fun i s => (∀ k, k ≠ m → k ≠ m + 1 → s k = M k) ∧ (∀ j, j ≠ 4 → s m j = M m j) ∧ s m 4 = aH A - 1 ∧ (∀ x, 0 ≤ x → x < i → s (m + 1) x = M (m + 2) (164 * (aH A - 1) + x))) 164 (fun i s hi0 hin hRs ih => ?_) (fun s hRs => ?_) 0 _ (by omega) (by omega) ⟨fun k a b => cm_rne a, fun j a => cm_up_n _ (Or.inr a), cm_up_s _ _ _ _, fun x a b => absurd a (by omega)⟩
    · obtain ⟨u1, u2, u3, u4⟩ := hRs
      rw [g92_22]
      simp (disch := omega) only [g92_0, g92_1, g92_4, g92_7, g92_9, g92_10, g92_11, g92_11b, g92_12, g92_15, g92_16, g92_17, g92_20, g92_21, g92_23, g92_26, g92_29, g92_30, g92_33, g92_34, g92_35, g92_38, g92_39, g92_42, g92_45, g92_46, g92_47, g92_48, g92_49, g92_50, g92_53, g92_56, g92_57, g92_60, Option.toList_some, Option.toList_none, List.cons_append, List.nil_append, true_and, and_true, true_or, or_true, eq_self, ci0, ci1, cin6, forall_const, not_true_eq_false, not_false_eq_true, fimp, timp, i10, i01, cm_rne, and_assoc, hs, u3, e0, e1, a0, a1]
      (repeat' apply And.intro) <;> (try omega) <;> (try (intro hx; exfalso; omega))
      intro _
      (repeat' apply And.intro) <;> (try omega) <;> (try (intro hx; exfalso; omega))
      refine ih _ ⟨fun k a b => by rw [cm_rne b]; exact u1 k a b, fun j a => by rw [cm_rne (by omega)]; exact u2 j a, by rw [cm_rne (by omega)]; exact u3, fun x a b => ?_⟩
      rw [cm_req]
      dsimp only
      by_cases hx : x = i
      · rw [if_pos hx, hx, u1 (m + 2) (by omega) (by omega)]
        congr 1
        omega
      · rw [if_neg hx]; exact u4 x a (by omega)
    · obtain ⟨u1, u2, u3, u4⟩ := hRs
      rw [g92_22]
      simp (disch := omega) only [g92_0, g92_1, g92_4, g92_7, g92_9, g92_10, g92_11, g92_11b, g92_12, g92_15, g92_16, g92_17, g92_20, g92_21, g92_23, g92_26, g92_29, g92_30, g92_33, g92_34, g92_35, g92_38, g92_39, g92_42, g92_45, g92_46, g92_47, g92_48, g92_49, g92_50, g92_53, g92_56, g92_57, g92_60, Option.toList_some, Option.toList_none, List.cons_append, List.nil_append, true_and, and_true, true_or, or_true, eq_self, ci0, ci1, cin6, forall_const, not_true_eq_false, not_false_eq_true, fimp, timp, i10, i01, cm_rne, and_assoc, hs, u3]
      (repeat' apply And.intro) <;> (try omega) <;> (try (intro hx; exfalso; omega))
      intro _
      have hz := c3 (aH A - 1) (by omega) (by omega)
      have hn := (hv.2.1.2 (aH A - 1) (by omega) (by omega)).2.1
      refine K _ ⟨rF_rM hz hn u4, ⟨u3, ?_, fun j a b => ?_⟩, fun s a b => ?_, ?_, fun k a b => ?_⟩ (fun k a => u1 k (by omega) (by omega))
      · show 0 ≤ aH A - 1 ∧ aH A - 1 ≤ 6; omega
      · have b : j < aH A - 1 := b
        rw [u1 (m + 2) (by omega) (by omega)]
        exact c3 j a (by omega)
      · rw [u1 (m + 4) (by omega) (by omega), u1 (m + 3) (by omega) (by omega)]; exact b3 s a b
      · rw [u2 6 (by decide)]; exact b4
      · rw [u1 (m + 5) (by omega) (by omega)]; exact b5 k a b
  · intro he
    rw [ite'_p he] at K
    exact K M hA' fr.rf
theorem q_save (hm : isM G m) (hA : rMA M m A) (hv : vA A) (hs : cm_in s) (K : ∀ M', rMA M' m (rSave A s).2 → fr M M' m (m + 11) → Q (some (0, (rSave A s).1)) G M') : Go 93 0 [some (2, m), some (0, s), none] [] G M Q := by
  obtain ⟨h0, hsh, ⟨e0, e1, e2, e3, e5, e7, e8, e9, e10, e12, e13⟩, a0, a1, a2, a3, a5, a7, a8, a9, a10, a12, a13⟩ := hm
  have hA' := hA
  obtain ⟨b1, ⟨c1, c2, c3⟩, b3, b4, b5⟩ := hA
  have hn := hv.1.2.1
  simp (disch := omega) only [g93_0, g93_1, g93_2, g93_6, g93_9, g93_11, g93_12, g93_13, g93_16, g93_17, g93_18, g93_19, g93_20, g93_22, g93_25, g93_28, g93_29, g93_32, g93_33, g93_36, g93_37, g93_38, g93_39, g93_40, g93_43, g93_44, g93_45, g93_46, g93_49, g93_52, g93_53, g93_56, g93_57, g93_58, Option.toList_some, Option.toList_none, List.cons_append, List.nil_append, true_and, and_true, true_or, or_true, eq_self, ci0, ci1, cin6, forall_const, not_true_eq_false, not_false_eq_true, fimp, timp, i10, i01, cm_rne, and_assoc]
  unfold rSave at K
  refine c93_3 (Nat.le_of_ble_eq_true rfl) (q_in hs cn0 cn1 (fun h1 => ?_) (fun h1 => ?_)) <;> simp (disch := omega) only [g93_0, g93_1, g93_2, g93_6, g93_9, g93_11, g93_12, g93_13, g93_16, g93_17, g93_18, g93_19, g93_20, g93_22, g93_25, g93_28, g93_29, g93_32, g93_33, g93_36, g93_37, g93_38, g93_39, g93_40, g93_43, g93_44, g93_45, g93_46, g93_49, g93_52, g93_53, g93_56, g93_57, g93_58, Option.toList_some, Option.toList_none, List.cons_append, List.nil_append, true_and, and_true, true_or, or_true, eq_self, ci0, ci1, cin6, forall_const, not_true_eq_false, not_false_eq_true, fimp, timp, i10, i01, cm_rne, and_assoc, hsh, e3, a3]
  · rw [ite'_p h1] at K
    (repeat' apply And.intro) <;> (try omega) <;> (try (intro hx; exfalso; omega))
    refine go_loop (σ := cm_M) (fun i _ => [some (2, m), some (0, s), some (0, i)]) (fun s => s) (fun i z => (∀ k, k ≠ m + 3 → k ≠ m + 4 → z k = M k) ∧ z (m + 4) = (fun x => if x = s then 1 else M (m + 4) x) ∧ (∀ x, x < 164 * s ∨ 164 * s + 164 ≤ x → z (m + 3) x = M (m + 3) x) ∧ (∀ x, 0 ≤ x → x < i → z (m + 3) (164 * s + x) = M (m + 1) x)) 164 (fun i z hi0 hin hRs ih => ?_) (fun z hRs => ?_) 0 _ (by omega) (by omega) ⟨fun k a b => cm_rne b, cm_req, fun x _ => by rw [cm_rne (by omega)], fun x a b => absurd a (by omega)⟩
    · obtain ⟨u1, u2, u3, u4⟩ := hRs
      rw [g93_21]
      simp (disch := omega) only [g93_0, g93_1, g93_2, g93_6, g93_9, g93_11, g93_12, g93_13, g93_16, g93_17, g93_18, g93_19, g93_20, g93_22, g93_25, g93_28, g93_29, g93_32, g93_33, g93_36, g93_37, g93_38, g93_39, g93_40, g93_43, g93_44, g93_45, g93_46, g93_49, g93_52, g93_53, g93_56, g93_57, g93_58, Option.toList_some, Option.toList_none, List.cons_append, List.nil_append, true_and, and_true, true_or, or_true, eq_self, ci0, ci1, cin6, forall_const, not_true_eq_false, not_false_eq_true, fimp, timp, i10, i01, cm_rne, and_assoc, hsh, e0, e2, a0, a2]
      (repeat' apply And.intro) <;> (try omega) <;> (try (intro hx; exfalso; omega))
      intro _
      (repeat' apply And.intro) <;> (try omega) <;> (try (intro hx; exfalso; omega))
      refine ih _ ⟨fun k a b => by rw [cm_rne a]; exact u1 k a b, by rw [cm_rne (by omega)]; exact u2, fun x a => ?_, fun x a b => ?_⟩ <;> rw [cm_req] <;> dsimp only
      · rw [if_neg (by omega)]; exact u3 x a
      · by_cases hx : x = i
        · rw [if_pos (by omega), hx, u1 (m + 1) (by omega) (by omega)]
        · rw [if_neg (by omega)]; exact u4 x a (by omega)
    · obtain ⟨u1, u2, u3, u4⟩ := hRs
      rw [g93_21]
      simp (disch := omega) only [g93_0, g93_1, g93_2, g93_6, g93_9, g93_11, g93_12, g93_13, g93_16, g93_17, g93_18, g93_19, g93_20, g93_22, g93_25, g93_28, g93_29, g93_32, g93_33, g93_36, g93_37, g93_38, g93_39, g93_40, g93_43, g93_44, g93_45, g93_46, g93_49, g93_52, g93_53, g93_56, g93_57, g93_58, Option.toList_some, Option.toList_none, List.cons_append, List.nil_append, true_and, and_true, true_or, or_true, eq_self, ci0, ci1, cin6, forall_const, not_true_eq_false, not_false_eq_true, fimp, timp, i10, i01, cm_rne, and_assoc, hsh, e0, a0]
      (repeat' apply And.intro) <;> (try omega) <;> (try (intro hx; exfalso; omega))
      intro _
      rw [u1 (m + 1) (by omega) (by omega), b1.1]
      (repeat' apply And.intro) <;> (try omega) <;> (try (intro hx; exfalso; omega))
      refine K _ ⟨?_, ⟨?_, c2, fun j a b => ?_⟩, fun t a b => ?_, ?_, fun k a b => ?_⟩ (fun k a => u1 k (by omega) (by omega))
      · exact rM_fr b1 (u1 _ (by omega) (by omega))
      · rw [u1 m (by omega) (by omega)]; exact c1
      · rw [u1 (m + 2) (by omega) (by omega)]; exact c3 j a b
      · rw [u2]
        show (if t = s then 1 else M (m + 4) t) = (if t = s then 1 else aF A t) ∧ ((if t = s then 1 else aF A t) = 1 → rF _ (if t = s then aS A else aL A t))
        by_cases ht : t = s
        · simp only [if_pos ht]
          refine ⟨trivial, fun _ => ?_⟩
          rw [ht]
          exact rF_c (f := M (m + 1)) b1 hn (fun x a b => u4 x a b)
        · simp only [if_neg ht]
          obtain ⟨z1, z2⟩ := b3 t a b
          refine ⟨z1, fun z => ?_⟩
          exact rF_c (z2 z) ((hv.2.2.1 t a b).2 z).2.1 (fun x c d => u3 _ (by omega))
      · rw [u1 m (by omega) (by omega)]; exact b4
      · rw [u1 (m + 5) (by omega) (by omega)]; exact b5 k a b
  · rw [ite'_n h1] at K
    exact K M hA' fr.rf
end MODEL4
