/-! ===== each answer is an int, each state that is kept is a good one ===== -/
theorem ite'_i {p : Prop} {α : Type} {a b : α} {P : α → Prop} (h1 : p → P a) (h2 : ¬ p → P b) : P (ite' p a b) := by
  by_cases h : p
  · rw [ite'_p h]; exact h1 h
  · rw [ite'_n h]; exact h2 h
abbrev okR (r : Int × sA) : Prop := cm_in r.1 ∧ vA r.2
theorem okR_e {A : sA} (hv : vA A) {x : Int} (hx : -10 ≤ x ∧ x ≤ 0) : okR (x, A) := ⟨⟨by show -2147483648 ≤ x; omega, by show x < 2147483648; omega⟩, hv⟩
theorem okR_c {A : sA} (hv : vA A) {S : sS} (hS : vS S) {x : Int} (hx : -10 ≤ x ∧ x ≤ 100000) : okR (x, chg A S) := ⟨⟨by show -2147483648 ≤ x; omega, by show x < 2147483648; omega⟩, vA_chg hv hS⟩
theorem fP_lb {f : Int → Int → Int} (h : ∀ i a, a ≤ f i a ∧ f i a ≤ a + 1) : ∀ k : Nat, 0 ≤ fP f 0 k ∧ fP f 0 k ≤ (k : Int)
  | 0 => ⟨Int.le_refl 0, Int.le_refl 0⟩
  | k + 1 => by
    have ih := fP_lb h k
    have e : fP f 0 (k + 1) = f (k : Int) (fP f 0 k) := rfl
    have := h (k : Int) (fP f 0 k)
    rw [e]
    omega
theorem isFst_b {P : Int → Prop} {n : Int} : -6 ≤ fstOf P n ∧ (fstOf P n < n ∨ fstOf P n = -6) := by
  rcases fstOf_is P n with ⟨a1, a2, -, -⟩ | ⟨a1, -⟩ <;> omega
theorem lst_ex (P : Int → Prop) : ∀ k : Nat, ∃ r, isLst P (k : Int) r
  | 0 => ⟨-6, Or.inr ⟨rfl, fun j a b => by omega⟩⟩
  | k + 1 => by
    by_cases h : P (k : Int)
    · exact ⟨k, Or.inl ⟨by omega, by omega, h, fun j a b => by omega⟩⟩
    · rcases lst_ex P k with ⟨r, ⟨a1, a2, a3, a4⟩ | ⟨a1, a2⟩⟩
      · refine ⟨r, Or.inl ⟨a1, by omega, a3, fun j a b => ?_⟩⟩
        by_cases hj : j = k
        · rw [hj]; exact h
        · exact a4 j a (by omega)
      · refine ⟨r, Or.inr ⟨a1, fun j a b => ?_⟩⟩
        by_cases hj : j = k
        · rw [hj]; exact h
        · exact a2 j a (by omega)
theorem lstOf_b {P : Int → Prop} {n : Int} (hn : 0 ≤ n) : -6 ≤ lstOf P n ∧ (lstOf P n < n ∨ lstOf P n = -6) := by
  obtain ⟨r, hr⟩ := lst_ex P n.toNat
  rw [show ((n.toNat : Nat) : Int) = n by omega] at hr
  rw [← lstOf_e hr]
  rcases hr with ⟨a1, a2, -, -⟩ | ⟨a1, -⟩ <;> omega
theorem cntP_b (P : Int → Prop) : ∀ k : Nat, 0 ≤ cntP P k ∧ cntP P k ≤ (k : Int)
  | 0 => ⟨Int.le_refl 0, Int.le_refl 0⟩
  | k + 1 => by
    have ih := cntP_b P k
    have e := cntP_s P (i := (k : Int)) (by omega)
    rw [show ((k : Int) + 1).toNat = k + 1 by omega, show ((k : Int)).toNat = k by omega] at e
    by_cases h : P (k : Int)
    · rw [e.1 h]; omega
    · rw [e.2 h]; omega
section KEEP
variable {A : sA} {S : sS} {i v g n k a p s t w c : Int}
theorem ok_set (hv : vA A) : okR (rSet A i v) := by
  unfold rSet
  refine ite'_i (fun h => ?_) (fun _ => okR_e hv (by omega))
  have h3 := hv.1.2.2.1
  have h4 := hv.1.2.2.2.1
  have h5 := hv.1.2.2.2.2.1
  refine okR_c hv (vS_set hv.1 h) ?_
  obtain ⟨k1, -, -⟩ := h
  have : i = 0 ∨ i = 1 ∨ i = 2 := by omega
  rcases this with e | e | e <;> rw [e] <;> omega
theorem ok_name (hv : vA A) : okR (rName A g n) := by
  unfold rName
  have h1 := hv.1.1
  have h2 := hv.1.2.1
  refine ite'_i (fun h => ite'_i (fun _ => okR_e hv (by omega)) (fun h0 => okR_c hv (vS_add hv.1 (by omega) (by omega) (fun _ => ⟨h.1.1, h.1.2, h.2.1, h.2.2⟩) (fun z => absurd rfl z) (by omega)) (by omega))) (fun _ => okR_e hv (by omega))
theorem ok_line (hv : vA A) : okR (rLine A k) := by
  unfold rLine
  have h1 := hv.1.1
  have h2 := hv.1.2.1
  refine ite'_i (fun h => ite'_i (fun _ => okR_e hv (by omega)) (fun h0 => okR_c hv (vS_add hv.1 (by omega) (by omega) (fun z => absurd z (by omega)) (fun _ => ⟨rfl, rfl⟩) (by omega)) (by omega))) (fun _ => okR_e hv (by omega))
theorem ok_cue (hv : vA A) : okR (rCue A i v) := by
  unfold rCue
  refine ite'_i (fun h => ite'_i (fun h2 => ?_) (fun _ => okR_e hv (by omega))) (fun _ => okR_e hv (by omega))
  have := (hv.1.2.2.2.2.2 i h.1 h.2).2.2.2.2
  exact okR_c hv (vS_cue hv.1 h2) (by omega)
theorem ok_move (hv : vA A) : okR (rMove A a p) := by
  unfold rMove
  refine ite'_i (fun h => ?_) (fun _ => okR_e hv (by omega))
  have hm := vS_mv hv.1 h.1 h.2
  have b1 := aI_b hm
  have b2 := aI_b hv.1
  exact okR_c hv hm (by omega)
theorem ok_drop (hv : vA A) : okR (rDrop A a) := by
  unfold rDrop
  refine ite'_i (fun h => ?_) (fun _ => okR_e hv (by omega))
  have hn := hv.1.2.1
  have hm := vS_mv hv.1 h (p := sN (aS A) - 1) (by omega)
  have hk : sN (sMv (aS A) a (sN (aS A) - 1)) = sN (aS A) := sMv_n _ _ _
  exact okR_c hv (vS_cut hm (by omega)) (by omega)
theorem ok_turn (hv : vA A) : okR (rTurn A g k) := by
  unfold rTurn
  refine ite'_i (fun h => ite'_i (fun _ => okR_e hv (by omega)) (fun h0 => ?_)) (fun _ => okR_e hv (by omega))
  have hm := vS_rotN hv.1 h.1 k.toNat
  refine okR_c hv hm ?_
  have hn := (rotN_n (aS A) g k.toNat).1
  have hf : 0 ≤ fstOf (fun j => sG (aS A) j = g) (sN (aS A)) ∧ fstOf (fun j => sG (aS A) j = g) (sN (aS A)) < sN (aS A) := by
    rcases fstOf_is (fun j => sG (aS A) j = g) (sN (aS A)) with ⟨a1, a2, -, -⟩ | ⟨a1, -⟩
    · exact ⟨a1, a2⟩
    · exact absurd a1 h0
  obtain ⟨-, -, w3, w4, -⟩ := hm.2.2.2.2.2 _ hf.1 (by rw [hn]; exact hf.2)
  by_cases z : sK (rotN (aS A) g k.toNat) (fstOf (fun j => sG (aS A) j = g) (sN (aS A))) = 0
  · have := w3 z; omega
  · have := w4 z; omega
theorem ok_undo (hv : vA A) : okR (rUndo A) := by
  unfold rUndo
  obtain ⟨h1, ⟨h2, h3⟩, h4⟩ := hv
  refine ite'_i (fun h => okR_e ⟨h1, ⟨h2, h3⟩, h4⟩ (by omega)) (fun h0 => ⟨⟨by show -2147483648 ≤ aH A - 1; omega, by show aH A - 1 < 2147483648; omega⟩, h3 _ (by omega) (by omega), ⟨?_, fun j a b => ?_⟩, h4⟩)
  · show 0 ≤ aH A - 1 ∧ aH A - 1 ≤ 6
    omega
  · have b : j < aH A - 1 := b
    exact h3 j a (by omega)
theorem ok_save (hv : vA A) : okR (rSave A s) := by
  unfold rSave
  obtain ⟨h1, h2, h3, h4⟩ := hv
  have n1 := h1.1
  have n2 := h1.2.1
  refine ite'_i (fun h => ⟨⟨by show -2147483648 ≤ sN (aS A); omega, by show sN (aS A) < 2147483648; omega⟩, h1, h2, fun j a b => ?_, h4⟩) (fun _ => okR_e ⟨h1, h2, h3, h4⟩ (by omega))
  show ((if j = s then 1 else aF A j) = 0 ∨ (if j = s then 1 else aF A j) = 1) ∧ ((if j = s then 1 else aF A j) = 1 → vS (if j = s then aS A else aL A j))
  by_cases e : j = s
  · simp only [if_pos e]
    exact ⟨Or.inr trivial, fun _ => h1⟩
  · simp only [if_neg e]
    exact h3 j a b
theorem ok_restore (hv : vA A) : okR (rRestore A s) := by
  unfold rRestore
  refine ite'_i (fun h => ite'_i (fun h2 => ?_) (fun _ => okR_e hv (by omega))) (fun _ => okR_e hv (by omega))
  have hm := (hv.2.2.1 s h.1 (by omega)).2 h2
  have n1 := hm.1
  have n2 := hm.2.1
  exact okR_c hv hm (by omega)
theorem ok_put (hv : vA A) : okR (rPut A c) := by
  unfold rPut
  have hl := (lNb_is c).1
  have hn := hv.2.2.2.1
  refine ite'_i (fun h => ite'_i (fun h2 => okR_e hv (by omega)) (fun h2 => ⟨⟨by show -2147483648 ≤ aN A + lNb c; omega, by show aN A + lNb c < 2147483648; omega⟩, vA_put hv h2⟩)) (fun _ => okR_e hv (by omega))
theorem ok_wipe (hv : vA A) : okR (rWipe A) := by
  unfold rWipe
  obtain ⟨h1, h2, h3, h4, h5⟩ := hv
  refine ⟨⟨by show -2147483648 ≤ aN A; omega, by show aN A < 2147483648; omega⟩, h1, h2, h3, ?_, fun k a b => ?_⟩
  · show (0 : Int) ≤ 0 ∧ (0 : Int) ≤ 60
    omega
  · have b : k < 0 := b
    omega
theorem ok_read (hv : vA A) : okR (rRead A) := by
  unfold rRead
  refine ite'_i (fun h => okR_e hv (by omega)) (fun h => ite'_i (fun h2 => okR_e hv (by omega)) (fun h2 => ?_))
  have hT := vT_pa hv
  have hm := vS_app hv.1 hT h2
  obtain ⟨k1, k2, k3, k4, k5⟩ := vA_chg hv hm
  have n1 := hv.1.1
  have n2 := hT.1
  refine ⟨⟨by show -2147483648 ≤ sN (aS A) + sN (paA A).2; omega, by show sN (aS A) + sN (paA A).2 < 2147483648; omega⟩, k1, k2, k3, ?_, fun k a b => ?_⟩
  · show (0 : Int) ≤ 0 ∧ (0 : Int) ≤ 60
    omega
  · have b : k < 0 := b
    omega
theorem ci_of {x : Int} (h : -10 ≤ x ∧ x ≤ 1000000) : cm_in x := ⟨by omega, by omega⟩
theorem ok_pa (hv : vA A) : cm_in (paA A).1 := by
  have hN := hv.2.2.2.1
  have hb : -6 ≤ (paA A).1 ∧ (paA A).1 ≤ aN A := pa_b 61 0 sZ (by omega) hN.1
  exact ci_of (by omega)
theorem ok_of (hv : vS S) : cm_in (xOf S i w) := by
  unfold xOf
  refine ite'_i (fun h => ?_) (fun _ => ci_of (by omega))
  obtain ⟨w1, w2, w3, w4, w5⟩ := hv.2.2.2.2.2 i h.1 h.2
  have b1 := tI_b hv h.1
  have b2 := vS_h hv i
  have b3 := eI_b hv h
  have b4 := fI_b hv h
  have hn := hv.2.1
  have g1 : -6 ≤ sG S i ∧ sG S i ≤ 7 ∧ -6 ≤ sM S i ∧ sM S i ≤ 999 := by
    by_cases z : sK S i = 0
    · have := w3 z; omega
    · have := w4 z; omega
  repeat' split
  all_goals exact ci_of (by omega)
theorem nameAt_b (h : ¬ nameAt S g = -6) : 0 ≤ nameAt S g ∧ nameAt S g < sN S := by
  rcases fstOf_is (fun j => sG S j = g) (sN S) with ⟨a1, a2, -, -⟩ | ⟨a1, -⟩
  · exact ⟨a1, a2⟩
  · exact absurd a1 h
theorem ok_group (hv : vS S) : cm_in (xGroup S g w) := by
  unfold xGroup
  refine ite'_i (fun h => ?_) (fun _ => ci_of (by omega))
  have hn0 := hv.1
  have hn := hv.2.1
  have c1 := (cnt0 (sG S) g (sN S).toNat).1
  have c2 := cntb (sG S) g (sN S).toNat
  obtain ⟨s1, s2, s3, -⟩ := spr_b hv g
  have s4 := lsL_b hv g
  have n1 : ¬ nameAt S g = -6 → -6 ≤ sM S (nameAt S g) ∧ sM S (nameAt S g) ≤ 999 := fun z => by
    obtain ⟨n1, n2⟩ := nameAt_b z
    obtain ⟨-, -, w3, w4, -⟩ := hv.2.2.2.2.2 _ n1 n2
    by_cases z : sK S (nameAt S g) = 0
    · have := w3 z; omega
    · have := w4 z; omega
  repeat' split
  · exact ci_of (by omega)
  · exact ci_of (by omega)
  · exact ci_of (by omega)
  · exact ci_of (by omega)
  · exact ci_of (by omega)
  · exact ci_of (by omega)
  · rename_i z
    have := n1 z
    exact ci_of (by omega)
  · exact ci_of (by omega)
theorem ok_at (hv : vS S) : cm_in (xAt S t w) := by
  unfold xAt
  refine ite'_i (fun h => ?_) (fun _ => ci_of (by omega))
  have hn0 := hv.1
  have hn := hv.2.1
  have c1 := isFst_b (P := seen S t) (n := sN S)
  have c2 := lstOf_b (P := seen S t) (n := sN S) hn0
  have c3 := cntP_b (seen S t) (sN S).toNat
  have c4 := sp_b hv (sN S).toNat (pos S (sN S).toNat t.toNat) (by omega)
  have c5 := pos_b hv (k := (sN S).toNat) (by omega) t.toNat
  repeat' split
  all_goals exact ci_of (by omega)
theorem ok_count (hv : vA A) : cm_in (xCount A w) := by
  unfold xCount
  have hn0 := hv.1.1
  have hn := hv.1.2.1
  have h3 := hv.1.2.2.1
  have h4 := hv.1.2.2.2.1
  have h5 := hv.1.2.2.2.2.1
  have h6 := hv.2.1.1
  have h7 := hv.2.2.2.1
  have b1 := tI_b hv.1 hn0
  have b2 := aI_b hv.1
  have c1 := fP_lb (f := fun i a => if sK (aS A) i = 0 then a + 1 else a) (fun i a => by split <;> omega) (sN (aS A)).toNat
  have c2 := fP_lb (f := fun i a => if sC (aS A) i = 0 then a else a + 1) (fun i a => by split <;> omega) (sN (aS A)).toNat
  have c3 := fP_lb (f := fun g a => if spr (aS A) g = 0 then a else a + 1) (fun i a => by split <;> omega) 8
  have c4 := fP_lb (f := fun i a => if sK (aS A) i = 0 then (if eI (aS A) i = 0 then a + 1 else a) else a) (fun i a => by split <;> (try split) <;> omega) (sN (aS A)).toNat
  have c3 : 0 ≤ uneq (aS A) ∧ uneq (aS A) ≤ 8 := c3
  have c4 : 0 ≤ never (aS A) ∧ never (aS A) ≤ ((sN (aS A)).toNat : Int) := c4
  repeat' split
  all_goals exact ci_of (by omega)
theorem ok_blame (hv : vS S) : cm_in (xBlame S w) := by
  unfold xBlame
  have hn0 := hv.1
  have hn := hv.2.1
  refine ite'_i (fun h => ?_) (fun _ => ci_of (by omega))
  have := bstep_b hv (sN S).toNat
  repeat' split
  all_goals exact ci_of (by omega)
theorem ok_for : cm_in (xFor S t) := by
  unfold xFor
  refine ite'_i (fun h => ?_) (fun _ => ci_of (by omega))
  have := lstOf_b (P := fun v => 1 ≤ v ∧ shows (sFast S v) t) (n := 31) (by omega)
  exact ci_of (by omega)
theorem ok_if (hv : vS S) : cm_in (xIf S i v) := by
  unfold xIf
  refine ite'_i (fun h => ite'_i (fun h2 => ?_) (fun _ => ci_of (by omega))) (fun _ => ci_of (by omega))
  have hs : vS (sSet S 1 v) := vS_set hv ⟨by omega, by omega, by omega⟩
  have := eI_b hs h
  exact ci_of (by omega)
theorem ok_best (hv : vS S) : cm_in (xBest S i g w) := by
  unfold xBest
  refine ite'_i (fun h => ite'_i (fun h2 => ?_) (fun _ => ci_of (by omega))) (fun _ => ci_of (by omega))
  have := cUp_b hv (i := i) (g := g) 30 (by omega)
  rw [show (30 : Int) - ((30 : Nat) : Int) = 0 by decide] at this
  repeat' split
  all_goals exact ci_of (by omega)
end KEEP
