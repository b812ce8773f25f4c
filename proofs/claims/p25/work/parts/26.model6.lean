/-! ===== the reference: lines and numbers that move ===== -/
noncomputable def rMove (A : sA) (a p : Int) : Int × sA := ite' ((0 ≤ a ∧ a < sN (aS A)) ∧ 0 ≤ p ∧ p < sN (aS A)) (10000 + aI (sMv (aS A) a p) - aI (aS A), chg A (sMv (aS A) a p)) (-1, A)
noncomputable def rDrop (A : sA) (a : Int) : Int × sA := ite' (0 ≤ a ∧ a < sN (aS A)) (sN (aS A) - 1, chg A (sCut (sMv (aS A) a (sN (aS A) - 1)))) (-1, A)
def rotN (S : sS) (g : Int) : Nat → sS
  | 0 => S
  | k + 1 => sRot (rotN S g k) g
theorem rotN_n (S : sS) (g : Int) (k : Nat) : sN (rotN S g k) = sN S ∧ sG (rotN S g k) = sG S := by
  induction k with
  | zero => exact ⟨rfl, rfl⟩
  | succ k ih => exact ih
theorem vS_rotN {S : sS} (h : vS S) {g : Int} (hg : 0 ≤ g ∧ g ≤ 7) (k : Nat) : vS (rotN S g k) := by
  induction k with
  | zero => exact h
  | succ k ih => exact vS_rot ih hg
noncomputable def rTurn (A : sA) (g k : Int) : Int × sA := ite' ((0 ≤ g ∧ g ≤ 7) ∧ 1 ≤ k ∧ k ≤ 40) (ite' (fstOf (fun j => sG (aS A) j = g) (sN (aS A)) = -6) (-5, A) (sM (rotN (aS A) g k.toNat) (fstOf (fun j => sG (aS A) j = g) (sN (aS A))), chg A (rotN (aS A) g k.toNat))) (-2, A)
theorem cnt0 (P : Int → Int) (g : Int) : ∀ k : Nat, (0 : Int) ≤ fP (fun i a => if P i = g then a + 1 else a) 0 k ∧ (fP (fun i a => if P i = g then a + 1 else a) (0 : Int) k = 0 ↔ ∀ j, 0 ≤ j → j < (k : Int) → ¬ P j = g)
  | 0 => ⟨Int.le_refl 0, ⟨fun _ j a b => absurd a (by omega), fun _ => rfl⟩⟩
  | k + 1 => by
    obtain ⟨h1, h2⟩ := cnt0 P g k
    have e : fP (fun i a => if P i = g then a + 1 else a) (0 : Int) (k + 1) = if P k = g then fP (fun i a => if P i = g then a + 1 else a) (0 : Int) k + 1 else fP (fun i a => if P i = g then a + 1 else a) 0 k := rfl
    rw [e]
    generalize fP (fun i a => if P i = g then a + 1 else a) (0 : Int) k = x at *
    by_cases h : P k = g
    · rw [if_pos h]
      exact ⟨by omega, fun z => absurd z (by omega), fun z => absurd h (z k (by omega) (by omega))⟩
    · rw [if_neg h]
      refine ⟨h1, fun z j a b => ?_, fun z => h2.mpr (fun j a b => z j a (by omega))⟩
      by_cases hj : j = k
      · rw [hj]; exact h
      · exact h2.mp z j a (by omega)
theorem fst0 {P : Int → Prop} {n : Int} : fstOf P n = -6 ↔ ∀ j, 0 ≤ j → j < n → ¬ P j := by
  rcases fstOf_is P n with ⟨a1, a2, a3, -⟩ | ⟨a1, a2⟩
  · exact ⟨fun z => by omega, fun z => absurd a3 (z _ a1 a2)⟩
  · exact ⟨fun _ => a2, fun _ => a1⟩
section MODEL6
variable {G : cm_G} {M : cm_M} {m i j t v w g h s n k u a b : Int} {S : sS} {A : sA} {Q : Option cm_V → cm_G → cm_M → Prop}
end MODEL6
