/-! ===== all that is kept: the credits, what is past, what is saved, the pad; and what calls make of it ===== -/
abbrev sA : Type := sS × Int × (Int → sS) × (Int → Int) × (Int → sS) × Int × (Int → Int)
def aS (A : sA) : sS := A.1
def aH (A : sA) : Int := A.2.1
def aP (A : sA) : Int → sS := A.2.2.1
def aF (A : sA) : Int → Int := A.2.2.2.1
def aL (A : sA) : Int → sS := A.2.2.2.2.1
def aN (A : sA) : Int := A.2.2.2.2.2.1
def aC (A : sA) : Int → Int := A.2.2.2.2.2.2
def vA (A : sA) : Prop := vS (aS A) ∧ ((0 ≤ aH A ∧ aH A ≤ 6) ∧ ∀ j, 0 ≤ j → j < aH A → vS (aP A j)) ∧ (∀ s, 0 ≤ s → s < 2 → (aF A s = 0 ∨ aF A s = 1) ∧ (aF A s = 1 → vS (aL A s))) ∧ (0 ≤ aN A ∧ aN A ≤ 60) ∧ ∀ k, 0 ≤ k → k < aN A → 0 ≤ aC A k ∧ aC A k ≤ 65535
/-- a change that can be taken back -/
def chg (A : sA) (S : sS) : sA := (S, rcN (aH A), rcH (aH A) (aP A) (aS A), aF A, aL A, aN A, aC A)
theorem vA_chg {A : sA} (h : vA A) {S : sS} (hS : vS S) : vA (chg A S) := by
  obtain ⟨h1, ⟨h2, h3⟩, h4, h5, h6⟩ := h
  refine ⟨hS, ⟨?_, fun j a b => ?_⟩, h4, h5, h6⟩
  · show 0 ≤ rcN (aH A) ∧ rcN (aH A) ≤ 6
    unfold rcN
    split <;> omega
  · have b : j < rcN (aH A) := b
    show vS (rcH (aH A) (aP A) (aS A) j)
    unfold rcN at b
    unfold rcH
    by_cases h7 : aH A = 6
    · rw [if_pos h7] at b ⊢
      by_cases h8 : j = 5
      · rw [if_pos h8]; exact h1
      · rw [if_neg h8]; exact h3 _ (by omega) (by omega)
    · rw [if_neg h7] at b ⊢
      by_cases h8 : j = aH A
      · rw [if_pos h8]; exact h1
      · rw [if_neg h8]; exact h3 _ a (by omega)
/-! the answers, and what is kept then -/
def okS (i v : Int) : Prop := (0 ≤ i ∧ i ≤ 2) ∧ (if i = 0 then 4 else 1) ≤ v ∧ v ≤ (if i = 0 then 20 else if i = 1 then 30 else 4)
noncomputable def ite' (p : Prop) {α : Type} (a b : α) : α := if (Classical.epsilon (fun x : Int => (p ∧ x = 1) ∨ (¬ p ∧ x = 0))) = 1 then a else b
theorem ite'_p {p : Prop} {α : Type} {a b : α} (h : p) : ite' p a b = a := by
  have hx := Classical.epsilon_spec (p := fun x : Int => (p ∧ x = 1) ∨ (¬ p ∧ x = 0)) ⟨1, Or.inl ⟨h, rfl⟩⟩
  unfold ite'
  rcases hx with ⟨-, hx⟩ | ⟨hx, -⟩
  · rw [if_pos hx]
  · exact absurd h hx
theorem ite'_n {p : Prop} {α : Type} {a b : α} (h : ¬ p) : ite' p a b = b := by
  have hx := Classical.epsilon_spec (p := fun x : Int => (p ∧ x = 1) ∨ (¬ p ∧ x = 0)) ⟨0, Or.inr ⟨h, rfl⟩⟩
  unfold ite'
  rcases hx with ⟨hx, -⟩ | ⟨-, hx⟩
  · exact absurd hx h
  · rw [if_neg (by omega)]
noncomputable def fstOf (P : Int → Prop) (n : Int) : Int := Classical.epsilon (fun r => isFst P n r)
theorem fstOf_e {P : Int → Prop} {n r : Int} (h : isFst P n r) : r = fstOf P n := h.uniq (Classical.epsilon_spec ⟨r, h⟩)
theorem fst_ex (P : Int → Prop) {n : Int} : ∃ r, isFst P n r := by
  by_cases h : ∃ k : Nat, (k : Int) < n ∧ P k
  · obtain ⟨k, h1, h2⟩ := h
    obtain ⟨k, ⟨h1, h2⟩, h3⟩ := ex_least (fun k => (k : Int) < n ∧ P k) k ⟨h1, h2⟩
    refine ⟨k, Or.inl ⟨by omega, h1, h2, fun j a b c => h3 j.toNat (by omega) ⟨by omega, ?_⟩⟩⟩
    rwa [show ((j.toNat : Nat) : Int) = j by omega]
  · exact ⟨-6, Or.inr ⟨rfl, fun j a b c => h ⟨j.toNat, by omega, by rwa [show ((j.toNat : Nat) : Int) = j by omega]⟩⟩⟩
theorem fstOf_is (P : Int → Prop) (n : Int) : isFst P n (fstOf P n) := Classical.epsilon_spec (fst_ex P)
noncomputable def lstOf (P : Int → Prop) (n : Int) : Int := Classical.epsilon (fun r => isLst P n r)
theorem lstOf_e {P : Int → Prop} {n r : Int} (h : isLst P n r) : r = lstOf P n := h.uniq (Classical.epsilon_spec ⟨r, h⟩)
def sSet (S : sS) (i v : Int) : sS := sSt S (fun j => if j = i then v else sT S j)
def sCue (S : sS) (i v : Int) : sS := sCu S (fun j => if j = i then v else sC S j)
noncomputable def rSet (A : sA) (i v : Int) : Int × sA := ite' (okS i v) (sT (aS A) i, chg A (sSet (aS A) i v)) (-2, A)
noncomputable def rName (A : sA) (g n : Int) : Int × sA := ite' ((0 ≤ g ∧ g ≤ 7) ∧ 0 ≤ n ∧ n ≤ 999) (ite' (sN (aS A) = 40) (-4, A) (sN (aS A), chg A (sAdd (aS A) 0 g n 0))) (-2, A)
noncomputable def rLine (A : sA) (k : Int) : Int × sA := ite' (1 ≤ k ∧ k ≤ 3) (ite' (sN (aS A) = 40) (-4, A) (sN (aS A), chg A (sAdd (aS A) k (-6) (-6) 0))) (-2, A)
noncomputable def rCue (A : sA) (i v : Int) : Int × sA := ite' (0 ≤ i ∧ i < sN (aS A)) (ite' (0 ≤ v ∧ v ≤ 30) (sC (aS A) i, chg A (sCue (aS A) i v)) (-2, A)) (-1, A)
noncomputable def rUndo (A : sA) : Int × sA := ite' (aH A = 0) (-5, A) (aH A - 1, (aP A (aH A - 1), aH A - 1, aP A, aF A, aL A, aN A, aC A))
noncomputable def rSave (A : sA) (s : Int) : Int × sA := ite' (0 ≤ s ∧ s ≤ 1) (sN (aS A), (aS A, aH A, aP A, (fun t => if t = s then 1 else aF A t), (fun t => if t = s then aS A else aL A t), aN A, aC A)) (-2, A)
noncomputable def rRestore (A : sA) (s : Int) : Int × sA := ite' (0 ≤ s ∧ s ≤ 1) (ite' (aF A s = 1) (sN (aL A s), chg A (aL A s)) (-5, A)) (-2, A)
theorem vS_set {S : sS} (h : vS S) {i v : Int} (hk : okS i v) : vS (sSet S i v) := by
  obtain ⟨h1, h2, h3, h4, h5, h6⟩ := h
  obtain ⟨k1, k2, k3⟩ := hk
  refine ⟨h1, h2, ?_, ?_, ?_, h6⟩
  · show 4 ≤ (if (0 : Int) = i then v else sT S 0) ∧ (if (0 : Int) = i then v else sT S 0) ≤ 20
    omega
  · show 1 ≤ (if (1 : Int) = i then v else sT S 1) ∧ (if (1 : Int) = i then v else sT S 1) ≤ 30
    omega
  · show 1 ≤ (if (2 : Int) = i then v else sT S 2) ∧ (if (2 : Int) = i then v else sT S 2) ≤ 4
    omega
theorem vS_cue {S : sS} (h : vS S) {i v : Int} (hv : 0 ≤ v ∧ v ≤ 30) : vS (sCue S i v) := by
  obtain ⟨h1, h2, h3, h4, h5, h6⟩ := h
  refine ⟨h1, h2, h3, h4, h5, fun j a b => ?_⟩
  obtain ⟨k1, k2, k3, k4, k5, k6⟩ := h6 j a b
  refine ⟨k1, k2, k3, k4, ?_, ?_⟩
  · show 0 ≤ (if j = i then v else sC S j)
    omega
  · show (if j = i then v else sC S j) ≤ 30
    omega
theorem vS_add {S : sS} (h : vS S) {k g n u : Int} (hn : sN S < 40) (hk : 0 ≤ k ∧ k ≤ 3) (h0 : k = 0 → 0 ≤ g ∧ g ≤ 7 ∧ 0 ≤ n ∧ n ≤ 999) (h1 : ¬ k = 0 → g = -6 ∧ n = -6) (hu : 0 ≤ u ∧ u ≤ 30) : vS (sAdd S k g n u) := by
  obtain ⟨k1, k2, k3, k4, k5, k6⟩ := h
  refine ⟨?_, ?_, k3, k4, k5, fun j a b => ?_⟩
  · show 0 ≤ sN S + 1; omega
  · show sN S + 1 ≤ 40; omega
  · have b : j < sN S + 1 := b
    show 0 ≤ (if j = sN S then k else sK S j) ∧ (if j = sN S then k else sK S j) ≤ 3 ∧ ((if j = sN S then k else sK S j) = 0 → 0 ≤ (if j = sN S then g else sG S j) ∧ (if j = sN S then g else sG S j) ≤ 7 ∧ 0 ≤ (if j = sN S then n else sM S j) ∧ (if j = sN S then n else sM S j) ≤ 999) ∧ (¬ (if j = sN S then k else sK S j) = 0 → (if j = sN S then g else sG S j) = -6 ∧ (if j = sN S then n else sM S j) = -6) ∧ 0 ≤ (if j = sN S then u else sC S j) ∧ (if j = sN S then u else sC S j) ≤ 30
    by_cases hj : j = sN S
    · simp only [if_pos hj]
      exact ⟨hk.1, hk.2, h0, h1, hu⟩
    · simp only [if_neg hj]
      exact k6 j a (by omega)
theorem vA_step {A : sA} (h : vA A) {S : sS} (hS : vS S) {r : Int} : vA ((r, chg A S) : Int × sA).2 := vA_chg h hS
section MODEL4
variable {G : cm_G} {M : cm_M} {m i j t v w g h s : Int} {S : sS} {A : sA} {Q : Option cm_V → cm_G → cm_M → Prop}
end MODEL4
