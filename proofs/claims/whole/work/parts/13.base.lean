/-! ===== THE MATHEMATICS OF A STATE, AND HOW THE TWO SIDES HOLD IT ===== -/
/-- a state of the credits: how many lines, the settings, then by line: kind, group, number, cue -/
abbrev sS : Type := Int × (Int → Int) × (Int → Int) × (Int → Int) × (Int → Int) × (Int → Int)
def sN (S : sS) : Int := S.1
def sT (S : sS) : Int → Int := S.2.1
def sK (S : sS) : Int → Int := S.2.2.1
def sG (S : sS) : Int → Int := S.2.2.2.1
def sM (S : sS) : Int → Int := S.2.2.2.2.1
def sC (S : sS) : Int → Int := S.2.2.2.2.2
def vS (S : sS) : Prop := 0 ≤ sN S ∧ sN S ≤ 40 ∧ (4 ≤ sT S 0 ∧ sT S 0 ≤ 20) ∧ (1 ≤ sT S 1 ∧ sT S 1 ≤ 30) ∧ (1 ≤ sT S 2 ∧ sT S 2 ≤ 4) ∧
  ∀ i, 0 ≤ i → i < sN S → 0 ≤ sK S i ∧ sK S i ≤ 3 ∧ (sK S i = 0 → 0 ≤ sG S i ∧ sG S i ≤ 7 ∧ 0 ≤ sM S i ∧ sM S i ≤ 999) ∧ (¬ sK S i = 0 → sG S i = -6 ∧ sM S i = -6) ∧ 0 ≤ sC S i ∧ sC S i ≤ 30
/-- the height of a line -/
def sH (S : sS) (i : Int) : Int := if sK S i = 1 then 2 else if sK S i = 2 then sT S 2 else 1
theorem vS.h {S : sS} (h : vS S) (i : Int) : 1 ≤ sH S i ∧ sH S i ≤ 4 := by
  obtain ⟨-, -, -, -, h5, -⟩ := h
  unfold sH
  split
  · omega
  · split <;> omega
/-- the class's Credits at c -/
def isC (G : cm_G) (c : Int) : Prop := 0 ≤ c ∧ cm_sh G c = some (0, 1) ∧ (G.2 c 0 = c + 1 ∧ G.2 c 1 = c + 2 ∧ G.2 c 2 = c + 3 ∧ G.2 c 3 = c + 4 ∧ G.2 c 4 = c + 5) ∧ (∀ M, cm_al 1 G M (c + 1) = 3) ∧ (∀ M, cm_al 1 G M (c + 2) = 40) ∧ (∀ M, cm_al 1 G M (c + 3) = 40) ∧ (∀ M, cm_al 1 G M (c + 4) = 40) ∧ (∀ M, cm_al 1 G M (c + 5) = 40)
/-- Credits at c hold S -/
def rC (M : cm_M) (c : Int) (S : sS) : Prop := M c 5 = sN S ∧ (∀ j, 0 ≤ j → j < 3 → M (c + 1) j = sT S j) ∧ ∀ i, 0 ≤ i → i < sN S → M (c + 2) i = sK S i ∧ M (c + 3) i = sG S i ∧ M (c + 4) i = sM S i ∧ M (c + 5) i = sC S i
/-- the reference's row z holds S -/
def rM (M : cm_M) (z : Int) (S : sS) : Prop := M z 3 = sN S ∧ (∀ j, 0 ≤ j → j < 3 → M z j = sT S j) ∧ ∀ i, 0 ≤ i → i < sN S → M z (4 + 4 * i) = sK S i ∧ M z (4 + 4 * i + 1) = sG S i ∧ M z (4 + 4 * i + 2) = sM S i ∧ M z (4 + 4 * i + 3) = sC S i
theorem cm_sum0 : cm_sum [] ≤ 8 := Nat.zero_le _
