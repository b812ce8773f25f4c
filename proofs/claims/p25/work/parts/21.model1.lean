section MODEL
variable {G : cm_G} {M : cm_M} {m i j t v w g : Int} {S : sS} {Q : Option cm_V → cm_G → cm_M → Prop}
theorem seen_iff (hv : vS S) (n : Nat) : seen S n i ↔ 10 * tI S (i + 1) ≤ pos S (sN S).toNat n ∧ pos S (sN S).toNat n ≤ 10 * (tI S i + sT S 0) := by
  have h1 := tau_iff hv (10 * tI S (i + 1)) n
  have h2 := tau_iff hv (10 * (tI S i + sT S 0) + 1) n
  unfold seen eI fI
  omega
/-! at the time t: for how many ticks so far, since when, until when -/
noncomputable def tkT (S : sS) (i t : Int) : Int := if t < fI S i then 0 else if t < fI S i + eI S i then t - fI S i + 1 else eI S i
noncomputable def ftT (S : sS) (i t : Int) : Int := if t < fI S i ∨ eI S i = 0 then -6 else fI S i
noncomputable def ltT (S : sS) (i t : Int) : Int := if t < fI S i ∨ eI S i = 0 then -6 else if t < fI S i + eI S i then t else fI S i + eI S i - 1
theorem tk0 (h : eI S i = 0) (t : Int) : tkT S i t = 0 := by
  unfold tkT
  by_cases h1 : t < fI S i
  · rw [if_pos h1]
  · rw [if_neg h1, if_neg (by omega)]; exact h
end MODEL
