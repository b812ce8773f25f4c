/-! ===== the reference: blame, the speed for all ===== -/
section MODEL10
variable {G : cm_G} {M : cm_M} {m i j t v w g h s n k u a b : Int} {S : sS} {A : sA} {Q : Option cm_V → cm_G → cm_M → Prop}
/-- some cues are gone -/
def sGone (S : sS) (k : Int) : sS := sCu S (fun j => if j < k then 0 else sC S j)
theorem eqS_gone {S : sS} {k : Int} : eqS (sCue (sGone S k) k 0) (sGone S (k + 1)) := by
  refine ⟨rfl, fun j _ _ => rfl, fun j _ _ => ⟨rfl, rfl, rfl, ?_⟩⟩
  show (if j = k then 0 else if j < k then 0 else sC S j) = if j < k + 1 then 0 else sC S j
  omega
/-- .. and some have come again -/
def sBack (S : sS) (k : Int) : sS := sCu S (fun j => if j < k then sC S j else 0)
theorem eqS_back {S : sS} {k : Int} : eqS (sCue (sBack S k) k (sC S k)) (sBack S (k + 1)) := by
  refine ⟨rfl, fun j _ _ => rfl, fun j _ _ => ⟨rfl, rfl, rfl, ?_⟩⟩
  show (if j = k then sC S k else if j < k then sC S j else 0) = if j < k + 1 then sC S j else 0
  by_cases h : j = k
  · rw [if_pos h, if_pos (by omega), h]
  · rw [if_neg h]
    omega
theorem vS_gone {S : sS} (hv : vS S) {k : Int} : vS (sGone S k) := by
  obtain ⟨h1, h2, h3, h4, h5, h6⟩ := hv
  refine ⟨h1, h2, h3, h4, h5, fun i a b => ⟨(h6 i a b).1, (h6 i a b).2.1, (h6 i a b).2.2.1, (h6 i a b).2.2.2.1, ?_, ?_⟩⟩
  · have := (h6 i a b).2.2.2.2
    show 0 ≤ if i < k then 0 else sC S i
    omega
  · have := (h6 i a b).2.2.2.2
    show (if i < k then 0 else sC S i) ≤ 30
    omega
end MODEL10
