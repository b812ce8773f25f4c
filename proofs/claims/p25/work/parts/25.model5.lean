/-! ===== the reference: changes ===== -/
section MODEL5
variable {G : cm_G} {M : cm_M} {m i j t v w g h s n k u : Int} {S : sS} {A : sA} {Q : Option cm_V → cm_G → cm_M → Prop}
/-- a cue is written -/
theorem rM_cue {M : cm_M} {z : Int} (hR : rM M z S) (hi : 0 ≤ i ∧ i < sN S) : rM (cm_up M z (4 + 4 * i + 3) v) z (sCue S i v) := by
  obtain ⟨q1, q2, q3⟩ := hR
  unfold rM
  rw [cm_req]
  dsimp only
  refine ⟨by rw [if_neg (by omega)]; exact q1, fun j a b => by rw [if_neg (by omega)]; exact q2 j a b, fun j a b => ?_⟩
  obtain ⟨c1, c2, c3, c4⟩ := q3 j a b
  rw [if_neg (by omega), if_neg (by omega), if_neg (by omega)]
  refine ⟨c1, c2, c3, ?_⟩
  show _ = if j = i then v else sC S j
  by_cases hj : j = i
  · rw [if_pos (by omega), if_pos hj]
  · rw [if_neg (by omega), if_neg hj]; exact c4
end MODEL5
