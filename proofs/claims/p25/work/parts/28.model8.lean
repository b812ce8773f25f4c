/-! ===== the reference: turns, times, counts ===== -/
theorem rst0 {S : sS} {g : Int} : ∀ k : Nat, (∀ j, 0 ≤ j → j < (k : Int) → ¬ sG S j = g) → fP (rstep S g) (sM S, -6) k = (sM S, -6)
  | 0, _ => rfl
  | k + 1, h => by
    have ih := rst0 k (fun j a b => h j a (by omega))
    have e : fP (rstep S g) (sM S, -6) (k + 1) = rstep S g k (fP (rstep S g) (sM S, -6) k) := rfl
    rw [e, ih]
    unfold rstep
    rw [if_neg (h k (by omega) (by omega))]
/-- numbers that may stand -/
theorem vS_nm {S : sS} (h : vS S) {f : Int → Int} (hf : ∀ i, 0 ≤ i → i < sN S → (sK S i = 0 → 0 ≤ f i ∧ f i ≤ 999) ∧ (¬ sK S i = 0 → f i = -6)) : vS (sNm S f) := by
  obtain ⟨h1, h2, h3, h4, h5, h6⟩ := h
  refine ⟨h1, h2, h3, h4, h5, fun i a b => ?_⟩
  obtain ⟨a1, a2, a3, a4, a5, a6⟩ := h6 i a b
  obtain ⟨b1, b2⟩ := hf i a b
  exact ⟨a1, a2, fun z => ⟨(a3 z).1, (a3 z).2.1, b1 z⟩, fun z => ⟨(a4 z).1, b2 z⟩, a5, a6⟩
section MODEL8
variable {G : cm_G} {M : cm_M} {m i j t v w g h s n k u a b : Int} {S : sS} {A : sA} {Q : Option cm_V → cm_G → cm_M → Prop}
theorem rM_num {M : cm_M} {z : Int} {f : Int → Int} (hR : rM M z (sNm S f)) (hi : 0 ≤ i ∧ i < sN S) : rM (cm_up M z (4 + 4 * i + 2) v) z (sNm S (fun j => if j = i then v else f j)) := by
  obtain ⟨q1, q2, q3⟩ := hR
  unfold rM
  rw [cm_req]
  dsimp only
  refine ⟨by rw [if_neg (by omega)]; exact q1, fun j a b => by rw [if_neg (by omega)]; exact q2 j a b, fun j a b => ?_⟩
  obtain ⟨c1, c2, c3, c4⟩ := q3 j a b
  rw [if_neg (by omega), if_neg (by omega), if_neg (show ¬ 4 + 4 * j + 3 = 4 + 4 * i + 2 by omega)]
  refine ⟨c1, c2, ?_, c4⟩
  show _ = if j = i then v else f j
  by_cases hj : j = i
  · rw [if_pos (by omega), if_pos hj]
  · rw [if_neg (by omega), if_neg hj]; exact c3
end MODEL8
