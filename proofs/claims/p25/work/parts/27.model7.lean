/-! ===== the reference: turning, and questions ===== -/
theorem cm_tab_d {d lo hi' x : Int} {offs : Array Int} (h : x < lo ∨ hi' < x) : cm_tab d lo hi' offs x = d := by
  unfold cm_tab
  rw [if_pos h]
theorem rM_eq {M : cm_M} {z : Int} {S T : sS} (h : rM M z S) (e : eqS S T) : rM M z T := by
  obtain ⟨r1, r2, r3⟩ := h
  obtain ⟨e1, e2, e3⟩ := e
  refine ⟨r1.trans e1, fun j h0 h3 => (r2 j h0 h3).trans (e2 j h0 h3), fun i h0 hn => ?_⟩
  obtain ⟨a1, a2, a3, a4⟩ := r3 i h0 (by omega)
  obtain ⟨b1, b2, b3, b4⟩ := e3 i h0 (by omega)
  exact ⟨a1.trans b1, a2.trans b2, a3.trans b3, a4.trans b4⟩
theorem eqS_cue {S : sS} {i v w : Int} : eqS (sCue (sCue S i v) i w) (sCue S i w) := by
  refine ⟨rfl, fun j _ _ => rfl, fun j _ _ => ⟨rfl, rfl, rfl, ?_⟩⟩
  show (if j = i then w else if j = i then v else sC S j) = if j = i then w else sC S j
  by_cases h : j = i
  · rw [if_pos h, if_pos h]
  · rw [if_neg h, if_neg h, if_neg h]
theorem eqS_cueB {S : sS} {i v : Int} : eqS (sCue (sCue S i v) i (sC S i)) S := by
  refine ⟨rfl, fun j _ _ => rfl, fun j _ _ => ⟨rfl, rfl, rfl, ?_⟩⟩
  show (if j = i then sC S i else if j = i then v else sC S j) = sC S j
  by_cases h : j = i
  · rw [if_pos h, h]
  · rw [if_neg h, if_neg h]
theorem eqS_setB {S : sS} {i v : Int} : eqS (sSet (sSet S i v) i (sT S i)) S := by
  refine ⟨rfl, fun j _ _ => ?_, fun j _ _ => ⟨rfl, rfl, rfl, rfl⟩⟩
  show (if j = i then sT S i else if j = i then v else sT S j) = sT S j
  by_cases h : j = i
  · rw [if_pos h, h]
  · rw [if_neg h, if_neg h]
theorem rM_set {M : cm_M} {z i v : Int} {S : sS} (hR : rM M z S) (hi : 0 ≤ i ∧ i < 3) : rM (cm_up M z i v) z (sSet S i v) := by
  obtain ⟨q1, q2, q3⟩ := hR
  unfold rM
  rw [cm_req]
  dsimp only
  refine ⟨by rw [if_neg (by omega)]; exact q1, fun j a b => ?_, fun j a b => ?_⟩
  · show (if j = i then v else M z j) = if j = i then v else sT S j
    by_cases hj : j = i
    · rw [if_pos hj, if_pos hj]
    · rw [if_neg hj, if_neg hj]; exact q2 j a b
  · rw [if_neg (by omega), if_neg (by omega), if_neg (by omega), if_neg (by omega)]
    exact q3 j a b
theorem ls6 {S : sS} {g : Int} : ∀ k : Nat, fP (lstep S (eI S) g) (-6) k = -6 ↔ ∀ j, 0 ≤ j → j < (k : Int) → ¬ sG S j = g
  | 0 => ⟨fun _ j a b => absurd a (by omega), fun _ => rfl⟩
  | k + 1 => by
    have ih := ls6 (S := S) (g := g) k
    have e : fP (lstep S (eI S) g) (-6) (k + 1) = lstep S (eI S) g k (fP (lstep S (eI S) g) (-6) k) := rfl
    rw [e]
    generalize fP (lstep S (eI S) g) (-6) k = x at *
    unfold lstep
    by_cases h : sG S k = g
    · rw [if_pos h]
      refine ⟨fun z => ?_, fun z => absurd h (z k (by omega) (by omega))⟩
      by_cases h6 : x = -6
      · rw [if_pos h6] at z; omega
      · rw [if_neg h6] at z
        by_cases h7 : eI S k < eI S x
        · rw [if_pos h7] at z; omega
        · rw [if_neg h7] at z; exact absurd z h6
    · rw [if_neg h]
      refine ⟨fun z j a b => ?_, fun z => ih.mpr (fun j a b => z j a (by omega))⟩
      by_cases hj : j = k
      · rw [hj]; exact h
      · exact ih.mp z j a (by omega)
theorem cntb (P : Int → Int) (g : Int) : ∀ k : Nat, fP (fun i a => if P i = g then a + 1 else a) (0 : Int) k ≤ (k : Int)
  | 0 => Int.le_refl 0
  | k + 1 => by
    have ih := cntb P g k
    have e : fP (fun i a => if P i = g then a + 1 else a) (0 : Int) (k + 1) = if P k = g then fP (fun i a => if P i = g then a + 1 else a) (0 : Int) k + 1 else fP (fun i a => if P i = g then a + 1 else a) 0 k := rfl
    rw [e]
    omega
noncomputable def xOf (S : sS) (i w : Int) : Int := ite' (0 ≤ i ∧ i < sN S) (if w = 0 then sK S i else if w = 1 then sG S i else if w = 2 then sM S i else if w = 3 then sC S i else if w = 4 then tI S i else if w = 5 then sH S i else if w = 6 then eI S i else if w = 7 then (if eI S i = 0 then -6 else fI S i) else if w = 8 then (if eI S i = 0 then -6 else fI S i + eI S i - 1) else -2) (-1)
noncomputable def nameAt (S : sS) (g : Int) : Int := fstOf (fun j => sG S j = g) (sN S)
noncomputable def xGroup (S : sS) (g w : Int) : Int := ite' (0 ≤ g ∧ g ≤ 7) (if w = 0 then fP (fun i a => if sG S i = g then a + 1 else a) 0 (sN S).toNat else if w = 1 then spr S g else if w = 2 then (if nameAt S g = -6 then -6 else lsO S g) else if w = 3 then lsL S g else if w = 4 then (if nameAt S g = -6 then -6 else sM S (nameAt S g)) else -2) (-2)
noncomputable def xAt (S : sS) (t w : Int) : Int := ite' (0 ≤ t ∧ t ≤ 9999) (if w = 0 then fstOf (seen S t) (sN S) else if w = 1 then lstOf (seen S t) (sN S) else if w = 2 then cntP (seen S t) (sN S).toNat else if w = 3 then sp S (sN S).toNat (pos S (sN S).toNat t.toNat) else if w = 4 then pos S (sN S).toNat t.toNat else -2) (-2)
noncomputable def xCount (A : sA) (w : Int) : Int := if w = 0 then sN (aS A) else if w = 1 then fP (fun i a => if sK (aS A) i = 0 then a + 1 else a) 0 (sN (aS A)).toNat else if w = 2 then tI (aS A) (sN (aS A)) else if w = 3 then aI (aS A) else if w = 4 then uneq (aS A) else if w = 5 then fP (fun i a => if sC (aS A) i = 0 then a else a + 1) 0 (sN (aS A)).toNat else if w = 6 then never (aS A) else if w = 7 then sT (aS A) 0 else if w = 8 then sT (aS A) 1 else if w = 9 then sT (aS A) 2 else if w = 10 then aN A else if w = 11 then aH A else -2
section MODEL7
variable {G : cm_G} {M : cm_M} {m i j t v w g h s n k u a b : Int} {S : sS} {A : sA} {Q : Option cm_V → cm_G → cm_M → Prop}
end MODEL7
