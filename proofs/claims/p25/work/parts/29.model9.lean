/-! ===== the reference: counts, and what if ===== -/
theorem sprA_b {S : sS} (hv : vS S) : 0 ≤ sprA S ∧ sprA S ≤ 14408 := by
  have key : ∀ k : Nat, 0 ≤ fP (fun g a => a + spr S g) 0 k ∧ fP (fun g a => a + spr S g) 0 k ≤ 1801 * k := by
    intro k
    induction k with
    | zero => exact ⟨Int.le_refl 0, Int.le_refl 0⟩
    | succ k ih =>
      have hb := (spr_b hv k).1
      have e : fP (fun g a => a + spr S g) 0 (k + 1) = fP (fun g a => a + spr S g) 0 k + spr S k := rfl
      rw [e]
      omega
  have := key 8
  unfold sprA
  omega
theorem cue0 {S : sS} (hv : vS S) {i : Int} : vS (sCue S i 0) := vS_cue hv (by omega)
noncomputable def bstep (S : sS) (i : Int) (p : Int × Int) : Int × Int := if sC S i = 0 then p else if p.1 = -6 ∨ sprA (sCue S i 0) < p.2 then (i, sprA (sCue S i 0)) else p
noncomputable def xBlame (S : sS) (w : Int) : Int := ite' (0 ≤ w ∧ w ≤ 1) (if w = 0 then (fP (bstep S) (-6, -6) (sN S).toNat).1 else (fP (bstep S) (-6, -6) (sN S).toNat).2) (-2)
theorem bstep_b {S : sS} (hv : vS S) : ∀ k : Nat, (-6 ≤ (fP (bstep S) (-6, -6) k).1 ∧ (fP (bstep S) (-6, -6) k).1 < (k : Int)) ∧ -6 ≤ (fP (bstep S) (-6, -6) k).2 ∧ (fP (bstep S) (-6, -6) k).2 ≤ 14408
  | 0 => by
    show (-6 ≤ (-6 : Int) ∧ (-6 : Int) < ((0 : Nat) : Int)) ∧ -6 ≤ (-6 : Int) ∧ (-6 : Int) ≤ 14408
    omega
  | k + 1 => by
    have ih := bstep_b hv k
    have hb := sprA_b (cue0 hv (i := k))
    have e : fP (bstep S) (-6, -6) (k + 1) = bstep S k (fP (bstep S) (-6, -6) k) := rfl
    rw [e]
    generalize fP (bstep S) (-6, -6) k = p at *
    unfold bstep
    by_cases h1 : sC S k = 0
    · rw [if_pos h1]; omega
    · rw [if_neg h1]
      by_cases h2 : p.1 = -6 ∨ sprA (sCue S k 0) < p.2
      · rw [if_pos h2]
        dsimp only
        omega
      · rw [if_neg h2]; omega
def shows (S : sS) (t : Int) : Prop := ∀ i, 0 ≤ i → i < sN S → sK S i = 0 → t ≤ eI S i
/-- without cues, with another speed -/
def sFast (S : sS) (v : Int) : sS := sSet (sCu S (fun _ => 0)) 1 v
theorem vS_fast {S : sS} (hv : vS S) {v : Int} (h : 1 ≤ v ∧ v ≤ 30) : vS (sFast S v) := by
  have h1 : vS (sCu S (fun _ => 0)) := by
    obtain ⟨h1, h2, h3, h4, h5, h6⟩ := hv
    exact ⟨h1, h2, h3, h4, h5, fun i a b => ⟨(h6 i a b).1, (h6 i a b).2.1, (h6 i a b).2.2.1, (h6 i a b).2.2.2.1, Int.le_refl 0, by show (0 : Int) ≤ 30; omega⟩⟩
  refine vS_set h1 ⟨by omega, ?_, ?_⟩
  · rw [if_neg (by omega)]; exact h.1
  · rw [if_neg (by omega), if_pos rfl]; exact h.2
noncomputable def xFor (S : sS) (t : Int) : Int := ite' (1 ≤ t ∧ t ≤ 200) (lstOf (fun v => 1 ≤ v ∧ shows (sFast S v) t) 31) (-2)
noncomputable def xIf (S : sS) (i v : Int) : Int := ite' (0 ≤ i ∧ i < sN S) (ite' (1 ≤ v ∧ v ≤ 30) (eI (sSet S 1 v) i) (-2)) (-1)
noncomputable def cstep (S : sS) (i g v : Int) (p : Int × Int) : Int × Int := if p.1 = -6 ∨ spr (sCue S i v) g < p.2 then (v, spr (sCue S i v) g) else p
/-- the speeds from 30 down to v + 1 -/
noncomputable def cUp (S : sS) (i g v : Int) : Int × Int := fP (fun k p => cstep S i g (30 - k) p) (-6, -6) (30 - v).toNat
noncomputable def xBest (S : sS) (i g w : Int) : Int := ite' (0 ≤ i ∧ i < sN S) (ite' ((0 ≤ g ∧ g ≤ 7) ∧ 0 ≤ w ∧ w ≤ 1) (if w = 0 then (cUp S i g 0).1 else (cUp S i g 0).2) (-2)) (-1)
theorem cUp_s {S : sS} {i g v : Int} (h : v ≤ 30) : cUp S i g (v - 1) = cstep S i g v (cUp S i g v) := by
  unfold cUp
  have e := fP_s (fun k p => cstep S i g (30 - k) p) (-6, -6) (i := 30 - v) (by omega)
  rw [show 30 - (v - 1) = 30 - v + 1 by omega, e]
  rw [show 30 - (30 - v) = v by omega]
theorem cUp_b {S : sS} (hv : vS S) {i g : Int} : ∀ k : Nat, k ≤ 30 → ((cUp S i g (30 - (k : Int))).1 = -6 ∨ (1 ≤ (cUp S i g (30 - (k : Int))).1 ∧ (cUp S i g (30 - (k : Int))).1 ≤ 30)) ∧ -6 ≤ (cUp S i g (30 - (k : Int))).2 ∧ (cUp S i g (30 - (k : Int))).2 ≤ 1801
  | 0, _ => by
    have e : cUp S i g (30 - ((0 : Nat) : Int)) = (-6, -6) := rfl
    rw [e]
    dsimp only
    omega
  | k + 1, hk => by
    have ih := cUp_b hv (i := i) (g := g) k (by omega)
    have hb := (spr_b (vS_cue hv (i := i) (v := 30 - (k : Int)) (by omega)) g).1
    rw [show (30 : Int) - ((k + 1 : Nat) : Int) = 30 - (k : Int) - 1 by omega, cUp_s (by omega)]
    generalize cUp S i g (30 - (k : Int)) = p at *
    unfold cstep
    by_cases h2 : p.1 = -6 ∨ spr (sCue S i (30 - (k : Int))) g < p.2
    · rw [if_pos h2]
      dsimp only
      omega
    · rw [if_neg h2]; omega
section MODEL9
variable {G : cm_G} {M : cm_M} {m i j t v w g h s n k u a b : Int} {S : sS} {A : sA} {Q : Option cm_V → cm_G → cm_M → Prop}
end MODEL9
