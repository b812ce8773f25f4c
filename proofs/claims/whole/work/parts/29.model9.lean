/-! ===== the reference: counts, and what if ===== -/
theorem sprA_b {S : sS} (hv : vS S) : 0 ≤ sprA S ∧ sprA S ≤ 14408 := by
  have key : ∀ k : Nat, 0 ≤ fP (fun g a => a + spr S g) 0 k ∧ fP (fun g a => a + spr S g) 0 k ≤ 1801 * k := by
    intro k
    induction k with
    | zero => exact ⟨Int.le_refl 0, Int.le_refl 0⟩
    | succ k ih =>
      have hb := (spr_b hv k).1
      have e : fP (fun g a => a + spr S g) 0 (k + 1) = fP (fun g a => a + spr S g) 0 k + spr S k := rfl
      rw [e]
      omega
  have := key 8
  unfold sprA
  omega
theorem cue0 {S : sS} (hv : vS S) {i : Int} : vS (sCue S i 0) := vS_cue hv (by omega)
noncomputable def bstep (S : sS) (i : Int) (p : Int × Int) : Int × Int := if sC S i = 0 then p else if p.1 = -6 ∨ sprA (sCue S i 0) < p.2 then (i, sprA (sCue S i 0)) else p
noncomputable def xBlame (S : sS) (w : Int) : Int := ite' (0 ≤ w ∧ w ≤ 1) (if w = 0 then (fP (bstep S) (-6, -6) (sN S).toNat).1 else (fP (bstep S) (-6, -6) (sN S).toNat).2) (-2)
theorem bstep_b {S : sS} (hv : vS S) : ∀ k : Nat, (-6 ≤ (fP (bstep S) (-6, -6) k).1 ∧ (fP (bstep S) (-6, -6) k).1 < (k : Int)) ∧ -6 ≤ (fP (bstep S) (-6, -6) k).2 ∧ (fP (bstep S) (-6, -6) k).2 ≤ 14408
  | 0 => by
    show (-6 ≤ (-6 : Int) ∧ (-6 : Int) < ((0 : Nat) : Int)) ∧ -6 ≤ (-6 : Int) ∧ (-6 : Int) ≤ 14408
    omega
  | k + 1 => by
    have ih := bstep_b hv k
    have hb := sprA_b (cue0 hv (i := k))
    have e : fP (bstep S) (-6, -6) (k + 1) = bstep S k (fP (bstep S) (-6, -6) k) := rfl
    rw [e]
    generalize fP (bstep S) (-6, -6) k = p at *
    unfold bstep
    by_cases h1 : sC S k = 0
    · rw [if_pos h1]; omega
    · rw [if_neg h1]
      by_cases h2 : p.1 = -6 ∨ sprA (sCue S k 0) < p.2
      · rw [if_pos h2]
        dsimp only
        omega
      · rw [if_neg h2]; omega
def shows (S : sS) (t : Int) : Prop := ∀ i, 0 ≤ i → i < sN S → sK S i = 0 → t ≤ eI S i
/-- without cues, with another speed -/
def sFast (S : sS) (v : Int) : sS := sSet (sCu S (fun _ => 0)) 1 v
theorem vS_fast {S : sS} (hv : vS S) {v : Int} (h : 1 ≤ v ∧ v ≤ 30) : vS (sFast S v) := by
  have h1 : vS (sCu S (fun _ => 0)) := by
    obtain ⟨h1, h2, h3, h4, h5, h6⟩ := hv
    exact ⟨h1, h2, h3, h4, h5, fun i a b => ⟨(h6 i a b).1, (h6 i a b).2.1, (h6 i a b).2.2.1, (h6 i a b).2.2.2.1, Int.le_refl 0, by show (0 : Int) ≤ 30; omega⟩⟩
  refine vS_set h1 ⟨by omega, ?_, ?_⟩
  · rw [if_neg (by omega)]; exact h.1
  · rw [if_neg (by omega), if_pos rfl]; exact h.2
noncomputable def xFor (S : sS) (t : Int) : Int := ite' (1 ≤ t ∧ t ≤ 200) (lstOf (fun v => 1 ≤ v ∧ shows (sFast S v) t) 31) (-2)
noncomputable def xIf (S : sS) (i v : Int) : Int := ite' (0 ≤ i ∧ i < sN S) (ite' (1 ≤ v ∧ v ≤ 30) (eI (sSet S 1 v) i) (-2)) (-1)
noncomputable def cstep (S : sS) (i g v : Int) (p : Int × Int) : Int × Int := if p.1 = -6 ∨ spr (sCue S i v) g < p.2 then (v, spr (sCue S i v) g) else p
/-- the speeds from 30 down to v + 1 -/
noncomputable def cUp (S : sS) (i g v : Int) : Int × Int := fP (fun k p => cstep S i g (30 - k) p) (-6, -6) (30 - v).toNat
noncomputable def xBest (S : sS) (i g w : Int) : Int := ite' (0 ≤ i ∧ i < sN S) (ite' ((0 ≤ g ∧ g ≤ 7) ∧ 0 ≤ w ∧ w ≤ 1) (if w = 0 then (cUp S i g 0).1 else (cUp S i g 0).2) (-2)) (-1)
theorem cUp_s {S : sS} {i g v : Int} (h : v ≤ 30) : cUp S i g (v - 1) = cstep S i g v (cUp S i g v) := by
  unfold cUp
  have e := fP_s (fun k p => cstep S i g (30 - k) p) (-6, -6) (i := 30 - v) (by omega)
  rw [show 30 - (v - 1) = 30 - v + 1 by omega, e]
  rw [show 30 - (30 - v) = v by omega]
theorem cUp_b {S : sS} (hv : vS S) {i g : Int} : ∀ k : Nat, k ≤ 30 → ((cUp S i g (30 - (k : Int))).1 = -6 ∨ (1 ≤ (cUp S i g (30 - (k : Int))).1 ∧ (cUp S i g (30 - (k : Int))).1 ≤ 30)) ∧ -6 ≤ (cUp S i g (30 - (k : Int))).2 ∧ (cUp S i g (30 - (k : Int))).2 ≤ 1801
  | 0, _ => by
    have e : cUp S i g (30 - ((0 : Nat) : Int)) = (-6, -6) := rfl
    rw [e]
    dsimp only
    omega
  | k + 1, hk => by
    have ih := cUp_b hv (i := i) (g := g) k (by omega)
    have hb := (spr_b (vS_cue hv (i := i) (v := 30 - (k : Int)) (by omega)) g).1
    rw [show (30 : Int) - ((k + 1 : Nat) : Int) = 30 - (k : Int) - 1 by omega, cUp_s (by omega)]
    generalize cUp S i g (30 - (k : Int)) = p at *
    unfold cstep
    by_cases h2 : p.1 = -6 ∨ spr (sCue S i (30 - (k : Int))) g < p.2
    · rw [if_pos h2]
      dsimp only
      omega
    · rw [if_neg h2]; omega
section MODEL9
variable {G : cm_G} {M : cm_M} {m i j t v w g h s n k u a b : Int} {S : sS} {A : sA} {Q : Option cm_V → cm_G → cm_M → Prop}
theorem q_count (hm : isM G m) (hA : rMA M m A) (hv : vA A) (hw : cm_in w) (K : ∀ M', rMA M' m A → fr M M' m (m + 11) → Q (some (0, xCount A w)) G M') : Go 123 0 [some (2, m), some (0, w), none] [] G M Q := by
  have hm' := hm
  obtain ⟨h0, hsh, ⟨e0, e1, e2, e3, e5, e7, e8, e9, e10, e12, e13⟩, a0, a1, a2, a3, a5, a7, a8, a9, a10, a12, a13⟩ := hm
  have hA' := hA
  obtain ⟨b1, b2, b3, b4, b5⟩ := hA
  have hn1 := hv.1.2.1
  have hn0 := hv.1.1
  unfold xCount at K
  simp (disch := omega) only [g123_0, g123_1, g123_2, g123_7, g123_10, g123_14, g123_17, g123_18, g123_19, g123_84, g123_85, g123_88, g123_89, g123_90, g123_91, g123_92, g123_96, g123_97, g123_98, g123_101, g123_102, g123_105, g123_106, g123_107, g123_108, g123_109, g123_110, g123_111, g123_115, g123_116, g123_120, g123_121, g123_122, g123_126, g123_127, g123_128, g123_131, g123_132, g123_134, g123_135, g123_136, g123_137, g123_138, g123_141, g123_142, g123_143, g123_146, g123_147, g123_149, Option.toList_some, Option.toList_none, List.cons_append, List.nil_append, true_and, and_true, true_or, or_true, eq_self, ci0, ci1, cin6, forall_const, not_true_eq_false, not_false_eq_true, fimp, timp, i10, i01, cm_rne, and_assoc]
  refine c123_4 (Nat.le_of_ble_eq_true rfl) (q_in hw ⟨by decide, by decide⟩ ⟨by decide, by decide⟩ (fun h1 => ?_) (fun h1 => ?_)) <;> simp (disch := omega) only [g123_0, g123_1, g123_2, g123_7, g123_10, g123_14, g123_17, g123_18, g123_19, g123_84, g123_85, g123_88, g123_89, g123_90, g123_91, g123_92, g123_96, g123_97, g123_98, g123_101, g123_102, g123_105, g123_106, g123_107, g123_108, g123_109, g123_110, g123_111, g123_115, g123_116, g123_120, g123_121, g123_122, g123_126, g123_127, g123_128, g123_131, g123_132, g123_134, g123_135, g123_136, g123_137, g123_138, g123_141, g123_142, g123_143, g123_146, g123_147, g123_149, Option.toList_some, Option.toList_none, List.cons_append, List.nil_append, true_and, and_true, true_or, or_true, eq_self, ci0, ci1, cin6, forall_const, not_true_eq_false, not_false_eq_true, fimp, timp, i10, i01, cm_rne, and_assoc]
  · refine c123_11 (by decide) hsh (q_run hm' b1 hv.1 (fun M1 rn f1 => ?_))
    have hR1 : rM M1 (m + 1) (aS A) := rM_fr b1 (f1.1 _ (by omega) (by omega))
    obtain ⟨k1, k2⟩ := rMA_q hA' f1.s hR1
    have K1 := K M1 k1 k2
    have hT : tks M1 m (aS A) := fun i a b => (rn.2 i a b).1
    rw [if_neg (by omega), if_neg (by omega)] at K1
    simp (disch := omega) only [g123_0, g123_1, g123_2, g123_7, g123_10, g123_14, g123_17, g123_18, g123_19, g123_84, g123_85, g123_88, g123_89, g123_90, g123_91, g123_92, g123_96, g123_97, g123_98, g123_101, g123_102, g123_105, g123_106, g123_107, g123_108, g123_109, g123_110, g123_111, g123_115, g123_116, g123_120, g123_121, g123_122, g123_126, g123_127, g123_128, g123_131, g123_132, g123_134, g123_135, g123_136, g123_137, g123_138, g123_141, g123_142, g123_143, g123_146, g123_147, g123_149, Option.toList_some, Option.toList_none, List.cons_append, List.nil_append, true_and, and_true, true_or, or_true, eq_self, ci0, ci1, cin6, forall_const, not_true_eq_false, not_false_eq_true, fimp, timp, i10, i01, cm_rne, and_assoc]
    by_cases w2 : w = 2
    · rw [if_pos w2] at K1
      refine go_table hq123 k123_20 hw (Or.inr (Or.inr (by rw [w2]; decide))) (tgt := 97) (by rw [w2]; decide) ?_
      simp (disch := omega) only [g123_0, g123_1, g123_2, g123_7, g123_10, g123_14, g123_17, g123_18, g123_19, g123_84, g123_85, g123_88, g123_89, g123_90, g123_91, g123_92, g123_96, g123_97, g123_98, g123_101, g123_102, g123_105, g123_106, g123_107, g123_108, g123_109, g123_110, g123_111, g123_115, g123_116, g123_120, g123_121, g123_122, g123_126, g123_127, g123_128, g123_131, g123_132, g123_134, g123_135, g123_136, g123_137, g123_138, g123_141, g123_142, g123_143, g123_146, g123_147, g123_149, Option.toList_some, Option.toList_none, List.cons_append, List.nil_append, true_and, and_true, true_or, or_true, eq_self, ci0, ci1, cin6, forall_const, not_true_eq_false, not_false_eq_true, fimp, timp, i10, i01, cm_rne, and_assoc, hsh, e0, a0, e7, a7, hR1.1, rn.1 (sN (aS A)) hn0 (by omega)]
      (repeat' apply And.intro) <;> (try omega) <;> (try (intro hx; exfalso; omega))
    rw [if_neg w2] at K1
    by_cases w3 : w = 3
    · rw [if_pos w3] at K1
      refine go_table hq123 k123_20 hw (Or.inr (Or.inr (by rw [w3]; decide))) (tgt := 109) (by rw [w3]; decide) ?_
      simp (disch := omega) only [g123_0, g123_1, g123_2, g123_7, g123_10, g123_14, g123_17, g123_18, g123_19, g123_84, g123_85, g123_88, g123_89, g123_90, g123_91, g123_92, g123_96, g123_97, g123_98, g123_101, g123_102, g123_105, g123_106, g123_107, g123_108, g123_109, g123_110, g123_111, g123_115, g123_116, g123_120, g123_121, g123_122, g123_126, g123_127, g123_128, g123_131, g123_132, g123_134, g123_135, g123_136, g123_137, g123_138, g123_141, g123_142, g123_143, g123_146, g123_147, g123_149, Option.toList_some, Option.toList_none, List.cons_append, List.nil_append, true_and, and_true, true_or, or_true, eq_self, ci0, ci1, cin6, forall_const, not_true_eq_false, not_false_eq_true, fimp, timp, i10, i01, cm_rne, and_assoc]
      exact K1
    rw [if_neg w3] at K1
    by_cases w4 : w = 4
    · rw [if_pos w4] at K1
      refine go_table hq123 k123_20 hw (Or.inr (Or.inr (by rw [w4]; decide))) (tgt := 111) (by rw [w4]; decide) ?_
      simp (disch := omega) only [g123_0, g123_1, g123_2, g123_7, g123_10, g123_14, g123_17, g123_18, g123_19, g123_84, g123_85, g123_88, g123_89, g123_90, g123_91, g123_92, g123_96, g123_97, g123_98, g123_101, g123_102, g123_105, g123_106, g123_107, g123_108, g123_109, g123_110, g123_111, g123_115, g123_116, g123_120, g123_121, g123_122, g123_126, g123_127, g123_128, g123_131, g123_132, g123_134, g123_135, g123_136, g123_137, g123_138, g123_141, g123_142, g123_143, g123_146, g123_147, g123_149, Option.toList_some, Option.toList_none, List.cons_append, List.nil_append, true_and, and_true, true_or, or_true, eq_self, ci0, ci1, cin6, forall_const, not_true_eq_false, not_false_eq_true, fimp, timp, i10, i01, cm_rne, and_assoc]
      refine c123_112 (by decide) hsh (q_unequal hm' hR1 hv.1 hT ?_)
      simp (disch := omega) only [g123_0, g123_1, g123_2, g123_7, g123_10, g123_14, g123_17, g123_18, g123_19, g123_84, g123_85, g123_88, g123_89, g123_90, g123_91, g123_92, g123_96, g123_97, g123_98, g123_101, g123_102, g123_105, g123_106, g123_107, g123_108, g123_109, g123_110, g123_111, g123_115, g123_116, g123_120, g123_121, g123_122, g123_126, g123_127, g123_128, g123_131, g123_132, g123_134, g123_135, g123_136, g123_137, g123_138, g123_141, g123_142, g123_143, g123_146, g123_147, g123_149, Option.toList_some, Option.toList_none, List.cons_append, List.nil_append, true_and, and_true, true_or, or_true, eq_self, ci0, ci1, cin6, forall_const, not_true_eq_false, not_false_eq_true, fimp, timp, i10, i01, cm_rne, and_assoc]
      exact K1
    rw [if_neg w4] at K1
    by_cases w5 : w = 5
    · rw [if_pos w5] at K1
      refine go_table hq123 k123_20 hw (Or.inr (Or.inr (by rw [w5]; decide))) (tgt := 116) (by rw [w5]; decide) ?_
      simp (disch := omega) only [g123_0, g123_1, g123_2, g123_7, g123_10, g123_14, g123_17, g123_18, g123_19, g123_84, g123_85, g123_88, g123_89, g123_90, g123_91, g123_92, g123_96, g123_97, g123_98, g123_101, g123_102, g123_105, g123_106, g123_107, g123_108, g123_109, g123_110, g123_111, g123_115, g123_116, g123_120, g123_121, g123_122, g123_126, g123_127, g123_128, g123_131, g123_132, g123_134, g123_135, g123_136, g123_137, g123_138, g123_141, g123_142, g123_143, g123_146, g123_147, g123_149, Option.toList_some, Option.toList_none, List.cons_append, List.nil_append, true_and, and_true, true_or, or_true, eq_self, ci0, ci1, cin6, forall_const, not_true_eq_false, not_false_eq_true, fimp, timp, i10, i01, cm_rne, and_assoc]
      refine c123_117 (by decide) hsh (q_cues hm' hR1 hv.1 ?_)
      simp (disch := omega) only [g123_0, g123_1, g123_2, g123_7, g123_10, g123_14, g123_17, g123_18, g123_19, g123_84, g123_85, g123_88, g123_89, g123_90, g123_91, g123_92, g123_96, g123_97, g123_98, g123_101, g123_102, g123_105, g123_106, g123_107, g123_108, g123_109, g123_110, g123_111, g123_115, g123_116, g123_120, g123_121, g123_122, g123_126, g123_127, g123_128, g123_131, g123_132, g123_134, g123_135, g123_136, g123_137, g123_138, g123_141, g123_142, g123_143, g123_146, g123_147, g123_149, Option.toList_some, Option.toList_none, List.cons_append, List.nil_append, true_and, and_true, true_or, or_true, eq_self, ci0, ci1, cin6, forall_const, not_true_eq_false, not_false_eq_true, fimp, timp, i10, i01, cm_rne, and_assoc]
      exact K1
    rw [if_neg w5, if_pos (by omega)] at K1
    have w6 : w = 6 := by omega
    refine go_table hq123 k123_20 hw (Or.inr (Or.inr (by rw [w6]; decide))) (tgt := 121) (by rw [w6]; decide) ?_
    simp (disch := omega) only [g123_0, g123_1, g123_2, g123_7, g123_10, g123_14, g123_17, g123_18, g123_19, g123_84, g123_85, g123_88, g123_89, g123_90, g123_91, g123_92, g123_96, g123_97, g123_98, g123_101, g123_102, g123_105, g123_106, g123_107, g123_108, g123_109, g123_110, g123_111, g123_115, g123_116, g123_120, g123_121, g123_122, g123_126, g123_127, g123_128, g123_131, g123_132, g123_134, g123_135, g123_136, g123_137, g123_138, g123_141, g123_142, g123_143, g123_146, g123_147, g123_149, Option.toList_some, Option.toList_none, List.cons_append, List.nil_append, true_and, and_true, true_or, or_true, eq_self, ci0, ci1, cin6, forall_const, not_true_eq_false, not_false_eq_true, fimp, timp, i10, i01, cm_rne, and_assoc]
    refine c123_123 (by decide) hsh (q_names1 hm' hR1 hv.1 hT ?_)
    simp (disch := omega) only [g123_0, g123_1, g123_2, g123_7, g123_10, g123_14, g123_17, g123_18, g123_19, g123_84, g123_85, g123_88, g123_89, g123_90, g123_91, g123_92, g123_96, g123_97, g123_98, g123_101, g123_102, g123_105, g123_106, g123_107, g123_108, g123_109, g123_110, g123_111, g123_115, g123_116, g123_120, g123_121, g123_122, g123_126, g123_127, g123_128, g123_131, g123_132, g123_134, g123_135, g123_136, g123_137, g123_138, g123_141, g123_142, g123_143, g123_146, g123_147, g123_149, Option.toList_some, Option.toList_none, List.cons_append, List.nil_append, true_and, and_true, true_or, or_true, eq_self, ci0, ci1, cin6, forall_const, not_true_eq_false, not_false_eq_true, fimp, timp, i10, i01, cm_rne, and_assoc]
    exact K1
  · have K1 := K M hA' fr.rf
    by_cases w0 : w = 0
    · rw [if_pos w0] at K1
      refine go_table hq123 k123_20 hw (Or.inr (Or.inr (by rw [w0]; decide))) (tgt := 84) (by rw [w0]; decide) ?_
      simp (disch := omega) only [g123_0, g123_1, g123_2, g123_7, g123_10, g123_14, g123_17, g123_18, g123_19, g123_84, g123_85, g123_88, g123_89, g123_90, g123_91, g123_92, g123_96, g123_97, g123_98, g123_101, g123_102, g123_105, g123_106, g123_107, g123_108, g123_109, g123_110, g123_111, g123_115, g123_116, g123_120, g123_121, g123_122, g123_126, g123_127, g123_128, g123_131, g123_132, g123_134, g123_135, g123_136, g123_137, g123_138, g123_141, g123_142, g123_143, g123_146, g123_147, g123_149, Option.toList_some, Option.toList_none, List.cons_append, List.nil_append, true_and, and_true, true_or, or_true, eq_self, ci0, ci1, cin6, forall_const, not_true_eq_false, not_false_eq_true, fimp, timp, i10, i01, cm_rne, and_assoc, hsh, e0, a0, b1.1]
      (repeat' apply And.intro) <;> (try omega) <;> (try (intro hx; exfalso; omega))
    rw [if_neg w0] at K1
    by_cases w1 : w = 1
    · rw [if_pos w1] at K1
      refine go_table hq123 k123_20 hw (Or.inr (Or.inr (by rw [w1]; decide))) (tgt := 91) (by rw [w1]; decide) ?_
      simp (disch := omega) only [g123_0, g123_1, g123_2, g123_7, g123_10, g123_14, g123_17, g123_18, g123_19, g123_84, g123_85, g123_88, g123_89, g123_90, g123_91, g123_92, g123_96, g123_97, g123_98, g123_101, g123_102, g123_105, g123_106, g123_107, g123_108, g123_109, g123_110, g123_111, g123_115, g123_116, g123_120, g123_121, g123_122, g123_126, g123_127, g123_128, g123_131, g123_132, g123_134, g123_135, g123_136, g123_137, g123_138, g123_141, g123_142, g123_143, g123_146, g123_147, g123_149, Option.toList_some, Option.toList_none, List.cons_append, List.nil_append, true_and, and_true, true_or, or_true, eq_self, ci0, ci1, cin6, forall_const, not_true_eq_false, not_false_eq_true, fimp, timp, i10, i01, cm_rne, and_assoc]
      refine c123_93 (by decide) hsh (q_names0 hm' b1 hv.1 ?_)
      simp (disch := omega) only [g123_0, g123_1, g123_2, g123_7, g123_10, g123_14, g123_17, g123_18, g123_19, g123_84, g123_85, g123_88, g123_89, g123_90, g123_91, g123_92, g123_96, g123_97, g123_98, g123_101, g123_102, g123_105, g123_106, g123_107, g123_108, g123_109, g123_110, g123_111, g123_115, g123_116, g123_120, g123_121, g123_122, g123_126, g123_127, g123_128, g123_131, g123_132, g123_134, g123_135, g123_136, g123_137, g123_138, g123_141, g123_142, g123_143, g123_146, g123_147, g123_149, Option.toList_some, Option.toList_none, List.cons_append, List.nil_append, true_and, and_true, true_or, or_true, eq_self, ci0, ci1, cin6, forall_const, not_true_eq_false, not_false_eq_true, fimp, timp, i10, i01, cm_rne, and_assoc]
      exact K1
    rw [if_neg w1, if_neg (by omega), if_neg (by omega), if_neg (by omega), if_neg (by omega), if_neg (by omega)] at K1
    by_cases w7 : w = 7
    · rw [if_pos w7] at K1
      refine go_table hq123 k123_20 hw (Or.inr (Or.inr (by rw [w7]; decide))) (tgt := 127) (by rw [w7]; decide) ?_
      simp (disch := omega) only [g123_0, g123_1, g123_2, g123_7, g123_10, g123_14, g123_17, g123_18, g123_19, g123_84, g123_85, g123_88, g123_89, g123_90, g123_91, g123_92, g123_96, g123_97, g123_98, g123_101, g123_102, g123_105, g123_106, g123_107, g123_108, g123_109, g123_110, g123_111, g123_115, g123_116, g123_120, g123_121, g123_122, g123_126, g123_127, g123_128, g123_131, g123_132, g123_134, g123_135, g123_136, g123_137, g123_138, g123_141, g123_142, g123_143, g123_146, g123_147, g123_149, Option.toList_some, Option.toList_none, List.cons_append, List.nil_append, true_and, and_true, true_or, or_true, eq_self, ci0, ci1, cin6, forall_const, not_true_eq_false, not_false_eq_true, fimp, timp, i10, i01, cm_rne, and_assoc, hsh, e0, a0]
      (repeat' apply And.intro) <;> (try omega) <;> (try (intro hx; exfalso; omega))
      rw [show w - 7 = 0 by omega, b1.2.1 0 (by decide) (by decide)]
      exact K1
    rw [if_neg w7] at K1
    by_cases w8 : w = 8
    · rw [if_pos w8] at K1
      refine go_table hq123 k123_20 hw (Or.inr (Or.inr (by rw [w8]; decide))) (tgt := 127) (by rw [w8]; decide) ?_
      simp (disch := omega) only [g123_0, g123_1, g123_2, g123_7, g123_10, g123_14, g123_17, g123_18, g123_19, g123_84, g123_85, g123_88, g123_89, g123_90, g123_91, g123_92, g123_96, g123_97, g123_98, g123_101, g123_102, g123_105, g123_106, g123_107, g123_108, g123_109, g123_110, g123_111, g123_115, g123_116, g123_120, g123_121, g123_122, g123_126, g123_127, g123_128, g123_131, g123_132, g123_134, g123_135, g123_136, g123_137, g123_138, g123_141, g123_142, g123_143, g123_146, g123_147, g123_149, Option.toList_some, Option.toList_none, List.cons_append, List.nil_append, true_and, and_true, true_or, or_true, eq_self, ci0, ci1, cin6, forall_const, not_true_eq_false, not_false_eq_true, fimp, timp, i10, i01, cm_rne, and_assoc, hsh, e0, a0]
      (repeat' apply And.intro) <;> (try omega) <;> (try (intro hx; exfalso; omega))
      rw [show w - 7 = 1 by omega, b1.2.1 1 (by decide) (by decide)]
      exact K1
    rw [if_neg w8] at K1
    by_cases w9 : w = 9
    · rw [if_pos w9] at K1
      refine go_table hq123 k123_20 hw (Or.inr (Or.inr (by rw [w9]; decide))) (tgt := 127) (by rw [w9]; decide) ?_
      simp (disch := omega) only [g123_0, g123_1, g123_2, g123_7, g123_10, g123_14, g123_17, g123_18, g123_19, g123_84, g123_85, g123_88, g123_89, g123_90, g123_91, g123_92, g123_96, g123_97, g123_98, g123_101, g123_102, g123_105, g123_106, g123_107, g123_108, g123_109, g123_110, g123_111, g123_115, g123_116, g123_120, g123_121, g123_122, g123_126, g123_127, g123_128, g123_131, g123_132, g123_134, g123_135, g123_136, g123_137, g123_138, g123_141, g123_142, g123_143, g123_146, g123_147, g123_149, Option.toList_some, Option.toList_none, List.cons_append, List.nil_append, true_and, and_true, true_or, or_true, eq_self, ci0, ci1, cin6, forall_const, not_true_eq_false, not_false_eq_true, fimp, timp, i10, i01, cm_rne, and_assoc, hsh, e0, a0]
      (repeat' apply And.intro) <;> (try omega) <;> (try (intro hx; exfalso; omega))
      rw [show w - 7 = 2 by omega, b1.2.1 2 (by decide) (by decide)]
      exact K1
    rw [if_neg w9] at K1
    by_cases w10 : w = 10
    · rw [if_pos w10] at K1
      refine go_table hq123 k123_20 hw (Or.inr (Or.inr (by rw [w10]; decide))) (tgt := 137) (by rw [w10]; decide) ?_
      simp (disch := omega) only [g123_0, g123_1, g123_2, g123_7, g123_10, g123_14, g123_17, g123_18, g123_19, g123_84, g123_85, g123_88, g123_89, g123_90, g123_91, g123_92, g123_96, g123_97, g123_98, g123_101, g123_102, g123_105, g123_106, g123_107, g123_108, g123_109, g123_110, g123_111, g123_115, g123_116, g123_120, g123_121, g123_122, g123_126, g123_127, g123_128, g123_131, g123_132, g123_134, g123_135, g123_136, g123_137, g123_138, g123_141, g123_142, g123_143, g123_146, g123_147, g123_149, Option.toList_some, Option.toList_none, List.cons_append, List.nil_append, true_and, and_true, true_or, or_true, eq_self, ci0, ci1, cin6, forall_const, not_true_eq_false, not_false_eq_true, fimp, timp, i10, i01, cm_rne, and_assoc, hsh, b4]
      exact K1
    rw [if_neg w10] at K1
    by_cases w11 : w = 11
    · rw [if_pos w11] at K1
      refine go_table hq123 k123_20 hw (Or.inr (Or.inr (by rw [w11]; decide))) (tgt := 142) (by rw [w11]; decide) ?_
      simp (disch := omega) only [g123_0, g123_1, g123_2, g123_7, g123_10, g123_14, g123_17, g123_18, g123_19, g123_84, g123_85, g123_88, g123_89, g123_90, g123_91, g123_92, g123_96, g123_97, g123_98, g123_101, g123_102, g123_105, g123_106, g123_107, g123_108, g123_109, g123_110, g123_111, g123_115, g123_116, g123_120, g123_121, g123_122, g123_126, g123_127, g123_128, g123_131, g123_132, g123_134, g123_135, g123_136, g123_137, g123_138, g123_141, g123_142, g123_143, g123_146, g123_147, g123_149, Option.toList_some, Option.toList_none, List.cons_append, List.nil_append, true_and, and_true, true_or, or_true, eq_self, ci0, ci1, cin6, forall_const, not_true_eq_false, not_false_eq_true, fimp, timp, i10, i01, cm_rne, and_assoc, hsh, b2.1]
      exact K1
    rw [if_neg w11] at K1
    refine go_table hq123 k123_20 hw (by omega) (tgt := 147) (by rw [cm_tab_d (by omega)]; decide) ?_
    simp (disch := omega) only [g123_0, g123_1, g123_2, g123_7, g123_10, g123_14, g123_17, g123_18, g123_19, g123_84, g123_85, g123_88, g123_89, g123_90, g123_91, g123_92, g123_96, g123_97, g123_98, g123_101, g123_102, g123_105, g123_106, g123_107, g123_108, g123_109, g123_110, g123_111, g123_115, g123_116, g123_120, g123_121, g123_122, g123_126, g123_127, g123_128, g123_131, g123_132, g123_134, g123_135, g123_136, g123_137, g123_138, g123_141, g123_142, g123_143, g123_146, g123_147, g123_149, Option.toList_some, Option.toList_none, List.cons_append, List.nil_append, true_and, and_true, true_or, or_true, eq_self, ci0, ci1, cin6, forall_const, not_true_eq_false, not_false_eq_true, fimp, timp, i10, i01, cm_rne, and_assoc]
    exact K1
theorem q_seenIf (hm : isM G m) (hA : rMA M m A) (hv : vA A) (hi : cm_in i) (hw : cm_in v) (K : ∀ M', rMA M' m A → fr M M' m (m + 11) → Q (some (0, xIf (aS A) i v)) G M') : Go 128 0 [some (2, m), some (0, i), some (0, v), none] [] G M Q := by
  have hm' := hm
  obtain ⟨h0, hsh, ⟨e0, e1, e2, e3, e5, e7, e8, e9, e10, e12, e13⟩, a0, a1, a2, a3, a5, a7, a8, a9, a10, a12, a13⟩ := hm
  have hA' := hA
  obtain ⟨b1, b2, b3, b4, b5⟩ := hA
  have hn1 := hv.1.2.1
  have hn0 := hv.1.1
  unfold xIf at K
  simp (disch := omega) only [g128_0, g128_1, g128_5, g128_8, g128_9, g128_10, g128_14, g128_17, g128_19, g128_20, g128_21, g128_24, g128_25, g128_26, g128_27, g128_28, g128_31, g128_32, g128_33, g128_34, g128_38, g128_39, g128_40, g128_43, g128_44, g128_45, g128_46, g128_47, g128_50, g128_51, g128_52, Option.toList_some, Option.toList_none, List.cons_append, List.nil_append, true_and, and_true, true_or, or_true, eq_self, ci0, ci1, cin6, forall_const, not_true_eq_false, not_false_eq_true, fimp, timp, i10, i01, cm_rne, and_assoc]
  refine c128_2 (by decide) hsh (q_isLine hm' b1 hv.1 hi (fun h1 => ?_) (fun h1 => ?_)) <;> simp (disch := omega) only [g128_0, g128_1, g128_5, g128_8, g128_9, g128_10, g128_14, g128_17, g128_19, g128_20, g128_21, g128_24, g128_25, g128_26, g128_27, g128_28, g128_31, g128_32, g128_33, g128_34, g128_38, g128_39, g128_40, g128_43, g128_44, g128_45, g128_46, g128_47, g128_50, g128_51, g128_52, Option.toList_some, Option.toList_none, List.cons_append, List.nil_append, true_and, and_true, true_or, or_true, eq_self, ci0, ci1, cin6, forall_const, not_true_eq_false, not_false_eq_true, fimp, timp, i10, i01, cm_rne, and_assoc]
  · rw [ite'_p h1] at K
    refine c128_11 (by decide) (q_isSpeed hw (fun h2 => ?_) (fun h2 => ?_)) <;> simp (disch := omega) only [g128_0, g128_1, g128_5, g128_8, g128_9, g128_10, g128_14, g128_17, g128_19, g128_20, g128_21, g128_24, g128_25, g128_26, g128_27, g128_28, g128_31, g128_32, g128_33, g128_34, g128_38, g128_39, g128_40, g128_43, g128_44, g128_45, g128_46, g128_47, g128_50, g128_51, g128_52, Option.toList_some, Option.toList_none, List.cons_append, List.nil_append, true_and, and_true, true_or, or_true, eq_self, ci0, ci1, cin6, forall_const, not_true_eq_false, not_false_eq_true, fimp, timp, i10, i01, cm_rne, and_assoc, hsh, e0, a0]
    · rw [ite'_p h2] at K
      (repeat' apply And.intro) <;> (try omega) <;> (try (intro hx; exfalso; omega))
      have hvs : vS (sSet (aS A) 1 v) := vS_set hv.1 ⟨by omega, by rw [if_neg (by omega)]; exact h2.1, by rw [if_neg (by omega), if_pos rfl]; exact h2.2⟩
      refine c128_35 (by decide) hsh (q_run hm' (rM_set b1 (by omega)) hvs (fun M1 rn f1 => ?_))
      have hR1 : rM M1 (m + 1) (sSet (aS A) 1 v) := rM_fr (rM_set b1 (by omega)) (f1.1 _ (by omega) (by omega))
      have hb : rM (cm_up M1 (m + 1) 1 (M (m + 1) 1)) (m + 1) (aS A) := by
        rw [b1.2.1 1 (by decide) (by decide)]
        exact rM_eq (rM_set hR1 (by omega)) eqS_setB
      have fs : frS M (cm_up M1 (m + 1) 1 (M (m + 1) 1)) m := ((frS.of (fun k a => cm_rne a)).tr f1.s).tr (frS.of (fun k a => cm_rne a))
      obtain ⟨k1, k2⟩ := rMA_q hA' fs hb
      have K1 := K _ k1 k2
      simp (disch := omega) only [g128_0, g128_1, g128_5, g128_8, g128_9, g128_10, g128_14, g128_17, g128_19, g128_20, g128_21, g128_24, g128_25, g128_26, g128_27, g128_28, g128_31, g128_32, g128_33, g128_34, g128_38, g128_39, g128_40, g128_43, g128_44, g128_45, g128_46, g128_47, g128_50, g128_51, g128_52, Option.toList_some, Option.toList_none, List.cons_append, List.nil_append, true_and, and_true, true_or, or_true, eq_self, ci0, ci1, cin6, forall_const, not_true_eq_false, not_false_eq_true, fimp, timp, i10, i01, cm_rne, and_assoc, hsh, e0, a0, e8, a8, (rn.2 i h1.1 h1.2).1]
      (repeat' apply And.intro) <;> (try omega) <;> (try (intro hx; exfalso; omega))
    · rw [ite'_n h2] at K
      exact K M hA' fr.rf
  · rw [ite'_n h1] at K
    exact K M hA' fr.rf
theorem q_bestCue (hm : isM G m) (hA : rMA M m A) (hv : vA A) (hi : cm_in i) (hg : cm_in g) (hw : cm_in w) (K : ∀ M', rMA M' m A → fr M M' m (m + 11) → Q (some (0, xBest (aS A) i g w)) G M') : Go 129 0 [some (2, m), some (0, i), some (0, g), some (0, w), none, none, none, none, none, none] [] G M Q := by
  have hm' := hm
  obtain ⟨h0, hsh, ⟨e0, e1, e2, e3, e5, e7, e8, e9, e10, e12, e13⟩, a0, a1, a2, a3, a5, a7, a8, a9, a10, a12, a13⟩ := hm
  have hA' := hA
  obtain ⟨b1, b2, b3, b4, b5⟩ := hA
  have hn1 := hv.1.2.1
  have hn0 := hv.1.1
  unfold xBest at K
  simp (disch := omega) only [g129_0, g129_1, g129_5, g129_8, g129_9, g129_10, g129_14, g129_17, g129_18, g129_19, g129_23, g129_26, g129_28, g129_29, g129_30, g129_31, g129_35, g129_37, g129_39, g129_41, g129_43, g129_45, g129_47, g129_51, g129_52, g129_55, g129_56, g129_59, g129_60, g129_61, g129_62, g129_63, g129_64, g129_65, g129_66, g129_68, g129_69, g129_73, g129_74, g129_75, g129_79, g129_81, g129_83, g129_85, g129_88, g129_90, g129_92, g129_95, g129_96, g129_99, g129_100, g129_102, g129_104, g129_107, g129_109, g129_112, g129_114, g129_116, g129_118, g129_121, g129_123, g129_126, g129_128, g129_130, g129_133, g129_136, g129_137, g129_140, g129_141, g129_142, g129_143, g129_144, g129_145, g129_146, g129_147, g129_149, g129_150, g129_151, g129_154, g129_156, g129_159, g129_161, Option.toList_some, Option.toList_none, List.cons_append, List.nil_append, true_and, and_true, true_or, or_true, eq_self, ci0, ci1, cin6, forall_const, not_true_eq_false, not_false_eq_true, fimp, timp, i10, i01, cm_rne, and_assoc]
  refine c129_2 (by decide) hsh (q_isLine hm' b1 hv.1 hi (fun h1 => ?_) (fun h1 => ?_)) <;> simp (disch := omega) only [g129_0, g129_1, g129_5, g129_8, g129_9, g129_10, g129_14, g129_17, g129_18, g129_19, g129_23, g129_26, g129_28, g129_29, g129_30, g129_31, g129_35, g129_37, g129_39, g129_41, g129_43, g129_45, g129_47, g129_51, g129_52, g129_55, g129_56, g129_59, g129_60, g129_61, g129_62, g129_63, g129_64, g129_65, g129_66, g129_68, g129_69, g129_73, g129_74, g129_75, g129_79, g129_81, g129_83, g129_85, g129_88, g129_90, g129_92, g129_95, g129_96, g129_99, g129_100, g129_102, g129_104, g129_107, g129_109, g129_112, g129_114, g129_116, g129_118, g129_121, g129_123, g129_126, g129_128, g129_130, g129_133, g129_136, g129_137, g129_140, g129_141, g129_142, g129_143, g129_144, g129_145, g129_146, g129_147, g129_149, g129_150, g129_151, g129_154, g129_156, g129_159, g129_161, Option.toList_some, Option.toList_none, List.cons_append, List.nil_append, true_and, and_true, true_or, or_true, eq_self, ci0, ci1, cin6, forall_const, not_true_eq_false, not_false_eq_true, fimp, timp, i10, i01, cm_rne, and_assoc]
  · rw [ite'_p h1] at K
    refine c129_11 (by decide) (q_isGroup hg (fun h2 => ?_) (fun h2 => ?_)) <;> simp (disch := omega) only [g129_0, g129_1, g129_5, g129_8, g129_9, g129_10, g129_14, g129_17, g129_18, g129_19, g129_23, g129_26, g129_28, g129_29, g129_30, g129_31, g129_35, g129_37, g129_39, g129_41, g129_43, g129_45, g129_47, g129_51, g129_52, g129_55, g129_56, g129_59, g129_60, g129_61, g129_62, g129_63, g129_64, g129_65, g129_66, g129_68, g129_69, g129_73, g129_74, g129_75, g129_79, g129_81, g129_83, g129_85, g129_88, g129_90, g129_92, g129_95, g129_96, g129_99, g129_100, g129_102, g129_104, g129_107, g129_109, g129_112, g129_114, g129_116, g129_118, g129_121, g129_123, g129_126, g129_128, g129_130, g129_133, g129_136, g129_137, g129_140, g129_141, g129_142, g129_143, g129_144, g129_145, g129_146, g129_147, g129_149, g129_150, g129_151, g129_154, g129_156, g129_159, g129_161, Option.toList_some, Option.toList_none, List.cons_append, List.nil_append, true_and, and_true, true_or, or_true, eq_self, ci0, ci1, cin6, forall_const, not_true_eq_false, not_false_eq_true, fimp, timp, i10, i01, cm_rne, and_assoc]
    · refine c129_20 (Nat.le_of_ble_eq_true rfl) (q_in hw cn0 cn1 (fun h3 => ?_) (fun h3 => ?_)) <;> simp (disch := omega) only [g129_0, g129_1, g129_5, g129_8, g129_9, g129_10, g129_14, g129_17, g129_18, g129_19, g129_23, g129_26, g129_28, g129_29, g129_30, g129_31, g129_35, g129_37, g129_39, g129_41, g129_43, g129_45, g129_47, g129_51, g129_52, g129_55, g129_56, g129_59, g129_60, g129_61, g129_62, g129_63, g129_64, g129_65, g129_66, g129_68, g129_69, g129_73, g129_74, g129_75, g129_79, g129_81, g129_83, g129_85, g129_88, g129_90, g129_92, g129_95, g129_96, g129_99, g129_100, g129_102, g129_104, g129_107, g129_109, g129_112, g129_114, g129_116, g129_118, g129_121, g129_123, g129_126, g129_128, g129_130, g129_133, g129_136, g129_137, g129_140, g129_141, g129_142, g129_143, g129_144, g129_145, g129_146, g129_147, g129_149, g129_150, g129_151, g129_154, g129_156, g129_159, g129_161, Option.toList_some, Option.toList_none, List.cons_append, List.nil_append, true_and, and_true, true_or, or_true, eq_self, ci0, ci1, cin6, forall_const, not_true_eq_false, not_false_eq_true, fimp, timp, i10, i01, cm_rne, and_assoc]
      · rw [ite'_p ⟨h2, h3⟩] at K
        refine c129_32 (by decide) hsh (q_cu hm' b1 hv.1 h1 ?_)
        simp (disch := omega) only [g129_0, g129_1, g129_5, g129_8, g129_9, g129_10, g129_14, g129_17, g129_18, g129_19, g129_23, g129_26, g129_28, g129_29, g129_30, g129_31, g129_35, g129_37, g129_39, g129_41, g129_43, g129_45, g129_47, g129_51, g129_52, g129_55, g129_56, g129_59, g129_60, g129_61, g129_62, g129_63, g129_64, g129_65, g129_66, g129_68, g129_69, g129_73, g129_74, g129_75, g129_79, g129_81, g129_83, g129_85, g129_88, g129_90, g129_92, g129_95, g129_96, g129_99, g129_100, g129_102, g129_104, g129_107, g129_109, g129_112, g129_114, g129_116, g129_118, g129_121, g129_123, g129_126, g129_128, g129_130, g129_133, g129_136, g129_137, g129_140, g129_141, g129_142, g129_143, g129_144, g129_145, g129_146, g129_147, g129_149, g129_150, g129_151, g129_154, g129_156, g129_159, g129_161, Option.toList_some, Option.toList_none, List.cons_append, List.nil_append, true_and, and_true, true_or, or_true, eq_self, ci0, ci1, cin6, forall_const, not_true_eq_false, not_false_eq_true, fimp, timp, i10, i01, cm_rne, and_assoc]
        refine go_loopD (σ := Option cm_V × Option cm_V × cm_M) (fun v s => [some (2, m), some (0, i), some (0, g), some (0, w), some (0, sC (aS A) i), some (0, (cUp (aS A) i g v).1), some (0, (cUp (aS A) i g v).2), some (0, v), s.1, s.2.1]) (fun s => s.2.2) (fun v s => v ≤ 30 ∧ frS M s.2.2 m ∧ ∃ c, rM s.2.2 (m + 1) (sCue (aS A) i c)) 0 (fun v s hi0 hRs ih => ?_) (fun s hRs => ?_) 30 (none, none, M) (by omega) ⟨by omega, frS.rf, sC (aS A) i, rM_eq b1 ⟨rfl, fun j _ _ => rfl, fun j _ _ => ⟨rfl, rfl, rfl, ?_⟩⟩⟩
        · obtain ⟨x8, x9, s⟩ := s
          obtain ⟨u1, u2, c, u3⟩ := hRs
          dsimp only at u1 u2 u3 ⊢
          have hbb := cUp_b hv.1 (i := i) (g := g) (30 - v).toNat (by omega)
          rw [show (30 : Int) - ((30 - v).toNat : Int) = v by omega] at hbb
          have stp := cUp_s (S := aS A) (i := i) (g := g) u1
          have hvc : vS (sCue (aS A) i v) := vS_cue hv.1 (by omega)
          have hsp := (spr_b hvc g).1
          rw [g129_49]
          simp (disch := omega) only [g129_0, g129_1, g129_5, g129_8, g129_9, g129_10, g129_14, g129_17, g129_18, g129_19, g129_23, g129_26, g129_28, g129_29, g129_30, g129_31, g129_35, g129_37, g129_39, g129_41, g129_43, g129_45, g129_47, g129_51, g129_52, g129_55, g129_56, g129_59, g129_60, g129_61, g129_62, g129_63, g129_64, g129_65, g129_66, g129_68, g129_69, g129_73, g129_74, g129_75, g129_79, g129_81, g129_83, g129_85, g129_88, g129_90, g129_92, g129_95, g129_96, g129_99, g129_100, g129_102, g129_104, g129_107, g129_109, g129_112, g129_114, g129_116, g129_118, g129_121, g129_123, g129_126, g129_128, g129_130, g129_133, g129_136, g129_137, g129_140, g129_141, g129_142, g129_143, g129_144, g129_145, g129_146, g129_147, g129_149, g129_150, g129_151, g129_154, g129_156, g129_159, g129_161, Option.toList_some, Option.toList_none, List.cons_append, List.nil_append, true_and, and_true, true_or, or_true, eq_self, ci0, ci1, cin6, forall_const, not_true_eq_false, not_false_eq_true, fimp, timp, i10, i01, cm_rne, and_assoc, hsh, e0, a0]
          (repeat' apply And.intro) <;> (try omega) <;> (try (intro hx; exfalso; omega))
          intro _
          (repeat' apply And.intro) <;> (try omega) <;> (try (intro hx; exfalso; omega))
          have hR1 : rM (cm_up s (m + 1) (4 + 4 * i + 3) v) (m + 1) (sCue (aS A) i v) := rM_eq (rM_cue u3 h1) eqS_cue
          refine c129_70 (by decide) hsh (q_run hm' hR1 hvc (fun M1 rn f1 => ?_))
          have hR2 : rM M1 (m + 1) (sCue (aS A) i v) := rM_fr hR1 (f1.1 _ (by omega) (by omega))
          have hT : tks M1 m (sCue (aS A) i v) := fun i a b => (rn.2 i a b).1
          have fs : frS M M1 m := (u2.tr (frS.of (fun k a => cm_rne a))).tr f1.s
          simp (disch := omega) only [g129_0, g129_1, g129_5, g129_8, g129_9, g129_10, g129_14, g129_17, g129_18, g129_19, g129_23, g129_26, g129_28, g129_29, g129_30, g129_31, g129_35, g129_37, g129_39, g129_41, g129_43, g129_45, g129_47, g129_51, g129_52, g129_55, g129_56, g129_59, g129_60, g129_61, g129_62, g129_63, g129_64, g129_65, g129_66, g129_68, g129_69, g129_73, g129_74, g129_75, g129_79, g129_81, g129_83, g129_85, g129_88, g129_90, g129_92, g129_95, g129_96, g129_99, g129_100, g129_102, g129_104, g129_107, g129_109, g129_112, g129_114, g129_116, g129_118, g129_121, g129_123, g129_126, g129_128, g129_130, g129_133, g129_136, g129_137, g129_140, g129_141, g129_142, g129_143, g129_144, g129_145, g129_146, g129_147, g129_149, g129_150, g129_151, g129_154, g129_156, g129_159, g129_161, Option.toList_some, Option.toList_none, List.cons_append, List.nil_append, true_and, and_true, true_or, or_true, eq_self, ci0, ci1, cin6, forall_const, not_true_eq_false, not_false_eq_true, fimp, timp, i10, i01, cm_rne, and_assoc]
          refine c129_76 (by decide) hsh (q_spread hm' hR2 hvc hT h2 ?_)
          rw [stp] at ih
          generalize cUp (aS A) i g v = p at *
          unfold cstep at ih
          simp (disch := omega) only [g129_0, g129_1, g129_5, g129_8, g129_9, g129_10, g129_14, g129_17, g129_18, g129_19, g129_23, g129_26, g129_28, g129_29, g129_30, g129_31, g129_35, g129_37, g129_39, g129_41, g129_43, g129_45, g129_47, g129_51, g129_52, g129_55, g129_56, g129_59, g129_60, g129_61, g129_62, g129_63, g129_64, g129_65, g129_66, g129_68, g129_69, g129_73, g129_74, g129_75, g129_79, g129_81, g129_83, g129_85, g129_88, g129_90, g129_92, g129_95, g129_96, g129_99, g129_100, g129_102, g129_104, g129_107, g129_109, g129_112, g129_114, g129_116, g129_118, g129_121, g129_123, g129_126, g129_128, g129_130, g129_133, g129_136, g129_137, g129_140, g129_141, g129_142, g129_143, g129_144, g129_145, g129_146, g129_147, g129_149, g129_150, g129_151, g129_154, g129_156, g129_159, g129_161, Option.toList_some, Option.toList_none, List.cons_append, List.nil_append, true_and, and_true, true_or, or_true, eq_self, ci0, ci1, cin6, forall_const, not_true_eq_false, not_false_eq_true, fimp, timp, i10, i01, cm_rne, and_assoc]
          (repeat' apply And.intro) <;> (try omega) <;> (try (intro hx; exfalso; omega))
          · intro h6
            rw [if_pos (Or.inl h6)] at ih
            exact ih (_, _, M1) ⟨by omega, fs, v, hR2⟩
          · intro h6
            (repeat' apply And.intro) <;> (try omega) <;> (try (intro hx; exfalso; omega))
            · intro h7
              rw [if_neg (by omega)] at ih
              exact ih (_, _, M1) ⟨by omega, fs, v, hR2⟩
            · intro h7
              rw [if_pos (Or.inr h7)] at ih
              exact ih (_, _, M1) ⟨by omega, fs, v, hR2⟩
        · obtain ⟨x8, x9, s⟩ := s
          obtain ⟨u1, u2, c, u3⟩ := hRs
          dsimp only at u1 u2 u3 ⊢
          obtain ⟨k1, k2⟩ := rMA_q hA' (u2.tr (frS.of (fun k a => cm_rne a))) (rM_eq (rM_cue (v := sC (aS A) i) u3 h1) eqS_cueB)
          have K1 := K _ k1 k2
          rw [g129_49]
          simp (disch := omega) only [g129_0, g129_1, g129_5, g129_8, g129_9, g129_10, g129_14, g129_17, g129_18, g129_19, g129_23, g129_26, g129_28, g129_29, g129_30, g129_31, g129_35, g129_37, g129_39, g129_41, g129_43, g129_45, g129_47, g129_51, g129_52, g129_55, g129_56, g129_59, g129_60, g129_61, g129_62, g129_63, g129_64, g129_65, g129_66, g129_68, g129_69, g129_73, g129_74, g129_75, g129_79, g129_81, g129_83, g129_85, g129_88, g129_90, g129_92, g129_95, g129_96, g129_99, g129_100, g129_102, g129_104, g129_107, g129_109, g129_112, g129_114, g129_116, g129_118, g129_121, g129_123, g129_126, g129_128, g129_130, g129_133, g129_136, g129_137, g129_140, g129_141, g129_142, g129_143, g129_144, g129_145, g129_146, g129_147, g129_149, g129_150, g129_151, g129_154, g129_156, g129_159, g129_161, Option.toList_some, Option.toList_none, List.cons_append, List.nil_append, true_and, and_true, true_or, or_true, eq_self, ci0, ci1, cin6, forall_const, not_true_eq_false, not_false_eq_true, fimp, timp, i10, i01, cm_rne, and_assoc, hsh, e0, a0]
          (repeat' apply And.intro) <;> (try omega) <;> (try (intro hx; exfalso; omega))
          intro _
          (repeat' apply And.intro) <;> (try omega) <;> (try (intro hx; exfalso; omega))
          · intro hz
            rw [if_neg hz] at K1
            exact K1
          · intro hz
            rw [if_pos hz] at K1
            exact K1
        · show sC (aS A) j = if j = i then sC (aS A) i else sC (aS A) j
          by_cases hj : j = i
          · rw [if_pos hj, hj]
          · rw [if_neg hj]
      · rw [ite'_n (fun z => h3 z.2)] at K
        exact K M hA' fr.rf
    · rw [ite'_n (fun z => h2 z.1)] at K
      exact K M hA' fr.rf
  · rw [ite'_n h1] at K
    exact K M hA' fr.rf
end MODEL9
