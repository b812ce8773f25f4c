/-! ===== the reference: turning, and questions ===== -/
theorem cm_tab_d {d lo hi' x : Int} {offs : Array Int} (h : x < lo ∨ hi' < x) : cm_tab d lo hi' offs x = d := by
  unfold cm_tab
  rw [if_pos h]
theorem rM_eq {M : cm_M} {z : Int} {S T : sS} (h : rM M z S) (e : eqS S T) : rM M z T := by
  obtain ⟨r1, r2, r3⟩ := h
  obtain ⟨e1, e2, e3⟩ := e
  refine ⟨r1.trans e1, fun j h0 h3 => (r2 j h0 h3).trans (e2 j h0 h3), fun i h0 hn => ?_⟩
  obtain ⟨a1, a2, a3, a4⟩ := r3 i h0 (by omega)
  obtain ⟨b1, b2, b3, b4⟩ := e3 i h0 (by omega)
  exact ⟨a1.trans b1, a2.trans b2, a3.trans b3, a4.trans b4⟩
theorem eqS_cue {S : sS} {i v w : Int} : eqS (sCue (sCue S i v) i w) (sCue S i w) := by
  refine ⟨rfl, fun j _ _ => rfl, fun j _ _ => ⟨rfl, rfl, rfl, ?_⟩⟩
  show (if j = i then w else if j = i then v else sC S j) = if j = i then w else sC S j
  by_cases h : j = i
  · rw [if_pos h, if_pos h]
  · rw [if_neg h, if_neg h, if_neg h]
theorem eqS_cueB {S : sS} {i v : Int} : eqS (sCue (sCue S i v) i (sC S i)) S := by
  refine ⟨rfl, fun j _ _ => rfl, fun j _ _ => ⟨rfl, rfl, rfl, ?_⟩⟩
  show (if j = i then sC S i else if j = i then v else sC S j) = sC S j
  by_cases h : j = i
  · rw [if_pos h, h]
  · rw [if_neg h, if_neg h]
theorem eqS_setB {S : sS} {i v : Int} : eqS (sSet (sSet S i v) i (sT S i)) S := by
  refine ⟨rfl, fun j _ _ => ?_, fun j _ _ => ⟨rfl, rfl, rfl, rfl⟩⟩
  show (if j = i then sT S i else if j = i then v else sT S j) = sT S j
  by_cases h : j = i
  · rw [if_pos h, h]
  · rw [if_neg h, if_neg h]
theorem rM_set {M : cm_M} {z i v : Int} {S : sS} (hR : rM M z S) (hi : 0 ≤ i ∧ i < 3) : rM (cm_up M z i v) z (sSet S i v) := by
  obtain ⟨q1, q2, q3⟩ := hR
  unfold rM
  rw [cm_req]
  dsimp only
  refine ⟨by rw [if_neg (by omega)]; exact q1, fun j a b => ?_, fun j a b => ?_⟩
  · show (if j = i then v else M z j) = if j = i then v else sT S j
    by_cases hj : j = i
    · rw [if_pos hj, if_pos hj]
    · rw [if_neg hj, if_neg hj]; exact q2 j a b
  · rw [if_neg (by omega), if_neg (by omega), if_neg (by omega), if_neg (by omega)]
    exact q3 j a b
theorem ls6 {S : sS} {g : Int} : ∀ k : Nat, fP (lstep S (eI S) g) (-6) k = -6 ↔ ∀ j, 0 ≤ j → j < (k : Int) → ¬ sG S j = g
  | 0 => ⟨fun _ j a b => absurd a (by omega), fun _ => rfl⟩
  | k + 1 => by
    have ih := ls6 (S := S) (g := g) k
    have e : fP (lstep S (eI S) g) (-6) (k + 1) = lstep S (eI S) g k (fP (lstep S (eI S) g) (-6) k) := rfl
    rw [e]
    generalize fP (lstep S (eI S) g) (-6) k = x at *
    unfold lstep
    by_cases h : sG S k = g
    · rw [if_pos h]
      refine ⟨fun z => ?_, fun z => absurd h (z k (by omega) (by omega))⟩
      by_cases h6 : x = -6
      · rw [if_pos h6] at z; omega
      · rw [if_neg h6] at z
        by_cases h7 : eI S k < eI S x
        · rw [if_pos h7] at z; omega
        · rw [if_neg h7] at z; exact absurd z h6
    · rw [if_neg h]
      refine ⟨fun z j a b => ?_, fun z => ih.mpr (fun j a b => z j a (by omega))⟩
      by_cases hj : j = k
      · rw [hj]; exact h
      · exact ih.mp z j a (by omega)
theorem cntb (P : Int → Int) (g : Int) : ∀ k : Nat, fP (fun i a => if P i = g then a + 1 else a) (0 : Int) k ≤ (k : Int)
  | 0 => Int.le_refl 0
  | k + 1 => by
    have ih := cntb P g k
    have e : fP (fun i a => if P i = g then a + 1 else a) (0 : Int) (k + 1) = if P k = g then fP (fun i a => if P i = g then a + 1 else a) (0 : Int) k + 1 else fP (fun i a => if P i = g then a + 1 else a) 0 k := rfl
    rw [e]
    omega
noncomputable def xOf (S : sS) (i w : Int) : Int := ite' (0 ≤ i ∧ i < sN S) (if w = 0 then sK S i else if w = 1 then sG S i else if w = 2 then sM S i else if w = 3 then sC S i else if w = 4 then tI S i else if w = 5 then sH S i else if w = 6 then eI S i else if w = 7 then (if eI S i = 0 then -6 else fI S i) else if w = 8 then (if eI S i = 0 then -6 else fI S i + eI S i - 1) else -2) (-1)
noncomputable def nameAt (S : sS) (g : Int) : Int := fstOf (fun j => sG S j = g) (sN S)
noncomputable def xGroup (S : sS) (g w : Int) : Int := ite' (0 ≤ g ∧ g ≤ 7) (if w = 0 then fP (fun i a => if sG S i = g then a + 1 else a) 0 (sN S).toNat else if w = 1 then spr S g else if w = 2 then (if nameAt S g = -6 then -6 else lsO S g) else if w = 3 then lsL S g else if w = 4 then (if nameAt S g = -6 then -6 else sM S (nameAt S g)) else -2) (-2)
noncomputable def xAt (S : sS) (t w : Int) : Int := ite' (0 ≤ t ∧ t ≤ 9999) (if w = 0 then fstOf (seen S t) (sN S) else if w = 1 then lstOf (seen S t) (sN S) else if w = 2 then cntP (seen S t) (sN S).toNat else if w = 3 then sp S (sN S).toNat (pos S (sN S).toNat t.toNat) else if w = 4 then pos S (sN S).toNat t.toNat else -2) (-2)
noncomputable def xCount (A : sA) (w : Int) : Int := if w = 0 then sN (aS A) else if w = 1 then fP (fun i a => if sK (aS A) i = 0 then a + 1 else a) 0 (sN (aS A)).toNat else if w = 2 then tI (aS A) (sN (aS A)) else if w = 3 then aI (aS A) else if w = 4 then uneq (aS A) else if w = 5 then fP (fun i a => if sC (aS A) i = 0 then a else a + 1) 0 (sN (aS A)).toNat else if w = 6 then never (aS A) else if w = 7 then sT (aS A) 0 else if w = 8 then sT (aS A) 1 else if w = 9 then sT (aS A) 2 else if w = 10 then aN A else if w = 11 then aH A else -2
section MODEL7
variable {G : cm_G} {M : cm_M} {m i j t v w g h s n k u a b : Int} {S : sS} {A : sA} {Q : Option cm_V → cm_G → cm_M → Prop}
theorem q_of (hm : isM G m) (hA : rMA M m A) (hv : vA A) (hi : cm_in i) (hw : cm_in w) (K : ∀ M', rMA M' m A → fr M M' m (m + 11) → Q (some (0, xOf (aS A) i w)) G M') : Go 116 0 [some (2, m), some (0, i), some (0, w)] [] G M Q := by
  have hm' := hm
  obtain ⟨h0, hsh, ⟨e0, e1, e2, e3, e5, e7, e8, e9, e10, e12, e13⟩, a0, a1, a2, a3, a5, a7, a8, a9, a10, a12, a13⟩ := hm
  have hA' := hA
  obtain ⟨b1, b2, b3, b4, b5⟩ := hA
  have hn1 := hv.1.2.1
  have hn0 := hv.1.1
  unfold xOf at K
  simp (disch := omega) only [g116_0, g116_1, g116_5, g116_8, g116_9, g116_10, g116_11, g116_13, g116_16, g116_20, g116_23, g116_27, g116_28, g116_80, g116_81, g116_82, g116_86, g116_87, g116_88, g116_91, g116_92, g116_93, g116_94, g116_95, g116_99, g116_100, g116_101, g116_104, g116_105, g116_106, g116_107, g116_108, g116_111, g116_112, g116_113, g116_114, g116_115, g116_118, g116_119, g116_120, g116_121, g116_123, Option.toList_some, Option.toList_none, List.cons_append, List.nil_append, true_and, and_true, true_or, or_true, eq_self, ci0, ci1, cin6, forall_const, not_true_eq_false, not_false_eq_true, fimp, timp, i10, i01, cm_rne, and_assoc]
  refine c116_2 (by decide) hsh (q_isLine hm' b1 hv.1 hi (fun h1 => ?_) (fun h1 => ?_)) <;> simp (disch := omega) only [g116_0, g116_1, g116_5, g116_8, g116_9, g116_10, g116_11, g116_13, g116_16, g116_20, g116_23, g116_27, g116_28, g116_80, g116_81, g116_82, g116_86, g116_87, g116_88, g116_91, g116_92, g116_93, g116_94, g116_95, g116_99, g116_100, g116_101, g116_104, g116_105, g116_106, g116_107, g116_108, g116_111, g116_112, g116_113, g116_114, g116_115, g116_118, g116_119, g116_120, g116_121, g116_123, Option.toList_some, Option.toList_none, List.cons_append, List.nil_append, true_and, and_true, true_or, or_true, eq_self, ci0, ci1, cin6, forall_const, not_true_eq_false, not_false_eq_true, fimp, timp, i10, i01, cm_rne, and_assoc]
  · rw [ite'_p h1] at K
    (repeat' apply And.intro) <;> (try omega) <;> (try (intro hx; exfalso; omega))
    · intro h6
      refine c116_24 (by decide) hsh (q_run hm' b1 hv.1 (fun M1 rn f1 => ?_))
      have hR1 : rM M1 (m + 1) (aS A) := rM_fr b1 (f1.1 _ (by omega) (by omega))
      obtain ⟨k1, k2⟩ := rMA_q hA' f1.s hR1
      have K1 := K M1 k1 k2
      rw [if_neg (by omega), if_neg (by omega), if_neg (by omega), if_neg (by omega), if_neg (by omega), if_neg (by omega)] at K1
      obtain ⟨t1, t2, t3⟩ := rn.2 i h1.1 h1.2
      simp (disch := omega) only [g116_0, g116_1, g116_5, g116_8, g116_9, g116_10, g116_11, g116_13, g116_16, g116_20, g116_23, g116_27, g116_28, g116_80, g116_81, g116_82, g116_86, g116_87, g116_88, g116_91, g116_92, g116_93, g116_94, g116_95, g116_99, g116_100, g116_101, g116_104, g116_105, g116_106, g116_107, g116_108, g116_111, g116_112, g116_113, g116_114, g116_115, g116_118, g116_119, g116_120, g116_121, g116_123, Option.toList_some, Option.toList_none, List.cons_append, List.nil_append, true_and, and_true, true_or, or_true, eq_self, ci0, ci1, cin6, forall_const, not_true_eq_false, not_false_eq_true, fimp, timp, i10, i01, cm_rne, and_assoc]
      by_cases w6 : w = 6
      · rw [if_pos w6] at K1
        refine go_table hq116 k116_29 hw (Or.inr (Or.inr (by rw [w6]; decide))) (tgt := 100) (by rw [w6]; decide) ?_
        simp (disch := omega) only [g116_0, g116_1, g116_5, g116_8, g116_9, g116_10, g116_11, g116_13, g116_16, g116_20, g116_23, g116_27, g116_28, g116_80, g116_81, g116_82, g116_86, g116_87, g116_88, g116_91, g116_92, g116_93, g116_94, g116_95, g116_99, g116_100, g116_101, g116_104, g116_105, g116_106, g116_107, g116_108, g116_111, g116_112, g116_113, g116_114, g116_115, g116_118, g116_119, g116_120, g116_121, g116_123, Option.toList_some, Option.toList_none, List.cons_append, List.nil_append, true_and, and_true, true_or, or_true, eq_self, ci0, ci1, cin6, forall_const, not_true_eq_false, not_false_eq_true, fimp, timp, i10, i01, cm_rne, and_assoc, hsh, e8, a8, t1]
        (repeat' apply And.intro) <;> (try omega) <;> (try (intro hx; exfalso; omega))
      · rw [if_neg w6] at K1
        by_cases w7 : w = 7
        · rw [if_pos w7] at K1
          refine go_table hq116 k116_29 hw (Or.inr (Or.inr (by rw [w7]; decide))) (tgt := 107) (by rw [w7]; decide) ?_
          simp (disch := omega) only [g116_0, g116_1, g116_5, g116_8, g116_9, g116_10, g116_11, g116_13, g116_16, g116_20, g116_23, g116_27, g116_28, g116_80, g116_81, g116_82, g116_86, g116_87, g116_88, g116_91, g116_92, g116_93, g116_94, g116_95, g116_99, g116_100, g116_101, g116_104, g116_105, g116_106, g116_107, g116_108, g116_111, g116_112, g116_113, g116_114, g116_115, g116_118, g116_119, g116_120, g116_121, g116_123, Option.toList_some, Option.toList_none, List.cons_append, List.nil_append, true_and, and_true, true_or, or_true, eq_self, ci0, ci1, cin6, forall_const, not_true_eq_false, not_false_eq_true, fimp, timp, i10, i01, cm_rne, and_assoc, hsh, e9, a9, t2]
          (repeat' apply And.intro) <;> (try omega) <;> (try (intro hx; exfalso; omega))
        · rw [if_neg w7] at K1
          by_cases w8 : w = 8
          · rw [if_pos w8] at K1
            refine go_table hq116 k116_29 hw (Or.inr (Or.inr (by rw [w8]; decide))) (tgt := 114) (by rw [w8]; decide) ?_
            simp (disch := omega) only [g116_0, g116_1, g116_5, g116_8, g116_9, g116_10, g116_11, g116_13, g116_16, g116_20, g116_23, g116_27, g116_28, g116_80, g116_81, g116_82, g116_86, g116_87, g116_88, g116_91, g116_92, g116_93, g116_94, g116_95, g116_99, g116_100, g116_101, g116_104, g116_105, g116_106, g116_107, g116_108, g116_111, g116_112, g116_113, g116_114, g116_115, g116_118, g116_119, g116_120, g116_121, g116_123, Option.toList_some, Option.toList_none, List.cons_append, List.nil_append, true_and, and_true, true_or, or_true, eq_self, ci0, ci1, cin6, forall_const, not_true_eq_false, not_false_eq_true, fimp, timp, i10, i01, cm_rne, and_assoc, hsh, e10, a10, t3]
            (repeat' apply And.intro) <;> (try omega) <;> (try (intro hx; exfalso; omega))
          · rw [if_neg w8] at K1
            refine go_table hq116 k116_29 hw (Or.inr (Or.inl (by omega))) (tgt := 121) (by rw [cm_tab_d (by omega)]; decide) ?_
            simp (disch := omega) only [g116_0, g116_1, g116_5, g116_8, g116_9, g116_10, g116_11, g116_13, g116_16, g116_20, g116_23, g116_27, g116_28, g116_80, g116_81, g116_82, g116_86, g116_87, g116_88, g116_91, g116_92, g116_93, g116_94, g116_95, g116_99, g116_100, g116_101, g116_104, g116_105, g116_106, g116_107, g116_108, g116_111, g116_112, g116_113, g116_114, g116_115, g116_118, g116_119, g116_120, g116_121, g116_123, Option.toList_some, Option.toList_none, List.cons_append, List.nil_append, true_and, and_true, true_or, or_true, eq_self, ci0, ci1, cin6, forall_const, not_true_eq_false, not_false_eq_true, fimp, timp, i10, i01, cm_rne, and_assoc]
            exact K1
    · intro h6
      refine c116_17 (by decide) hsh (q_begin hm' b1 hv.1 (fun M1 p1 p2 p3 f1 => ?_))
      have hR1 : rM M1 (m + 1) (aS A) := rM_fr b1 (f1.1 _ (by omega) (by omega))
      obtain ⟨k1, k2⟩ := rMA_q hA' f1.s hR1
      have K1 := K M1 k1 k2
      simp (disch := omega) only [g116_0, g116_1, g116_5, g116_8, g116_9, g116_10, g116_11, g116_13, g116_16, g116_20, g116_23, g116_27, g116_28, g116_80, g116_81, g116_82, g116_86, g116_87, g116_88, g116_91, g116_92, g116_93, g116_94, g116_95, g116_99, g116_100, g116_101, g116_104, g116_105, g116_106, g116_107, g116_108, g116_111, g116_112, g116_113, g116_114, g116_115, g116_118, g116_119, g116_120, g116_121, g116_123, Option.toList_some, Option.toList_none, List.cons_append, List.nil_append, true_and, and_true, true_or, or_true, eq_self, ci0, ci1, cin6, forall_const, not_true_eq_false, not_false_eq_true, fimp, timp, i10, i01, cm_rne, and_assoc]
      by_cases w0 : w = 0
      · rw [if_pos w0] at K1
        refine go_table hq116 k116_29 hw (Or.inr (Or.inr (by rw [w0]; decide))) (tgt := 80) (by rw [w0]; decide) ?_
        simp (disch := omega) only [g116_0, g116_1, g116_5, g116_8, g116_9, g116_10, g116_11, g116_13, g116_16, g116_20, g116_23, g116_27, g116_28, g116_80, g116_81, g116_82, g116_86, g116_87, g116_88, g116_91, g116_92, g116_93, g116_94, g116_95, g116_99, g116_100, g116_101, g116_104, g116_105, g116_106, g116_107, g116_108, g116_111, g116_112, g116_113, g116_114, g116_115, g116_118, g116_119, g116_120, g116_121, g116_123, Option.toList_some, Option.toList_none, List.cons_append, List.nil_append, true_and, and_true, true_or, or_true, eq_self, ci0, ci1, cin6, forall_const, not_true_eq_false, not_false_eq_true, fimp, timp, i10, i01, cm_rne, and_assoc]
        rw [w0]
        refine c116_83 (by decide) hsh (q_kind hm' hR1 hv.1 h1 ?_)
        simp (disch := omega) only [g116_0, g116_1, g116_5, g116_8, g116_9, g116_10, g116_11, g116_13, g116_16, g116_20, g116_23, g116_27, g116_28, g116_80, g116_81, g116_82, g116_86, g116_87, g116_88, g116_91, g116_92, g116_93, g116_94, g116_95, g116_99, g116_100, g116_101, g116_104, g116_105, g116_106, g116_107, g116_108, g116_111, g116_112, g116_113, g116_114, g116_115, g116_118, g116_119, g116_120, g116_121, g116_123, Option.toList_some, Option.toList_none, List.cons_append, List.nil_append, true_and, and_true, true_or, or_true, eq_self, ci0, ci1, cin6, forall_const, not_true_eq_false, not_false_eq_true, fimp, timp, i10, i01, cm_rne, and_assoc]
        exact K1
      rw [if_neg w0] at K1
      by_cases w1 : w = 1
      · rw [if_pos w1] at K1
        refine go_table hq116 k116_29 hw (Or.inr (Or.inr (by rw [w1]; decide))) (tgt := 80) (by rw [w1]; decide) ?_
        simp (disch := omega) only [g116_0, g116_1, g116_5, g116_8, g116_9, g116_10, g116_11, g116_13, g116_16, g116_20, g116_23, g116_27, g116_28, g116_80, g116_81, g116_82, g116_86, g116_87, g116_88, g116_91, g116_92, g116_93, g116_94, g116_95, g116_99, g116_100, g116_101, g116_104, g116_105, g116_106, g116_107, g116_108, g116_111, g116_112, g116_113, g116_114, g116_115, g116_118, g116_119, g116_120, g116_121, g116_123, Option.toList_some, Option.toList_none, List.cons_append, List.nil_append, true_and, and_true, true_or, or_true, eq_self, ci0, ci1, cin6, forall_const, not_true_eq_false, not_false_eq_true, fimp, timp, i10, i01, cm_rne, and_assoc]
        rw [w1]
        refine c116_83 (by decide) hsh (q_grp hm' hR1 hv.1 h1 ?_)
        simp (disch := omega) only [g116_0, g116_1, g116_5, g116_8, g116_9, g116_10, g116_11, g116_13, g116_16, g116_20, g116_23, g116_27, g116_28, g116_80, g116_81, g116_82, g116_86, g116_87, g116_88, g116_91, g116_92, g116_93, g116_94, g116_95, g116_99, g116_100, g116_101, g116_104, g116_105, g116_106, g116_107, g116_108, g116_111, g116_112, g116_113, g116_114, g116_115, g116_118, g116_119, g116_120, g116_121, g116_123, Option.toList_some, Option.toList_none, List.cons_append, List.nil_append, true_and, and_true, true_or, or_true, eq_self, ci0, ci1, cin6, forall_const, not_true_eq_false, not_false_eq_true, fimp, timp, i10, i01, cm_rne, and_assoc]
        exact K1
      rw [if_neg w1] at K1
      by_cases w2 : w = 2
      · rw [if_pos w2] at K1
        refine go_table hq116 k116_29 hw (Or.inr (Or.inr (by rw [w2]; decide))) (tgt := 80) (by rw [w2]; decide) ?_
        simp (disch := omega) only [g116_0, g116_1, g116_5, g116_8, g116_9, g116_10, g116_11, g116_13, g116_16, g116_20, g116_23, g116_27, g116_28, g116_80, g116_81, g116_82, g116_86, g116_87, g116_88, g116_91, g116_92, g116_93, g116_94, g116_95, g116_99, g116_100, g116_101, g116_104, g116_105, g116_106, g116_107, g116_108, g116_111, g116_112, g116_113, g116_114, g116_115, g116_118, g116_119, g116_120, g116_121, g116_123, Option.toList_some, Option.toList_none, List.cons_append, List.nil_append, true_and, and_true, true_or, or_true, eq_self, ci0, ci1, cin6, forall_const, not_true_eq_false, not_false_eq_true, fimp, timp, i10, i01, cm_rne, and_assoc]
        rw [w2]
        refine c116_83 (by decide) hsh (q_num hm' hR1 hv.1 h1 ?_)
        simp (disch := omega) only [g116_0, g116_1, g116_5, g116_8, g116_9, g116_10, g116_11, g116_13, g116_16, g116_20, g116_23, g116_27, g116_28, g116_80, g116_81, g116_82, g116_86, g116_87, g116_88, g116_91, g116_92, g116_93, g116_94, g116_95, g116_99, g116_100, g116_101, g116_104, g116_105, g116_106, g116_107, g116_108, g116_111, g116_112, g116_113, g116_114, g116_115, g116_118, g116_119, g116_120, g116_121, g116_123, Option.toList_some, Option.toList_none, List.cons_append, List.nil_append, true_and, and_true, true_or, or_true, eq_self, ci0, ci1, cin6, forall_const, not_true_eq_false, not_false_eq_true, fimp, timp, i10, i01, cm_rne, and_assoc]
        exact K1
      rw [if_neg w2] at K1
      by_cases w3 : w = 3
      · rw [if_pos w3] at K1
        refine go_table hq116 k116_29 hw (Or.inr (Or.inr (by rw [w3]; decide))) (tgt := 80) (by rw [w3]; decide) ?_
        simp (disch := omega) only [g116_0, g116_1, g116_5, g116_8, g116_9, g116_10, g116_11, g116_13, g116_16, g116_20, g116_23, g116_27, g116_28, g116_80, g116_81, g116_82, g116_86, g116_87, g116_88, g116_91, g116_92, g116_93, g116_94, g116_95, g116_99, g116_100, g116_101, g116_104, g116_105, g116_106, g116_107, g116_108, g116_111, g116_112, g116_113, g116_114, g116_115, g116_118, g116_119, g116_120, g116_121, g116_123, Option.toList_some, Option.toList_none, List.cons_append, List.nil_append, true_and, and_true, true_or, or_true, eq_self, ci0, ci1, cin6, forall_const, not_true_eq_false, not_false_eq_true, fimp, timp, i10, i01, cm_rne, and_assoc]
        rw [w3]
        refine c116_83 (by decide) hsh (q_cu hm' hR1 hv.1 h1 ?_)
        simp (disch := omega) only [g116_0, g116_1, g116_5, g116_8, g116_9, g116_10, g116_11, g116_13, g116_16, g116_20, g116_23, g116_27, g116_28, g116_80, g116_81, g116_82, g116_86, g116_87, g116_88, g116_91, g116_92, g116_93, g116_94, g116_95, g116_99, g116_100, g116_101, g116_104, g116_105, g116_106, g116_107, g116_108, g116_111, g116_112, g116_113, g116_114, g116_115, g116_118, g116_119, g116_120, g116_121, g116_123, Option.toList_some, Option.toList_none, List.cons_append, List.nil_append, true_and, and_true, true_or, or_true, eq_self, ci0, ci1, cin6, forall_const, not_true_eq_false, not_false_eq_true, fimp, timp, i10, i01, cm_rne, and_assoc]
        exact K1
      rw [if_neg w3] at K1
      by_cases w4 : w = 4
      · rw [if_pos w4] at K1
        refine go_table hq116 k116_29 hw (Or.inr (Or.inr (by rw [w4]; decide))) (tgt := 87) (by rw [w4]; decide) ?_
        simp (disch := omega) only [g116_0, g116_1, g116_5, g116_8, g116_9, g116_10, g116_11, g116_13, g116_16, g116_20, g116_23, g116_27, g116_28, g116_80, g116_81, g116_82, g116_86, g116_87, g116_88, g116_91, g116_92, g116_93, g116_94, g116_95, g116_99, g116_100, g116_101, g116_104, g116_105, g116_106, g116_107, g116_108, g116_111, g116_112, g116_113, g116_114, g116_115, g116_118, g116_119, g116_120, g116_121, g116_123, Option.toList_some, Option.toList_none, List.cons_append, List.nil_append, true_and, and_true, true_or, or_true, eq_self, ci0, ci1, cin6, forall_const, not_true_eq_false, not_false_eq_true, fimp, timp, i10, i01, cm_rne, and_assoc, hsh, e7, a7, p1 i h1.1 (by omega)]
        (repeat' apply And.intro) <;> (try omega) <;> (try (intro hx; exfalso; omega))
      rw [if_neg w4] at K1
      by_cases w5 : w = 5
      · rw [if_pos w5] at K1
        refine go_table hq116 k116_29 hw (Or.inr (Or.inr (by rw [w5]; decide))) (tgt := 94) (by rw [w5]; decide) ?_
        simp (disch := omega) only [g116_0, g116_1, g116_5, g116_8, g116_9, g116_10, g116_11, g116_13, g116_16, g116_20, g116_23, g116_27, g116_28, g116_80, g116_81, g116_82, g116_86, g116_87, g116_88, g116_91, g116_92, g116_93, g116_94, g116_95, g116_99, g116_100, g116_101, g116_104, g116_105, g116_106, g116_107, g116_108, g116_111, g116_112, g116_113, g116_114, g116_115, g116_118, g116_119, g116_120, g116_121, g116_123, Option.toList_some, Option.toList_none, List.cons_append, List.nil_append, true_and, and_true, true_or, or_true, eq_self, ci0, ci1, cin6, forall_const, not_true_eq_false, not_false_eq_true, fimp, timp, i10, i01, cm_rne, and_assoc]
        refine c116_96 (by decide) hsh (q_height hm' hR1 hv.1 h1 ?_)
        simp (disch := omega) only [g116_0, g116_1, g116_5, g116_8, g116_9, g116_10, g116_11, g116_13, g116_16, g116_20, g116_23, g116_27, g116_28, g116_80, g116_81, g116_82, g116_86, g116_87, g116_88, g116_91, g116_92, g116_93, g116_94, g116_95, g116_99, g116_100, g116_101, g116_104, g116_105, g116_106, g116_107, g116_108, g116_111, g116_112, g116_113, g116_114, g116_115, g116_118, g116_119, g116_120, g116_121, g116_123, Option.toList_some, Option.toList_none, List.cons_append, List.nil_append, true_and, and_true, true_or, or_true, eq_self, ci0, ci1, cin6, forall_const, not_true_eq_false, not_false_eq_true, fimp, timp, i10, i01, cm_rne, and_assoc]
        exact K1
      rw [if_neg w5, if_neg (by omega), if_neg (by omega), if_neg (by omega)] at K1
      refine go_table hq116 k116_29 hw (Or.inl (by omega)) (tgt := 121) (by rw [cm_tab_d (by omega)]; decide) ?_
      simp (disch := omega) only [g116_0, g116_1, g116_5, g116_8, g116_9, g116_10, g116_11, g116_13, g116_16, g116_20, g116_23, g116_27, g116_28, g116_80, g116_81, g116_82, g116_86, g116_87, g116_88, g116_91, g116_92, g116_93, g116_94, g116_95, g116_99, g116_100, g116_101, g116_104, g116_105, g116_106, g116_107, g116_108, g116_111, g116_112, g116_113, g116_114, g116_115, g116_118, g116_119, g116_120, g116_121, g116_123, Option.toList_some, Option.toList_none, List.cons_append, List.nil_append, true_and, and_true, true_or, or_true, eq_self, ci0, ci1, cin6, forall_const, not_true_eq_false, not_false_eq_true, fimp, timp, i10, i01, cm_rne, and_assoc]
      exact K1
  · rw [ite'_n h1] at K
    exact K M hA' fr.rf
theorem q_group (hm : isM G m) (hA : rMA M m A) (hv : vA A) (hg : cm_in g) (hw : cm_in w) (K : ∀ M', rMA M' m A → fr M M' m (m + 11) → Q (some (0, xGroup (aS A) g w)) G M') : Go 117 0 [some (2, m), some (0, g), some (0, w), none, none] [] G M Q := by
  have hm' := hm
  obtain ⟨h0, hsh, ⟨e0, e1, e2, e3, e5, e7, e8, e9, e10, e12, e13⟩, a0, a1, a2, a3, a5, a7, a8, a9, a10, a12, a13⟩ := hm
  have hA' := hA
  obtain ⟨b1, b2, b3, b4, b5⟩ := hA
  have hn1 := hv.1.2.1
  have hn0 := hv.1.1
  unfold xGroup at K
  simp (disch := omega) only [g117_0, g117_4, g117_7, g117_8, g117_9, g117_13, g117_16, g117_18, g117_19, g117_23, g117_24, g117_25, g117_29, g117_30, g117_31, g117_32, g117_35, g117_36, g117_39, g117_40, g117_43, g117_44, g117_48, g117_49, g117_50, g117_53, g117_55, g117_56, g117_57, g117_61, g117_63, g117_64, g117_65, g117_68, g117_69, g117_72, g117_74, g117_75, g117_78, g117_79, g117_80, g117_83, g117_85, g117_88, g117_89, g117_90, g117_94, g117_98, Option.toList_some, Option.toList_none, List.cons_append, List.nil_append, true_and, and_true, true_or, or_true, eq_self, ci0, ci1, cin6, forall_const, not_true_eq_false, not_false_eq_true, fimp, timp, i10, i01, cm_rne, and_assoc]
  refine c117_1 (by decide) (q_isGroup hg (fun h1 => ?_) (fun h1 => ?_)) <;> simp (disch := omega) only [g117_0, g117_4, g117_7, g117_8, g117_9, g117_13, g117_16, g117_18, g117_19, g117_23, g117_24, g117_25, g117_29, g117_30, g117_31, g117_32, g117_35, g117_36, g117_39, g117_40, g117_43, g117_44, g117_48, g117_49, g117_50, g117_53, g117_55, g117_56, g117_57, g117_61, g117_63, g117_64, g117_65, g117_68, g117_69, g117_72, g117_74, g117_75, g117_78, g117_79, g117_80, g117_83, g117_85, g117_88, g117_89, g117_90, g117_94, g117_98, Option.toList_some, Option.toList_none, List.cons_append, List.nil_append, true_and, and_true, true_or, or_true, eq_self, ci0, ci1, cin6, forall_const, not_true_eq_false, not_false_eq_true, fimp, timp, i10, i01, cm_rne, and_assoc]
  · rw [ite'_p h1] at K
    refine c117_10 (Nat.le_of_ble_eq_true rfl) (q_in hw cn0 ⟨by decide, by decide⟩ (fun h2 => ?_) (fun h2 => ?_)) <;> simp (disch := omega) only [g117_0, g117_4, g117_7, g117_8, g117_9, g117_13, g117_16, g117_18, g117_19, g117_23, g117_24, g117_25, g117_29, g117_30, g117_31, g117_32, g117_35, g117_36, g117_39, g117_40, g117_43, g117_44, g117_48, g117_49, g117_50, g117_53, g117_55, g117_56, g117_57, g117_61, g117_63, g117_64, g117_65, g117_68, g117_69, g117_72, g117_74, g117_75, g117_78, g117_79, g117_80, g117_83, g117_85, g117_88, g117_89, g117_90, g117_94, g117_98, Option.toList_some, Option.toList_none, List.cons_append, List.nil_append, true_and, and_true, true_or, or_true, eq_self, ci0, ci1, cin6, forall_const, not_true_eq_false, not_false_eq_true, fimp, timp, i10, i01, cm_rne, and_assoc]
    · refine c117_20 (by decide) hsh (q_run hm' b1 hv.1 (fun M1 rn f1 => ?_))
      have hR1 : rM M1 (m + 1) (aS A) := rM_fr b1 (f1.1 _ (by omega) (by omega))
      obtain ⟨k1, k2⟩ := rMA_q hA' f1.s hR1
      have K1 := K M1 k1 k2
      have hT : tks M1 m (aS A) := fun i a b => (rn.2 i a b).1
      have hcn := cnt0 (sG (aS A)) g (sN (aS A)).toNat
      have hl6 := ls6 (S := aS A) (g := g) (sN (aS A)).toNat
      rw [show (((sN (aS A)).toNat : Nat) : Int) = sN (aS A) by omega] at hcn hl6
      have hf6 := fst0 (P := fun j => sG (aS A) j = g) (n := sN (aS A))
      have hlb := lsL_b hv.1 g
      simp (disch := omega) only [g117_0, g117_4, g117_7, g117_8, g117_9, g117_13, g117_16, g117_18, g117_19, g117_23, g117_24, g117_25, g117_29, g117_30, g117_31, g117_32, g117_35, g117_36, g117_39, g117_40, g117_43, g117_44, g117_48, g117_49, g117_50, g117_53, g117_55, g117_56, g117_57, g117_61, g117_63, g117_64, g117_65, g117_68, g117_69, g117_72, g117_74, g117_75, g117_78, g117_79, g117_80, g117_83, g117_85, g117_88, g117_89, g117_90, g117_94, g117_98, Option.toList_some, Option.toList_none, List.cons_append, List.nil_append, true_and, and_true, true_or, or_true, eq_self, ci0, ci1, cin6, forall_const, not_true_eq_false, not_false_eq_true, fimp, timp, i10, i01, cm_rne, and_assoc]
      refine c117_26 (by decide) hsh (q_namesOf hm' hR1 hv.1 h1 ?_)
      have hcb := cntb (sG (aS A)) g (sN (aS A)).toNat
      generalize hcc : fP (fun i a => if sG (aS A) i = g then a + 1 else a) (0 : Int) (sN (aS A)).toNat = cc at *
      simp (disch := omega) only [g117_0, g117_4, g117_7, g117_8, g117_9, g117_13, g117_16, g117_18, g117_19, g117_23, g117_24, g117_25, g117_29, g117_30, g117_31, g117_32, g117_35, g117_36, g117_39, g117_40, g117_43, g117_44, g117_48, g117_49, g117_50, g117_53, g117_55, g117_56, g117_57, g117_61, g117_63, g117_64, g117_65, g117_68, g117_69, g117_72, g117_74, g117_75, g117_78, g117_79, g117_80, g117_83, g117_85, g117_88, g117_89, g117_90, g117_94, g117_98, Option.toList_some, Option.toList_none, List.cons_append, List.nil_append, true_and, and_true, true_or, or_true, eq_self, ci0, ci1, cin6, forall_const, not_true_eq_false, not_false_eq_true, fimp, timp, i10, i01, cm_rne, and_assoc]
      (repeat' apply And.intro) <;> (try omega) <;> (try (intro hx; exfalso; omega))
      · intro h3
        rw [if_neg (by omega), if_neg (by omega)] at K1
        (repeat' apply And.intro) <;> (try omega) <;> (try (intro hx; exfalso; omega))
        · intro h4
          have n1 : ¬ nameAt (aS A) g = -6 := fun z => h4 (hcn.2.mpr (hf6.mp z))
          have n2 : ¬ lsL (aS A) g = -6 := fun z => h4 (hcn.2.mpr (hl6.mp z))
          rw [if_neg n1, if_neg n1] at K1
          refine c117_58 (by decide) hsh (q_shortest hm' hR1 hv.1 hT h1 ?_)
          have hl2 : 0 ≤ lsL (aS A) g ∧ lsL (aS A) g < sN (aS A) := by omega
          simp (disch := omega) only [g117_0, g117_4, g117_7, g117_8, g117_9, g117_13, g117_16, g117_18, g117_19, g117_23, g117_24, g117_25, g117_29, g117_30, g117_31, g117_32, g117_35, g117_36, g117_39, g117_40, g117_43, g117_44, g117_48, g117_49, g117_50, g117_53, g117_55, g117_56, g117_57, g117_61, g117_63, g117_64, g117_65, g117_68, g117_69, g117_72, g117_74, g117_75, g117_78, g117_79, g117_80, g117_83, g117_85, g117_88, g117_89, g117_90, g117_94, g117_98, Option.toList_some, Option.toList_none, List.cons_append, List.nil_append, true_and, and_true, true_or, or_true, eq_self, ci0, ci1, cin6, forall_const, not_true_eq_false, not_false_eq_true, fimp, timp, i10, i01, cm_rne, and_assoc, hsh, e8, a8, hT _ hl2.1 hl2.2]
          (repeat' apply And.intro) <;> (try omega) <;> (try (intro hx; exfalso; omega))
          · intro h5
            rw [if_neg h5] at K1
            (repeat' apply And.intro) <;> (try omega) <;> (try (intro hx; exfalso; omega))
            · intro h6
              rw [if_neg h6, if_pos (by omega)] at K1
              refine c117_91 (Nat.le_of_ble_eq_true rfl) hsh (q_firstName hm' hR1 hv.1 h1 (fun r hr => ?_))
              have er := fstOf_e hr
              rw [er]
              simp (disch := omega) only [g117_0, g117_4, g117_7, g117_8, g117_9, g117_13, g117_16, g117_18, g117_19, g117_23, g117_24, g117_25, g117_29, g117_30, g117_31, g117_32, g117_35, g117_36, g117_39, g117_40, g117_43, g117_44, g117_48, g117_49, g117_50, g117_53, g117_55, g117_56, g117_57, g117_61, g117_63, g117_64, g117_65, g117_68, g117_69, g117_72, g117_74, g117_75, g117_78, g117_79, g117_80, g117_83, g117_85, g117_88, g117_89, g117_90, g117_94, g117_98, Option.toList_some, Option.toList_none, List.cons_append, List.nil_append, true_and, and_true, true_or, or_true, eq_self, ci0, ci1, cin6, forall_const, not_true_eq_false, not_false_eq_true, fimp, timp, i10, i01, cm_rne, and_assoc]
              have hb : 0 ≤ nameAt (aS A) g ∧ nameAt (aS A) g < sN (aS A) := by
                rcases fstOf_is (fun j => sG (aS A) j = g) (sN (aS A)) with ⟨z1, z2, -⟩ | ⟨z, -⟩
                · exact ⟨z1, z2⟩
                · exact absurd z n1
              refine c117_95 (by decide) hsh (q_num hm' hR1 hv.1 hb ?_)
              simp (disch := omega) only [g117_0, g117_4, g117_7, g117_8, g117_9, g117_13, g117_16, g117_18, g117_19, g117_23, g117_24, g117_25, g117_29, g117_30, g117_31, g117_32, g117_35, g117_36, g117_39, g117_40, g117_43, g117_44, g117_48, g117_49, g117_50, g117_53, g117_55, g117_56, g117_57, g117_61, g117_63, g117_64, g117_65, g117_68, g117_69, g117_72, g117_74, g117_75, g117_78, g117_79, g117_80, g117_83, g117_85, g117_88, g117_89, g117_90, g117_94, g117_98, Option.toList_some, Option.toList_none, List.cons_append, List.nil_append, true_and, and_true, true_or, or_true, eq_self, ci0, ci1, cin6, forall_const, not_true_eq_false, not_false_eq_true, fimp, timp, i10, i01, cm_rne, and_assoc]
              exact K1
            · intro h6
              rw [if_pos h6] at K1
              exact K1
          · intro h5
            rw [if_pos h5] at K1
            (repeat' apply And.intro) <;> (try omega) <;> (try (intro hx; exfalso; omega))
            have : lsO (aS A) g = eI (aS A) (lsL (aS A) g) := if_neg n2
            rw [← this]
            exact K1
        · intro h4
          have n1 : nameAt (aS A) g = -6 := hf6.mpr (hcn.2.mp h4)
          have n2 : lsL (aS A) g = -6 := hl6.mpr (hcn.2.mp h4)
          rw [if_pos n1, if_pos n1, n2] at K1
          have : (if w = 2 then (-6 : Int) else if w = 3 then -6 else if w = 4 then -6 else -2) = -6 := by omega
          rwa [this] at K1
      · intro h3
        (repeat' apply And.intro) <;> (try omega) <;> (try (intro hx; exfalso; omega))
        · intro h4
          rw [if_neg h4, if_pos (by omega)] at K1
          refine c117_45 (by decide) hsh (q_spread hm' hR1 hv.1 hT h1 ?_)
          simp (disch := omega) only [g117_0, g117_4, g117_7, g117_8, g117_9, g117_13, g117_16, g117_18, g117_19, g117_23, g117_24, g117_25, g117_29, g117_30, g117_31, g117_32, g117_35, g117_36, g117_39, g117_40, g117_43, g117_44, g117_48, g117_49, g117_50, g117_53, g117_55, g117_56, g117_57, g117_61, g117_63, g117_64, g117_65, g117_68, g117_69, g117_72, g117_74, g117_75, g117_78, g117_79, g117_80, g117_83, g117_85, g117_88, g117_89, g117_90, g117_94, g117_98, Option.toList_some, Option.toList_none, List.cons_append, List.nil_append, true_and, and_true, true_or, or_true, eq_self, ci0, ci1, cin6, forall_const, not_true_eq_false, not_false_eq_true, fimp, timp, i10, i01, cm_rne, and_assoc]
          exact K1
        · intro h4
          rw [if_pos h4] at K1
          exact K1
    · have := K M hA' fr.rf
      rwa [if_neg (by omega), if_neg (by omega), if_neg (by omega), if_neg (by omega), if_neg (by omega)] at this
  · rw [ite'_n h1] at K
    exact K M hA' fr.rf
end MODEL7
