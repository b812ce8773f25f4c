/-! ===== the law: its cells and remainders ===== -/
theorem al2 {G : cm_G} {M : cm_M} : cm_al 1 G M (-2) = M (-2) (-1) := by
  unfold cm_al
  rw [if_pos ⟨rfl, rfl⟩]
theorem iand_b (a : Int) : 0 ≤ cm_iand a 2147483647 ∧ cm_iand a 2147483647 ≤ 2147483647 := by
  unfold cm_iand
  have e : (Int32.ofInt 2147483647).toBitVec.toNat = 2147483647 := by decide +kernel
  have h1 : (Int32.ofInt a &&& Int32.ofInt 2147483647).toBitVec.toNat ≤ 2147483647 := by
    have : (Int32.ofInt a &&& Int32.ofInt 2147483647).toBitVec = (Int32.ofInt a).toBitVec &&& (Int32.ofInt 2147483647).toBitVec := rfl
    rw [this, BitVec.toNat_and, e]
    exact Nat.and_le_right
  generalize Int32.ofInt a &&& Int32.ofInt 2147483647 = y at *
  have h2 : y.toInt = (y.toBitVec.toNat : Int) := BitVec.toInt_eq_toNat_of_lt (by omega)
  omega
theorem ishr_in (a b : Int) : cm_in (cm_ishr a b) := by
  unfold cm_ishr
  exact ⟨Int32.le_toInt _, Int32.toInt_lt _⟩
/-- what low answers -/
def lw (v n : Int) : Int := (cm_iand v 2147483647).tmod n
theorem lw_b (v : Int) {n : Int} (h : 0 < n) : 0 ≤ lw v n ∧ lw v n < n := ⟨Int.tmod_nonneg _ (iand_b v).1, Int.tmod_lt_of_pos _ h⟩
section LAW1
variable {G : cm_G} {M : cm_M} {k n v L : Int} {Q : Option cm_V → cm_G → cm_M → Prop}
theorem l_low (hn : 0 < n ∧ n < 2147483648) (K : Q (some (0, lw v n)) G M) : Go 65 0 [some (0, v), some (0, n)] [] G M Q := by
  have h1 := iand_b v
  simp (disch := omega) only [g65_0, g65_1, g65_3, g65_4, g65_5, g65_6, Option.toList_some, Option.toList_none, List.cons_append, List.nil_append, true_and, and_true, true_or, or_true, eq_self, ci0, ci1, cin6, forall_const, not_true_eq_false, not_false_eq_true, fimp, timp, i10, i01, cm_rne, and_assoc]
  (repeat' apply And.intro) <;> (try omega) <;> (try (intro hx; exfalso; omega))
  exact K
theorem l_cell (hL : M (-2) (-1) = L) (hL2 : cm_in L) (hx : ∀ j, cm_in (M (-2) j)) (hk : 0 ≤ k ∧ k ≤ 48) (K : ∀ r, cm_in r → Q (some (0, r)) G M) : Go 64 0 [some (2, -2), some (0, k)] [] G M Q := by
  simp (disch := omega) only [g64_0, g64_1, g64_2, g64_3, g64_6, g64_7, g64_8, g64_9, g64_12, g64_14, g64_15, g64_16, g64_18, g64_19, Option.toList_some, Option.toList_none, List.cons_append, List.nil_append, true_and, and_true, true_or, or_true, eq_self, ci0, ci1, cin6, forall_const, not_true_eq_false, not_false_eq_true, fimp, timp, i10, i01, cm_rne, and_assoc, al2, hL]
  (repeat' apply And.intro) <;> (try omega) <;> (try (intro hx; exfalso; omega))
  · intro h
    exact K _ (by constructor <;> omega)
  · intro h
    (repeat' apply And.intro) <;> (try omega) <;> (try (intro hx; exfalso; omega))
    exact K _ (hx _)
end LAW1
/-- rows ahead of 82 are as they were -/
theorem rXA_hi {M M' : cm_M} {A : sA} (h : rXA M A) (hA : aH A ≤ 6) (f : ∀ k, 0 ≤ k → k < 82 → M' k = M k) : rXA M' A := by
  obtain ⟨b1, ⟨c1, c2, c3, c4⟩, b3, b4, b5⟩ := h
  refine ⟨b1.of (fun k _ _ => f k (by omega) (by omega)), ⟨?_, c2, ?_, fun j a b => ?_⟩, fun s a b => ?_, ?_, fun k a b => ?_⟩
  · rw [f 29 (by omega) (by omega)]; exact c1
  · rw [f 29 (by omega) (by omega)]; exact c3
  · rw [f 29 (by omega) (by omega)]; exact (c4 j a b).of (fun k _ _ => f k (by omega) (by omega))
  · rw [f 69 (by omega) (by omega)]
    exact ⟨(b3 s a b).1, fun z => ((b3 s a b).2 z).of (fun k _ _ => f k (by omega) (by omega))⟩
  · rw [f 27 (by omega) (by omega)]; exact b4
  · rw [f 28 (by omega) (by omega)]; exact b5 k a b
/-! what the calls answer, by their numbers -/
theorem xC0 {A : sA} : xCount A 0 = sN (aS A) := rfl
theorem xC1 {A : sA} : xCount A 1 = fP (fun i a => if sK (aS A) i = 0 then a + 1 else a) 0 (sN (aS A)).toNat := rfl
theorem xC2 {A : sA} : xCount A 2 = tI (aS A) (sN (aS A)) := rfl
theorem xC3 {A : sA} : xCount A 3 = aI (aS A) := rfl
theorem xC4 {A : sA} : xCount A 4 = uneq (aS A) := rfl
theorem xC5 {A : sA} : xCount A 5 = fP (fun i a => if sC (aS A) i = 0 then a else a + 1) 0 (sN (aS A)).toNat := rfl
theorem xC6 {A : sA} : xCount A 6 = never (aS A) := rfl
theorem xC7 {A : sA} : xCount A 7 = sT (aS A) 0 := rfl
theorem xC8 {A : sA} : xCount A 8 = sT (aS A) 1 := rfl
theorem xC9 {A : sA} : xCount A 9 = sT (aS A) 2 := rfl
theorem xO {S : sS} {i : Int} (h : 0 ≤ i ∧ i < sN S) : xOf S i 0 = sK S i ∧ xOf S i 1 = sG S i ∧ xOf S i 2 = sM S i ∧ xOf S i 3 = sC S i ∧ xOf S i 4 = tI S i ∧ xOf S i 5 = sH S i ∧ xOf S i 6 = eI S i ∧ xOf S i 7 = (if eI S i = 0 then -6 else fI S i) ∧ xOf S i 8 = (if eI S i = 0 then -6 else fI S i + eI S i - 1) := by
  unfold xOf
  refine ⟨?_, ?_, ?_, ?_, ?_, ?_, ?_, ?_, ?_⟩ <;> rw [ite'_p h] <;> rfl
theorem xA {S : sS} {t : Int} (h : 0 ≤ t ∧ t ≤ 9999) : xAt S t 0 = fstOf (seen S t) (sN S) ∧ xAt S t 1 = lstOf (seen S t) (sN S) ∧ xAt S t 2 = cntP (seen S t) (sN S).toNat ∧ xAt S t 3 = sp S (sN S).toNat (pos S (sN S).toNat t.toNat) ∧ xAt S t 4 = pos S (sN S).toNat t.toNat := by
  unfold xAt
  refine ⟨?_, ?_, ?_, ?_, ?_⟩ <;> rw [ite'_p h] <;> rfl
theorem xG {S : sS} {g : Int} (h : 0 ≤ g ∧ g ≤ 7) : xGroup S g 0 = fP (fun i a => if sG S i = g then a + 1 else a) 0 (sN S).toNat ∧ xGroup S g 1 = spr S g ∧ xGroup S g 2 = (if nameAt S g = -6 then -6 else lsO S g) ∧ xGroup S g 3 = lsL S g ∧ xGroup S g 4 = (if nameAt S g = -6 then -6 else sM S (nameAt S g)) := by
  unfold xGroup
  refine ⟨?_, ?_, ?_, ?_, ?_⟩ <;> rw [ite'_p h] <;> rfl
