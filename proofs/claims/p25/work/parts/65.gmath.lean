/-! ===== groups, from the last line up ===== -/
theorem ms_char {S : sS} (hv : vS S) (g : Int) : ∀ k : Nat, (k : Int) ≤ sN S → (0 ≤ fP (mstep S (eI S) g) 0 k ∧ fP (mstep S (eI S) g) 0 k ≤ 1801) ∧ (∀ j, 0 ≤ j → j < (k : Int) → sG S j = g → eI S j ≤ fP (mstep S (eI S) g) 0 k) ∧ (fP (mstep S (eI S) g) 0 k = 0 ∨ ∃ j, 0 ≤ j ∧ j < (k : Int) ∧ sG S j = g ∧ fP (mstep S (eI S) g) 0 k = eI S j)
  | 0, _ => ⟨⟨Int.le_refl 0, by show (0 : Int) ≤ 1801; omega⟩, fun j a b => absurd a (by omega), Or.inl rfl⟩
  | k + 1, hk => by
    obtain ⟨h1, h2, h3⟩ := ms_char hv g k (by omega)
    have hb := eI_b hv (i := k) (by omega)
    have e : fP (mstep S (eI S) g) 0 (k + 1) = mstep S (eI S) g k (fP (mstep S (eI S) g) 0 k) := rfl
    rw [e]
    generalize fP (mstep S (eI S) g) 0 k = a at *
    unfold mstep
    by_cases h : sG S k = g
    · rw [if_pos h]
      by_cases ha : a < eI S k
      · rw [if_pos ha]
        refine ⟨by omega, fun j c d z => ?_, Or.inr ⟨k, by omega, by omega, h, rfl⟩⟩
        by_cases hj : j = k
        · rw [hj]; exact Int.le_refl _
        · have := h2 j c (by omega) z; omega
      · rw [if_neg ha]
        refine ⟨h1, fun j c d z => ?_, ?_⟩
        · by_cases hj : j = k
          · rw [hj]; omega
          · exact h2 j c (by omega) z
        · rcases h3 with h3 | ⟨j, c, d, z, e2⟩
          · exact Or.inl h3
          · exact Or.inr ⟨j, c, by omega, z, e2⟩
    · rw [if_neg h]
      refine ⟨h1, fun j c d z => ?_, ?_⟩
      · by_cases hj : j = k
        · rw [hj] at z; exact absurd z h
        · exact h2 j c (by omega) z
      · rcases h3 with h3 | ⟨j, c, d, z, e2⟩
        · exact Or.inl h3
        · exact Or.inr ⟨j, c, by omega, z, e2⟩
/-- the line of a group that is seen shortest, the first one of several -/
def isLs (S : sS) (g n r : Int) : Prop := 0 ≤ r ∧ r < n ∧ sG S r = g ∧ ∀ j, 0 ≤ j → j < n → sG S j = g → eI S r ≤ eI S j ∧ (j < r → eI S r < eI S j)
theorem ls_char {S : sS} (g : Int) : ∀ k : Nat, (fP (lstep S (eI S) g) (-6) k = -6 ∧ ∀ j, 0 ≤ j → j < (k : Int) → ¬ sG S j = g) ∨ isLs S g k (fP (lstep S (eI S) g) (-6) k)
  | 0 => Or.inl ⟨rfl, fun j a b => absurd a (by omega)⟩
  | k + 1 => by
    have ih := ls_char (S := S) g k
    have e : fP (lstep S (eI S) g) (-6) (k + 1) = lstep S (eI S) g k (fP (lstep S (eI S) g) (-6) k) := rfl
    rw [e]
    generalize fP (lstep S (eI S) g) (-6) k = r at *
    unfold lstep
    by_cases h : sG S k = g
    · rw [if_pos h]
      right
      rcases ih with ⟨i1, i2⟩ | ⟨i1, i2, i3, i4⟩
      · rw [if_pos i1]
        refine ⟨by omega, by omega, h, fun j a b z => ?_⟩
        by_cases hj : j = k
        · rw [hj]; exact ⟨Int.le_refl _, fun y => by omega⟩
        · exact absurd z (i2 j a (by omega))
      · rw [if_neg (by omega)]
        by_cases hlt : eI S k < eI S r
        · rw [if_pos hlt]
          refine ⟨by omega, by omega, h, fun j a b z => ?_⟩
          by_cases hj : j = k
          · rw [hj]; exact ⟨Int.le_refl _, fun y => by omega⟩
          · have := i4 j a (by omega) z
            exact ⟨by omega, fun _ => by omega⟩
        · rw [if_neg hlt]
          refine ⟨i1, by omega, i3, fun j a b z => ?_⟩
          by_cases hj : j = k
          · rw [hj]; exact ⟨by omega, fun y => by omega⟩
          · exact i4 j a (by omega) z
    · rw [if_neg h]
      rcases ih with ⟨i1, i2⟩ | ⟨i1, i2, i3, i4⟩
      · refine Or.inl ⟨i1, fun j a b z => ?_⟩
        by_cases hj : j = k
        · rw [hj] at z; exact h z
        · exact i2 j a (by omega) z
      · refine Or.inr ⟨i1, by omega, i3, fun j a b z => ?_⟩
        by_cases hj : j = k
        · rw [hj] at z; exact absurd z h
        · exact i4 j a (by omega) z
theorem isLs.uniq {S : sS} {g n r s : Int} (h1 : isLs S g n r) (h2 : isLs S g n s) : r = s := by
  obtain ⟨a1, a2, a3, a4⟩ := h1
  obtain ⟨b1, b2, b3, b4⟩ := h2
  have c1 := a4 s b1 b2 b3
  have c2 := b4 r a1 a2 a3
  by_cases h : r < s
  · have := c2.2 h; omega
  · by_cases h' : s < r
    · have := c1.2 h'; omega
    · omega
/-- how many names of a group stand ahead of a place -/
def cg (S : sS) (g i : Int) : Int := fP (fun i a => if sG S i = g then a + 1 else a) 0 i.toNat
theorem cg_s (S : sS) (g : Int) {i : Int} (h : 0 ≤ i) : cg S g (i + 1) = if sG S i = g then cg S g i + 1 else cg S g i := fP_s (fun i a => if sG S i = g then a + 1 else a) 0 h
theorem cg_b (S : sS) (g : Int) {i : Int} (h : 0 ≤ i) : 0 ≤ cg S g i ∧ cg S g i ≤ i := by
  have h1 := (cnt0 (sG S) g i.toNat).1
  have h2 := cntb (sG S) g i.toNat
  unfold cg
  omega
/-- the lines behind i are looked through -/
def gst (S : sS) (g i m mo le fi : Int) : Prop := m + cg S g (i + 1) = cg S g (sN S) ∧ (0 ≤ mo ∧ mo ≤ 1801) ∧ (∀ j, i < j → j < sN S → sG S j = g → eI S j ≤ mo) ∧ (mo = 0 ∨ ∃ j, i < j ∧ j < sN S ∧ sG S j = g ∧ mo = eI S j) ∧
  ((le = -1 ∧ fi = -1 ∧ ∀ j, i < j → j < sN S → ¬ sG S j = g) ∨ ((i < le ∧ le < sN S ∧ sG S le = g ∧ ∀ j, i < j → j < sN S → sG S j = g → eI S le ≤ eI S j ∧ (j < le → eI S le < eI S j)) ∧ i < fi ∧ fi < sN S ∧ sG S fi = g ∧ ∀ j, i < j → j < fi → ¬ sG S j = g))
theorem gst_no {S : sS} {g i m mo le fi : Int} (h0 : 0 ≤ i) (h : gst S g i m mo le fi) (hne : ¬ sG S i = g) : gst S g (i - 1) m mo le fi := by
  obtain ⟨h1, h2, h3, h4, h5⟩ := h
  have e := cg_s S g h0
  rw [if_neg hne] at e
  refine ⟨by rw [show i - 1 + 1 = i by omega]; omega, h2, fun j a b z => ?_, ?_, ?_⟩
  · by_cases hj : j = i
    · rw [hj] at z; exact absurd z hne
    · exact h3 j (by omega) b z
  · rcases h4 with h4 | ⟨j, a, b, c, d⟩
    · exact Or.inl h4
    · exact Or.inr ⟨j, by omega, b, c, d⟩
  · rcases h5 with ⟨a, b, c⟩ | ⟨⟨a1, a2, a3, a4⟩, b1, b2, b3, b4⟩
    · refine Or.inl ⟨a, b, fun j x y z => ?_⟩
      by_cases hj : j = i
      · rw [hj] at z; exact hne z
      · exact c j (by omega) y z
    · refine Or.inr ⟨⟨by omega, a2, a3, fun j x y z => ?_⟩, by omega, b2, b3, fun j x y z => ?_⟩
      · by_cases hj : j = i
        · rw [hj] at z; exact absurd z hne
        · exact a4 j (by omega) y z
      · by_cases hj : j = i
        · rw [hj] at z; exact hne z
        · exact b4 j (by omega) y z
theorem gst_yes {S : sS} {g i m mo le fi mo' le' : Int} (hv : vS S) (h0 : 0 ≤ i ∧ i < sN S) (h : gst S g i m mo le fi) (he : sG S i = g) (hm : (mo' = mo ∧ eI S i ≤ mo) ∨ (mo' = eI S i ∧ mo < eI S i)) (hl : (le' = i ∧ (le < 0 ∨ eI S i ≤ eI S le)) ∨ (le' = le ∧ 0 ≤ le ∧ eI S le < eI S i)) : gst S g (i - 1) (m + 1) mo' le' i := by
  obtain ⟨h1, h2, h3, h4, h5⟩ := h
  have hb := eI_b hv h0
  have e := cg_s S g h0.1
  rw [if_pos he] at e
  have hmb : (0 ≤ mo' ∧ mo' ≤ 1801) ∧ eI S i ≤ mo' ∧ mo ≤ mo' := by clear h4 h5 hl; omega
  refine ⟨by rw [show i - 1 + 1 = i by omega]; omega, hmb.1, fun j a b z => ?_, ?_, Or.inr ⟨?_, by omega, h0.2, he, fun j a b => absurd a (by omega)⟩⟩
  · by_cases hj : j = i
    · rw [hj]; exact hmb.2.1
    · have := h3 j (by omega) b z
      exact Int.le_trans this hmb.2.2
  · rcases hm with ⟨m1, m2⟩ | ⟨m1, m2⟩
    · rcases h4 with h4 | ⟨j, a, b, c, d⟩
      · exact Or.inl (by omega)
      · exact Or.inr ⟨j, by omega, b, c, by omega⟩
    · exact Or.inr ⟨i, by omega, h0.2, he, m1⟩
  · rcases hl with ⟨l1, l2⟩ | ⟨l1, l2, l3⟩
    · rw [l1]
      refine ⟨by omega, h0.2, he, fun j a b z => ?_⟩
      by_cases hj : j = i
      · rw [hj]; exact ⟨Int.le_refl _, fun y => by omega⟩
      · rcases h5 with ⟨a', b', c'⟩ | ⟨⟨a1, a2, a3, a4⟩, -⟩
        · exact absurd z (c' j (by omega) b)
        · have := a4 j (by omega) b z
          exact ⟨by omega, fun y => by omega⟩
    · rw [l1]
      rcases h5 with ⟨a', b', c'⟩ | ⟨⟨a1, a2, a3, a4⟩, -⟩
      · omega
      · refine ⟨by omega, a2, a3, fun j a b z => ?_⟩
        by_cases hj : j = i
        · rw [hj]; exact ⟨by omega, fun _ => l3⟩
        · exact a4 j (by omega) b z
theorem gst_0 {S : sS} {g : Int} : gst S g (sN S - 1) 0 0 (-1) (-1) := by
  refine ⟨by rw [show sN S - 1 + 1 = sN S by omega]; omega, by omega, fun j a b => absurd b (by omega), Or.inl rfl, Or.inl ⟨rfl, rfl, fun j a b => absurd b (by omega)⟩⟩
theorem gst_end {S : sS} {g m mo le fi : Int} (hv : vS S) (h : gst S g (-1) m mo le fi) : m = cg S g (sN S) ∧ mo = msO S g ∧ ((lsL S g = -6 ∧ nameAt S g = -6 ∧ le = -1 ∧ fi = -1 ∧ m = 0) ∨ (lsL S g = le ∧ nameAt S g = fi ∧ (0 ≤ le ∧ le < sN S) ∧ (0 ≤ fi ∧ fi < sN S) ∧ 1 ≤ m ∧ m ≤ 40)) := by
  have hn := hv.1
  have hn4 := hv.2.1
  obtain ⟨h1, h2, h3, h4, h5⟩ := h
  have e0 : cg S g (-1 + 1) = 0 := rfl
  rw [e0] at h1
  have hm : m = cg S g (sN S) := by omega
  have hcn := (cnt0 (sG S) g (sN S).toNat).2
  have hcb := cg_b S g hn
  have ecg : fP (fun i a => if sG S i = g then a + 1 else a) (0 : Int) (sN S).toNat = cg S g (sN S) := rfl
  rw [ecg, show (((sN S).toNat : Nat) : Int) = sN S by omega] at hcn
  have hmo : mo = msO S g := by
    obtain ⟨k1, k2, k3⟩ := ms_char hv g (sN S).toNat (by omega)
    have e1 : fP (mstep S (eI S) g) 0 (sN S).toNat = msO S g := rfl
    rw [e1] at k1 k2 k3
    rw [show (((sN S).toNat : Nat) : Int) = sN S by omega] at k2 k3
    have c1 : msO S g ≤ mo := by
      rcases k3 with k3 | ⟨j, a, b, c, d⟩
      · omega
      · have := h3 j (by omega) b c; omega
    have c2 : mo ≤ msO S g := by
      rcases h4 with h4 | ⟨j, a, b, c, d⟩
      · omega
      · have := k2 j (by omega) b c; omega
    omega
  refine ⟨hm, hmo, ?_⟩
  have hlc := ls_char (S := S) g (sN S).toNat
  have e2 : fP (lstep S (eI S) g) (-6) (sN S).toNat = lsL S g := rfl
  rw [e2, show (((sN S).toNat : Nat) : Int) = sN S by omega] at hlc
  rcases h5 with ⟨a, b, c⟩ | ⟨⟨a1, a2, a3, a4⟩, b1, b2, b3, b4⟩
  · left
    have none : ∀ j, 0 ≤ j → j < sN S → ¬ sG S j = g := fun j x y => c j (by omega) y
    refine ⟨?_, fst0.mpr none, a, b, ?_⟩
    · rcases hlc with hlc | hlc
      · exact hlc.1
      · exact absurd hlc.2.2.1 (none _ hlc.1 hlc.2.1)
    · rw [hm]; exact hcn.mpr none
  · right
    have il : isLs S g (sN S) le := ⟨by omega, a2, a3, fun j x y z => a4 j (by omega) y z⟩
    refine ⟨?_, ?_, by omega, by omega, ?_⟩
    · rcases hlc with hlc | hlc
      · exact absurd a3 (hlc.2 le (by omega) a2)
      · exact hlc.uniq il
    · exact (fstOf_e (P := fun j => sG S j = g) (Or.inl ⟨by omega, b2, b3, fun j x y => b4 j (by omega) y⟩)).symm
    · have : ¬ cg S g (sN S) = 0 := fun z => hcn.mp z le (by omega) a2 a3
      omega
