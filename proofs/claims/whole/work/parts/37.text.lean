/-! ===== lines out of characters ===== -/
def cD (P : Int → Int) (N p : Int) : Int := if p < N ∧ 48 ≤ P p ∧ P p ≤ 57 then P p - 48 else -1
def nmR (P : Int → Int) (N most : Int) : Nat → Int → Int → Int × Int
  | 0, v, p => (v, p)
  | f + 1, v, p => if ¬ v = 0 ∧ 0 ≤ cD P N p ∧ 10 * v + cD P N p ≤ most then nmR P N most f (10 * v + cD P N p) (p + 1) else (v, p)
def nmF (P : Int → Int) (N most v p : Int) : Int × Int := nmR P N most (N - p).toNat v p
theorem nmF_s {P : Int → Int} {N most v p : Int} (h : p < N) : nmF P N most v p = if ¬ v = 0 ∧ 0 ≤ cD P N p ∧ 10 * v + cD P N p ≤ most then nmF P N most (10 * v + cD P N p) (p + 1) else (v, p) := by
  unfold nmF
  rw [show (N - p).toNat = (N - (p + 1)).toNat + 1 by omega]
  rfl
theorem nmF_e {P : Int → Int} {N most v p : Int} (h : ¬ p < N) : nmF P N most v p = (v, p) := by
  unfold nmF
  rw [show (N - p).toNat = 0 by omega]
  rfl
theorem cD_b (P : Int → Int) (N p : Int) : -1 ≤ cD P N p ∧ cD P N p ≤ 9 ∧ (0 ≤ cD P N p → p < N) := by
  unfold cD
  by_cases h : p < N ∧ 48 ≤ P p ∧ P p ≤ 57
  · rw [if_pos h]; omega
  · rw [if_neg h]; omega
theorem nmR_b {P : Int → Int} {N most : Int} (hm : 9 ≤ most) : ∀ (f : Nat) (v p : Int), 0 ≤ v → v ≤ most → p ≤ N → (v ≤ (nmR P N most f v p).1 ∧ (nmR P N most f v p).1 ≤ most) ∧ p ≤ (nmR P N most f v p).2 ∧ (nmR P N most f v p).2 ≤ N
  | 0, v, p, h0, h1, h2 => ⟨⟨Int.le_refl v, h1⟩, Int.le_refl p, h2⟩
  | f + 1, v, p, h0, h1, h2 => by
    unfold nmR
    by_cases h : ¬ v = 0 ∧ 0 ≤ cD P N p ∧ 10 * v + cD P N p ≤ most
    · rw [if_pos h]
      have hd := cD_b P N p
      have := nmR_b (P := P) hm f (10 * v + cD P N p) (p + 1) (by omega) h.2.2 (show p + 1 ≤ N by have := hd.2.2 h.2.1; omega)
      omega
    · rw [if_neg h]
      exact ⟨⟨Int.le_refl v, h1⟩, Int.le_refl p, h2⟩
theorem nmF_b {P : Int → Int} {N most v p : Int} (hm : 9 ≤ most) (h0 : 0 ≤ v) (h1 : v ≤ most) (h2 : p ≤ N) : (v ≤ (nmF P N most v p).1 ∧ (nmF P N most v p).1 ≤ most) ∧ p ≤ (nmF P N most v p).2 ∧ (nmF P N most v p).2 ≤ N := nmR_b hm _ v p h0 h1 h2
def kd (P : Int → Int) (N p : Int) : Int := if p < N then (if P p = 110 then 0 else if P p = 116 then 1 else if P p = 108 then 2 else if P p = 98 then 3 else -1) else -1
/-- whether a line is there, up to where, its kind, group, number, cue -/
abbrev pR : Type := Int × Int × Int × Int × Int × Int
def plC (P : Int → Int) (N k g n q : Int) : pR := if q < N ∧ P q = 64 then (if cD P N (q + 1) < 1 then (0, q + 1, 0, 0, 0, 0) else (1, (nmF P N 30 (cD P N (q + 1)) (q + 2)).2, k, g, n, (nmF P N 30 (cD P N (q + 1)) (q + 2)).1)) else (1, q, k, g, n, 0)
def pl (P : Int → Int) (N p : Int) : pR := if kd P N p = -1 then (0, p, 0, 0, 0, 0) else if kd P N p = 0 then (if ¬ (0 ≤ cD P N (p + 1) ∧ cD P N (p + 1) ≤ 7) then (0, p + 1, 0, 0, 0, 0) else if cD P N (p + 2) < 0 then (0, p + 2, 0, 0, 0, 0) else plC P N 0 (cD P N (p + 1)) (nmF P N 999 (cD P N (p + 2)) (p + 3)).1 (nmF P N 999 (cD P N (p + 2)) (p + 3)).2) else plC P N (kd P N p) (-6) (-6) (p + 1)
def pa (P : Int → Int) (N : Int) : Nat → Int → sS → Int × sS
  | 0, p, T => (p, T)
  | f + 1, p, T => if (pl P N p).1 = 0 then ((pl P N p).2.1, T) else if (pl P N p).2.1 = N then (-6, sAdd T (pl P N p).2.2.1 (pl P N p).2.2.2.1 (pl P N p).2.2.2.2.1 (pl P N p).2.2.2.2.2) else if ¬ P (pl P N p).2.1 = 44 then ((pl P N p).2.1, sAdd T (pl P N p).2.2.1 (pl P N p).2.2.2.1 (pl P N p).2.2.2.2.1 (pl P N p).2.2.2.2.2) else pa P N f ((pl P N p).2.1 + 1) (sAdd T (pl P N p).2.2.1 (pl P N p).2.2.2.1 (pl P N p).2.2.2.2.1 (pl P N p).2.2.2.2.2)
theorem kd_b (P : Int → Int) (N p : Int) : -1 ≤ kd P N p ∧ kd P N p ≤ 3 ∧ (¬ kd P N p = -1 → p < N) := by
  unfold kd
  by_cases h : p < N
  · rw [if_pos h]; omega
  · rw [if_neg h]; omega
theorem plC_b {P : Int → Int} {N k g n q : Int} (hq : q ≤ N) : (q ≤ (plC P N k g n q).2.1 ∧ (plC P N k g n q).2.1 ≤ N) ∧ ((plC P N k g n q).1 = 0 ∨ (plC P N k g n q).1 = 1) ∧ ((plC P N k g n q).1 = 1 → (plC P N k g n q).2.2.1 = k ∧ (plC P N k g n q).2.2.2.1 = g ∧ (plC P N k g n q).2.2.2.2.1 = n ∧ 0 ≤ (plC P N k g n q).2.2.2.2.2 ∧ (plC P N k g n q).2.2.2.2.2 ≤ 30) := by
  unfold plC
  by_cases h1 : q < N ∧ P q = 64
  · rw [if_pos h1]
    by_cases h2 : cD P N (q + 1) < 1
    · rw [if_pos h2]
      dsimp only
      omega
    · rw [if_neg h2]
      have hd := cD_b P N (q + 1)
      have := nmF_b (P := P) (N := N) (most := 30) (v := cD P N (q + 1)) (p := q + 2) (by omega) (by omega) (by omega) (by have := hd.2.2 (by omega); omega)
      dsimp only
      omega
  · rw [if_neg h1]
    dsimp only
    omega
theorem pl_b {P : Int → Int} {N p : Int} (hp : p ≤ N) : ((p ≤ (pl P N p).2.1 ∧ (pl P N p).2.1 ≤ N) ∧ ((pl P N p).1 = 0 ∨ (pl P N p).1 = 1)) ∧ ((pl P N p).1 = 1 → p + 1 ≤ (pl P N p).2.1 ∧ (0 ≤ (pl P N p).2.2.1 ∧ (pl P N p).2.2.1 ≤ 3) ∧ ((pl P N p).2.2.1 = 0 → 0 ≤ (pl P N p).2.2.2.1 ∧ (pl P N p).2.2.2.1 ≤ 7 ∧ 0 ≤ (pl P N p).2.2.2.2.1 ∧ (pl P N p).2.2.2.2.1 ≤ 999) ∧ (¬ (pl P N p).2.2.1 = 0 → (pl P N p).2.2.2.1 = -6 ∧ (pl P N p).2.2.2.2.1 = -6) ∧ 0 ≤ (pl P N p).2.2.2.2.2 ∧ (pl P N p).2.2.2.2.2 ≤ 30) := by
  have hk := kd_b P N p
  unfold pl
  by_cases h1 : kd P N p = -1
  · rw [if_pos h1]
    dsimp only
    omega
  · rw [if_neg h1]
    have hpn := hk.2.2 h1
    by_cases h2 : kd P N p = 0
    · rw [if_pos h2]
      have d1 := cD_b P N (p + 1)
      have d2 := cD_b P N (p + 2)
      by_cases h3 : ¬ (0 ≤ cD P N (p + 1) ∧ cD P N (p + 1) ≤ 7)
      · rw [if_pos h3]
        dsimp only
        omega
      · rw [if_neg h3]
        by_cases h4 : cD P N (p + 2) < 0
        · rw [if_pos h4]
          dsimp only
          omega
        · rw [if_neg h4]
          have hb := nmF_b (P := P) (N := N) (most := 999) (v := cD P N (p + 2)) (p := p + 3) (by omega) (by omega) (by omega) (by omega)
          have := plC_b (P := P) (k := 0) (g := cD P N (p + 1)) (n := (nmF P N 999 (cD P N (p + 2)) (p + 3)).1) hb.2.2
          omega
    · rw [if_neg h2]
      have := plC_b (P := P) (k := kd P N p) (g := -6) (n := -6) (show p + 1 ≤ N by omega)
      omega
/-- no lines -/
def sZ : sS := (0, fun _ => 0, fun _ => 0, fun _ => 0, fun _ => 0, fun _ => 0)
def paA (A : sA) : Int × sS := pa (aC A) (aN A) 61 0 sZ
noncomputable def rRead (A : sA) : Int × sA := ite' (¬ (paA A).1 = -6) (-3, A) (ite' (40 < sN (aS A) + sN (paA A).2) (-4, A) (sN (aS A) + sN (paA A).2, (sApp (aS A) (paA A).2, rcN (aH A), rcH (aH A) (aP A) (aS A), aF A, aL A, 0, aC A)))
