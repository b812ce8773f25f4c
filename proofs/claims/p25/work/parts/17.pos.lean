/-! ===== HOW FAR ALL HAS MOVED ===== -/
/-- rows above a line -/
def tp (S : sS) : Nat → Int
  | 0 => 0
  | k + 1 => tp S k + sH S k
def tI (S : sS) (i : Int) : Int := tp S i.toNat
theorem tI_0 (S : sS) : tI S 0 = 0 := rfl
theorem tI_s (S : sS) {i : Int} (h : 0 ≤ i) : tI S (i + 1) = tI S i + sH S i := by
  obtain ⟨k, rfl⟩ : ∃ k : Nat, i = k := ⟨i.toNat, by omega⟩
  unfold tI
  rw [show ((k : Int) + 1).toNat = k + 1 by omega, show ((k : Int)).toNat = k by omega]
  rfl
theorem tp_b {S : sS} (h : vS S) : ∀ k : Nat, (k : Int) ≤ tp S k ∧ tp S k ≤ 4 * k
  | 0 => ⟨by show ((0 : Nat) : Int) ≤ 0; omega, by show (0 : Int) ≤ 4 * ((0 : Nat) : Int); omega⟩
  | k + 1 => by
    have h1 := tp_b h k
    have h2 := vS_h h k
    show ((k + 1 : Nat) : Int) ≤ tp S k + sH S k ∧ tp S k + sH S k ≤ 4 * ((k + 1 : Nat) : Int)
    omega
theorem tI_b {S : sS} (h : vS S) {i : Int} (hi : 0 ≤ i) : i ≤ tI S i ∧ tI S i ≤ 4 * i := by
  have := tp_b h i.toNat
  unfold tI
  omega
theorem tp_m {S : sS} (h : vS S) {j k : Nat} (hjk : j ≤ k) : tp S j + (k - j : Nat) ≤ tp S k := by
  induction k with
  | zero =>
    have : j = 0 := by omega
    subst this
    show tp S 0 + ((0 - 0 : Nat) : Int) ≤ tp S 0
    omega
  | succ k ih =>
    by_cases hj : j = k + 1
    · subst hj
      omega
    · have := ih (by omega)
      have h2 := vS_h h k
      show tp S j + ((k + 1 - j : Nat) : Int) ≤ tp S k + sH S k
      omega
theorem tI_m {S : sS} (h : vS S) {i j : Int} (hi : 0 ≤ i) (hij : i ≤ j) : tI S i + (j - i) ≤ tI S j := by
  have := tp_m h (j := i.toNat) (k := j.toNat) (by omega)
  unfold tI
  omega
/-- the speed when all has moved by m, with the cues of the first k lines -/
def sp (S : sS) (k : Nat) (m : Int) : Int := match k with
  | 0 => sT S 1
  | k + 1 => if 0 < sC S k ∧ 10 * tp S k ≤ m then sC S k else sp S k m
theorem sp_b {S : sS} (h : vS S) : ∀ (k : Nat) (m : Int), (k : Int) ≤ sN S → 1 ≤ sp S k m ∧ sp S k m ≤ 30
  | 0, m, _ => h.2.2.2.1
  | k + 1, m, hk => by
    unfold sp
    split
    · rename_i hz
      have := h.2.2.2.2.2 k (by omega) (by omega)
      omega
    · exact sp_b h k m (by omega)
def pos (S : sS) (k : Nat) : Nat → Int
  | 0 => 0
  | t + 1 => pos S k t + sp S k (pos S k t)
theorem pos_s (S : sS) (k t : Nat) : pos S k (t + 1) = pos S k t + sp S k (pos S k t) := rfl
theorem pos_b {S : sS} (h : vS S) {k : Nat} (hk : (k : Int) ≤ sN S) : ∀ t : Nat, (t : Int) ≤ pos S k t ∧ pos S k t ≤ 30 * t
  | 0 => ⟨by show ((0 : Nat) : Int) ≤ 0; omega, by show (0 : Int) ≤ 30 * ((0 : Nat) : Int); omega⟩
  | t + 1 => by
    have h1 := pos_b h hk t
    have h2 := sp_b h k (pos S k t) hk
    rw [pos_s]
    omega
theorem pos_m {S : sS} (h : vS S) {k : Nat} (hk : (k : Int) ≤ sN S) {t u : Nat} (htu : t ≤ u) : pos S k t + (u - t : Nat) ≤ pos S k u := by
  induction u with
  | zero =>
    have : t = 0 := by omega
    subst this
    show pos S k 0 + ((0 - 0 : Nat) : Int) ≤ pos S k 0
    omega
  | succ u ih =>
    by_cases hj : t = u + 1
    · subst hj
      omega
    · have := ih (by omega)
      have h2 := sp_b h k (pos S k u) hk
      rw [pos_s]
      omega
/-- the first time at which all has moved by h -/
def isTau (S : sS) (k : Nat) (h : Int) (τ : Nat) : Prop := ∀ t : Nat, h ≤ pos S k t ↔ τ ≤ t
theorem isTau.uniq {S : sS} {k : Nat} {h : Int} {a b : Nat} (h1 : isTau S k h a) (h2 : isTau S k h b) : a = b := by
  have e1 := (h2 a).mp ((h1 a).mpr (Nat.le_refl _))
  have e2 := (h1 b).mp ((h2 b).mpr (Nat.le_refl _))
  omega
theorem isTau.of {S : sS} (hv : vS S) {k : Nat} (hk : (k : Int) ≤ sN S) {h : Int} {τ : Nat} (h1 : h ≤ pos S k τ) (h2 : ∀ t, t < τ → pos S k t < h) : isTau S k h τ := by
  intro t
  constructor
  · intro h3
    by_cases h4 : τ ≤ t
    · exact h4
    · have := h2 t (by omega)
      omega
  · intro h3
    have := pos_m hv hk h3
    omega
theorem ex_least (P : Nat → Prop) : ∀ N, P N → ∃ m, P m ∧ ∀ j, j < m → ¬ P j := by
  intro N
  induction N using Nat.strongRecOn with
  | ind N ih =>
    intro hN
    by_cases h : ∃ j, j < N ∧ P j
    · obtain ⟨j, h1, h2⟩ := h
      exact ih j h1 h2
    · exact ⟨N, hN, fun j h1 h2 => h ⟨j, h1, h2⟩⟩
theorem ex_tau {S : sS} (hv : vS S) {k : Nat} (hk : (k : Int) ≤ sN S) (h : Int) : ∃ τ, isTau S k h τ := by
  obtain ⟨m, h1, h2⟩ := ex_least (fun t => h ≤ pos S k t) h.toNat (by have := (pos_b hv hk h.toNat).1; omega)
  exact ⟨m, isTau.of hv hk h1 (fun t ht => by have := h2 t ht; omega)⟩
noncomputable def tau (S : sS) (h : Int) : Int := ((Classical.epsilon (fun τ : Nat => isTau S (sN S).toNat h τ) : Nat) : Int)
theorem tau_is {S : sS} (hv : vS S) (h : Int) : isTau S (sN S).toNat h (tau S h).toNat := by
  have := Classical.epsilon_spec (ex_tau hv (k := (sN S).toNat) (by have := hv.1; omega) h)
  unfold tau
  rw [Int.toNat_natCast]
  exact this
theorem tau_0 (S : sS) (h : Int) : 0 ≤ tau S h := by unfold tau; omega
theorem tau_eq {S : sS} (hv : vS S) {h : Int} {τ : Nat} (ht : isTau S (sN S).toNat h τ) : tau S h = τ := by
  have e := (tau_is hv h).uniq ht
  have := tau_0 S h
  omega
theorem tau_iff {S : sS} (hv : vS S) (h : Int) (t : Nat) : h ≤ pos S (sN S).toNat t ↔ tau S h ≤ t := by
  rw [tau_is hv h t]
  have := tau_0 S h
  omega
theorem tau_le {S : sS} (hv : vS S) {h : Int} (h0 : 0 ≤ h) : tau S h ≤ h := by
  have := (tau_iff hv h h.toNat).mp (by have := (pos_b hv (k := (sN S).toNat) (by have := hv.1; omega) h.toNat).1; omega)
  omega
theorem tau_pos {S : sS} (hv : vS S) {h : Int} (h0 : 0 < h) : 1 ≤ tau S h := by
  have h1 := not_congr (tau_iff hv h 0)
  have h2 : ¬ h ≤ pos S (sN S).toNat 0 := by show ¬ h ≤ 0; omega
  have h3 := h1.mp h2
  have := tau_0 S h
  omega
theorem tau_m {S : sS} (hv : vS S) {g h : Int} (hgh : g ≤ h) : tau S g ≤ tau S h := by
  have h1 := (tau_iff hv h (tau S h).toNat).mpr (by have := tau_0 S h; omega)
  have h2 := (tau_iff hv g (tau S h).toNat).mp (by omega)
  have := tau_0 S h
  omega
/-- for how many ticks, from when, how long all takes -/
noncomputable def fI (S : sS) (i : Int) : Int := tau S (10 * tI S (i + 1))
noncomputable def eI (S : sS) (i : Int) : Int := tau S (10 * (tI S i + sT S 0) + 1) - fI S i
noncomputable def aI (S : sS) : Int := if sN S = 0 then 0 else tau S (10 * (tI S (sN S) + sT S 0))
theorem fI_b {S : sS} (hv : vS S) {i : Int} (hi : 0 ≤ i ∧ i < sN S) : 1 ≤ fI S i ∧ fI S i ≤ 1600 := by
  have h1 := tI_b hv (i := i + 1) (by omega)
  have h2 := hv.2.1
  have h3 := tau_pos hv (h := 10 * tI S (i + 1)) (by omega)
  have h4 := tau_le hv (h := 10 * tI S (i + 1)) (by omega)
  unfold fI
  omega
theorem eI_b {S : sS} (hv : vS S) {i : Int} (hi : 0 ≤ i ∧ i < sN S) : 0 ≤ eI S i ∧ eI S i ≤ 1801 := by
  have h1 := tI_b hv (i := i) (by omega)
  have h2 := hv.2.1
  have h5 := tI_s S hi.1
  have h6 := vS_h hv i
  have h7 := hv.2.2.1
  have h3 := tau_m hv (g := 10 * tI S (i + 1)) (h := 10 * (tI S i + sT S 0) + 1) (by omega)
  have h4 := tau_le hv (h := 10 * (tI S i + sT S 0) + 1) (by omega)
  have h8 := (fI_b hv hi).1
  unfold eI
  unfold fI at *
  omega
theorem aI_b {S : sS} (hv : vS S) : 0 ≤ aI S ∧ aI S ≤ 1800 := by
  unfold aI
  split
  · omega
  · have h1 := tI_b hv (i := sN S) hv.1
    have h2 := hv.2.1
    have h7 := hv.2.2.1
    have h4 := tau_le hv (h := 10 * (tI S (sN S) + sT S 0)) (by omega)
    have := tau_0 S (10 * (tI S (sN S) + sT S 0))
    omega
/-! stretches of one speed -/
/-- s stretches: times, heights, speeds; they tell all positions with the cues of the first k lines -/
def stR (S : sS) (k : Nat) (s : Int) (T H V : Int → Int) : Prop :=
  (1 ≤ s ∧ s ≤ k + 1) ∧ (T 0 = 0 ∧ H 0 = 0) ∧ (∀ j, 0 ≤ j → j < s → (1 ≤ V j ∧ V j ≤ 30) ∧ (0 ≤ T j ∧ T j ≤ 1600) ∧ H j = pos S k (T j).toNat) ∧
  (∀ j, 0 ≤ j → j + 1 < s → T j < T (j + 1) ∧ ∀ t : Nat, T j ≤ t → t ≤ T (j + 1) → pos S k t = H j + (t - T j) * V j) ∧
  (∀ t : Nat, T (s - 1) ≤ t → pos S k t = H (s - 1) + (t - T (s - 1)) * V (s - 1)) ∧ (∀ t : Nat, (t : Int) < T (s - 1) → pos S k t < 10 * tp S k)
theorem stR_0 {S : sS} (hv : vS S) {T H V : Int → Int} (h1 : T 0 = 0) (h2 : H 0 = 0) (h3 : V 0 = sT S 1) : stR S 0 1 T H V := by
  have hp : ∀ t : Nat, pos S 0 t = t * sT S 1 := by
    intro t
    induction t with
    | zero => show (0 : Int) = ((0 : Nat) : Int) * _; simp
    | succ t ih =>
      rw [pos_s, ih]
      show (t : Int) * sT S 1 + sT S 1 = ((t + 1 : Nat) : Int) * sT S 1
      rw [Int.natCast_add, Int.add_mul]
      simp
  refine ⟨by omega, ⟨h1, h2⟩, fun j a b => ?_, fun j a b => absurd b (by omega), fun t _ => ?_, fun t ht => ?_⟩
  · have : j = 0 := by omega
    subst this
    rw [h1, h2, h3]
    exact ⟨hv.2.2.2.1, by omega, rfl⟩
  · rw [show (1 : Int) - 1 = 0 by omega, h1, h2, h3, hp]
    simp
  · rw [show (1 : Int) - 1 = 0 by omega, h1] at ht
    omega
/-- a line without a cue changes nothing -/
theorem pos_skip {S : sS} {k : Nat} (h : ¬ 0 < sC S k) : ∀ t, pos S (k + 1) t = pos S k t
  | 0 => rfl
  | t + 1 => by
    rw [pos_s, pos_s, pos_skip h t]
    show _ + (if 0 < sC S k ∧ 10 * tp S k ≤ pos S k t then sC S k else sp S k (pos S k t)) = _
    rw [if_neg (fun z => h z.1)]
theorem stR_skip {S : sS} (hv : vS S) {k : Nat} {s : Int} {T H V : Int → Int} (h : ¬ 0 < sC S k) (hs : stR S k s T H V) : stR S (k + 1) s T H V := by
  obtain ⟨a1, a2, a3, a4, a5, a6⟩ := hs
  have hp := pos_skip h
  refine ⟨by omega, a2, fun j x y => ?_, fun j x y => ?_, fun t x => ?_, fun t x => ?_⟩
  · rw [hp]; exact a3 j x y
  · exact ⟨(a4 j x y).1, fun t u v => by rw [hp]; exact (a4 j x y).2 t u v⟩
  · rw [hp]; exact a5 t x
  · rw [hp]
    have := a6 t x
    have h2 := vS_h hv k
    show _ < 10 * (tp S k + sH S k)
    omega
/-- with a cue: until all has moved to it as before, then with its speed -/
theorem pos_cue {S : sS} (hv : vS S) {k : Nat} (hk : (k : Int) < sN S) {τ : Nat} (hc : 0 < sC S k) (ht : isTau S k (10 * tp S k) τ) : (∀ t, t ≤ τ → pos S (k + 1) t = pos S k t) ∧ ∀ r : Nat, pos S (k + 1) (τ + r) = pos S k τ + r * sC S k := by
  have h1 : ∀ t, t ≤ τ → pos S (k + 1) t = pos S k t := by
    intro t
    induction t with
    | zero => intro _; rfl
    | succ t ih =>
      intro h
      rw [pos_s, pos_s, ih (by omega)]
      show _ + (if 0 < sC S k ∧ 10 * tp S k ≤ pos S k t then sC S k else sp S k (pos S k t)) = _
      rw [if_neg (fun z => by have := (ht t).mp z.2; omega)]
  refine ⟨h1, fun r => ?_⟩
  induction r with
  | zero =>
    show pos S (k + 1) τ = _
    rw [h1 τ (Nat.le_refl _)]; simp
  | succ r ih =>
    show pos S (k + 1) (τ + r + 1) = _
    rw [pos_s, ih]
    have hz : 10 * tp S k ≤ pos S k τ := (ht τ).mpr (Nat.le_refl _)
    have hr : 0 ≤ (r : Int) * sC S k := Int.mul_nonneg (by omega) (by omega)
    show _ + (if 0 < sC S k ∧ 10 * tp S k ≤ pos S k τ + r * sC S k then sC S k else _) = _
    rw [if_pos ⟨hc, by omega⟩, Int.natCast_add, Int.add_mul]
    simp
    omega
/-- how many ticks for a way at a speed -/
def isTk (w v r : Int) : Prop := (w ≤ 0 ∧ r = 0) ∨ (0 < w ∧ 1 ≤ r ∧ (r - 1) * v < w ∧ w ≤ r * v)
theorem isTk_div {w v : Int} (hw : 0 < w) (hv : 0 < v) : isTk w v ((w + v - 1).tdiv v) := by
  rw [Int.tdiv_eq_ediv_of_nonneg (by omega)]
  have h1 := Int.mul_ediv_add_emod (w + v - 1) v
  have h2 := Int.emod_nonneg (w + v - 1) (by omega : v ≠ 0)
  have h3 := Int.emod_lt_of_pos (w + v - 1) hv
  generalize hq : (w + v - 1) / v = q at *
  have h4 : v * q = q * v := Int.mul_comm _ _
  right
  refine ⟨hw, ?_, ?_, ?_⟩
  · have : 1 ≤ q := by
      by_cases hz : q ≤ 0
      · have : q * v ≤ 0 := Int.mul_nonpos_of_nonpos_of_nonneg hz (by omega)
        omega
      · omega
    exact this
  · rw [Int.sub_mul]
    omega
  · omega
/-- the time at which a stretch reaches a height -/
theorem stR_tau {S : sS} (hv : vS S) {k : Nat} (hk : (k : Int) ≤ sN S) {s : Int} {T H V : Int → Int} (hs : stR S k s T H V) {j h r : Int} (hj : 0 ≤ j ∧ j < s) (h1 : H j < h) (h2 : j + 1 < s → h ≤ H (j + 1)) (hr : isTk (h - H j) (V j) r) : isTau S k h (T j + r).toNat ∧ 0 ≤ T j + r := by
  obtain ⟨a1, a2, a3, a4, a5, a6⟩ := hs
  obtain ⟨⟨v1, v2⟩, ⟨t1, t2⟩, hj2⟩ := a3 j hj.1 hj.2
  rcases hr with ⟨z, -⟩ | ⟨-, r1, r2, r3⟩
  · omega
  -- positions within the stretch
  have hp : ∀ t : Nat, T j ≤ t → t ≤ T j + r → pos S k t = H j + (t - T j) * V j := by
    intro t x y
    by_cases hl : j + 1 < s
    · obtain ⟨b1, b2⟩ := a4 j hj.1 hl
      obtain ⟨-, ⟨t3, -⟩, hH⟩ := a3 (j + 1) (by omega) hl
      have b3 := b2 (T (j + 1)).toNat (by omega) (by omega)
      rw [← hH, show (((T (j + 1)).toNat : Nat) : Int) = T (j + 1) by omega] at b3
      have h3 := h2 hl
      have hlt : (r - 1) * V j < (T (j + 1) - T j) * V j := by omega
      have : r - 1 < T (j + 1) - T j := Int.lt_of_mul_lt_mul_right hlt (by omega)
      exact b2 t x (by omega)
    · have : j = s - 1 := by omega
      subst this
      exact a5 t x
  refine ⟨isTau.of hv hk ?_ (fun t ht => ?_), by omega⟩
  · rw [hp (T j + r).toNat (by omega) (by omega), show (((T j + r).toNat : Nat) : Int) = T j + r by omega, show T j + r - T j = r by omega]
    omega
  · have hm : pos S k t ≤ pos S k (T j + r - 1).toNat := by
      have := pos_m hv hk (t := t) (u := (T j + r - 1).toNat) (by omega)
      omega
    rw [hp (T j + r - 1).toNat (by omega) (by omega), show (((T j + r - 1).toNat : Nat) : Int) = T j + r - 1 by omega, show T j + r - 1 - T j = r - 1 by omega] at hm
    omega
/-- a cue begins a new stretch .. -/
theorem stR_new {S : sS} (hv : vS S) {k : Nat} (hk : (k : Int) < sN S) {s : Int} {T H V T' H' V' : Int → Int} (hc : 0 < sC S k) (hs : stR S k s T H V) {r : Int} (hr : isTk (10 * tp S k - H (s - 1)) (V (s - 1)) r) (hr0 : 0 < r)
    (e : ∀ j, j < s → T' j = T j ∧ H' j = H j ∧ V' j = V j) (e1 : T' s = T (s - 1) + r) (e2 : H' s = H (s - 1) + r * V (s - 1)) (e3 : V' s = sC S k) : stR S (k + 1) (s + 1) T' H' V' := by
  have hs' := hs
  obtain ⟨a1, a2, a3, a4, a5, a6⟩ := hs
  obtain ⟨⟨v1, v2⟩, ⟨t1, t2⟩, hj2⟩ := a3 (s - 1) (by omega) (by omega)
  have hw : 0 < 10 * tp S k - H (s - 1) := by
    rcases hr with ⟨-, z⟩ | ⟨z, -⟩
    · omega
    · exact z
  obtain ⟨ht, -⟩ := stR_tau hv (by omega) hs' (j := s - 1) (h := 10 * tp S k) (by omega) (by omega) (fun z => absurd z (by omega)) hr
  obtain ⟨p1, p2⟩ := pos_cue hv hk hc ht
  have hcb := hv.2.2.2.2.2 k (by omega) hk
  have htp := tp_b hv k
  have hn := hv.2.1
  have hτ : T (s - 1) + r ≤ 1600 := by
    have h1 := (ht (10 * tp S k).toNat).mp (by have := (pos_b hv (k := k) (by omega) (10 * tp S k).toNat).1; omega)
    omega
  have hH : pos S k (T (s - 1) + r).toNat = H (s - 1) + r * V (s - 1) := by
    rw [a5 _ (by omega), show (((T (s - 1) + r).toNat : Nat) : Int) = T (s - 1) + r by omega, show T (s - 1) + r - T (s - 1) = r by omega]
  refine ⟨by omega, ⟨by rw [(e 0 (by omega)).1]; exact a2.1, by rw [(e 0 (by omega)).2.1]; exact a2.2⟩, fun j x y => ?_, fun j x y => ?_, fun t x => ?_, fun t x => ?_⟩
  · by_cases hj : j = s
    · subst hj
      rw [e1, e2, e3, p1 _ (by omega)]
      exact ⟨by omega, by omega, hH.symm⟩
    · obtain ⟨f1, f2, f3⟩ := e j (by omega)
      rw [f1, f2, f3]
      obtain ⟨b1, b2, b3⟩ := a3 j x (by omega)
      refine ⟨b1, b2, ?_⟩
      have hle : T j ≤ T (s - 1) := by
        have hm : ∀ n : Nat, j + n ≤ s - 1 → T j ≤ T (j + n) := by
          intro n
          induction n with
          | zero => intro _; simp
          | succ n ih =>
            intro hz
            have := (a4 (j + n) (by omega) (by omega)).1
            have := ih (by omega)
            rw [show j + ((n + 1 : Nat) : Int) = j + n + 1 by omega]
            omega
        have := hm (s - 1 - j).toNat (by omega)
        rwa [show j + (((s - 1 - j).toNat : Nat) : Int) = s - 1 by omega] at this
      rw [p1 _ (by omega)]
      exact b3
  · by_cases hj : j + 1 = s
    · have hj' : j = s - 1 := by omega
      subst hj'
      obtain ⟨f1, f2, f3⟩ := e (s - 1) (by omega)
      rw [show s - 1 + 1 = s by omega, f1, f2, f3, e1]
      refine ⟨by omega, fun t u w => ?_⟩
      rw [p1 t (by omega)]
      exact a5 t u
    · obtain ⟨f1, f2, f3⟩ := e j (by omega)
      obtain ⟨g1, g2, g3⟩ := e (j + 1) (by omega)
      rw [f1, f2, f3, g1]
      obtain ⟨b1, b2⟩ := a4 j x (by omega)
      refine ⟨b1, fun t u w => ?_⟩
      have hle : T (j + 1) ≤ T (s - 1) := by
        have hm : ∀ n : Nat, j + 1 + n ≤ s - 1 → T (j + 1) ≤ T (j + 1 + n) := by
          intro n
          induction n with
          | zero => intro _; simp
          | succ n ih =>
            intro hz
            have := (a4 (j + 1 + n) (by omega) (by omega)).1
            have := ih (by omega)
            rw [show j + 1 + ((n + 1 : Nat) : Int) = j + 1 + n + 1 by omega]
            omega
        have := hm (s - 1 - (j + 1)).toNat (by omega)
        rwa [show j + 1 + (((s - 1 - (j + 1)).toNat : Nat) : Int) = s - 1 by omega] at this
      rw [p1 t (by omega)]
      exact b2 t u w
  · rw [show s + 1 - 1 = s by omega, e1] at x
    rw [show s + 1 - 1 = s by omega, e1, e2, e3]
    have := p2 (t - (T (s - 1) + r).toNat)
    rw [show (T (s - 1) + r).toNat + (t - (T (s - 1) + r).toNat) = t by omega, hH] at this
    rw [this, show ((t - (T (s - 1) + r).toNat : Nat) : Int) = t - (T (s - 1) + r) by omega]
  · rw [show s + 1 - 1 = s by omega, e1] at x
    rw [p1 t (by omega)]
    have h1 := (not_congr (ht t)).mpr (by omega)
    have h2 := vS_h hv k
    show _ < 10 * (tp S k + sH S k)
    omega
/-- .. or gives its speed to the latest one -/
theorem stR_over {S : sS} (hv : vS S) {k : Nat} (hk : (k : Int) < sN S) {s : Int} {T H V V' : Int → Int} (hc : 0 < sC S k) (hs : stR S k s T H V) (hw : 10 * tp S k ≤ H (s - 1)) (e : ∀ j, j < s - 1 → V' j = V j) (e3 : V' (s - 1) = sC S k) : stR S (k + 1) s T H V' := by
  obtain ⟨a1, a2, a3, a4, a5, a6⟩ := hs
  obtain ⟨⟨v1, v2⟩, ⟨t1, t2⟩, hj2⟩ := a3 (s - 1) (by omega) (by omega)
  have ht : isTau S k (10 * tp S k) (T (s - 1)).toNat := isTau.of hv (by omega) (by rw [← hj2]; exact hw) (fun t x => a6 t (by omega))
  obtain ⟨p1, p2⟩ := pos_cue hv hk hc ht
  have hcb := hv.2.2.2.2.2 k (by omega) hk
  have hle : ∀ j, 0 ≤ j → j < s → T j ≤ T (s - 1) := by
    intro j x y
    have hm : ∀ n : Nat, j + n ≤ s - 1 → T j ≤ T (j + n) := by
      intro n
      induction n with
      | zero => intro _; simp
      | succ n ih =>
        intro hz
        have := (a4 (j + n) (by omega) (by omega)).1
        have := ih (by omega)
        rw [show j + ((n + 1 : Nat) : Int) = j + n + 1 by omega]
        omega
    have := hm (s - 1 - j).toNat (by omega)
    rwa [show j + (((s - 1 - j).toNat : Nat) : Int) = s - 1 by omega] at this
  refine ⟨by omega, a2, fun j x y => ?_, fun j x y => ?_, fun t x => ?_, fun t x => ?_⟩
  · obtain ⟨b1, b2, b3⟩ := a3 j x y
    have := hle j x y
    rw [p1 _ (by omega)]
    refine ⟨?_, b2, b3⟩
    by_cases hj : j = s - 1
    · rw [hj, e3]; omega
    · rw [e j (by omega)]; exact b1
  · obtain ⟨b1, b2⟩ := a4 j x y
    have := hle (j + 1) (by omega) y
    refine ⟨b1, fun t u w => ?_⟩
    rw [p1 t (by omega), e j (by omega)]
    exact b2 t u w
  · rw [e3]
    have := p2 (t - (T (s - 1)).toNat)
    rw [show (T (s - 1)).toNat + (t - (T (s - 1)).toNat) = t by omega, ← hj2] at this
    rw [this, show ((t - (T (s - 1)).toNat : Nat) : Int) = t - T (s - 1) by omega]
  · rw [p1 t (by omega)]
    have := a6 t x
    have h2 := vS_h hv k
    show _ < 10 * (tp S k + sH S k)
    omega
