/-! ===== THE MATHEMATICS OF A STATE, AND HOW THE TWO SIDES HOLD IT ===== -/
/-- a state of the credits: how many lines, the settings, then by line: kind, group, number, cue -/
abbrev sS : Type := Int × (Int → Int) × (Int → Int) × (Int → Int) × (Int → Int) × (Int → Int)
def sN (S : sS) : Int := S.1
def sT (S : sS) : Int → Int := S.2.1
def sK (S : sS) : Int → Int := S.2.2.1
def sG (S : sS) : Int → Int := S.2.2.2.1
def sM (S : sS) : Int → Int := S.2.2.2.2.1
def sC (S : sS) : Int → Int := S.2.2.2.2.2
def vS (S : sS) : Prop := 0 ≤ sN S ∧ sN S ≤ 40 ∧ (4 ≤ sT S 0 ∧ sT S 0 ≤ 20) ∧ (1 ≤ sT S 1 ∧ sT S 1 ≤ 30) ∧ (1 ≤ sT S 2 ∧ sT S 2 ≤ 4) ∧
  ∀ i, 0 ≤ i → i < sN S → 0 ≤ sK S i ∧ sK S i ≤ 3 ∧ (sK S i = 0 → 0 ≤ sG S i ∧ sG S i ≤ 7 ∧ 0 ≤ sM S i ∧ sM S i ≤ 999) ∧ (¬ sK S i = 0 → sG S i = -6 ∧ sM S i = -6) ∧ 0 ≤ sC S i ∧ sC S i ≤ 30
/-- the height of a line -/
def sH (S : sS) (i : Int) : Int := if sK S i = 1 then 2 else if sK S i = 2 then sT S 2 else 1
theorem vS_h {S : sS} (h : vS S) (i : Int) : 1 ≤ sH S i ∧ sH S i ≤ 4 := by
  obtain ⟨-, -, -, -, h5, -⟩ := h
  unfold sH
  split
  · omega
  · split <;> omega
/-- the class's Credits at c -/
def isC (G : cm_G) (c : Int) : Prop := 0 ≤ c ∧ cm_sh G c = some (0, 1) ∧ (G.2 c 0 = c + 1 ∧ G.2 c 1 = c + 2 ∧ G.2 c 2 = c + 3 ∧ G.2 c 3 = c + 4 ∧ G.2 c 4 = c + 5) ∧ (∀ M, cm_al 1 G M (c + 1) = 3) ∧ (∀ M, cm_al 1 G M (c + 2) = 40) ∧ (∀ M, cm_al 1 G M (c + 3) = 40) ∧ (∀ M, cm_al 1 G M (c + 4) = 40) ∧ (∀ M, cm_al 1 G M (c + 5) = 40)
/-- Credits at c hold S -/
def rC (M : cm_M) (c : Int) (S : sS) : Prop := M c 5 = sN S ∧ (∀ j, 0 ≤ j → j < 3 → M (c + 1) j = sT S j) ∧ ∀ i, 0 ≤ i → i < sN S → M (c + 2) i = sK S i ∧ M (c + 3) i = sG S i ∧ M (c + 4) i = sM S i ∧ M (c + 5) i = sC S i
/-- the reference's row z holds S -/
def rM (M : cm_M) (z : Int) (S : sS) : Prop := M z 3 = sN S ∧ (∀ j, 0 ≤ j → j < 3 → M z j = sT S j) ∧ ∀ i, 0 ≤ i → i < sN S → M z (4 + 4 * i) = sK S i ∧ M z (4 + 4 * i + 1) = sG S i ∧ M z (4 + 4 * i + 2) = sM S i ∧ M z (4 + 4 * i + 3) = sC S i
theorem cm_sum0 : cm_sum [] ≤ 8 := Nat.zero_le _
theorem cn0 : cm_in 0 := ⟨by decide, by decide⟩
theorem ci0 : cm_in 0 = True := eq_true cn0
theorem cn1 : cm_in 1 := ⟨by decide, by decide⟩
theorem ci1 : cm_in 1 = True := eq_true cn1
theorem cn6 : cm_in (-6) := ⟨by decide, by decide⟩
theorem cin6 : cm_in (-6) = True := eq_true cn6
theorem i10 : (1 : Int) = 0 ↔ False := by decide
theorem i01 : (0 : Int) = 1 ↔ False := by decide
theorem cm_rne {f : Int → Int → Int} {k j v a : Int} (h : a ≠ k) : cm_up f k j v a = f a := by funext b; exact cm_up_n f (Or.inl h)
theorem cm_req {f : Int → Int → Int} {k j v : Int} : cm_up f k j v k = fun b => if b = j then v else f k b := by
  funext b
  unfold cm_up
  by_cases h : b = j
  · rw [if_pos ⟨rfl, h⟩, if_pos h]
  · rw [if_neg (fun z => h z.2), if_neg h]
/-- a loop that counts up to n -/
theorem go_loop {σ : Type} {μ h : Nat} {G : cm_G} {Q : Option cm_V → cm_G → cm_M → Prop} (f : Int → σ → List (Option cm_V)) (m : σ → cm_M) (R : Int → σ → Prop) (n : Int)
    (hs : ∀ i s, 0 ≤ i → i < n → R i s → (∀ s', R (i + 1) s' → Go μ h (f (i + 1) s') [] G (m s') Q) → Go μ h (f i s) [] G (m s) Q)
    (he : ∀ s, R n s → Go μ h (f n s) [] G (m s) Q) : ∀ (i : Int) (s : σ), 0 ≤ i → i ≤ n → R i s → Go μ h (f i s) [] G (m s) Q := by
  have key : ∀ (r : Nat) (i : Int) (s : σ), i + r = n → 0 ≤ i → R i s → Go μ h (f i s) [] G (m s) Q := by
    intro r
    induction r with
    | zero =>
      intro i s h1 h2 h3
      have : i = n := by omega
      subst this
      exact he s h3
    | succ r ih =>
      intro i s h1 h2 h3
      exact hs i s h2 (by omega) h3 (fun s' h4 => ih (i + 1) s' (by omega) (by omega) h4)
  intro i s h0 h1 h2
  exact key (n - i).toNat i s (by omega) h0 h2
/-- a loop that counts down to n -/
theorem go_loopD {σ : Type} {μ h : Nat} {G : cm_G} {Q : Option cm_V → cm_G → cm_M → Prop} (f : Int → σ → List (Option cm_V)) (m : σ → cm_M) (R : Int → σ → Prop) (n : Int)
    (hs : ∀ i s, n < i → R i s → (∀ s', R (i - 1) s' → Go μ h (f (i - 1) s') [] G (m s') Q) → Go μ h (f i s) [] G (m s) Q)
    (he : ∀ s, R n s → Go μ h (f n s) [] G (m s) Q) : ∀ (i : Int) (s : σ), n ≤ i → R i s → Go μ h (f i s) [] G (m s) Q := by
  have key : ∀ (r : Nat) (i : Int) (s : σ), i = n + r → R i s → Go μ h (f i s) [] G (m s) Q := by
    intro r
    induction r with
    | zero =>
      intro i s h1 h3
      have : i = n := by omega
      subst this
      exact he s h3
    | succ r ih =>
      intro i s h1 h3
      exact hs i s (by omega) h3 (fun s' h4 => ih (i - 1) s' (by omega) h4)
  intro i s h1 h2
  exact key (i - n).toNat i s (by omega) h2
/-- what a loop gathers -/
def fP {α : Type} (f : Int → α → α) (a : α) : Nat → α
  | 0 => a
  | k + 1 => f (k : Int) (fP f a k)
theorem fP_s {α : Type} (f : Int → α → α) (a : α) {i : Int} (h : 0 ≤ i) : fP f a (i + 1).toNat = f i (fP f a i.toNat) := by
  obtain ⟨k, rfl⟩ : ∃ k : Nat, i = k := ⟨i.toNat, by omega⟩
  rw [show ((k : Int) + 1).toNat = k + 1 by omega, show ((k : Int)).toNat = k by omega]
  rfl
theorem fP_0 {α : Type} (f : Int → α → α) (a : α) : fP f a (0 : Int).toNat = a := rfl
/-- the first place of a kind below n, or -6 -/
def isFst (P : Int → Prop) (n r : Int) : Prop := (0 ≤ r ∧ r < n ∧ P r ∧ ∀ j, 0 ≤ j → j < r → ¬ P j) ∨ (r = -6 ∧ ∀ j, 0 ≤ j → j < n → ¬ P j)
theorem isFst.uniq {P : Int → Prop} {n r s : Int} (h1 : isFst P n r) (h2 : isFst P n s) : r = s := by
  rcases h1 with ⟨a1, a2, a3, a4⟩ | ⟨a1, a2⟩ <;> rcases h2 with ⟨b1, b2, b3, b4⟩ | ⟨b1, b2⟩
  · by_cases h : r < s
    · exact absurd a3 (b4 r a1 h)
    · by_cases h' : s < r
      · exact absurd b3 (a4 s b1 h')
      · omega
  · exact absurd a3 (b2 r a1 a2)
  · exact absurd b3 (a2 s b1 b2)
  · omega
/-- two lines change places -/
def sw (f : Int → Int) (a b : Int) : Int → Int := fun j => if j = a then f b else if j = b then f a else f j
def sSw (S : sS) (a b : Int) : sS := (sN S, sT S, sw (sK S) a b, sw (sG S) a b, sw (sM S) a b, sw (sC S) a b)
theorem sw_comm (f : Int → Int) (a b : Int) : sw f a b = sw f b a := by
  funext j
  unfold sw
  by_cases h1 : j = a
  · by_cases h2 : j = b
    · rw [if_pos h1, if_pos h2, ← h1, ← h2]
    · rw [if_pos h1, if_neg h2, if_pos h1]
  · by_cases h2 : j = b
    · rw [if_neg h1, if_pos h2, if_pos h2]
    · rw [if_neg h1, if_neg h2, if_neg h2, if_neg h1]
theorem sSw_comm (S : sS) (a b : Int) : sSw S a b = sSw S b a := by
  unfold sSw
  rw [sw_comm (sK S), sw_comm (sG S), sw_comm (sM S), sw_comm (sC S)]
theorem vS_sw {S : sS} (h : vS S) {a b : Int} (ha : 0 ≤ a ∧ a < sN S) (hb : 0 ≤ b ∧ b < sN S) : vS (sSw S a b) := by
  obtain ⟨h1, h2, h3, h4, h5, h6⟩ := h
  refine ⟨h1, h2, h3, h4, h5, fun i hi0 hi1 => ?_⟩
  show 0 ≤ sw (sK S) a b i ∧ sw (sK S) a b i ≤ 3 ∧ (sw (sK S) a b i = 0 → 0 ≤ sw (sG S) a b i ∧ sw (sG S) a b i ≤ 7 ∧ 0 ≤ sw (sM S) a b i ∧ sw (sM S) a b i ≤ 999) ∧ (¬ sw (sK S) a b i = 0 → sw (sG S) a b i = -6 ∧ sw (sM S) a b i = -6) ∧ 0 ≤ sw (sC S) a b i ∧ sw (sC S) a b i ≤ 30
  unfold sw
  by_cases e1 : i = a
  · simp only [e1, if_true]; exact h6 b hb.1 hb.2
  · by_cases e2 : i = b
    · simp only [e1, e2, if_true, if_false]
      by_cases e3 : b = a
      · simp only [e3, if_true]; rw [← e3]; exact h6 b hb.1 hb.2
      · simp only [e3, if_false]; exact h6 a ha.1 ha.2
    · simp only [e1, e2, if_false]; exact h6 i hi0 hi1
/-- a line more -/
def sAdd (S : sS) (k g m u : Int) : sS := (sN S + 1, sT S, fun j => if j = sN S then k else sK S j, fun j => if j = sN S then g else sG S j, fun j => if j = sN S then m else sM S j, fun j => if j = sN S then u else sC S j)
theorem fimp {a : Prop} : (False → a) ↔ True := ⟨fun _ => trivial, fun _ h => h.elim⟩
theorem timp {a : Prop} : (True → a) ↔ a := ⟨fun h => h trivial, fun h _ => h⟩
def cm_sw (M : cm_M) (r a b : Int) : cm_M := cm_up (cm_up M r a (M r b)) r b (M r a)
theorem cm_sw_n {M : cm_M} {r a b k : Int} (h : k ≠ r) : cm_sw M r a b k = M k := by unfold cm_sw; rw [cm_rne h, cm_rne h]
theorem cm_sw_s {M : cm_M} {r a b : Int} : cm_sw M r a b r = sw (M r) a b := by
  unfold cm_sw sw
  rw [cm_req]
  funext j
  rw [cm_req]
  show (if j = b then M r a else if j = a then M r b else M r j) = _
  by_cases h1 : j = a
  · by_cases h2 : j = b
    · rw [if_pos h2, if_pos h1, ← h1, ← h2]
    · rw [if_neg h2, if_pos h1, if_pos h1]
  · by_cases h2 : j = b
    · rw [if_pos h2, if_neg h1, if_pos h2]
    · rw [if_neg h2, if_neg h1, if_neg h1, if_neg h2]
/-- rows outside lo .. hi are as they were -/
def fr (M M' : cm_M) (lo hi : Int) : Prop := ∀ k, k < lo ∨ hi < k → M' k = M k
theorem fr.rf {M : cm_M} {lo hi : Int} : fr M M lo hi := fun _ _ => rfl
theorem fr.tr {M M1 M2 : cm_M} {lo hi : Int} (h1 : fr M M1 lo hi) (h2 : fr M1 M2 lo hi) : fr M M2 lo hi := fun k hk => (h2 k hk).trans (h1 k hk)
theorem fr.wd {M M1 : cm_M} {lo hi l2 h2 : Int} (h : fr M M1 lo hi) (a : l2 ≤ lo) (b : hi ≤ h2) : fr M M1 l2 h2 := fun k hk => h k (by omega)
theorem rC.fr {M M' : cm_M} {c lo hi : Int} {S : sS} (h : rC M c S) (f : fr M M' lo hi) (hc : c + 5 < lo ∨ hi < c) : rC M' c S := by
  obtain ⟨r1, r2, r3⟩ := h
  refine ⟨by rw [f c (by omega)]; exact r1, fun j h0 h3 => by rw [f (c + 1) (by omega)]; exact r2 j h0 h3, fun i h0 hn => ?_⟩
  rw [f (c + 2) (by omega), f (c + 3) (by omega), f (c + 4) (by omega), f (c + 5) (by omega)]
  exact r3 i h0 hn
/-- a row of exchanges upwards: the line at a comes to a + k -/
def sUp (S : sS) (a : Int) : Nat → sS
  | 0 => S
  | k + 1 => sSw (sUp S a k) (a + k) (a + k + 1)
/-- .. and downwards -/
def sDn (S : sS) (a : Int) : Nat → sS
  | 0 => S
  | k + 1 => sSw (sDn S a k) (a - k - 1) (a - k)
theorem sUp_n (S : sS) (a : Int) (k : Nat) : sN (sUp S a k) = sN S := by
  induction k with
  | zero => rfl
  | succ k ih => exact ih
theorem sDn_n (S : sS) (a : Int) (k : Nat) : sN (sDn S a k) = sN S := by
  induction k with
  | zero => rfl
  | succ k ih => exact ih
theorem vS_up {S : sS} (h : vS S) {a : Int} (ha : 0 ≤ a) : ∀ k : Nat, a + k < sN S → vS (sUp S a k)
  | 0, _ => h
  | k + 1, hk => by
    have e := sUp_n S a k
    exact vS_sw (vS_up h ha k (by omega)) (by rw [e]; omega) (by rw [e]; omega)
theorem vS_dn {S : sS} (h : vS S) {a : Int} (ha : a < sN S) : ∀ k : Nat, 0 ≤ a - k → vS (sDn S a k)
  | 0, _ => h
  | k + 1, hk => by
    have e := sDn_n S a k
    exact vS_sw (vS_dn h ha k (by omega)) (by rw [e]; omega) (by rw [e]; omega)
/-- a line at another place -/
def sMv (S : sS) (a p : Int) : sS := if a ≤ p then sUp S a (p - a).toNat else sDn S a (a - p).toNat
theorem sMv_n (S : sS) (a p : Int) : sN (sMv S a p) = sN S := by
  unfold sMv
  split
  · exact sUp_n _ _ _
  · exact sDn_n _ _ _
theorem vS_mv {S : sS} (h : vS S) {a p : Int} (ha : 0 ≤ a ∧ a < sN S) (hp : 0 ≤ p ∧ p < sN S) : vS (sMv S a p) := by
  unfold sMv
  split
  · exact vS_up h ha.1 _ (by omega)
  · exact vS_dn h ha.2 _ (by omega)
/-- a line less -/
def sCut (S : sS) : sS := (sN S - 1, sT S, sK S, sG S, sM S, sC S)
theorem vS_cut {S : sS} (h : vS S) (h1 : 1 ≤ sN S) : vS (sCut S) := by
  obtain ⟨h1, h2, h3, h4, h5, h6⟩ := h
  refine ⟨?_, ?_, h3, h4, h5, fun i a b => h6 i a ?_⟩
  · show 0 ≤ sN S - 1; omega
  · show sN S - 1 ≤ 40; omega
  · have : i < sN S - 1 := b
    omega
/-- lines behind lines -/
def sApp (S T : sS) : sS := (sN S + sN T, sT S, fun j => if j < sN S then sK S j else sK T (j - sN S), fun j => if j < sN S then sG S j else sG T (j - sN S), fun j => if j < sN S then sM S j else sM T (j - sN S), fun j => if j < sN S then sC S j else sC T (j - sN S))
/-- the same lines -/
def eqS (S T : sS) : Prop := sN S = sN T ∧ (∀ j, 0 ≤ j → j < 3 → sT S j = sT T j) ∧ ∀ i, 0 ≤ i → i < sN S → sK S i = sK T i ∧ sG S i = sG T i ∧ sM S i = sM T i ∧ sC S i = sC T i
theorem rC_eq {M : cm_M} {c : Int} {S T : sS} (h : rC M c S) (e : eqS S T) : rC M c T := by
  obtain ⟨r1, r2, r3⟩ := h
  obtain ⟨e1, e2, e3⟩ := e
  refine ⟨r1.trans e1, fun j h0 h3 => (r2 j h0 h3).trans (e2 j h0 h3), fun i h0 hn => ?_⟩
  obtain ⟨a1, a2, a3, a4⟩ := r3 i h0 (by omega)
  obtain ⟨b1, b2, b3, b4⟩ := e3 i h0 (by omega)
  exact ⟨a1.trans b1, a2.trans b2, a3.trans b3, a4.trans b4⟩
theorem vS_eq {S T : sS} (h : vS S) (e : eqS S T) : vS T := by
  obtain ⟨h1, h2, h3, h4, h5, h6⟩ := h
  obtain ⟨e1, e2, e3⟩ := e
  have t0 := e2 0 (by decide) (by decide)
  have t1 := e2 1 (by decide) (by decide)
  have t2 := e2 2 (by decide) (by decide)
  refine ⟨by omega, by omega, by omega, by omega, by omega, fun i h0 hn => ?_⟩
  obtain ⟨b1, b2, b3, b4⟩ := e3 i h0 (by omega)
  have := h6 i h0 (by omega)
  rwa [b1, b2, b3, b4] at this
/-- the first i lines alone -/
def sTk (T : sS) (i : Int) : sS := (i, sT T, sK T, sG T, sM T, sC T)
theorem sApp_s {S T : sS} {i : Int} (hi : 0 ≤ i) : eqS (sAdd (sApp S (sTk T i)) (sK T i) (sG T i) (sM T i) (sC T i)) (sApp S (sTk T (i + 1))) := by
  refine ⟨?_, fun j _ _ => rfl, fun j h0 hj => ?_⟩
  · show sN S + i + 1 = sN S + (i + 1)
    omega
  · have hj : j < sN S + i + 1 := hj
    show (if j = sN S + i then sK T i else if j < sN S then sK S j else sK T (j - sN S)) = (if j < sN S then sK S j else sK T (j - sN S)) ∧ (if j = sN S + i then sG T i else if j < sN S then sG S j else sG T (j - sN S)) = (if j < sN S then sG S j else sG T (j - sN S)) ∧ (if j = sN S + i then sM T i else if j < sN S then sM S j else sM T (j - sN S)) = (if j < sN S then sM S j else sM T (j - sN S)) ∧ (if j = sN S + i then sC T i else if j < sN S then sC S j else sC T (j - sN S)) = (if j < sN S then sC S j else sC T (j - sN S))
    by_cases h1 : j = sN S + i
    · have h2 : ¬ j < sN S := by omega
      simp only [if_pos h1, if_neg h2, show j - sN S = i by omega, and_self]
    · simp only [if_neg h1, and_self]
theorem sApp_0 {S T : sS} : eqS S (sApp S (sTk T 0)) := by
  refine ⟨?_, fun j _ _ => rfl, fun j h0 hj => ?_⟩
  · show sN S = sN S + 0
    omega
  · show sK S j = (if j < sN S then sK S j else _) ∧ sG S j = (if j < sN S then sG S j else _) ∧ sM S j = (if j < sN S then sM S j else _) ∧ sC S j = (if j < sN S then sC S j else _)
    simp only [if_pos hj, and_self]
theorem sApp_e {S T : sS} (h : sN S = 0) (ht : ∀ j, 0 ≤ j → j < 3 → sT S j = sT T j) : eqS (sApp S T) T := by
  refine ⟨?_, fun j a b => ht j a b, fun j h0 hj => ?_⟩
  · show sN S + sN T = sN T
    omega
  · have h2 : ¬ j < sN S := by omega
    show (if j < sN S then sK S j else sK T (j - sN S)) = sK T j ∧ (if j < sN S then sG S j else sG T (j - sN S)) = sG T j ∧ (if j < sN S then sM S j else sM T (j - sN S)) = sM T j ∧ (if j < sN S then sC S j else sC T (j - sN S)) = sC T j
    simp only [if_neg h2, show j - sN S = j by omega, and_self]
/-- other numbers -/
def sNm (S : sS) (f : Int → Int) : sS := (sN S, sT S, sK S, sG S, f, sC S)
/-- other cues -/
def sCu (S : sS) (f : Int → Int) : sS := (sN S, sT S, sK S, sG S, sM S, f)
/-- other settings -/
def sSt (S : sS) (f : Int → Int) : sS := (sN S, f, sK S, sG S, sM S, sC S)
/-- a group turns: the numbers so far, and the place of the last name of it -/
def rstep (S : sS) (g : Int) (i : Int) (p : (Int → Int) × Int) : (Int → Int) × Int := if sG S i = g then ((if p.2 = -6 then p.1 else sw p.1 p.2 i), i) else p
def sRot (S : sS) (g : Int) : sS := sNm S (fP (rstep S g) (sM S, -6) (sN S).toNat).1
theorem rstep_inv {S : sS} (h : vS S) {g : Int} (hg : 0 ≤ g ∧ g ≤ 7) : ∀ k : Nat, (k : Int) ≤ sN S → (∀ i, 0 ≤ i → i < sN S → (sK S i = 0 → 0 ≤ (fP (rstep S g) (sM S, -6) k).1 i ∧ (fP (rstep S g) (sM S, -6) k).1 i ≤ 999) ∧ (¬ sK S i = 0 → (fP (rstep S g) (sM S, -6) k).1 i = -6)) ∧ ((fP (rstep S g) (sM S, -6) k).2 = -6 ∨ (0 ≤ (fP (rstep S g) (sM S, -6) k).2 ∧ (fP (rstep S g) (sM S, -6) k).2 < k ∧ sG S (fP (rstep S g) (sM S, -6) k).2 = g))
  | 0, _ => ⟨fun i a b => by
      obtain ⟨-, -, h3, h4, -⟩ := h.2.2.2.2.2 i a b
      exact ⟨fun z => (h3 z).2.2, fun z => (h4 z).2⟩, Or.inl rfl⟩
  | k + 1, hk => by
    obtain ⟨i1, i2⟩ := rstep_inv h hg k (by omega)
    have hkn : (k : Int) < sN S := by omega
    have kind : ∀ j, 0 ≤ j → j < sN S → sG S j = g → sK S j = 0 := by
      intro j a b e
      obtain ⟨-, -, -, h4, -⟩ := h.2.2.2.2.2 j a b
      by_cases z : sK S j = 0
      · exact z
      · have := (h4 z).1
        omega
    show (∀ i, 0 ≤ i → i < sN S → (sK S i = 0 → 0 ≤ (rstep S g k (fP (rstep S g) (sM S, -6) k)).1 i ∧ (rstep S g k (fP (rstep S g) (sM S, -6) k)).1 i ≤ 999) ∧ (¬ sK S i = 0 → (rstep S g k (fP (rstep S g) (sM S, -6) k)).1 i = -6)) ∧ ((rstep S g k (fP (rstep S g) (sM S, -6) k)).2 = -6 ∨ (0 ≤ (rstep S g k (fP (rstep S g) (sM S, -6) k)).2 ∧ (rstep S g k (fP (rstep S g) (sM S, -6) k)).2 < ((k + 1 : Nat) : Int) ∧ sG S (rstep S g k (fP (rstep S g) (sM S, -6) k)).2 = g))
    generalize fP (rstep S g) (sM S, -6) k = p at i1 i2 ⊢
    unfold rstep
    by_cases e : sG S k = g
    · rw [if_pos e]
      refine ⟨?_, Or.inr ⟨by show (0 : Int) ≤ k; omega, by show (k : Int) < _; omega, e⟩⟩
      by_cases e2 : p.2 = -6
      · simp only [if_pos e2]
        exact i1
      · simp only [if_neg e2]
        obtain ⟨j1, j2, j3⟩ : 0 ≤ p.2 ∧ p.2 < k ∧ sG S p.2 = g := by
          rcases i2 with z | z
          · exact absurd z e2
          · exact z
        have k1 := kind p.2 j1 (by omega) j3
        have k2 := kind k (by omega) hkn e
        intro i a b
        unfold sw
        by_cases e3 : i = p.2
        · rw [if_pos e3]
          have hz := i1 k (by omega) hkn
          rw [e3]
          exact ⟨fun _ => hz.1 k2, fun z => absurd k1 z⟩
        · rw [if_neg e3]
          by_cases e4 : i = k
          · rw [if_pos e4]
            have hz := i1 p.2 j1 (by omega)
            rw [e4]
            exact ⟨fun _ => hz.1 k1, fun z => absurd k2 z⟩
          · rw [if_neg e4]
            exact i1 i a b
    · rw [if_neg e]
      refine ⟨i1, ?_⟩
      rcases i2 with z | ⟨z1, z2, z3⟩
      · exact Or.inl z
      · exact Or.inr ⟨z1, by omega, z3⟩
theorem vS_rot {S : sS} (h : vS S) {g : Int} (hg : 0 ≤ g ∧ g ≤ 7) : vS (sRot S g) := by
  have hz := (rstep_inv h hg (sN S).toNat (by have := h.1; omega)).1
  obtain ⟨h1, h2, h3, h4, h5, h6⟩ := h
  refine ⟨h1, h2, h3, h4, h5, fun i a b => ?_⟩
  obtain ⟨a1, a2, a3, a4, a5, a6⟩ := h6 i a b
  obtain ⟨b1, b2⟩ := hz i a b
  exact ⟨a1, a2, fun z => ⟨(a3 z).1, (a3 z).2.1, b1 z⟩, fun z => ⟨(a4 z).1, b2 z⟩, a5, a6⟩
