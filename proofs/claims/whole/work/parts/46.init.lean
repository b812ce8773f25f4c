/-! ===== what the constructors leave ===== -/
theorem sh_app {G : cm_G} {n a : Int} {l : List (Nat × Nat)} {f : Int → Int → Int} (hl : (G.1.length : Int) = n) (h : a < n) : cm_sh (G.1 ++ l, f) a = cm_sh G a := by
  unfold cm_sh
  by_cases h0 : a < 0
  · rw [if_pos h0, if_pos h0]
  · rw [if_neg h0, if_neg h0]
    show (G.1 ++ l)[a.toNat]? = _
    rw [List.getElem?_append_left (by omega)]
theorem sh_new {G : cm_G} {n : Int} {e : Nat × Nat} {f : Int → Int → Int} (hl : (G.1.length : Int) = n) : cm_sh (G.1 ++ [e], f) n = some e := by
  unfold cm_sh
  rw [if_neg (by omega)]
  show (G.1 ++ [e])[n.toNat]? = _
  rw [List.getElem?_append_right (by omega), show n.toNat - G.1.length = 0 by omega]
  rfl
theorem al_of {G : cm_G} {M : cm_M} {t z : Nat} {k : Int} (hk : 0 ≤ k) (h : cm_sh G k = some (t, z)) : cm_al t G M k = (z : Int) := by
  unfold cm_al
  rw [if_neg (by omega), if_neg (by omega), h]
  exact if_pos rfl
theorem al_st {G G' : cm_G} {M : cm_M} {t : Nat} {k : Int} (hk : 0 ≤ k) (h : cm_sh G' k = cm_sh G k) : cm_al t G' M k = cm_al t G M k := by
  unfold cm_al
  rw [if_neg (by omega), if_neg (by omega), if_neg (by omega), if_neg (by omega), h]
theorem row_n {f : Int → Int → Int} {k v a : Int} (h : a ≠ k) : cm_row f k v a = f a := by
  funext b
  unfold cm_row
  rw [if_neg h]
theorem row_s {f : Int → Int → Int} {k v : Int} : cm_row f k v k = fun _ => v := by
  funext b
  unfold cm_row
  rw [if_pos rfl]
/-- a new row, and its number written into an object -/
theorem go_arr {μ pc : Nat} {ls : List (Option cm_V)} {st : List cm_V} {G : cm_G} {M : cm_M} {Q : Option cm_V → cm_G → cm_M → Prop} {n k j : Int} {t z : Nat} (hl : (G.1.length : Int) = n)
    (K : ∀ G1 M1, (G1.1.length : Int) = n + 1 → (∀ a, a < n → cm_sh G1 a = cm_sh G a) → cm_sh G1 n = some (t, z) → G1.2 = cm_up G.2 k j n → M1 = cm_row M n 0 → Go μ pc ls st G1 M1 Q) : Go μ pc ls st (G.1 ++ [(t, z)], cm_up G.2 k j (G.1.length : Int)) (cm_row M (G.1.length : Int) 0) Q := by
  refine K _ _ ?_ (fun a ha => sh_app hl ha) (sh_new hl) (by rw [hl]) (by rw [hl])
  show ((G.1 ++ [(t, z)]).length : Int) = n + 1
  rw [List.length_append]
  show ((G.1.length + 1 : Nat) : Int) = n + 1
  omega
/-- a new object -/
theorem go_obj2 {μ pc : Nat} {ls : List (Option cm_V)} {st : List cm_V} {G : cm_G} {M : cm_M} {Q : Option cm_V → cm_G → cm_M → Prop} {n : Int} {ci : Nat} (hl : (G.1.length : Int) = n)
    (K : ∀ G1 M1, (G1.1.length : Int) = n + 1 → (∀ a, a < n → cm_sh G1 a = cm_sh G a) → cm_sh G1 n = some (0, ci) → G1.2 = cm_row G.2 n (-1) → M1 = cm_row M n 0 → Go μ pc ls ((2, n) :: st) G1 M1 Q) : Go μ pc ls ((2, (G.1.length : Int)) :: st) (G.1 ++ [(0, ci)], cm_row G.2 (G.1.length : Int) (-1)) (cm_row M (G.1.length : Int) 0) Q := by
  have := K (G.1 ++ [(0, ci)], cm_row G.2 n (-1)) (cm_row M n 0) ?_ (fun a ha => sh_app hl ha) (sh_new hl) rfl rfl
  · rw [hl]; exact this
  · show ((G.1 ++ [(0, ci)]).length : Int) = n + 1
    rw [List.length_append]
    show ((G.1.length + 1 : Nat) : Int) = n + 1
    omega
def f3 : Int → Int := fun j => if j = 0 then 10 else if j = 1 then 5 else 3
def S0 : sS := (0, f3, fun _ => 0, fun _ => 0, fun _ => 0, fun _ => 0)
theorem vS0 : vS S0 := ⟨by decide, by decide, by decide, by decide, by decide, fun i a b => by
  have b : i < 0 := b
  omega⟩
def tb3 (M : cm_M) : Prop := ∀ j, 0 ≤ j → j < 3 → M (-3) j = f3 j
theorem al3 {G : cm_G} {M : cm_M} : cm_al 1 G M (-3) = 3 := by
  unfold cm_al
  rw [if_neg (by decide), if_pos (by decide)]
/-- G' has all that G has below k -/
def gx (G G' : cm_G) (k : Int) : Prop := ∀ a, a < k → cm_sh G' a = cm_sh G a ∧ G'.2 a = G.2 a
theorem gx.tr {G G1 G2 : cm_G} {k : Int} (h1 : gx G G1 k) (h2 : gx G1 G2 k) : gx G G2 k := fun a ha => ⟨(h2 a ha).1.trans (h1 a ha).1, (h2 a ha).2.trans (h1 a ha).2⟩
theorem gx.le {G G1 : cm_G} {k l : Int} (h : gx G G1 k) (hl : l ≤ k) : gx G G1 l := fun a ha => h a (by omega)
theorem isC_st {G G' : cm_G} {c : Int} (h : isC G c) (hs : ∀ a, c ≤ a → a ≤ c + 5 → cm_sh G' a = cm_sh G a) (hr : G'.2 c = G.2 c) : isC G' c := by
  obtain ⟨h0, hs0, ⟨e0, e1, e2, e3, e4⟩, a1, a2, a3, a4, a5⟩ := h
  refine ⟨h0, (hs c (by omega) (by omega)).trans hs0, ?_, fun M => ?_, fun M => ?_, fun M => ?_, fun M => ?_, fun M => ?_⟩
  · rw [hr]; exact ⟨e0, e1, e2, e3, e4⟩
  · rw [al_st (by omega) (hs _ (by omega) (by omega))]; exact a1 M
  · rw [al_st (by omega) (hs _ (by omega) (by omega))]; exact a2 M
  · rw [al_st (by omega) (hs _ (by omega) (by omega))]; exact a3 M
  · rw [al_st (by omega) (hs _ (by omega) (by omega))]; exact a4 M
  · rw [al_st (by omega) (hs _ (by omega) (by omega))]; exact a5 M
theorem isK_st {G G' : cm_G} {d c : Int} (h : isK G d c) (hC : isC G' c) (hs : ∀ a, d ≤ a → a ≤ d + 6 → cm_sh G' a = cm_sh G a) (hr : G'.2 d = G.2 d) : isK G' d c := by
  obtain ⟨h0, hs0, hrf, ⟨a1, a2, a3, a4, a5, a6⟩, -, hd⟩ := h
  refine ⟨h0, (hs d (by omega) (by omega)).trans hs0, by rw [hr]; exact hrf, ⟨fun M => ?_, fun M => ?_, fun M => ?_, fun M => ?_, fun M => ?_, fun M => ?_⟩, hC, hd⟩
  · rw [al_st (by omega) (hs _ (by omega) (by omega))]; exact a1 M
  · rw [al_st (by omega) (hs _ (by omega) (by omega))]; exact a2 M
  · rw [al_st (by omega) (hs _ (by omega) (by omega))]; exact a3 M
  · rw [al_st (by omega) (hs _ (by omega) (by omega))]; exact a4 M
  · rw [al_st (by omega) (hs _ (by omega) (by omega))]; exact a5 M
  · rw [al_st (by omega) (hs _ (by omega) (by omega))]; exact a6 M
section INIT
variable {G : cm_G} {M : cm_M} {k c : Int} {Q : Option cm_V → cm_G → cm_M → Prop}
theorem p_initC (hl : (G.1.length : Int) = k + 1) (h0 : 0 ≤ k) (hk : cm_sh G k = some (0, 1)) (ht : tb3 M) (h5 : M k 5 = 0) (K : ∀ G' M', (G'.1.length : Int) = k + 6 → gx G G' k → isC G' k → (∀ a, a ≤ k → M' a = M a) → rC M' k S0 → Q none G' M') : Go 26 0 [some (2, k)] [] G M Q := by
  have sa := fun (l) (f) => sh_app (l := l) (f := f) hl (show k < k + 1 by omega)
  simp (disch := omega) only [g26_0, g26_1, g26_4, g26_5, g26_6, g26_8, Option.toList_some, Option.toList_none, List.cons_append, List.nil_append, true_and, and_true, true_or, or_true, eq_self, ci0, ci1, cin6, forall_const, not_true_eq_false, not_false_eq_true, fimp, timp, i10, i01, cm_rne, and_assoc, sa, hk]
  (repeat' apply And.intro) <;> (try omega) <;> (try (intro hx; exfalso; omega))
  refine go_arr (n := k + 1) hl (fun G1 M1 l1 s1 n1 r1 m1 => ?_)
  have hk1 : cm_sh G1 k = some (0, 1) := (s1 k (by omega)).trans hk
  have sa1 := fun (l) (f) => sh_app (l := l) (f := f) l1 (show k < k + 1 + 1 by omega)
  simp (disch := omega) only [g26_11, g26_12, g26_14, g26_16, Option.toList_some, Option.toList_none, List.cons_append, List.nil_append, true_and, and_true, true_or, or_true, eq_self, ci0, ci1, cin6, forall_const, not_true_eq_false, not_false_eq_true, fimp, timp, i10, i01, cm_rne, and_assoc, sa1, hk1]
  (repeat' apply And.intro) <;> (try omega) <;> (try (intro hx; exfalso; omega))
  refine go_arr (n := k + 1 + 1) l1 (fun G2 M2 l2 s2 n2 r2 m2 => ?_)
  have hk2 : cm_sh G2 k = some (0, 1) := (s2 k (by omega)).trans hk1
  have sa2 := fun (l) (f) => sh_app (l := l) (f := f) l2 (show k < k + 1 + 1 + 1 by omega)
  simp (disch := omega) only [g26_19, g26_20, g26_22, g26_24, Option.toList_some, Option.toList_none, List.cons_append, List.nil_append, true_and, and_true, true_or, or_true, eq_self, ci0, ci1, cin6, forall_const, not_true_eq_false, not_false_eq_true, fimp, timp, i10, i01, cm_rne, and_assoc, sa2, hk2]
  (repeat' apply And.intro) <;> (try omega) <;> (try (intro hx; exfalso; omega))
  refine go_arr (n := k + 1 + 1 + 1) l2 (fun G3 M3 l3 s3 n3 r3 m3 => ?_)
  have hk3 : cm_sh G3 k = some (0, 1) := (s3 k (by omega)).trans hk2
  have sa3 := fun (l) (f) => sh_app (l := l) (f := f) l3 (show k < k + 1 + 1 + 1 + 1 by omega)
  simp (disch := omega) only [g26_27, g26_28, g26_30, g26_32, Option.toList_some, Option.toList_none, List.cons_append, List.nil_append, true_and, and_true, true_or, or_true, eq_self, ci0, ci1, cin6, forall_const, not_true_eq_false, not_false_eq_true, fimp, timp, i10, i01, cm_rne, and_assoc, sa3, hk3]
  (repeat' apply And.intro) <;> (try omega) <;> (try (intro hx; exfalso; omega))
  refine go_arr (n := k + 1 + 1 + 1 + 1) l3 (fun G4 M4 l4 s4 n4 r4 m4 => ?_)
  have hk4 : cm_sh G4 k = some (0, 1) := (s4 k (by omega)).trans hk3
  have sa4 := fun (l) (f) => sh_app (l := l) (f := f) l4 (show k < k + 1 + 1 + 1 + 1 + 1 by omega)
  simp (disch := omega) only [g26_35, g26_36, g26_38, g26_40, Option.toList_some, Option.toList_none, List.cons_append, List.nil_append, true_and, and_true, true_or, or_true, eq_self, ci0, ci1, cin6, forall_const, not_true_eq_false, not_false_eq_true, fimp, timp, i10, i01, cm_rne, and_assoc, sa4, hk4]
  (repeat' apply And.intro) <;> (try omega) <;> (try (intro hx; exfalso; omega))
  refine go_arr (n := k + 1 + 1 + 1 + 1 + 1) l4 (fun G5 M5 l5 s5 n5 r5 m5 => ?_)
  have hk5 : cm_sh G5 k = some (0, 1) := (s5 k (by omega)).trans hk4
  have e0 : G5.2 k 0 = k + 1 := by
    rw [r5, cm_up_n _ (Or.inr (by decide)), r4, cm_up_n _ (Or.inr (by decide)), r3, cm_up_n _ (Or.inr (by decide)), r2, cm_up_n _ (Or.inr (by decide)), r1, cm_up_s]
  have e1 : G5.2 k 1 = k + 1 + 1 := by
    rw [r5, cm_up_n _ (Or.inr (by decide)), r4, cm_up_n _ (Or.inr (by decide)), r3, cm_up_n _ (Or.inr (by decide)), r2, cm_up_s]
  have e2 : G5.2 k 2 = k + 1 + 1 + 1 := by
    rw [r5, cm_up_n _ (Or.inr (by decide)), r4, cm_up_n _ (Or.inr (by decide)), r3, cm_up_s]
  have e3 : G5.2 k 3 = k + 1 + 1 + 1 + 1 := by
    rw [r5, cm_up_n _ (Or.inr (by decide)), r4, cm_up_s]
  have e4 : G5.2 k 4 = k + 1 + 1 + 1 + 1 + 1 := by rw [r5, cm_up_s]
  have er : ∀ a, a ≠ k → G5.2 a = G.2 a := fun a ha => by rw [r5, cm_rne ha, r4, cm_rne ha, r3, cm_rne ha, r2, cm_rne ha, r1, cm_rne ha]
  have q1 : cm_sh G5 (k + 1) = some (1, 3) := by rw [s5 _ (by omega), s4 _ (by omega), s3 _ (by omega), s2 _ (by omega)]; exact n1
  have q2 : cm_sh G5 (k + 1 + 1) = some (1, 40) := by rw [s5 _ (by omega), s4 _ (by omega), s3 _ (by omega)]; exact n2
  have q3 : cm_sh G5 (k + 1 + 1 + 1) = some (1, 40) := by rw [s5 _ (by omega), s4 _ (by omega)]; exact n3
  have q4 : cm_sh G5 (k + 1 + 1 + 1 + 1) = some (1, 40) := by rw [s5 _ (by omega)]; exact n4
  have al1 : ∀ M, cm_al 1 G5 M (k + 1) = 3 := fun M => al_of (by omega) q1
  simp (disch := omega) only [g26_43, g26_46, g26_47, g26_48, g26_51, g26_52, g26_53, g26_56, Option.toList_some, Option.toList_none, List.cons_append, List.nil_append, true_and, and_true, true_or, or_true, eq_self, ci0, ci1, cin6, forall_const, not_true_eq_false, not_false_eq_true, fimp, timp, i10, i01, cm_rne, and_assoc, hk5, e0, al1, al3]
  (repeat' apply And.intro) <;> (try omega) <;> (try (intro hx; exfalso; omega))
  have mm : ∀ a, a ≤ k → M5 a = M a := fun a ha => by rw [m5, row_n (by omega), m4, row_n (by omega), m3, row_n (by omega), m2, row_n (by omega), m1, row_n (by omega)]
  refine K G5 _ (by omega) (fun a ha => ⟨by rw [s5 _ (by omega), s4 _ (by omega), s3 _ (by omega), s2 _ (by omega), s1 _ (by omega)], er a (by omega)⟩) ⟨h0, hk5, ⟨e0, by rw [e1]; omega, by rw [e2]; omega, by rw [e3]; omega, by rw [e4]; omega⟩, al1, fun M => by rw [show k + 2 = k + 1 + 1 by omega]; exact al_of (by omega) q2, fun M => by rw [show k + 3 = k + 1 + 1 + 1 by omega]; exact al_of (by omega) q3, fun M => by rw [show k + 4 = k + 1 + 1 + 1 + 1 by omega]; exact al_of (by omega) q4, fun M => by rw [show k + 5 = k + 1 + 1 + 1 + 1 + 1 by omega]; exact al_of (by omega) n5⟩ (fun a ha => ?_) ⟨?_, fun j a b => ?_, fun i a b => ?_⟩
  · funext b
    unfold cm_cpy
    rw [if_neg (by omega), mm a ha]
  · unfold cm_cpy
    rw [if_neg (by omega), mm k (by omega)]
    exact h5
  · unfold cm_cpy
    rw [if_pos ⟨rfl, by omega, by omega⟩, mm (-3) (by omega), show 0 + (j - 0) = j by omega]
    exact ht j a b
  · have b : i < 0 := b
    omega
end INIT
