/-! ===== what the constructors leave ===== -/
theorem sh_app {G : cm_G} {n a : Int} {l : List (Nat × Nat)} {f : Int → Int → Int} (hl : (G.1.length : Int) = n) (h : a < n) : cm_sh (G.1 ++ l, f) a = cm_sh G a := by
  unfold cm_sh
  by_cases h0 : a < 0
  · rw [if_pos h0, if_pos h0]
  · rw [if_neg h0, if_neg h0]
    show (G.1 ++ l)[a.toNat]? = _
    rw [List.getElem?_append_left (by omega)]
theorem sh_new {G : cm_G} {n : Int} {e : Nat × Nat} {f : Int → Int → Int} (hl : (G.1.length : Int) = n) : cm_sh (G.1 ++ [e], f) n = some e := by
  unfold cm_sh
  rw [if_neg (by omega)]
  show (G.1 ++ [e])[n.toNat]? = _
  rw [List.getElem?_append_right (by omega), show n.toNat - G.1.length = 0 by omega]
  rfl
theorem al_of {G : cm_G} {M : cm_M} {t z : Nat} {k : Int} (hk : 0 ≤ k) (h : cm_sh G k = some (t, z)) : cm_al t G M k = (z : Int) := by
  unfold cm_al
  rw [if_neg (by omega), if_neg (by omega), h]
  exact if_pos rfl
theorem al_st {G G' : cm_G} {M : cm_M} {t : Nat} {k : Int} (hk : 0 ≤ k) (h : cm_sh G' k = cm_sh G k) : cm_al t G' M k = cm_al t G M k := by
  unfold cm_al
  rw [if_neg (by omega), if_neg (by omega), if_neg (by omega), if_neg (by omega), h]
theorem row_n {f : Int → Int → Int} {k v a : Int} (h : a ≠ k) : cm_row f k v a = f a := by
  funext b
  unfold cm_row
  rw [if_neg h]
theorem row_s {f : Int → Int → Int} {k v : Int} : cm_row f k v k = fun _ => v := by
  funext b
  unfold cm_row
  rw [if_pos rfl]
/-- n cells, and not many places in them -/
def lz (G : cm_G) (n : Int) : Prop := (G.1.length : Int) = n ∧ (cm_sl G : Int) ≤ 1000 * n
theorem lz_app {G G1 : cm_G} {n : Int} {e : Nat × Nat} (h : lz G n) (h1 : G1.1 = G.1 ++ [e]) (he : cm_sz e ≤ 1000) : lz G1 (n + 1) := by
  obtain ⟨a, b⟩ := h
  have hs := cm_sl_app h1
  refine ⟨?_, by omega⟩
  rw [h1, List.length_append]
  show ((G.1.length + 1 : Nat) : Int) = n + 1
  omega
/-- what is below k is as it was -/
def ex (G : cm_G) (M : cm_M) (G' : cm_G) (M' : cm_M) (k : Int) : Prop := ∀ a, a < k → cm_sh G' a = cm_sh G a ∧ G'.2 a = G.2 a ∧ M' a = M a
theorem ex.tr {G G1 G2 : cm_G} {M M1 M2 : cm_M} {k : Int} (h1 : ex G M G1 M1 k) (h2 : ex G1 M1 G2 M2 k) : ex G M G2 M2 k := fun a ha => ⟨(h2 a ha).1.trans (h1 a ha).1, (h2 a ha).2.1.trans (h1 a ha).2.1, (h2 a ha).2.2.trans (h1 a ha).2.2⟩
theorem ex.le {G G1 : cm_G} {M M1 : cm_M} {k l : Int} (h : ex G M G1 M1 k) (hl : l ≤ k) : ex G M G1 M1 l := fun a ha => h a (by omega)
section NEW
variable {μ pc : Nat} {ls : List (Option cm_V)} {st : List cm_V} {G : cm_G} {M : cm_M} {Q : Option cm_V → cm_G → cm_M → Prop} {n k j v : Int} {t z ci : Nat}
/-- a new row, and its number written into an object -/
theorem go_arr (hl : lz G n) (he : cm_sz (t, z) ≤ 1000)
    (K : ∀ G1 M1, lz G1 (n + 1) → (∀ a, a < n → cm_sh G1 a = cm_sh G a) → cm_sh G1 n = some (t, z) → G1.2 = cm_up G.2 k j n → M1 = cm_row M n 0 → Go μ pc ls st G1 M1 Q) : Go μ pc ls st (G.1 ++ [(t, z)], cm_up G.2 k j (G.1.length : Int)) (cm_row M (G.1.length : Int) 0) Q :=
  K _ _ (lz_app hl rfl he) (fun a ha => sh_app hl.1 ha) (sh_new hl.1) (by rw [hl.1]) (by rw [hl.1])
/-- a new row of references -/
theorem go_arrq (hl : lz G n) (he : cm_sz (t, z) ≤ 1000)
    (K : ∀ G1, lz G1 (n + 1) → (∀ a, a < n → cm_sh G1 a = cm_sh G a) → cm_sh G1 n = some (t, z) → G1.2 = cm_up (cm_row G.2 n (-1)) k j n → Go μ pc ls st G1 M Q) : Go μ pc ls st (G.1 ++ [(t, z)], cm_up (cm_row G.2 (G.1.length : Int) (-1)) k j (G.1.length : Int)) M Q :=
  K _ (lz_app hl rfl he) (fun a ha => sh_app hl.1 ha) (sh_new hl.1) (by rw [hl.1])
/-- a new object -/
theorem go_obj2 (hl : lz G n) (he : cm_sz (0, ci) ≤ 1000)
    (K : ∀ G1 M1, lz G1 (n + 1) → ex G M G1 M1 n → cm_sh G1 n = some (0, ci) → M1 n = (fun _ => 0) → Go μ pc ls ((2, n) :: st) G1 M1 Q) : Go μ pc ls ((2, (G.1.length : Int)) :: st) (G.1 ++ [(0, ci)], cm_row G.2 (G.1.length : Int) (-1)) (cm_row M (G.1.length : Int) 0) Q := by
  have := K (G.1 ++ [(0, ci)], cm_row G.2 n (-1)) (cm_row M n 0) (lz_app hl rfl he) (fun a ha => ⟨sh_app hl.1 ha, row_n (by omega), row_n (by omega)⟩) (sh_new hl.1) row_s
  rw [hl.1]
  exact this
/-- a reference written into an object -/
theorem go_fld (K : ∀ G1, G1.1 = G.1 → (∀ a, cm_sh G1 a = cm_sh G a) → G1.2 = cm_up G.2 k j v → Go μ pc ls st G1 M Q) : Go μ pc ls st (G.1, cm_up G.2 k j v) M Q := K _ rfl (fun _ => rfl) rfl
end NEW
theorem lz.of {G G1 : cm_G} {n : Int} (h : lz G n) (e : G1.1 = G.1) : lz G1 n := by
  unfold lz cm_sl at *
  rw [e]
  exact h
/-- a loop that makes new cells -/
theorem go_loopG {μ h : Nat} {Q : Option cm_V → cm_G → cm_M → Prop} (f : Int → List (Option cm_V)) (R : Int → cm_G → cm_M → Prop) (n : Int)
    (hs : ∀ i G M, 0 ≤ i → i < n → R i G M → (∀ G' M', R (i + 1) G' M' → Go μ h (f (i + 1)) [] G' M' Q) → Go μ h (f i) [] G M Q)
    (he : ∀ G M, R n G M → Go μ h (f n) [] G M Q) : ∀ (i : Int) (G : cm_G) (M : cm_M), 0 ≤ i → i ≤ n → R i G M → Go μ h (f i) [] G M Q := by
  have key : ∀ (r : Nat) (i : Int) (G : cm_G) (M : cm_M), i + r = n → 0 ≤ i → R i G M → Go μ h (f i) [] G M Q := by
    intro r
    induction r with
    | zero =>
      intro i G M h1 h2 h3
      have : i = n := by omega
      subst this
      exact he G M h3
    | succ r ih =>
      intro i G M h1 h2 h3
      exact hs i G M h2 (by omega) h3 (fun G' M' h4 => ih (i + 1) G' M' (by omega) (by omega) h4)
  intro i G M h0 h1 h2
  exact key (n - i).toNat i G M (by omega) h0 h2
def f3 : Int → Int := fun j => if j = 0 then 10 else if j = 1 then 5 else 3
def S0 : sS := (0, f3, fun _ => 0, fun _ => 0, fun _ => 0, fun _ => 0)
theorem vS0 : vS S0 := ⟨by decide, by decide, by decide, by decide, by decide, fun i a b => by
  have b : i < 0 := b
  omega⟩
def tb3 (M : cm_M) : Prop := ∀ j, 0 ≤ j → j < 3 → M (-3) j = f3 j
theorem tb3.of {M M' : cm_M} (h : tb3 M) (e : M' (-3) = M (-3)) : tb3 M' := by
  unfold tb3
  rw [e]
  exact h
theorem al3 {G : cm_G} {M : cm_M} : cm_al 1 G M (-3) = 3 := by
  unfold cm_al
  rw [if_neg (by decide), if_pos (by decide)]
theorem isC_st {G G' : cm_G} {c : Int} (h : isC G c) (hs : ∀ a, c ≤ a → a ≤ c + 5 → cm_sh G' a = cm_sh G a) (hr : G'.2 c = G.2 c) : isC G' c := by
  obtain ⟨h0, hs0, ⟨e0, e1, e2, e3, e4⟩, a1, a2, a3, a4, a5⟩ := h
  refine ⟨h0, (hs c (by omega) (by omega)).trans hs0, ?_, fun M => ?_, fun M => ?_, fun M => ?_, fun M => ?_, fun M => ?_⟩
  · rw [hr]; exact ⟨e0, e1, e2, e3, e4⟩
  · rw [al_st (by omega) (hs _ (by omega) (by omega))]; exact a1 M
  · rw [al_st (by omega) (hs _ (by omega) (by omega))]; exact a2 M
  · rw [al_st (by omega) (hs _ (by omega) (by omega))]; exact a3 M
  · rw [al_st (by omega) (hs _ (by omega) (by omega))]; exact a4 M
  · rw [al_st (by omega) (hs _ (by omega) (by omega))]; exact a5 M
theorem isK_st {G G' : cm_G} {d c : Int} (h : isK G d c) (hC : isC G' c) (hs : ∀ a, d ≤ a → a ≤ d + 12 → cm_sh G' a = cm_sh G a) (hr : G'.2 d = G.2 d) : isK G' d c := by
  obtain ⟨h0, hs0, hrf, ⟨a1, a2, a3, a4, a5, a6⟩, -, hd⟩ := h
  refine ⟨h0, (hs d (by omega) (by omega)).trans hs0, by rw [hr]; exact hrf, ⟨fun M => ?_, fun M => ?_, fun M => ?_, fun M => ?_, fun M => ?_, fun M => ?_⟩, hC, hd⟩
  · rw [al_st (by omega) (hs _ (by omega) (by omega))]; exact a1 M
  · rw [al_st (by omega) (hs _ (by omega) (by omega))]; exact a2 M
  · rw [al_st (by omega) (hs _ (by omega) (by omega))]; exact a3 M
  · rw [al_st (by omega) (hs _ (by omega) (by omega))]; exact a4 M
  · rw [al_st (by omega) (hs _ (by omega) (by omega))]; exact a5 M
  · rw [al_st (by omega) (hs _ (by omega) (by omega))]; exact a6 M
section INIT
variable {G : cm_G} {M : cm_M} {k c d m : Int} {Q : Option cm_V → cm_G → cm_M → Prop}
theorem p_initC (hl : lz G (k + 1)) (h0 : 0 ≤ k) (hk : cm_sh G k = some (0, 1)) (ht : tb3 M) (h5 : M k = fun _ => 0) (K : ∀ G' M', lz G' (k + 6) → ex G M G' M' k → M' k = M k → isC G' k → rC M' k S0 → Q none G' M') : Go 26 0 [some (2, k)] [] G M Q := by
  have sa0 := fun (l) (f) => sh_app (l := l) (f := f) hl.1 (show k < k + 1 by omega)
  simp (disch := omega) only [g26_0, g26_1, g26_4, g26_5, g26_6, g26_8, Option.toList_some, Option.toList_none, List.cons_append, List.nil_append, true_and, and_true, true_or, or_true, eq_self, ci0, ci1, cin6, forall_const, not_true_eq_false, not_false_eq_true, fimp, timp, i10, i01, cm_rne, and_assoc, sa0, hk]
  (repeat' apply And.intro) <;> (try omega) <;> (try (intro hx; exfalso; omega))
  refine go_arr (n := k + 1) hl (by decide) (fun G1 M1 l1 s1 n1 r1 m1 => ?_)
  have hk1 : cm_sh G1 k = some (0, 1) := (s1 k (by omega)).trans hk
  have sa1 := fun (l) (f) => sh_app (l := l) (f := f) l1.1 (show k < k + 1 + 1 by omega)
  simp (disch := omega) only [g26_11, g26_12, g26_14, g26_16, Option.toList_some, Option.toList_none, List.cons_append, List.nil_append, true_and, and_true, true_or, or_true, eq_self, ci0, ci1, cin6, forall_const, not_true_eq_false, not_false_eq_true, fimp, timp, i10, i01, cm_rne, and_assoc, sa1, hk1]
  (repeat' apply And.intro) <;> (try omega) <;> (try (intro hx; exfalso; omega))
  refine go_arr (n := k + 1 + 1) l1 (by decide) (fun G2 M2 l2 s2 n2 r2 m2 => ?_)
  have hk2 : cm_sh G2 k = some (0, 1) := (s2 k (by omega)).trans hk1
  have sa2 := fun (l) (f) => sh_app (l := l) (f := f) l2.1 (show k < k + 1 + 1 + 1 by omega)
  simp (disch := omega) only [g26_19, g26_20, g26_22, g26_24, Option.toList_some, Option.toList_none, List.cons_append, List.nil_append, true_and, and_true, true_or, or_true, eq_self, ci0, ci1, cin6, forall_const, not_true_eq_false, not_false_eq_true, fimp, timp, i10, i01, cm_rne, and_assoc, sa2, hk2]
  (repeat' apply And.intro) <;> (try omega) <;> (try (intro hx; exfalso; omega))
  refine go_arr (n := k + 1 + 1 + 1) l2 (by decide) (fun G3 M3 l3 s3 n3 r3 m3 => ?_)
  have hk3 : cm_sh G3 k = some (0, 1) := (s3 k (by omega)).trans hk2
  have sa3 := fun (l) (f) => sh_app (l := l) (f := f) l3.1 (show k < k + 1 + 1 + 1 + 1 by omega)
  simp (disch := omega) only [g26_27, g26_28, g26_30, g26_32, Option.toList_some, Option.toList_none, List.cons_append, List.nil_append, true_and, and_true, true_or, or_true, eq_self, ci0, ci1, cin6, forall_const, not_true_eq_false, not_false_eq_true, fimp, timp, i10, i01, cm_rne, and_assoc, sa3, hk3]
  (repeat' apply And.intro) <;> (try omega) <;> (try (intro hx; exfalso; omega))
  refine go_arr (n := k + 1 + 1 + 1 + 1) l3 (by decide) (fun G4 M4 l4 s4 n4 r4 m4 => ?_)
  have hk4 : cm_sh G4 k = some (0, 1) := (s4 k (by omega)).trans hk3
  have sa4 := fun (l) (f) => sh_app (l := l) (f := f) l4.1 (show k < k + 1 + 1 + 1 + 1 + 1 by omega)
  simp (disch := omega) only [g26_35, g26_36, g26_38, g26_40, Option.toList_some, Option.toList_none, List.cons_append, List.nil_append, true_and, and_true, true_or, or_true, eq_self, ci0, ci1, cin6, forall_const, not_true_eq_false, not_false_eq_true, fimp, timp, i10, i01, cm_rne, and_assoc, sa4, hk4]
  (repeat' apply And.intro) <;> (try omega) <;> (try (intro hx; exfalso; omega))
  refine go_arr (n := k + 1 + 1 + 1 + 1 + 1) l4 (by decide) (fun G5 M5 l5 s5 n5 r5 m5 => ?_)
  have hk5 : cm_sh G5 k = some (0, 1) := (s5 k (by omega)).trans hk4
  have e1 : G5.2 k 0 = k + 1 := by rw [r5, cm_up_n _ (Or.inr (by decide)), r4, cm_up_n _ (Or.inr (by decide)), r3, cm_up_n _ (Or.inr (by decide)), r2, cm_up_n _ (Or.inr (by decide)), r1, cm_up_s]
  have e2 : G5.2 k 1 = k + 1 + 1 := by rw [r5, cm_up_n _ (Or.inr (by decide)), r4, cm_up_n _ (Or.inr (by decide)), r3, cm_up_n _ (Or.inr (by decide)), r2, cm_up_s]
  have e3 : G5.2 k 2 = k + 1 + 1 + 1 := by rw [r5, cm_up_n _ (Or.inr (by decide)), r4, cm_up_n _ (Or.inr (by decide)), r3, cm_up_s]
  have e4 : G5.2 k 3 = k + 1 + 1 + 1 + 1 := by rw [r5, cm_up_n _ (Or.inr (by decide)), r4, cm_up_s]
  have e5 : G5.2 k 4 = k + 1 + 1 + 1 + 1 + 1 := by rw [r5, cm_up_s]
  have er : ∀ a, a ≠ k → G5.2 a = G.2 a := fun a ha => by rw [r5, cm_rne ha, r4, cm_rne ha, r3, cm_rne ha, r2, cm_rne ha, r1, cm_rne ha]
  have q1 : cm_sh G5 (k + 1) = some (1, 3) := by rw [s5 _ (by omega), s4 _ (by omega), s3 _ (by omega), s2 _ (by omega)]; exact n1
  have q2 : cm_sh G5 (k + 1 + 1) = some (1, 40) := by rw [s5 _ (by omega), s4 _ (by omega), s3 _ (by omega)]; exact n2
  have q3 : cm_sh G5 (k + 1 + 1 + 1) = some (1, 40) := by rw [s5 _ (by omega), s4 _ (by omega)]; exact n3
  have q4 : cm_sh G5 (k + 1 + 1 + 1 + 1) = some (1, 40) := by rw [s5 _ (by omega)]; exact n4
  have q5 : cm_sh G5 (k + 1 + 1 + 1 + 1 + 1) = some (1, 40) := n5
  have mm : ∀ a, a ≤ k → M5 a = M a := fun a ha => by rw [m5, row_n (by omega), m4, row_n (by omega), m3, row_n (by omega), m2, row_n (by omega), m1, row_n (by omega)]
  have ss : ∀ a, a ≤ k → cm_sh G5 a = cm_sh G a := fun a ha => by rw [s5 _ (by omega), s4 _ (by omega), s3 _ (by omega), s2 _ (by omega), s1 _ (by omega)]
  have al1 : ∀ M, cm_al 1 G5 M (k + 1) = 3 := fun M => al_of (by omega) q1
  simp (disch := omega) only [g26_43, g26_46, g26_47, g26_48, g26_51, g26_52, g26_53, g26_56, Option.toList_some, Option.toList_none, List.cons_append, List.nil_append, true_and, and_true, true_or, or_true, eq_self, ci0, ci1, cin6, forall_const, not_true_eq_false, not_false_eq_true, fimp, timp, i10, i01, cm_rne, and_assoc, hk5, e1, al1, al3, eq_true cm_sum0]
  (repeat' apply And.intro) <;> (try omega) <;> (try (intro hx; exfalso; omega))
  refine K G5 _ (by rw [show k + 6 = k + 1 + 1 + 1 + 1 + 1 + 1 by omega]; exact l5) (fun a ha => ⟨ss a (by omega), er a (by omega), ?_⟩) ?_ ⟨h0, hk5, ⟨e1, by rw [e2]; omega, by rw [e3]; omega, by rw [e4]; omega, by rw [e5]; omega⟩, al1, fun M => by rw [show k + 2 = k + 1 + 1 by omega]; exact al_of (by omega) q2, fun M => by rw [show k + 3 = k + 1 + 1 + 1 by omega]; exact al_of (by omega) q3, fun M => by rw [show k + 4 = k + 1 + 1 + 1 + 1 by omega]; exact al_of (by omega) q4, fun M => by rw [show k + 5 = k + 1 + 1 + 1 + 1 + 1 by omega]; exact al_of (by omega) q5⟩ ⟨?_, fun j a b => ?_, fun i a b => ?_⟩
  · funext b
    unfold cm_cpy
    rw [if_neg (by omega), mm a (by omega)]
  · funext b
    unfold cm_cpy
    rw [if_neg (by omega), mm k (by omega)]
  · unfold cm_cpy
    rw [if_neg (by omega), mm k (by omega), h5]
    rfl
  · unfold cm_cpy
    rw [if_pos ⟨rfl, by omega, by omega⟩, mm (-3) (by omega), show 0 + (j - 0) = j by omega]
    exact ht j a b
  · have b : i < 0 := b
    omega
theorem p_initK (hl : lz G (d + 1)) (h0 : 0 ≤ d) (hk : cm_sh G d = some (0, 0)) (ht : tb3 M) (K : ∀ G' M', lz G' (d + 13) → ex G M G' M' d → M' d = M d → isK G' d (d + 1) → rC M' (d + 1) S0 → Q none G' M') : Go 0 0 [some (2, d)] [] G M Q := by
  simp (disch := omega) only [g0_0, g0_1, g0_4, g0_5, Option.toList_some, Option.toList_none, List.cons_append, List.nil_append, true_and, and_true, true_or, or_true, eq_self, ci0, ci1, cin6, forall_const, not_true_eq_false, not_false_eq_true, fimp, timp, i10, i01, cm_rne, and_assoc]
  (repeat' apply And.intro) <;> (try omega) <;> (try (intro hx; exfalso; omega))
  refine go_obj2 hl (by decide +kernel) (fun A B la xa na za => ?_)
  simp (disch := omega) only [g0_8, Option.toList_some, Option.toList_none, List.cons_append, List.nil_append, true_and, and_true, true_or, or_true, eq_self, ci0, ci1, cin6, forall_const, not_true_eq_false, not_false_eq_true, fimp, timp, i10, i01, cm_rne, and_assoc]
  refine c0_9 (Nat.le_of_ble_eq_true rfl) na (p_initC la (by omega) na (ht.of (xa (-3) (by omega)).2.2) za (fun D N lb xb yb ib cb => ?_))
  have x := xa.tr xb
  have hb : cm_sh D d = some (0, 0) := (x d (by omega)).1.trans hk
  simp (disch := omega) only [g0_12, Option.toList_some, Option.toList_none, List.cons_append, List.nil_append, true_and, and_true, true_or, or_true, eq_self, ci0, ci1, cin6, forall_const, not_true_eq_false, not_false_eq_true, fimp, timp, i10, i01, cm_rne, and_assoc, hb]
  (repeat' apply And.intro) <;> (try omega) <;> (try (intro hx; exfalso; omega))
  refine go_fld (fun G0 es0 ss0 rs0 => ?_)
  have l0 : lz G0 (d + 1 + 6) := lb.of es0
  have hk0 : cm_sh G0 d = some (0, 0) := (ss0 d).trans hb
  have w0 : ∀ a, a ≠ d → G0.2 a = D.2 a := fun a ha => by rw [rs0, cm_rne ha]
  have e0 : G0.2 d 0 = d + 1 := by rw [rs0, cm_up_s]
  have i0 : isC G0 (d + 1) := isC_st ib (fun a _ _ => ss0 a) (w0 (d + 1) (by omega))
  have mD : N d = M d := (x d (by omega)).2.2
  have sa0 := fun (l) (f) => sh_app (l := l) (f := f) l0.1 (show d < d + 1 + 6 by omega)
  simp (disch := omega) only [g0_15, g0_16, g0_18, g0_20, Option.toList_some, Option.toList_none, List.cons_append, List.nil_append, true_and, and_true, true_or, or_true, eq_self, ci0, ci1, cin6, forall_const, not_true_eq_false, not_false_eq_true, fimp, timp, i10, i01, cm_rne, and_assoc, sa0, hk0]
  (repeat' apply And.intro) <;> (try omega) <;> (try (intro hx; exfalso; omega))
  refine go_arr (n := d + 1 + 6) l0 (by decide) (fun G1 M1 l1 s1 n1 r1 m1 => ?_)
  have hk1 : cm_sh G1 d = some (0, 0) := (s1 d (by omega)).trans hk0
  have sa1 := fun (l) (f) => sh_app (l := l) (f := f) l1.1 (show d < d + 1 + 6 + 1 by omega)
  simp (disch := omega) only [g0_23, g0_24, g0_26, g0_28, Option.toList_some, Option.toList_none, List.cons_append, List.nil_append, true_and, and_true, true_or, or_true, eq_self, ci0, ci1, cin6, forall_const, not_true_eq_false, not_false_eq_true, fimp, timp, i10, i01, cm_rne, and_assoc, sa1, hk1]
  (repeat' apply And.intro) <;> (try omega) <;> (try (intro hx; exfalso; omega))
  refine go_arr (n := d + 1 + 6 + 1) l1 (by decide) (fun G2 M2 l2 s2 n2 r2 m2 => ?_)
  have hk2 : cm_sh G2 d = some (0, 0) := (s2 d (by omega)).trans hk1
  have sa2 := fun (l) (f) => sh_app (l := l) (f := f) l2.1 (show d < d + 1 + 6 + 1 + 1 by omega)
  simp (disch := omega) only [g0_31, g0_32, g0_34, g0_36, Option.toList_some, Option.toList_none, List.cons_append, List.nil_append, true_and, and_true, true_or, or_true, eq_self, ci0, ci1, cin6, forall_const, not_true_eq_false, not_false_eq_true, fimp, timp, i10, i01, cm_rne, and_assoc, sa2, hk2]
  (repeat' apply And.intro) <;> (try omega) <;> (try (intro hx; exfalso; omega))
  refine go_arr (n := d + 1 + 6 + 1 + 1) l2 (by decide) (fun G3 M3 l3 s3 n3 r3 m3 => ?_)
  have hk3 : cm_sh G3 d = some (0, 0) := (s3 d (by omega)).trans hk2
  have sa3 := fun (l) (f) => sh_app (l := l) (f := f) l3.1 (show d < d + 1 + 6 + 1 + 1 + 1 by omega)
  simp (disch := omega) only [g0_39, g0_40, g0_42, g0_44, Option.toList_some, Option.toList_none, List.cons_append, List.nil_append, true_and, and_true, true_or, or_true, eq_self, ci0, ci1, cin6, forall_const, not_true_eq_false, not_false_eq_true, fimp, timp, i10, i01, cm_rne, and_assoc, sa3, hk3]
  (repeat' apply And.intro) <;> (try omega) <;> (try (intro hx; exfalso; omega))
  refine go_arr (n := d + 1 + 6 + 1 + 1 + 1) l3 (by decide) (fun G4 M4 l4 s4 n4 r4 m4 => ?_)
  have hk4 : cm_sh G4 d = some (0, 0) := (s4 d (by omega)).trans hk3
  have sa4 := fun (l) (f) => sh_app (l := l) (f := f) l4.1 (show d < d + 1 + 6 + 1 + 1 + 1 + 1 by omega)
  simp (disch := omega) only [g0_47, g0_48, g0_50, g0_52, Option.toList_some, Option.toList_none, List.cons_append, List.nil_append, true_and, and_true, true_or, or_true, eq_self, ci0, ci1, cin6, forall_const, not_true_eq_false, not_false_eq_true, fimp, timp, i10, i01, cm_rne, and_assoc, sa4, hk4]
  (repeat' apply And.intro) <;> (try omega) <;> (try (intro hx; exfalso; omega))
  refine go_arr (n := d + 1 + 6 + 1 + 1 + 1 + 1) l4 (by decide) (fun G5 M5 l5 s5 n5 r5 m5 => ?_)
  have hk5 : cm_sh G5 d = some (0, 0) := (s5 d (by omega)).trans hk4
  have sa5 := fun (l) (f) => sh_app (l := l) (f := f) l5.1 (show d < d + 1 + 6 + 1 + 1 + 1 + 1 + 1 by omega)
  simp (disch := omega) only [g0_55, g0_56, g0_58, g0_60, Option.toList_some, Option.toList_none, List.cons_append, List.nil_append, true_and, and_true, true_or, or_true, eq_self, ci0, ci1, cin6, forall_const, not_true_eq_false, not_false_eq_true, fimp, timp, i10, i01, cm_rne, and_assoc, sa5, hk5]
  (repeat' apply And.intro) <;> (try omega) <;> (try (intro hx; exfalso; omega))
  refine go_arr (n := d + 1 + 6 + 1 + 1 + 1 + 1 + 1) l5 (by decide) (fun G6 M6 l6 s6 n6 r6 m6 => ?_)
  have hk6 : cm_sh G6 d = some (0, 0) := (s6 d (by omega)).trans hk5
  have e1 : G6.2 d 1 = d + 1 + 6 := by rw [r6, cm_up_n _ (Or.inr (by decide)), r5, cm_up_n _ (Or.inr (by decide)), r4, cm_up_n _ (Or.inr (by decide)), r3, cm_up_n _ (Or.inr (by decide)), r2, cm_up_n _ (Or.inr (by decide)), r1, cm_up_s]
  have e2 : G6.2 d 2 = d + 1 + 6 + 1 := by rw [r6, cm_up_n _ (Or.inr (by decide)), r5, cm_up_n _ (Or.inr (by decide)), r4, cm_up_n _ (Or.inr (by decide)), r3, cm_up_n _ (Or.inr (by decide)), r2, cm_up_s]
  have e3 : G6.2 d 3 = d + 1 + 6 + 1 + 1 := by rw [r6, cm_up_n _ (Or.inr (by decide)), r5, cm_up_n _ (Or.inr (by decide)), r4, cm_up_n _ (Or.inr (by decide)), r3, cm_up_s]
  have e4 : G6.2 d 5 = d + 1 + 6 + 1 + 1 + 1 := by rw [r6, cm_up_n _ (Or.inr (by decide)), r5, cm_up_n _ (Or.inr (by decide)), r4, cm_up_s]
  have e5 : G6.2 d 6 = d + 1 + 6 + 1 + 1 + 1 + 1 := by rw [r6, cm_up_n _ (Or.inr (by decide)), r5, cm_up_s]
  have e6 : G6.2 d 7 = d + 1 + 6 + 1 + 1 + 1 + 1 + 1 := by rw [r6, cm_up_s]
  have ez : G6.2 d 0 = d + 1 := by rw [r6, cm_up_n _ (Or.inr (by decide)), r5, cm_up_n _ (Or.inr (by decide)), r4, cm_up_n _ (Or.inr (by decide)), r3, cm_up_n _ (Or.inr (by decide)), r2, cm_up_n _ (Or.inr (by decide)), r1, cm_up_n _ (Or.inr (by decide))]; exact e0
  have er : ∀ a, a ≠ d → G6.2 a = G0.2 a := fun a ha => by rw [r6, cm_rne ha, r5, cm_rne ha, r4, cm_rne ha, r3, cm_rne ha, r2, cm_rne ha, r1, cm_rne ha]
  have q1 : cm_sh G6 (d + 1 + 6) = some (1, 40) := by rw [s6 _ (by omega), s5 _ (by omega), s4 _ (by omega), s3 _ (by omega), s2 _ (by omega)]; exact n1
  have q2 : cm_sh G6 (d + 1 + 6 + 1) = some (1, 40) := by rw [s6 _ (by omega), s5 _ (by omega), s4 _ (by omega), s3 _ (by omega)]; exact n2
  have q3 : cm_sh G6 (d + 1 + 6 + 1 + 1) = some (1, 40) := by rw [s6 _ (by omega), s5 _ (by omega), s4 _ (by omega)]; exact n3
  have q4 : cm_sh G6 (d + 1 + 6 + 1 + 1 + 1) = some (1, 41) := by rw [s6 _ (by omega), s5 _ (by omega)]; exact n4
  have q5 : cm_sh G6 (d + 1 + 6 + 1 + 1 + 1 + 1) = some (1, 41) := by rw [s6 _ (by omega)]; exact n5
  have q6 : cm_sh G6 (d + 1 + 6 + 1 + 1 + 1 + 1 + 1) = some (1, 41) := n6
  have mm : ∀ a, a < d + 7 → M6 a = N a := fun a ha => by rw [m6, row_n (by omega), m5, row_n (by omega), m4, row_n (by omega), m3, row_n (by omega), m2, row_n (by omega), m1, row_n (by omega)]
  have ss : ∀ a, a < d + 7 → cm_sh G6 a = cm_sh G0 a := fun a ha => by rw [s6 _ (by omega), s5 _ (by omega), s4 _ (by omega), s3 _ (by omega), s2 _ (by omega), s1 _ (by omega)]
  simp (disch := omega) only [g0_63, Option.toList_some, Option.toList_none, List.cons_append, List.nil_append, true_and, and_true, true_or, or_true, eq_self, ci0, ci1, cin6, forall_const, not_true_eq_false, not_false_eq_true, fimp, timp, i10, i01, cm_rne, and_assoc]
  refine K G6 M6 (by rw [show d + 13 = d + 1 + 6 + 1 + 1 + 1 + 1 + 1 + 1 by omega]; exact l6) (fun a ha => ⟨(ss a (by omega)).trans ((ss0 a).trans (x a (by omega)).1), (er a (by omega)).trans ((w0 a (by omega)).trans (x a (by omega)).2.1), (mm a (by omega)).trans (x a (by omega)).2.2⟩) ((mm d (by omega)).trans mD) ⟨h0, hk6, ⟨ez, by rw [e1]; omega, by rw [e2]; omega, by rw [e3]; omega, by rw [e4]; omega, by rw [e5]; omega, by rw [e6]; omega⟩, ⟨fun M => by rw [show d + 7 = d + 1 + 6 by omega]; exact al_of (by omega) q1, fun M => by rw [show d + 8 = d + 1 + 6 + 1 by omega]; exact al_of (by omega) q2, fun M => by rw [show d + 9 = d + 1 + 6 + 1 + 1 by omega]; exact al_of (by omega) q3, fun M => by rw [show d + 10 = d + 1 + 6 + 1 + 1 + 1 by omega]; exact al_of (by omega) q4, fun M => by rw [show d + 11 = d + 1 + 6 + 1 + 1 + 1 + 1 by omega]; exact al_of (by omega) q5, fun M => by rw [show d + 12 = d + 1 + 6 + 1 + 1 + 1 + 1 + 1 by omega]; exact al_of (by omega) q6⟩, isC_st i0 (fun a h1 h2 => ss a (by omega)) (er _ (by omega)), rfl⟩ ?_
  obtain ⟨c1, c2, c3⟩ := cb
  refine ⟨by rw [mm _ (by omega)]; exact c1, fun j a b => by rw [mm _ (by omega)]; exact c2 j a b, fun i a b => ?_⟩
  have b : i < 0 := b
  omega
theorem p_initP (hl : lz G 28) (hk : cm_sh G 27 = some (0, 3)) (K : ∀ G' M', lz G' 29 → ex G M G' M' 27 → M' 27 = M 27 → isP G' → Q none G' M') : Go 45 0 [some (2, 27)] [] G M Q := by
  have sa0 := fun (l) (f) => sh_app (l := l) (f := f) hl.1 (show (27 : Int) < 28 by omega)
  simp (disch := omega) only [g45_0, g45_1, g45_4, g45_5, g45_7, g45_9, Option.toList_some, Option.toList_none, List.cons_append, List.nil_append, true_and, and_true, true_or, or_true, eq_self, ci0, ci1, cin6, forall_const, not_true_eq_false, not_false_eq_true, fimp, timp, i10, i01, cm_rne, and_assoc, sa0, hk]
  (repeat' apply And.intro) <;> (try omega) <;> (try (intro hx; exfalso; omega))
  refine go_arr (n := 28) hl (by decide) (fun G1 M1 l1 s1 n1 r1 m1 => ?_)
  have hk1 : cm_sh G1 27 = some (0, 3) := (s1 27 (by omega)).trans hk
  simp (disch := omega) only [g45_12, Option.toList_some, Option.toList_none, List.cons_append, List.nil_append, true_and, and_true, true_or, or_true, eq_self, ci0, ci1, cin6, forall_const, not_true_eq_false, not_false_eq_true, fimp, timp, i10, i01, cm_rne, and_assoc]
  refine K G1 M1 l1 (fun a ha => ⟨s1 a (by omega), by rw [r1, cm_rne (by omega)], by rw [m1, row_n (by omega)]⟩) (by rw [m1, row_n (by omega)]) ⟨hk1, by rw [r1, cm_up_s], fun M => al_of (by omega) n1⟩
end INIT
