/-! ===== the reference reads the pad ===== -/
section RPAD
variable {G : cm_G} {M : cm_M} {P : Int → Int} {m N p r x i j t v w g h s n k u a b least most : Int} {S T : sS} {A : sA} {Q : Option cm_V → cm_G → cm_M → Prop}
/-- the entries hold the lines of T -/
def isEs (f : Int → Int) (T : sS) : Prop := ∀ j, 0 ≤ j → j < sN T → isE f j (sK T j) (sG T j) (sM T j) (sC T j)
theorem isEs_add {f f' : Int → Int} {T : sS} {k g n u : Int} (h : isEs f T) (hE : isE f' (sN T) k g n u) (hB : ∀ x, x < 4 * sN T → f' x = f x) : isEs f' (sAdd T k g n u) := by
  intro j a b
  have b : j < sN T + 1 := b
  show isE f' j (if j = sN T then k else sK T j) (if j = sN T then g else sG T j) (if j = sN T then n else sM T j) (if j = sN T then u else sC T j)
  by_cases hj : j = sN T
  · simp only [if_pos hj]
    rw [hj]
    exact hE
  · simp only [if_neg hj]
    obtain ⟨w1, w2, w3, w4⟩ := h j a (by omega)
    exact ⟨by rw [hB _ (by omega)]; exact w1, by rw [hB _ (by omega)]; exact w2, by rw [hB _ (by omega)]; exact w3, by rw [hB _ (by omega)]; exact w4⟩
theorem q_readPad (hm : isM G m) (h6 : M m 6 = N) (hPk : ∀ k, 0 ≤ k → k < N → M (m + 5) k = P k) (ho : okP P N) (K : ∀ M', fs3 M M' m → ((pa P N 61 0 sZ).1 = -6 → M' m 14 = sN (pa P N 61 0 sZ).2 ∧ isEs (M' (m + 11)) (pa P N 61 0 sZ).2) → Q (some (0, (pa P N 61 0 sZ).1)) G M') : Go 136 0 [some (2, m), none] [] G M Q := by
  have hsh := hm.2.1
  have h0 := hm.1
  have hN := ho.1
  have ret : ∀ (s : cm_M) (y : Int), s m 16 = y → Q (some (0, y)) G s → Go 136 18 [some (2, m), some (0, 0)] [] G s Q := by
    intro s y hy hQ
    rw [g136_18]
    simp (disch := omega) only [g136_19, g136_92, g136_93, g136_96, Option.toList_some, Option.toList_none, List.cons_append, List.nil_append, true_and, and_true, true_or, or_true, eq_self, ci0, ci1, cin6, forall_const, not_true_eq_false, not_false_eq_true, fimp, timp, i10, i01, cm_rne, and_assoc, hsh, hy]
    (repeat' apply And.intro) <;> (try omega) <;> (try (intro hx; exfalso; omega))
  simp (disch := omega) only [g136_0, g136_1, g136_2, g136_5, g136_6, g136_7, g136_10, g136_11, g136_13, g136_16, g136_17, Option.toList_some, Option.toList_none, List.cons_append, List.nil_append, true_and, and_true, true_or, or_true, eq_self, ci0, ci1, cin6, forall_const, not_true_eq_false, not_false_eq_true, fimp, timp, i10, i01, cm_rne, and_assoc, hsh]
  (repeat' apply And.intro) <;> (try omega) <;> (try (intro hx; exfalso; omega))
  refine go_loop (σ := Int × sS × cm_M) (fun i _ => [some (2, m), some (0, 1)]) (fun s => s.2.2) (fun i s => (2 * i ≤ s.1 ∧ s.1 ≤ N) ∧ sN s.2.1 = i ∧ fs3 M s.2.2 m ∧ hRd s.2.2 m P N s.1 (-6) ∧ s.2.2 m 14 = i ∧ isEs (s.2.2 (m + 11)) s.2.1 ∧ pa P N (61 - i.toNat) s.1 s.2.1 = pa P N 61 0 sZ) 31 (fun i s hi0 hin hRs ih => ?_) (fun s hRs => ?_) 0 (0, sZ, cm_up (cm_up (cm_up M m 14 0) m 15 0) m 16 (-6)) (by omega) (by omega) ⟨⟨by show 2 * (0 : Int) ≤ 0; omega, by show (0 : Int) ≤ N; omega⟩, rfl, ?_, ⟨?_, fun k a b => ?_, ?_, cm_up_s _ _ _ _⟩, ?_, fun j a b => ?_, rfl⟩
  · obtain ⟨p, T, s⟩ := s
    obtain ⟨u1, u2, u3, u4, u7, u8, u6⟩ := hRs
    dsimp only at u1 u2 u3 u4 u6 u7 u8 ⊢
    obtain ⟨⟨bl1, bl2⟩, bl3⟩ := pl_b (P := P) u1.2
    rw [show 61 - i.toNat = (61 - (i + 1).toNat) + 1 by omega, pa_s] at u6
    rw [← u6] at K
    rw [g136_18]
    simp (disch := omega) only [g136_19, g136_22, Option.toList_some, Option.toList_none, List.cons_append, List.nil_append, true_and, and_true, true_or, or_true, eq_self, ci0, ci1, cin6, forall_const, not_true_eq_false, not_false_eq_true, fimp, timp, i10, i01, cm_rne, and_assoc]
    (repeat' apply And.intro) <;> (try omega) <;> (try (intro hx; exfalso; omega))
    refine c136_23 (by decide) hsh (q_readLine hm u4 ho (by omega) u7 (by omega) (fun hz M1 f1 e1 => ?_) (fun hz M1 f1 e16 e15 e14 hE hB => ?_)) <;> simp (disch := omega) only [Option.toList_some, Option.toList_none, List.cons_append, List.nil_append, true_and, and_true, true_or, or_true, eq_self, ci0, ci1, cin6, forall_const, not_true_eq_false, not_false_eq_true, fimp, timp, i10, i01, cm_rne, and_assoc]
    · rw [if_pos hz] at K
      have hQ := K M1 (u3.tr f1) (fun y => by dsimp only at y; omega)
      have R := ret M1 _ e1 hQ
      simp (disch := omega) only [g136_26, g136_27, g136_30, g136_32, g136_35, g136_36, g136_39, g136_40, g136_43, g136_46, g136_47, g136_50, g136_51, g136_52, g136_53, Option.toList_some, Option.toList_none, List.cons_append, List.nil_append, true_and, and_true, true_or, or_true, eq_self, ci0, ci1, cin6, forall_const, not_true_eq_false, not_false_eq_true, fimp, timp, i10, i01, cm_rne, and_assoc, hsh, e1]
      (repeat' apply And.intro) <;> (try omega) <;> (try (intro hx; exfalso; omega))
      · exact fun _ => R
    · rw [if_neg (by omega)] at K u6
      obtain ⟨bl4, bl5⟩ := bl3 hz
      have hP1 : hRd M1 m P N (pl P N p).2.1 (-6) := u4.g f1 e15 e16
      rw [← u2] at hE hB
      have hEs := isEs_add u8 hE hB
      simp (disch := omega) only [g136_26, g136_27, g136_30, g136_32, g136_35, g136_36, g136_39, g136_40, g136_43, g136_46, g136_47, g136_50, g136_51, g136_52, g136_53, g136_56, g136_57, Option.toList_some, Option.toList_none, List.cons_append, List.nil_append, true_and, and_true, true_or, or_true, eq_self, ci0, ci1, cin6, forall_const, not_true_eq_false, not_false_eq_true, fimp, timp, i10, i01, cm_rne, and_assoc, hsh, e16, e15, hP1.1]
      (repeat' apply And.intro) <;> (try omega) <;> (try (intro hx; exfalso; omega))
      · intro hge
        have he : (pl P N p).2.1 = N := by omega
        rw [if_pos he] at K
        have hQ := K M1 (u3.tr f1) (fun _ => ⟨by rw [e14]; show i + 1 = sN T + 1; omega, hEs⟩)
        have R := ret M1 _ e16 hQ
        exact R
      · intro hlt
        rw [if_neg (by omega)] at K u6
        refine c136_58 (Nat.le_of_ble_eq_true rfl) hsh (q_letter hm hP1 ho (by omega) ?_)
        have erl : rL P N (pl P N p).2.1 = P (pl P N p).2.1 := if_pos hlt
        have ob := ho.2 (pl P N p).2.1 (by omega) hlt
        rw [erl]
        simp (disch := omega) only [g136_61, g136_63, g136_66, g136_67, g136_70, Option.toList_some, Option.toList_none, List.cons_append, List.nil_append, true_and, and_true, true_or, or_true, eq_self, ci0, ci1, cin6, forall_const, not_true_eq_false, not_false_eq_true, fimp, timp, i10, i01, cm_rne, and_assoc]
        (repeat' apply And.intro) <;> (try omega) <;> (try (intro hx; exfalso; omega))
        · intro h44
          rw [if_pos h44] at K
          refine c136_71 (by decide) hsh (q_wants hm e16 e15 (by omega) (Or.inl rfl) (fun M2 f2 g15 g16 => ?_))
          rw [if_neg (by decide)] at g16
          have hQ := K M2 ((u3.tr f1).tr f2.t) (fun y => by dsimp only at y; omega)
          have R := ret M2 _ g16 hQ
          simp (disch := omega) only [g136_74, g136_75, g136_78, g136_80, g136_83, g136_84, g136_87, g136_88, g136_89, Option.toList_some, Option.toList_none, List.cons_append, List.nil_append, true_and, and_true, true_or, or_true, eq_self, ci0, ci1, cin6, forall_const, not_true_eq_false, not_false_eq_true, fimp, timp, i10, i01, cm_rne, and_assoc, hsh, g16]
          (repeat' apply And.intro) <;> (try omega) <;> (try (intro hx; exfalso; omega))
          exact fun _ => R
        · intro h44
          rw [if_neg (fun y => y h44)] at u6
          refine c136_71 (by decide) hsh (q_wants hm e16 e15 (by omega) (Or.inr rfl) (fun M2 f2 g15 g16 => ?_))
          rw [if_pos rfl] at g16
          have R := ih ((pl P N p).2.1 + 1, sAdd T (pl P N p).2.2.1 (pl P N p).2.2.2.1 (pl P N p).2.2.2.2.1 (pl P N p).2.2.2.2.2, M2) ⟨by dsimp only; omega, by show sN T + 1 = i + 1; omega, (u3.tr f1).tr f2.t, hP1.f f2 g15 g16, by dsimp only; rw [f2.2 14 (by decide) (by decide)]; exact e14, by dsimp only; rw [f2.1 _ (by omega)]; exact hEs, u6⟩
          simp (disch := omega) only [g136_74, g136_75, g136_78, g136_80, g136_83, g136_84, g136_87, g136_88, g136_89, Option.toList_some, Option.toList_none, List.cons_append, List.nil_append, true_and, and_true, true_or, or_true, eq_self, ci0, ci1, cin6, forall_const, not_true_eq_false, not_false_eq_true, fimp, timp, i10, i01, cm_rne, and_assoc, hsh, g16]
          (repeat' apply And.intro) <;> (try omega) <;> (try (intro hx; exfalso; omega))
  · obtain ⟨p, T, s⟩ := s
    obtain ⟨u1, -⟩ := hRs
    dsimp only at u1
    omega
  · exact ⟨fun k a b => by dsimp only; rw [cm_rne a, cm_rne a, cm_rne a], fun j a => by dsimp only; rw [cm_up_n _ (Or.inr (by omega)), cm_up_n _ (Or.inr (by omega)), cm_up_n _ (Or.inr (by omega))]⟩
  · dsimp only; rw [cm_up_n _ (Or.inr (by decide)), cm_up_n _ (Or.inr (by decide)), cm_up_n _ (Or.inr (by decide))]; exact h6
  · dsimp only; rw [cm_rne (by omega), cm_rne (by omega), cm_rne (by omega)]; exact hPk k a b
  · dsimp only; rw [cm_up_n _ (Or.inr (by decide))]; exact cm_up_s _ _ _ _
  · dsimp only; rw [cm_up_n _ (Or.inr (by decide)), cm_up_n _ (Or.inr (by decide))]; exact cm_up_s _ _ _ _
  · have b : j < 0 := b
    omega
end RPAD
