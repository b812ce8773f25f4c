/-! ===== the law: another speed, no cues ===== -/
theorem sT_n {S : sS} {i v j : Int} (h : ¬ j = i) : sT (sSet S i v) j = sT S j := by
  show (if j = i then v else sT S j) = sT S j
  exact if_neg h
theorem sT_s {S : sS} {i v : Int} : sT (sSet S i v) i = v := by
  show (if i = i then v else sT S i) = v
  exact if_pos rfl
theorem sH_set {S : sS} {v : Int} : sH (sSet S 1 v) = sH S := by
  funext i
  unfold sH
  have e2 : sT (sSet S 1 v) 2 = sT S 2 := sT_n (by decide)
  rw [e2]
  rfl
theorem tp_set {S : sS} {v : Int} : ∀ k : Nat, tp (sSet S 1 v) k = tp S k
  | 0 => rfl
  | k + 1 => by
    show tp (sSet S 1 v) k + sH (sSet S 1 v) k = tp S k + sH S k
    rw [tp_set k, sH_set]
theorem tI_set {S : sS} {v i : Int} : tI (sSet S 1 v) i = tI S i := tp_set _
theorem sH_cu {S : sS} {f : Int → Int} : sH (sCu S f) = sH S := rfl
theorem tp_cu {S : sS} {f : Int → Int} : ∀ k : Nat, tp (sCu S f) k = tp S k
  | 0 => rfl
  | k + 1 => by
    show tp (sCu S f) k + sH (sCu S f) k = tp S k + sH S k
    rw [tp_cu k, sH_cu]
theorem tI_fast {S : sS} {v i : Int} : tI (sFast S v) i = tI S i := tI_set.trans (tp_cu _)
theorem sH_fast {S : sS} {v : Int} : sH (sFast S v) = sH S := sH_set.trans sH_cu
section NEWR
variable {μ pc : Nat} {ls : List (Option cm_V)} {st : List cm_V} {G : cm_G} {M : cm_M} {Q : Option cm_V → cm_G → cm_M → Prop} {n : Int} {z : Nat}
/-- a new row of ints -/
theorem go_na (hl : lz G n) (he : cm_sz (1, z) ≤ 1000) (K : ∀ G1 M1, lz G1 (n + 1) → (∀ a, a < n → cm_sh G1 a = cm_sh G a ∧ G1.2 a = G.2 a) → cm_sh G1 n = some (1, z) → (∀ a, a ≠ n → M1 a = M a) → M1 n = (fun _ => 0) → Go μ pc ls ((2, n) :: st) G1 M1 Q) : Go μ pc ls ((2, (G.1.length : Int)) :: st) (G.1 ++ [(1, z)], G.2) (cm_row M (G.1.length : Int) 0) Q := by
  have := K (G.1 ++ [(1, z)], G.2) (cm_row M n 0) (lz_app hl rfl he) (fun a ha => ⟨sh_app hl.1 ha, rfl⟩) (sh_new hl.1) (fun a ha => row_n ha) row_s
  rw [hl.1]
  exact this
end NEWR
/-- what stood stands -/
def exG (G G' : cm_G) (n : Int) : Prop := ∀ a, a < n → cm_sh G' a = cm_sh G a ∧ G'.2 a = G.2 a
theorem exG.tr {G G1 G2 : cm_G} {n m : Int} (h1 : exG G G1 n) (h2 : exG G1 G2 m) (hm : n ≤ m) : exG G G2 n := fun a ha => ⟨(h2 a (by omega)).1.trans (h1 a ha).1, (h2 a (by omega)).2.trans (h1 a ha).2⟩
theorem exG.X {G G' : cm_G} {n : Int} (h : exG G G' n) (hn : 82 ≤ n) (hX : isX G) : isX G' := isX_st hX (fun a ha => h a (by omega))
theorem exG.al {G G' : cm_G} {n k : Int} {z : Nat} (h : exG G G' n) (hk : 0 ≤ k ∧ k < n) (hz : cm_sh G k = some (1, z)) : ∀ M, cm_al 1 G' M k = (z : Int) := fun M => al_of hk.1 ((h k hk.2).1.trans hz)
section LAW8
variable {G : cm_G} {M : cm_M} {A : sA} {ra rh ru rq g : Int} {Q : Option cm_V → cm_G → cm_M → Prop}
/-- the greatest speed, by ticks -/
theorem l_due {S : sS} {rt rf rl rn m v due : Int} {y17 y18 : Option cm_V} (hv : vS S) (hvv : 1 ≤ v ∧ v ≤ 30) (hR : isRun G ra rh rn rt rf rl) (hq0 : 0 ≤ rq) (hqa : ∀ M, cm_al 1 G M rq = 40) (hqn : rq ≠ rt ∧ rq ≠ rf ∧ rq ≠ rl) (hd : rdS M ra rh rn (sFast S v)) (hq : ∀ i, 0 ≤ i → i < sN S → M rq i = sG S i) (hm : 1 ≤ m ∧ m ≤ 20) {x5 x10 x11 y3 : Option cm_V}
    (K : ∀ M' due' y17 y18, frW M M' rt rf rl → ((shows (sFast S v) m ∧ due' = v) ∨ (¬ shows (sFast S v) m ∧ due' = due)) → Go 73 167 [some (2, 0), some (2, ra), some (2, rh), y3, some (2, rq), x5, some (0, sN S), some (2, rt), some (2, rf), some (2, rl), x10, x11, some (2, rn), some (0, sT S 0), some (0, m), some (0, due'), some (0, v + 1), y17, y18] [] G M' Q) :
    Go 73 174 [some (2, 0), some (2, ra), some (2, rh), y3, some (2, rq), x5, some (0, sN S), some (2, rt), some (2, rf), some (2, rl), x10, x11, some (2, rn), some (0, sT S 0), some (0, m), some (0, due), some (0, v), y17, y18] [] G M Q := by
  have hvf := vS_fast hv hvv
  have hn := hv.2.1
  have hn0 := hv.1
  have hR' := hR
  obtain ⟨⟨z1, z2, z3, z4, z5, z6⟩, ⟨a1, a2, a3, a4, a5, a6⟩, -⟩ := hR
  have hrun := l_run (Q := fun r G' M' => Go 73 193 [some (2, 0), some (2, ra), some (2, rh), y3, some (2, rq), x5, some (0, sN S), some (2, rt), some (2, rf), some (2, rl), x10, x11, some (2, rn), some (0, sT S 0), some (0, m), some (0, due), some (0, v), y17, y18] (r.toList ++ []) G' M' Q) hR' hvf hd
  have eN : sN (sFast S v) = sN S := rfl
  have eT0 : sT (sFast S v) 0 = sT S 0 := sT_n (S := sCu S (fun _ => 0)) (by decide)
  have eT1 : sT (sFast S v) 1 = v := sT_s
  rw [eN, eT0, eT1] at hrun
  simp (disch := omega) only [g73_174, g73_175, g73_176, g73_178, g73_180, g73_182, g73_184, g73_186, g73_188, Option.toList_some, Option.toList_none, List.cons_append, List.nil_append, true_and, and_true, true_or, or_true, eq_self, ci0, ci1, cin6, forall_const, not_true_eq_false, not_false_eq_true, fimp, timp, i10, i01, cm_rne, and_assoc]
  refine c73_190 (Nat.le_of_ble_eq_true rfl) (hrun (fun M1 w1 f1 => ?_))
  have hq1 : ∀ i, 0 ≤ i → i < sN S → M1 rq i = sG S i := fun i a b => by rw [f1 rq hqn.1 hqn.2.1 hqn.2.2]; exact hq i a b
  have ht1 : ∀ i, 0 ≤ i → i < sN S → M1 rt i = eI (sFast S v) i := fun i a b => (w1 i a b).1
  simp (disch := omega) only [g73_193, g73_194, g73_195, g73_197, g73_198, Option.toList_some, Option.toList_none, List.cons_append, List.nil_append, true_and, and_true, true_or, or_true, eq_self, ci0, ci1, cin6, forall_const, not_true_eq_false, not_false_eq_true, fimp, timp, i10, i01, cm_rne, and_assoc]
  refine go_loop (σ := Int) (fun i s => [some (2, 0), some (2, ra), some (2, rh), y3, some (2, rq), x5, some (0, sN S), some (2, rt), some (2, rf), some (2, rl), x10, x11, some (2, rn), some (0, sT S 0), some (0, m), some (0, due), some (0, v), some (0, s), some (0, i)]) (fun _ => M1) (fun i s => (s = 1 ∧ ∀ j, 0 ≤ j → j < i → sK S j = 0 → m ≤ eI (sFast S v) j) ∨ (s = 0 ∧ ¬ ∀ j, 0 ≤ j → j < i → sK S j = 0 → m ≤ eI (sFast S v) j)) (sN S) (fun i s hi0 hin hRi ihi => ?_) (fun s hRi => ?_) 0 1 (by omega) hn0 (Or.inl ⟨rfl, fun j a b => absurd a (by omega)⟩)
  · have w := hv.2.2.2.2.2 i hi0 hin
    have hb := eI_b hvf (i := i) ⟨hi0, hin⟩
    have step : (∀ j, 0 ≤ j → j < i → sK S j = 0 → m ≤ eI (sFast S v) j) → (sK S i = 0 → m ≤ eI (sFast S v) i) → ∀ j, 0 ≤ j → j < i + 1 → sK S j = 0 → m ≤ eI (sFast S v) j := fun h1 h2 j a b z => by
      by_cases hj : j = i
      · rw [hj] at z ⊢; exact h2 z
      · exact h1 j a (by omega) z
    have kind : sG S i < 0 ∨ sK S i = 0 := by
      by_cases hz : sK S i = 0
      · exact Or.inr hz
      · exact Or.inl (by have := (w.2.2.2.1 hz).1; omega)
    have kind2 : sK S i = 0 → ¬ sG S i < 0 := fun hz => by have := (w.2.2.1 hz).1; omega
    rw [g73_200]
    rcases hRi with ⟨rfl, h1⟩ | ⟨rfl, h1⟩
    · simp (disch := omega) only [g73_202, g73_204, g73_207, g73_209, g73_212, g73_214, g73_216, g73_217, g73_220, g73_222, g73_224, g73_225, g73_227, g73_230, g73_231, g73_234, g73_235, g73_237, g73_240, Option.toList_some, Option.toList_none, List.cons_append, List.nil_append, true_and, and_true, true_or, or_true, eq_self, ci0, ci1, cin6, forall_const, not_true_eq_false, not_false_eq_true, fimp, timp, i10, i01, cm_rne, and_assoc, hqa, a4, hq1 i hi0 hin, ht1 i hi0 hin]
      (repeat' apply And.intro) <;> (try omega) <;> (try (intro hx; exfalso; omega))
      intro _
      (repeat' apply And.intro) <;> (try omega) <;> (try (intro hx; exfalso; omega))
      · intro hz
        exact ihi 1 (Or.inl ⟨rfl, step h1 (fun z => absurd hz (kind2 z))⟩)
      · intro hz
        have hk : sK S i = 0 := kind.resolve_left hz
        (repeat' apply And.intro) <;> (try omega) <;> (try (intro hx; exfalso; omega))
        · intro h3
          exact ihi 0 (Or.inr ⟨rfl, fun z => by have := z i hi0 (by omega) hk; omega⟩)
        · intro h3
          exact ihi 1 (Or.inl ⟨rfl, step h1 (fun _ => by omega)⟩)
    · simp (disch := omega) only [g73_202, g73_204, g73_207, g73_209, g73_212, g73_214, g73_216, g73_217, g73_220, g73_222, g73_224, g73_225, g73_227, g73_230, g73_231, g73_234, g73_235, g73_237, g73_240, Option.toList_some, Option.toList_none, List.cons_append, List.nil_append, true_and, and_true, true_or, or_true, eq_self, ci0, ci1, cin6, forall_const, not_true_eq_false, not_false_eq_true, fimp, timp, i10, i01, cm_rne, and_assoc]
      (repeat' apply And.intro) <;> (try omega) <;> (try (intro hx; exfalso; omega))
      exact fun _ => ihi 0 (Or.inr ⟨rfl, fun z => h1 (fun j a b => z j a (by omega))⟩)
  · rw [g73_200]
    rcases hRi with ⟨rfl, h1⟩ | ⟨rfl, h1⟩
    · simp (disch := omega) only [g73_202, g73_204, g73_243, g73_245, g73_248, g73_250, g73_253, g73_255, g73_257, g73_260, Option.toList_some, Option.toList_none, List.cons_append, List.nil_append, true_and, and_true, true_or, or_true, eq_self, ci0, ci1, cin6, forall_const, not_true_eq_false, not_false_eq_true, fimp, timp, i10, i01, cm_rne, and_assoc]
      (repeat' apply And.intro) <;> (try omega) <;> (try (intro hx; exfalso; omega))
      exact fun _ => K M1 v _ _ f1 (Or.inl ⟨h1, rfl⟩)
    · simp (disch := omega) only [g73_202, g73_204, g73_243, g73_245, g73_248, g73_250, g73_253, g73_255, g73_257, g73_260, Option.toList_some, Option.toList_none, List.cons_append, List.nil_append, true_and, and_true, true_or, or_true, eq_self, ci0, ci1, cin6, forall_const, not_true_eq_false, not_false_eq_true, fimp, timp, i10, i01, cm_rne, and_assoc]
      (repeat' apply And.intro) <;> (try omega) <;> (try (intro hx; exfalso; omega))
      exact fun _ => K M1 due _ _ f1 (Or.inr ⟨h1, rfl⟩)
theorem l_others {n0 : Int} (hl : lz G n0) (hn0 : 82 ≤ n0) (hX : isX G) (hA : rXA M A) (hv : vA A) (hz : (82 ≤ ra ∧ ra < n0) ∧ (82 ≤ rh ∧ rh < n0) ∧ (82 ≤ ru ∧ ru < n0) ∧ (82 ≤ rq ∧ rq < n0)) (hs : cm_sh G ra = some (1, 41) ∧ cm_sh G rh = some (1, 40) ∧ cm_sh G ru = some (1, 40) ∧ cm_sh G rq = some (1, 40)) (hd : rdS M ra rh ru (aS A)) (hq : ∀ i, 0 ≤ i → i < sN (aS A) → M rq i = sG (aS A) i)
    (K : ∀ G' M' n', n0 ≤ n' → n' ≤ n0 + 4 → lz G' n' → exG G G' n0 → rXA M' A → (∀ k, k < 0 → M' k = M k) → Q (some (0, 1)) G' M') :
    Go 73 0 [some (2, 0), some (2, ra), some (2, rh), some (2, ru), some (2, rq), some (0, g), none, none, none, none, none, none, none, none, none, none, none, none, none] [] G M Q := by
  obtain ⟨⟨za, za'⟩, ⟨zh, zh'⟩, ⟨zu, zu'⟩, ⟨zq, zq'⟩⟩ := hz
  obtain ⟨sa, sh, su, sq⟩ := hs
  have hv1 := hv.1
  have hn := hv.1.2.1
  have hnn := hv.1.1
  have hscr := hv.1.2.2.1
  have hh6 := hv.2.1.1.2
  simp (disch := omega) only [g73_0, g73_1, Option.toList_some, Option.toList_none, List.cons_append, List.nil_append, true_and, and_true, true_or, or_true, eq_self, ci0, ci1, cin6, forall_const, not_true_eq_false, not_false_eq_true, fimp, timp, i10, i01, cm_rne, and_assoc]
  refine c73_2 (Nat.le_of_ble_eq_true rfl) hX.1 (p_count hX hA hv cn0 (fun M0 r0 f0 => ?_))
  simp (disch := omega) only [xC0, g73_5, g73_7, g73_9, Option.toList_some, Option.toList_none, List.cons_append, List.nil_append, true_and, and_true, true_or, or_true, eq_self, ci0, ci1, cin6, forall_const, not_true_eq_false, not_false_eq_true, fimp, timp, i10, i01, cm_rne, and_assoc]
  (repeat' apply And.intro) <;> (try omega) <;> (try (intro hx; exfalso; omega))
  refine go_na hl (by decide) (fun G1 M1 l1 x1 s1 m1 w1 => ?_)
  simp (disch := omega) only [g73_11, g73_13, g73_15, Option.toList_some, Option.toList_none, List.cons_append, List.nil_append, true_and, and_true, true_or, or_true, eq_self, ci0, ci1, cin6, forall_const, not_true_eq_false, not_false_eq_true, fimp, timp, i10, i01, cm_rne, and_assoc]
  (repeat' apply And.intro) <;> (try omega) <;> (try (intro hx; exfalso; omega))
  refine go_na l1 (by decide) (fun G2 M2 l2 x2 s2 m2 w2 => ?_)
  simp (disch := omega) only [g73_17, g73_19, g73_21, Option.toList_some, Option.toList_none, List.cons_append, List.nil_append, true_and, and_true, true_or, or_true, eq_self, ci0, ci1, cin6, forall_const, not_true_eq_false, not_false_eq_true, fimp, timp, i10, i01, cm_rne, and_assoc]
  (repeat' apply And.intro) <;> (try omega) <;> (try (intro hx; exfalso; omega))
  refine go_na l2 (by decide) (fun G3 M3 l3 x3 s3 m3 w3 => ?_)
  have X3 : exG G G3 n0 := (exG.tr (exG.tr (n := n0) (m := n0 + 1) x1 x2 (by omega)) x3 (by omega))
  have hX3 := X3.X hn0 hX
  have k3 : ∀ k, k < n0 → M3 k = M0 k := fun k hk => by rw [m3 k (by omega), m2 k (by omega), m1 k (by omega)]
  have r3 : rXA M3 A := rXA_hi r0 hh6 (fun k _ _ => k3 k (by omega))
  have neg3 : ∀ k, k < 0 → M3 k = M k := fun k hk => (k3 k (by omega)).trans (f0 k (by omega))
  simp (disch := omega) only [g73_23, g73_25, g73_27, g73_30, g73_31, Option.toList_some, Option.toList_none, List.cons_append, List.nil_append, true_and, and_true, true_or, or_true, eq_self, ci0, ci1, cin6, forall_const, not_true_eq_false, not_false_eq_true, fimp, timp, i10, i01, cm_rne, and_assoc]
  (repeat' apply And.intro) <;> (try omega) <;> (try (intro hx; exfalso; omega))
  · intro hne
    -- rows
    have e3 : ∀ k, 82 ≤ k → k < n0 → M3 k = M k := fun k a b => (k3 k b).trans (f0 k (by omega))
    have hln : 0 < sN (aS A) ∧ sN (aS A) < 2147483648 := by omega
    simp (disch := omega) only [g73_66, g73_68, g73_69, g73_70, Option.toList_some, Option.toList_none, List.cons_append, List.nil_append, true_and, and_true, true_or, or_true, eq_self, ci0, ci1, cin6, forall_const, not_true_eq_false, not_false_eq_true, fimp, timp, i10, i01, cm_rne, and_assoc]
    refine c73_72 (Nat.le_of_ble_eq_true rfl) (l_low hln ?_)
    have b1 := lw_b (cm_ishr g 3) hln.1
    generalize lw (cm_ishr g 3) (sN (aS A)) = line at *
    simp (disch := omega) only [g73_75, g73_77, g73_78, g73_80, g73_82, g73_83, Option.toList_some, Option.toList_none, List.cons_append, List.nil_append, true_and, and_true, true_or, or_true, eq_self, ci0, ci1, cin6, forall_const, not_true_eq_false, not_false_eq_true, fimp, timp, i10, i01, cm_rne, and_assoc]
    refine c73_85 (Nat.le_of_ble_eq_true rfl) (l_low (by omega) ?_)
    have b2 := lw_b (cm_ishr g 9) (n := 30) (by decide)
    simp (disch := omega) only [g73_88, g73_89, g73_91, g73_92, g73_93, g73_94, g73_96, g73_97, Option.toList_some, Option.toList_none, List.cons_append, List.nil_append, true_and, and_true, true_or, or_true, eq_self, ci0, ci1, cin6, forall_const, not_true_eq_false, not_false_eq_true, fimp, timp, i10, i01, cm_rne, and_assoc]
    have b3 : 1 ≤ 1 + lw (cm_ishr g 9) 30 ∧ 1 + lw (cm_ishr g 9) 30 ≤ 30 := by omega
    generalize 1 + lw (cm_ishr g 9) 30 = speed at *
    refine c73_99 (Nat.le_of_ble_eq_true rfl) hX3.1 (p_count hX3 r3 hv ⟨by decide, by decide⟩ (fun M4 r4 f4 => ?_))
    simp (disch := omega) only [xC7, g73_102, g73_104, g73_106, g73_108, Option.toList_some, Option.toList_none, List.cons_append, List.nil_append, true_and, and_true, true_or, or_true, eq_self, ci0, ci1, cin6, forall_const, not_true_eq_false, not_false_eq_true, fimp, timp, i10, i01, cm_rne, and_assoc]
    have sh3 : ∀ k, 0 ≤ k → k < n0 → cm_sh G3 k = cm_sh G k := fun k _ b => (X3 k b).1
    have t1 : cm_sh G3 n0 = some (1, 40) := ((x3 n0 (by omega)).1.trans (x2 n0 (by omega)).1).trans s1
    have t2 : cm_sh G3 (n0 + 1) = some (1, 40) := (x3 (n0 + 1) (by omega)).1.trans s2
    have t3 : cm_sh G3 (n0 + 1 + 1) = some (1, 40) := s3
    have hR3 : isRun G3 ra rh ru n0 (n0 + 1) (n0 + 1 + 1) := ⟨by omega, ⟨X3.al (by omega) sa, X3.al (by omega) sh, X3.al (by omega) su, fun M => al_of (by omega) t1, fun M => al_of (by omega) t2, fun M => al_of (by omega) t3⟩, by omega, by omega, by omega, by omega, by omega, by omega⟩
    have e4 : ∀ k, 82 ≤ k → k < n0 → M4 k = M k := fun k a b => (f4 k (by omega)).trans (e3 k a b)
    have okv : okS 1 speed := ⟨by decide, by rw [if_neg (by decide)]; exact b3.1, by rw [if_neg (by decide), if_pos rfl]; exact b3.2⟩
    have hvs : vS (sSet (aS A) 1 speed) := vS_set hv1 okv
    have hd4 : rdS M4 ra rh ru (sSet (aS A) 1 speed) := by
      obtain ⟨d1, d2, d3⟩ := hd
      refine ⟨fun i a b => ?_, fun i a b => ?_, fun i a b => ?_⟩
      · rw [e4 ra za za', tI_set]; exact d1 i a b
      · rw [e4 rh zh zh', sH_set]; exact d2 i a b
      · rw [e4 ru zu zu']; exact d3 i a b
    have hrun := l_run (Q := fun r G' M' => Go 73 113 [some (2, 0), some (2, ra), some (2, rh), some (2, ru), some (2, rq), some (0, g), some (0, sN (aS A)), some (2, n0), some (2, n0 + 1), some (2, n0 + 1 + 1), some (0, line), some (0, speed), none, none, none, none, none, none, none] (r.toList ++ []) G' M' Q) hR3 hvs hd4
    have eN : sN (sSet (aS A) 1 speed) = sN (aS A) := rfl
    have eT0 : sT (sSet (aS A) 1 speed) 0 = sT (aS A) 0 := sT_n (by decide)
    have eT1 : sT (sSet (aS A) 1 speed) 1 = speed := sT_s
    rw [eN, eT0, eT1] at hrun
    refine c73_110 (Nat.le_of_ble_eq_true rfl) (hrun (fun M5 w5 f5 => ?_))
    have r5 : rXA M5 A := rXA_hi r4 hh6 (fun k _ _ => f5 k (by omega) (by omega) (by omega))
    simp (disch := omega) only [g73_113, g73_114, g73_115, g73_117, Option.toList_some, Option.toList_none, List.cons_append, List.nil_append, true_and, and_true, true_or, or_true, eq_self, ci0, ci1, cin6, forall_const, not_true_eq_false, not_false_eq_true, fimp, timp, i10, i01, cm_rne, and_assoc]
    refine c73_119 (Nat.le_of_ble_eq_true rfl) hX3.1 (p_seenIf hX3 r5 hv (i := line) (v := speed) ⟨by omega, by omega⟩ ⟨by omega, by omega⟩ (fun M6 r6 f6 => ?_))
    have e6 : xIf (aS A) line speed = eI (sSet (aS A) 1 speed) line := by
      unfold xIf
      rw [ite'_p b1, ite'_p b3]
    have e6b : M6 n0 line = eI (sSet (aS A) 1 speed) line := by
      rw [f6 n0 (by omega)]
      exact (w5 line b1.1 b1.2).1
    have hb6 := eI_b hvs (i := line) b1
    obtain ⟨-, ⟨-, -, -, c4, -⟩, -⟩ := hR3
    rw [e6]
    simp (disch := omega) only [g73_122, g73_124, g73_126, g73_127, g73_130, g73_131, g73_132, g73_134, Option.toList_some, Option.toList_none, List.cons_append, List.nil_append, true_and, and_true, true_or, or_true, eq_self, ci0, ci1, cin6, forall_const, not_true_eq_false, not_false_eq_true, fimp, timp, i10, i01, cm_rne, and_assoc, c4, e6b]
    (repeat' apply And.intro) <;> (try omega) <;> (try (intro hx; exfalso; omega))
    refine go_na l3 (by decide) (fun G4 M7 l4 x4 s4 m4 w4 => ?_)
    have X4 : exG G G4 n0 := exG.tr X3 x4 (by omega)
    have hX4 := X4.X hn0 hX
    have r7 : rXA M7 A := rXA_hi r6 hh6 (fun k _ _ => m4 k (by omega))
    simp (disch := omega) only [g73_136, g73_138, g73_139, Option.toList_some, Option.toList_none, List.cons_append, List.nil_append, true_and, and_true, true_or, or_true, eq_self, ci0, ci1, cin6, forall_const, not_true_eq_false, not_false_eq_true, fimp, timp, i10, i01, cm_rne, and_assoc]
    (repeat' apply And.intro) <;> (try omega) <;> (try (intro hx; exfalso; omega))
    refine c73_141 (Nat.le_of_ble_eq_true rfl) hX4.1 (p_count hX4 r7 hv ⟨by decide, by decide⟩ (fun M8 r8 f8 => ?_))
    simp (disch := omega) only [xC7, g73_144, g73_146, g73_147, g73_149, g73_151, g73_152, Option.toList_some, Option.toList_none, List.cons_append, List.nil_append, true_and, and_true, true_or, or_true, eq_self, ci0, ci1, cin6, forall_const, not_true_eq_false, not_false_eq_true, fimp, timp, i10, i01, cm_rne, and_assoc]
    refine c73_154 (Nat.le_of_ble_eq_true rfl) (l_low (by omega) ?_)
    have b4 := lw_b (cm_ishr g 13) (n := 20) (by decide)
    simp (disch := omega) only [g73_157, g73_158, g73_160, g73_162, g73_164, g73_165, Option.toList_some, Option.toList_none, List.cons_append, List.nil_append, true_and, and_true, true_or, or_true, eq_self, ci0, ci1, cin6, forall_const, not_true_eq_false, not_false_eq_true, fimp, timp, i10, i01, cm_rne, and_assoc]
    have b5 : 1 ≤ 1 + lw (cm_ishr g 13) 20 ∧ 1 + lw (cm_ishr g 13) 20 ≤ 20 := by omega
    generalize 1 + lw (cm_ishr g 13) 20 = m at *
    have e8 : ∀ k, 82 ≤ k → k < n0 → M8 k = M k := fun k a b => by
      rw [f8 k (by omega), m4 k (by omega), f6 k (by omega), f5 k (by omega) (by omega) (by omega)]
      exact e4 k a b
    have z8 : M8 (n0 + 1 + 1 + 1) = fun _ => 0 := (f8 _ (by omega)).trans w4
    have neg8 : ∀ k, k < 0 → M8 k = M k := fun k hk => by
      rw [f8 k (by omega), m4 k (by omega), f6 k (by omega), f5 k (by omega) (by omega) (by omega), f4 k (by omega)]
      exact neg3 k hk
    have q4 : ∀ k, k < n0 + 1 + 1 + 1 → cm_sh G4 k = cm_sh G3 k := fun k b => (x4 k b).1
    have hR4 : isRun G4 ra rh (n0 + 1 + 1 + 1) n0 (n0 + 1) (n0 + 1 + 1) := ⟨by omega, ⟨X4.al (by omega) sa, X4.al (by omega) sh, fun M => al_of (by omega) s4, fun M => al_of (by omega) ((q4 _ (by omega)).trans t1), fun M => al_of (by omega) ((q4 _ (by omega)).trans t2), fun M => al_of (by omega) ((q4 _ (by omega)).trans t3)⟩, by omega, by omega, by omega, by omega, by omega, by omega⟩
    have hqa : ∀ M, cm_al 1 G4 M rq = 40 := X4.al (by omega) sq
    refine go_loop (σ := (Int × Option cm_V × Option cm_V) × cm_M) (fun v s => [some (2, 0), some (2, ra), some (2, rh), some (2, ru), some (2, rq), some (0, g), some (0, sN (aS A)), some (2, n0), some (2, n0 + 1), some (2, n0 + 1 + 1), some (0, line), some (0, speed), some (2, n0 + 1 + 1 + 1), some (0, sT (aS A) 0), some (0, m), some (0, s.1.1), some (0, v), s.1.2.1, s.1.2.2]) (fun s => s.2) (fun v s => 1 ≤ v ∧ isLst (fun v => 1 ≤ v ∧ shows (sFast (aS A) v) m) v s.1.1 ∧ frW M8 s.2 n0 (n0 + 1) (n0 + 1 + 1)) 31 (fun v s hv0 hv31 hRi ihi => ?_) (fun s hRi => ?_) 1 ((-6, none, none), M8) (by omega) (by omega) ⟨by omega, Or.inr ⟨rfl, fun j a b z => by omega⟩, fun k _ _ _ => rfl⟩
    · obtain ⟨⟨due, y17, y18⟩, s⟩ := s
      obtain ⟨hv1', h2, hf⟩ := hRi
      dsimp only at h2 hf ihi ⊢
      have es : ∀ k, 82 ≤ k → k < n0 → s k = M k := fun k a b => (hf k (by omega) (by omega) (by omega)).trans (e8 k a b)
      rw [g73_167]
      simp (disch := omega) only [g73_169, g73_171, Option.toList_some, Option.toList_none, List.cons_append, List.nil_append, true_and, and_true, true_or, or_true, eq_self, ci0, ci1, cin6, forall_const, not_true_eq_false, not_false_eq_true, fimp, timp, i10, i01, cm_rne, and_assoc]
      (repeat' apply And.intro) <;> (try omega) <;> (try (intro hx; exfalso; omega))
      intro _
      refine l_due hv1 ⟨hv1', by omega⟩ hR4 (by omega) hqa (by omega) ?_ (fun i a b => by rw [es rq zq zq']; exact hq i a b) b5 (fun M' due' y17 y18 f' hdue => ?_)
      · obtain ⟨d1, d2, -⟩ := hd
        refine ⟨fun i a b => ?_, fun i a b => ?_, fun i a b => ?_⟩
        · rw [es ra za za', tI_fast]; exact d1 i a b
        · rw [es rh zh zh', sH_fast]; exact d2 i a b
        · rw [hf (n0 + 1 + 1 + 1) (by omega) (by omega) (by omega), z8]; rfl
      · refine ihi ((due', y17, y18), M') ⟨by omega, ?_, hf.tr f'⟩
        dsimp only
        rcases hdue with ⟨h3, h4⟩ | ⟨h3, h4⟩
        · rw [h4]
          exact isLst.yes hv0 ⟨hv1', h3⟩
        · rw [h4]
          exact isLst.no h2 (fun z => h3 z.2)
    · obtain ⟨⟨due, y17, y18⟩, s⟩ := s
      obtain ⟨-, h2, hf⟩ := hRi
      dsimp only at h2 hf ⊢
      have rs : rXA s A := rXA_hi r8 hh6 (fun k _ _ => hf k (by omega) (by omega) (by omega))
      have hdb : -6 ≤ due ∧ due ≤ 31 := by rcases h2 with ⟨a, b, -⟩ | ⟨a, -⟩ <;> omega
      have ef : xFor (aS A) m = due := by
        unfold xFor
        rw [ite'_p (by omega)]
        exact (lstOf_e h2).symm
      rw [g73_167]
      simp (disch := omega) only [g73_169, g73_171, g73_263, g73_264, Option.toList_some, Option.toList_none, List.cons_append, List.nil_append, true_and, and_true, true_or, or_true, eq_self, ci0, ci1, cin6, forall_const, not_true_eq_false, not_false_eq_true, fimp, timp, i10, i01, cm_rne, and_assoc]
      (repeat' apply And.intro) <;> (try omega) <;> (try (intro hx; exfalso; omega))
      have fin : Go 73 266 [some (2, 0), some (2, ra), some (2, rh), some (2, ru), some (2, rq), some (0, g), some (0, sN (aS A)), some (2, n0), some (2, n0 + 1), some (2, n0 + 1 + 1), some (0, line), some (0, speed), some (2, n0 + 1 + 1 + 1), some (0, sT (aS A) 0), some (0, m), some (0, due), some (0, 31), y17, y18] [(0, m), (2, 0)] G4 s Q := by
        refine c73_266 (Nat.le_of_ble_eq_true rfl) hX4.1 (p_speedFor hX4 rs hv (t := m) ⟨by omega, by omega⟩ (fun M9 r9 f9 => ?_))
        rw [ef]
        simp (disch := omega) only [g73_269, g73_271, g73_274, g73_275, g73_278, g73_279, Option.toList_some, Option.toList_none, List.cons_append, List.nil_append, true_and, and_true, true_or, or_true, eq_self, ci0, ci1, cin6, forall_const, not_true_eq_false, not_false_eq_true, fimp, timp, i10, i01, cm_rne, and_assoc]
        (repeat' apply And.intro) <;> (try omega) <;> (try (intro hx; exfalso; omega))
        exact K G4 M9 (n0 + 1 + 1 + 1 + 1) (by omega) (by omega) l4 X4 r9 (fun k hk => by rw [f9 k (by omega), hf k (by omega) (by omega) (by omega)]; exact neg8 k hk)
      first
      | exact fun _ => fin
      | exact fin
  · intro hz
    have z0 : sN (aS A) = 0 := hz
    refine c73_32 (Nat.le_of_ble_eq_true rfl) hX3.1 (p_blame hX3 r3 hv cn0 (fun M4 r4 f4 => ?_))
    have eb : xBlame (aS A) 0 = -6 := by
      unfold xBlame
      rw [ite'_p (by omega), if_pos rfl, z0]
      rfl
    rw [eb]
    simp (disch := omega) only [g73_35, g73_37, g73_40, g73_41, Option.toList_some, Option.toList_none, List.cons_append, List.nil_append, true_and, and_true, true_or, or_true, eq_self, ci0, ci1, cin6, forall_const, not_true_eq_false, not_false_eq_true, fimp, timp, i10, i01, cm_rne, and_assoc]
    (repeat' apply And.intro) <;> (try omega) <;> (try (intro hx; exfalso; omega))
    refine c73_42 (Nat.le_of_ble_eq_true rfl) hX3.1 (p_speedFor hX3 r4 hv cn1 (fun M5 r5 f5 => ?_))
    have ef : xFor (aS A) 1 = 30 := by
      unfold xFor
      rw [ite'_p (by omega)]
      refine (lstOf_e (Or.inl ⟨by omega, by omega, ⟨by omega, fun i a b => ?_⟩, fun j a b => by omega⟩)).symm
      have b : i < sN (aS A) := b
      omega
    rw [ef]
    simp (disch := omega) only [g73_45, g73_47, g73_50, g73_51, g73_52, Option.toList_some, Option.toList_none, List.cons_append, List.nil_append, true_and, and_true, true_or, or_true, eq_self, ci0, ci1, cin6, forall_const, not_true_eq_false, not_false_eq_true, fimp, timp, i10, i01, cm_rne, and_assoc]
    (repeat' apply And.intro) <;> (try omega) <;> (try (intro hx; exfalso; omega))
    refine c73_53 (Nat.le_of_ble_eq_true rfl) hX3.1 (p_seenIf hX3 r5 hv cn0 cn1 (fun M6 r6 f6 => ?_))
    have ei : xIf (aS A) 0 1 = -1 := by
      unfold xIf
      exact ite'_n (by omega)
    rw [ei]
    simp (disch := omega) only [g73_56, g73_57, g73_60, g73_61, g73_64, g73_65, Option.toList_some, Option.toList_none, List.cons_append, List.nil_append, true_and, and_true, true_or, or_true, eq_self, ci0, ci1, cin6, forall_const, not_true_eq_false, not_false_eq_true, fimp, timp, i10, i01, cm_rne, and_assoc]
    (repeat' apply And.intro) <;> (try omega) <;> (try (intro hx; exfalso; omega))
    exact K G3 M6 (n0 + 1 + 1 + 1) (by omega) (by omega) l3 X3 r6 (fun k hk => by rw [f6 k (by omega), f5 k (by omega), f4 k (by omega)]; exact neg3 k hk)
end LAW8
