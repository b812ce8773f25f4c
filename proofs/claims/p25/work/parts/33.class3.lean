/-! ===== the class: questions ===== -/
section CLASS3
variable {G : cm_G} {M : cm_M} {i j t v w g h s n k u a b : Int} {S : sS} {A : sA} {H : Int → sS} {Q : Option cm_V → cm_G → cm_M → Prop}
theorem p_of (hX : isX G) (hA : rXA M A) (hv : vA A) (hi : cm_in i) (hw : cm_in w) (K : ∀ M', rXA M' A → fr M M' 0 81 → Q (some (0, xOf (aS A) i w)) G M') : Go 52 0 [some (2, 0), some (0, i), some (0, w)] [] G M Q := by
  obtain ⟨x0, ⟨q0, q1, q2, q3, q4, q5, q6⟩, xc, xk, xt, xu, xp, xh, xl⟩ := hX
  have xc' := xc
  have xk' := xk
  obtain ⟨c0, cs, ⟨cf0, cf1, cf2, cf3, cf4⟩, ca0, ca1, ca2, ca3, ca4⟩ := xc
  obtain ⟨k0, ks, ⟨e0, e1, e2, e3, e5, e6, e7⟩, ⟨ka1, ka2, ka3, ka4, ka5, ka6⟩, -, -⟩ := xk
  have hA' := hA
  obtain ⟨b1, b2, b3, b4, b5⟩ := hA
  have hn := hv.1.2.1
  unfold xOf at K
  simp (disch := omega) only [g52_0, g52_1, g52_4, g52_8, g52_11, g52_12, g52_13, g52_14, g52_20, g52_72, g52_73, g52_76, g52_79, g52_80, g52_81, g52_82, g52_83, g52_86, g52_89, g52_90, g52_91, g52_92, g52_93, g52_96, g52_99, g52_100, g52_101, g52_102, g52_103, g52_106, g52_109, g52_110, g52_111, g52_112, g52_113, g52_116, g52_119, g52_120, g52_121, g52_122, g52_123, g52_126, g52_130, g52_131, g52_132, g52_135, g52_138, g52_139, g52_140, g52_141, g52_142, g52_145, g52_148, g52_149, g52_150, g52_153, g52_155, g52_158, g52_159, g52_162, g52_165, g52_166, g52_167, g52_168, g52_169, g52_172, g52_175, g52_176, g52_177, g52_180, g52_182, g52_185, g52_186, g52_189, g52_192, g52_193, g52_194, g52_195, g52_198, g52_201, g52_202, g52_203, g52_204, g52_205, g52_206, g52_207, g52_209, Option.toList_some, Option.toList_none, List.cons_append, List.nil_append, true_and, and_true, true_or, or_true, eq_self, ci0, ci1, cin6, forall_const, not_true_eq_false, not_false_eq_true, fimp, timp, i10, i01, cm_rne, and_assoc, x0, q0]
  refine c52_5 (by decide) cs (p_holds xc' b1 hv.1 hi (fun h1 => ?_) (fun h1 => ?_)) <;> simp (disch := omega) only [g52_0, g52_1, g52_4, g52_8, g52_11, g52_12, g52_13, g52_14, g52_20, g52_72, g52_73, g52_76, g52_79, g52_80, g52_81, g52_82, g52_83, g52_86, g52_89, g52_90, g52_91, g52_92, g52_93, g52_96, g52_99, g52_100, g52_101, g52_102, g52_103, g52_106, g52_109, g52_110, g52_111, g52_112, g52_113, g52_116, g52_119, g52_120, g52_121, g52_122, g52_123, g52_126, g52_130, g52_131, g52_132, g52_135, g52_138, g52_139, g52_140, g52_141, g52_142, g52_145, g52_148, g52_149, g52_150, g52_153, g52_155, g52_158, g52_159, g52_162, g52_165, g52_166, g52_167, g52_168, g52_169, g52_172, g52_175, g52_176, g52_177, g52_180, g52_182, g52_185, g52_186, g52_189, g52_192, g52_193, g52_194, g52_195, g52_198, g52_201, g52_202, g52_203, g52_204, g52_205, g52_206, g52_207, g52_209, Option.toList_some, Option.toList_none, List.cons_append, List.nil_append, true_and, and_true, true_or, or_true, eq_self, ci0, ci1, cin6, forall_const, not_true_eq_false, not_false_eq_true, fimp, timp, i10, i01, cm_rne, and_assoc, x0, q1]
  · rw [ite'_p h1] at K
    refine c52_17 (by decide) ks (p_follow xk' hv.1 b1 (fun M1 fo g1 f1 => ?_))
    obtain ⟨k1, k2⟩ := rXA_k hA' (f1.wd (by omega) (by omega)) g1
    have K1 := K M1 k1 k2
    obtain ⟨r1, r2, r3⟩ := k1.1
    obtain ⟨w1, w2, w3, w4⟩ := r3 i h1.1 h1.2
    obtain ⟨t1, t2, t3⟩ := fo.1 i h1.1 h1.2
    have hb1 := fI_b hv.1 h1
    have hb2 := eI_b hv.1 h1
    simp (disch := omega) only [g52_0, g52_1, g52_4, g52_8, g52_11, g52_12, g52_13, g52_14, g52_20, g52_72, g52_73, g52_76, g52_79, g52_80, g52_81, g52_82, g52_83, g52_86, g52_89, g52_90, g52_91, g52_92, g52_93, g52_96, g52_99, g52_100, g52_101, g52_102, g52_103, g52_106, g52_109, g52_110, g52_111, g52_112, g52_113, g52_116, g52_119, g52_120, g52_121, g52_122, g52_123, g52_126, g52_130, g52_131, g52_132, g52_135, g52_138, g52_139, g52_140, g52_141, g52_142, g52_145, g52_148, g52_149, g52_150, g52_153, g52_155, g52_158, g52_159, g52_162, g52_165, g52_166, g52_167, g52_168, g52_169, g52_172, g52_175, g52_176, g52_177, g52_180, g52_182, g52_185, g52_186, g52_189, g52_192, g52_193, g52_194, g52_195, g52_198, g52_201, g52_202, g52_203, g52_204, g52_205, g52_206, g52_207, g52_209, Option.toList_some, Option.toList_none, List.cons_append, List.nil_append, true_and, and_true, true_or, or_true, eq_self, ci0, ci1, cin6, forall_const, not_true_eq_false, not_false_eq_true, fimp, timp, i10, i01, cm_rne, and_assoc]
    by_cases w0 : w = 0
    · rw [if_pos w0] at K1
      refine go_table hq52 k52_21 hw (Or.inr (Or.inr (by rw [w0]; decide))) (tgt := 72) (by rw [w0]; decide) ?_
      simp (disch := omega) only [g52_0, g52_1, g52_4, g52_8, g52_11, g52_12, g52_13, g52_14, g52_20, g52_72, g52_73, g52_76, g52_79, g52_80, g52_81, g52_82, g52_83, g52_86, g52_89, g52_90, g52_91, g52_92, g52_93, g52_96, g52_99, g52_100, g52_101, g52_102, g52_103, g52_106, g52_109, g52_110, g52_111, g52_112, g52_113, g52_116, g52_119, g52_120, g52_121, g52_122, g52_123, g52_126, g52_130, g52_131, g52_132, g52_135, g52_138, g52_139, g52_140, g52_141, g52_142, g52_145, g52_148, g52_149, g52_150, g52_153, g52_155, g52_158, g52_159, g52_162, g52_165, g52_166, g52_167, g52_168, g52_169, g52_172, g52_175, g52_176, g52_177, g52_180, g52_182, g52_185, g52_186, g52_189, g52_192, g52_193, g52_194, g52_195, g52_198, g52_201, g52_202, g52_203, g52_204, g52_205, g52_206, g52_207, g52_209, Option.toList_some, Option.toList_none, List.cons_append, List.nil_append, true_and, and_true, true_or, or_true, eq_self, ci0, ci1, cin6, forall_const, not_true_eq_false, not_false_eq_true, fimp, timp, i10, i01, cm_rne, and_assoc, x0, q0, cs, cf1, ca1, w1]
      (repeat' apply And.intro) <;> (try omega) <;> (try (intro hx; exfalso; omega))
    rw [if_neg w0] at K1
    by_cases w1' : w = 1
    · rw [if_pos w1'] at K1
      refine go_table hq52 k52_21 hw (Or.inr (Or.inr (by rw [w1']; decide))) (tgt := 82) (by rw [w1']; decide) ?_
      simp (disch := omega) only [g52_0, g52_1, g52_4, g52_8, g52_11, g52_12, g52_13, g52_14, g52_20, g52_72, g52_73, g52_76, g52_79, g52_80, g52_81, g52_82, g52_83, g52_86, g52_89, g52_90, g52_91, g52_92, g52_93, g52_96, g52_99, g52_100, g52_101, g52_102, g52_103, g52_106, g52_109, g52_110, g52_111, g52_112, g52_113, g52_116, g52_119, g52_120, g52_121, g52_122, g52_123, g52_126, g52_130, g52_131, g52_132, g52_135, g52_138, g52_139, g52_140, g52_141, g52_142, g52_145, g52_148, g52_149, g52_150, g52_153, g52_155, g52_158, g52_159, g52_162, g52_165, g52_166, g52_167, g52_168, g52_169, g52_172, g52_175, g52_176, g52_177, g52_180, g52_182, g52_185, g52_186, g52_189, g52_192, g52_193, g52_194, g52_195, g52_198, g52_201, g52_202, g52_203, g52_204, g52_205, g52_206, g52_207, g52_209, Option.toList_some, Option.toList_none, List.cons_append, List.nil_append, true_and, and_true, true_or, or_true, eq_self, ci0, ci1, cin6, forall_const, not_true_eq_false, not_false_eq_true, fimp, timp, i10, i01, cm_rne, and_assoc, x0, q0, cs, cf2, ca2, w2]
      (repeat' apply And.intro) <;> (try omega) <;> (try (intro hx; exfalso; omega))
    rw [if_neg w1'] at K1
    by_cases w2' : w = 2
    · rw [if_pos w2'] at K1
      refine go_table hq52 k52_21 hw (Or.inr (Or.inr (by rw [w2']; decide))) (tgt := 92) (by rw [w2']; decide) ?_
      simp (disch := omega) only [g52_0, g52_1, g52_4, g52_8, g52_11, g52_12, g52_13, g52_14, g52_20, g52_72, g52_73, g52_76, g52_79, g52_80, g52_81, g52_82, g52_83, g52_86, g52_89, g52_90, g52_91, g52_92, g52_93, g52_96, g52_99, g52_100, g52_101, g52_102, g52_103, g52_106, g52_109, g52_110, g52_111, g52_112, g52_113, g52_116, g52_119, g52_120, g52_121, g52_122, g52_123, g52_126, g52_130, g52_131, g52_132, g52_135, g52_138, g52_139, g52_140, g52_141, g52_142, g52_145, g52_148, g52_149, g52_150, g52_153, g52_155, g52_158, g52_159, g52_162, g52_165, g52_166, g52_167, g52_168, g52_169, g52_172, g52_175, g52_176, g52_177, g52_180, g52_182, g52_185, g52_186, g52_189, g52_192, g52_193, g52_194, g52_195, g52_198, g52_201, g52_202, g52_203, g52_204, g52_205, g52_206, g52_207, g52_209, Option.toList_some, Option.toList_none, List.cons_append, List.nil_append, true_and, and_true, true_or, or_true, eq_self, ci0, ci1, cin6, forall_const, not_true_eq_false, not_false_eq_true, fimp, timp, i10, i01, cm_rne, and_assoc, x0, q0, cs, cf3, ca3, w3]
      (repeat' apply And.intro) <;> (try omega) <;> (try (intro hx; exfalso; omega))
    rw [if_neg w2'] at K1
    by_cases w3' : w = 3
    · rw [if_pos w3'] at K1
      refine go_table hq52 k52_21 hw (Or.inr (Or.inr (by rw [w3']; decide))) (tgt := 102) (by rw [w3']; decide) ?_
      simp (disch := omega) only [g52_0, g52_1, g52_4, g52_8, g52_11, g52_12, g52_13, g52_14, g52_20, g52_72, g52_73, g52_76, g52_79, g52_80, g52_81, g52_82, g52_83, g52_86, g52_89, g52_90, g52_91, g52_92, g52_93, g52_96, g52_99, g52_100, g52_101, g52_102, g52_103, g52_106, g52_109, g52_110, g52_111, g52_112, g52_113, g52_116, g52_119, g52_120, g52_121, g52_122, g52_123, g52_126, g52_130, g52_131, g52_132, g52_135, g52_138, g52_139, g52_140, g52_141, g52_142, g52_145, g52_148, g52_149, g52_150, g52_153, g52_155, g52_158, g52_159, g52_162, g52_165, g52_166, g52_167, g52_168, g52_169, g52_172, g52_175, g52_176, g52_177, g52_180, g52_182, g52_185, g52_186, g52_189, g52_192, g52_193, g52_194, g52_195, g52_198, g52_201, g52_202, g52_203, g52_204, g52_205, g52_206, g52_207, g52_209, Option.toList_some, Option.toList_none, List.cons_append, List.nil_append, true_and, and_true, true_or, or_true, eq_self, ci0, ci1, cin6, forall_const, not_true_eq_false, not_false_eq_true, fimp, timp, i10, i01, cm_rne, and_assoc, x0, q0, cs, cf4, ca4, w4]
      (repeat' apply And.intro) <;> (try omega) <;> (try (intro hx; exfalso; omega))
    rw [if_neg w3'] at K1
    by_cases w4' : w = 4
    · rw [if_pos w4'] at K1
      refine go_table hq52 k52_21 hw (Or.inr (Or.inr (by rw [w4']; decide))) (tgt := 112) (by rw [w4']; decide) ?_
      simp (disch := omega) only [g52_0, g52_1, g52_4, g52_8, g52_11, g52_12, g52_13, g52_14, g52_20, g52_72, g52_73, g52_76, g52_79, g52_80, g52_81, g52_82, g52_83, g52_86, g52_89, g52_90, g52_91, g52_92, g52_93, g52_96, g52_99, g52_100, g52_101, g52_102, g52_103, g52_106, g52_109, g52_110, g52_111, g52_112, g52_113, g52_116, g52_119, g52_120, g52_121, g52_122, g52_123, g52_126, g52_130, g52_131, g52_132, g52_135, g52_138, g52_139, g52_140, g52_141, g52_142, g52_145, g52_148, g52_149, g52_150, g52_153, g52_155, g52_158, g52_159, g52_162, g52_165, g52_166, g52_167, g52_168, g52_169, g52_172, g52_175, g52_176, g52_177, g52_180, g52_182, g52_185, g52_186, g52_189, g52_192, g52_193, g52_194, g52_195, g52_198, g52_201, g52_202, g52_203, g52_204, g52_205, g52_206, g52_207, g52_209, Option.toList_some, Option.toList_none, List.cons_append, List.nil_append, true_and, and_true, true_or, or_true, eq_self, ci0, ci1, cin6, forall_const, not_true_eq_false, not_false_eq_true, fimp, timp, i10, i01, cm_rne, and_assoc, x0, q1, ks, e1, ka1, t1]
      (repeat' apply And.intro) <;> (try omega) <;> (try (intro hx; exfalso; omega))
    rw [if_neg w4'] at K1
    by_cases w5 : w = 5
    · rw [if_pos w5] at K1
      refine go_table hq52 k52_21 hw (Or.inr (Or.inr (by rw [w5]; decide))) (tgt := 122) (by rw [w5]; decide) ?_
      simp (disch := omega) only [g52_0, g52_1, g52_4, g52_8, g52_11, g52_12, g52_13, g52_14, g52_20, g52_72, g52_73, g52_76, g52_79, g52_80, g52_81, g52_82, g52_83, g52_86, g52_89, g52_90, g52_91, g52_92, g52_93, g52_96, g52_99, g52_100, g52_101, g52_102, g52_103, g52_106, g52_109, g52_110, g52_111, g52_112, g52_113, g52_116, g52_119, g52_120, g52_121, g52_122, g52_123, g52_126, g52_130, g52_131, g52_132, g52_135, g52_138, g52_139, g52_140, g52_141, g52_142, g52_145, g52_148, g52_149, g52_150, g52_153, g52_155, g52_158, g52_159, g52_162, g52_165, g52_166, g52_167, g52_168, g52_169, g52_172, g52_175, g52_176, g52_177, g52_180, g52_182, g52_185, g52_186, g52_189, g52_192, g52_193, g52_194, g52_195, g52_198, g52_201, g52_202, g52_203, g52_204, g52_205, g52_206, g52_207, g52_209, Option.toList_some, Option.toList_none, List.cons_append, List.nil_append, true_and, and_true, true_or, or_true, eq_self, ci0, ci1, cin6, forall_const, not_true_eq_false, not_false_eq_true, fimp, timp, i10, i01, cm_rne, and_assoc, x0, q0]
      refine c52_127 (by decide) cs (p_heightOf xc' k1.1 hv.1 h1 ?_)
      simp (disch := omega) only [g52_0, g52_1, g52_4, g52_8, g52_11, g52_12, g52_13, g52_14, g52_20, g52_72, g52_73, g52_76, g52_79, g52_80, g52_81, g52_82, g52_83, g52_86, g52_89, g52_90, g52_91, g52_92, g52_93, g52_96, g52_99, g52_100, g52_101, g52_102, g52_103, g52_106, g52_109, g52_110, g52_111, g52_112, g52_113, g52_116, g52_119, g52_120, g52_121, g52_122, g52_123, g52_126, g52_130, g52_131, g52_132, g52_135, g52_138, g52_139, g52_140, g52_141, g52_142, g52_145, g52_148, g52_149, g52_150, g52_153, g52_155, g52_158, g52_159, g52_162, g52_165, g52_166, g52_167, g52_168, g52_169, g52_172, g52_175, g52_176, g52_177, g52_180, g52_182, g52_185, g52_186, g52_189, g52_192, g52_193, g52_194, g52_195, g52_198, g52_201, g52_202, g52_203, g52_204, g52_205, g52_206, g52_207, g52_209, Option.toList_some, Option.toList_none, List.cons_append, List.nil_append, true_and, and_true, true_or, or_true, eq_self, ci0, ci1, cin6, forall_const, not_true_eq_false, not_false_eq_true, fimp, timp, i10, i01, cm_rne, and_assoc]
      exact K1
    rw [if_neg w5] at K1
    by_cases w6 : w = 6
    · rw [if_pos w6] at K1
      refine go_table hq52 k52_21 hw (Or.inr (Or.inr (by rw [w6]; decide))) (tgt := 131) (by rw [w6]; decide) ?_
      simp (disch := omega) only [g52_0, g52_1, g52_4, g52_8, g52_11, g52_12, g52_13, g52_14, g52_20, g52_72, g52_73, g52_76, g52_79, g52_80, g52_81, g52_82, g52_83, g52_86, g52_89, g52_90, g52_91, g52_92, g52_93, g52_96, g52_99, g52_100, g52_101, g52_102, g52_103, g52_106, g52_109, g52_110, g52_111, g52_112, g52_113, g52_116, g52_119, g52_120, g52_121, g52_122, g52_123, g52_126, g52_130, g52_131, g52_132, g52_135, g52_138, g52_139, g52_140, g52_141, g52_142, g52_145, g52_148, g52_149, g52_150, g52_153, g52_155, g52_158, g52_159, g52_162, g52_165, g52_166, g52_167, g52_168, g52_169, g52_172, g52_175, g52_176, g52_177, g52_180, g52_182, g52_185, g52_186, g52_189, g52_192, g52_193, g52_194, g52_195, g52_198, g52_201, g52_202, g52_203, g52_204, g52_205, g52_206, g52_207, g52_209, Option.toList_some, Option.toList_none, List.cons_append, List.nil_append, true_and, and_true, true_or, or_true, eq_self, ci0, ci1, cin6, forall_const, not_true_eq_false, not_false_eq_true, fimp, timp, i10, i01, cm_rne, and_assoc, x0, q1, ks, e3, ka3, t3]
      (repeat' apply And.intro) <;> (try omega) <;> (try (intro hx; exfalso; omega))
    rw [if_neg w6] at K1
    by_cases w7 : w = 7
    · rw [if_pos w7] at K1
      refine go_table hq52 k52_21 hw (Or.inr (Or.inr (by rw [w7]; decide))) (tgt := 141) (by rw [w7]; decide) ?_
      simp (disch := omega) only [g52_0, g52_1, g52_4, g52_8, g52_11, g52_12, g52_13, g52_14, g52_20, g52_72, g52_73, g52_76, g52_79, g52_80, g52_81, g52_82, g52_83, g52_86, g52_89, g52_90, g52_91, g52_92, g52_93, g52_96, g52_99, g52_100, g52_101, g52_102, g52_103, g52_106, g52_109, g52_110, g52_111, g52_112, g52_113, g52_116, g52_119, g52_120, g52_121, g52_122, g52_123, g52_126, g52_130, g52_131, g52_132, g52_135, g52_138, g52_139, g52_140, g52_141, g52_142, g52_145, g52_148, g52_149, g52_150, g52_153, g52_155, g52_158, g52_159, g52_162, g52_165, g52_166, g52_167, g52_168, g52_169, g52_172, g52_175, g52_176, g52_177, g52_180, g52_182, g52_185, g52_186, g52_189, g52_192, g52_193, g52_194, g52_195, g52_198, g52_201, g52_202, g52_203, g52_204, g52_205, g52_206, g52_207, g52_209, Option.toList_some, Option.toList_none, List.cons_append, List.nil_append, true_and, and_true, true_or, or_true, eq_self, ci0, ci1, cin6, forall_const, not_true_eq_false, not_false_eq_true, fimp, timp, i10, i01, cm_rne, and_assoc, x0, q1, ks, e2, ka2, e3, ka3, t3, t2]
      (repeat' apply And.intro) <;> (try omega) <;> (try (intro hx; exfalso; omega))
      · intro hz
        rw [if_neg hz] at K1
        (repeat' apply And.intro) <;> (try omega) <;> (try (intro hx; exfalso; omega))
      · intro hz
        rw [if_pos hz] at K1
        exact K1
    rw [if_neg w7] at K1
    by_cases w8 : w = 8
    · rw [if_pos w8] at K1
      refine go_table hq52 k52_21 hw (Or.inr (Or.inr (by rw [w8]; decide))) (tgt := 168) (by rw [w8]; decide) ?_
      simp (disch := omega) only [g52_0, g52_1, g52_4, g52_8, g52_11, g52_12, g52_13, g52_14, g52_20, g52_72, g52_73, g52_76, g52_79, g52_80, g52_81, g52_82, g52_83, g52_86, g52_89, g52_90, g52_91, g52_92, g52_93, g52_96, g52_99, g52_100, g52_101, g52_102, g52_103, g52_106, g52_109, g52_110, g52_111, g52_112, g52_113, g52_116, g52_119, g52_120, g52_121, g52_122, g52_123, g52_126, g52_130, g52_131, g52_132, g52_135, g52_138, g52_139, g52_140, g52_141, g52_142, g52_145, g52_148, g52_149, g52_150, g52_153, g52_155, g52_158, g52_159, g52_162, g52_165, g52_166, g52_167, g52_168, g52_169, g52_172, g52_175, g52_176, g52_177, g52_180, g52_182, g52_185, g52_186, g52_189, g52_192, g52_193, g52_194, g52_195, g52_198, g52_201, g52_202, g52_203, g52_204, g52_205, g52_206, g52_207, g52_209, Option.toList_some, Option.toList_none, List.cons_append, List.nil_append, true_and, and_true, true_or, or_true, eq_self, ci0, ci1, cin6, forall_const, not_true_eq_false, not_false_eq_true, fimp, timp, i10, i01, cm_rne, and_assoc, x0, q1, ks, e2, ka2, e3, ka3, t3, t2]
      (repeat' apply And.intro) <;> (try omega) <;> (try (intro hx; exfalso; omega))
      · intro hz
        rw [if_neg hz] at K1
        (repeat' apply And.intro) <;> (try omega) <;> (try (intro hx; exfalso; omega))
      · intro hz
        rw [if_pos hz] at K1
        exact K1
    rw [if_neg w8] at K1
    refine go_table hq52 k52_21 hw (by omega) (tgt := 207) (by rw [cm_tab_d (by omega)]; decide) ?_
    simp (disch := omega) only [g52_0, g52_1, g52_4, g52_8, g52_11, g52_12, g52_13, g52_14, g52_20, g52_72, g52_73, g52_76, g52_79, g52_80, g52_81, g52_82, g52_83, g52_86, g52_89, g52_90, g52_91, g52_92, g52_93, g52_96, g52_99, g52_100, g52_101, g52_102, g52_103, g52_106, g52_109, g52_110, g52_111, g52_112, g52_113, g52_116, g52_119, g52_120, g52_121, g52_122, g52_123, g52_126, g52_130, g52_131, g52_132, g52_135, g52_138, g52_139, g52_140, g52_141, g52_142, g52_145, g52_148, g52_149, g52_150, g52_153, g52_155, g52_158, g52_159, g52_162, g52_165, g52_166, g52_167, g52_168, g52_169, g52_172, g52_175, g52_176, g52_177, g52_180, g52_182, g52_185, g52_186, g52_189, g52_192, g52_193, g52_194, g52_195, g52_198, g52_201, g52_202, g52_203, g52_204, g52_205, g52_206, g52_207, g52_209, Option.toList_some, Option.toList_none, List.cons_append, List.nil_append, true_and, and_true, true_or, or_true, eq_self, ci0, ci1, cin6, forall_const, not_true_eq_false, not_false_eq_true, fimp, timp, i10, i01, cm_rne, and_assoc]
    exact K1
  · rw [ite'_n h1] at K
    exact K M hA' fr.rf
theorem p_firstNumberOf (hX : isX G) (hA : rXA M A) (hv : vA A) (hg : cm_in g) (K : Q (some (0, if nameAt (aS A) g = -6 then -6 else sM (aS A) (nameAt (aS A) g))) G M) : Go 60 0 [some (2, 0), some (0, g), none] [] G M Q := by
  obtain ⟨x0, ⟨q0, q1, q2, q3, q4, q5, q6⟩, xc, xk, xt, xu, xp, xh, xl⟩ := hX
  have xc' := xc
  obtain ⟨c0, cs, ⟨cf0, cf1, cf2, cf3, cf4⟩, ca0, ca1, ca2, ca3, ca4⟩ := xc
  obtain ⟨b1, b2, b3, b4, b5⟩ := hA
  have hn := hv.1.2.1
  simp (disch := omega) only [g60_0, g60_1, g60_4, g60_8, g60_9, g60_10, g60_13, g60_17, g60_20, g60_21, g60_24, g60_27, g60_28, g60_29, g60_32, g60_34, Option.toList_some, Option.toList_none, List.cons_append, List.nil_append, true_and, and_true, true_or, or_true, eq_self, ci0, ci1, cin6, forall_const, not_true_eq_false, not_false_eq_true, fimp, timp, i10, i01, cm_rne, and_assoc, x0, q0]
  refine c60_5 (by decide) cs (p_firstNameOf xc' b1 hv.1 hg (fun r hr => ?_))
  have er : r = nameAt (aS A) g := fstOf_e hr
  have hrb : r = -6 ∨ (0 ≤ r ∧ r < sN (aS A)) := by
    rcases hr with ⟨z1, z2, -⟩ | ⟨z, -⟩
    · exact Or.inr ⟨z1, z2⟩
    · exact Or.inl z
  rw [← er] at K
  simp (disch := omega) only [g60_0, g60_1, g60_4, g60_8, g60_9, g60_10, g60_13, g60_17, g60_20, g60_21, g60_24, g60_27, g60_28, g60_29, g60_32, g60_34, Option.toList_some, Option.toList_none, List.cons_append, List.nil_append, true_and, and_true, true_or, or_true, eq_self, ci0, ci1, cin6, forall_const, not_true_eq_false, not_false_eq_true, fimp, timp, i10, i01, cm_rne, and_assoc, x0, q0]
  refine c60_14 (by decide) cs (p_holds xc' b1 hv.1 (by constructor <;> omega) (fun h3 => ?_) (fun h3 => ?_)) <;> simp (disch := omega) only [g60_0, g60_1, g60_4, g60_8, g60_9, g60_10, g60_13, g60_17, g60_20, g60_21, g60_24, g60_27, g60_28, g60_29, g60_32, g60_34, Option.toList_some, Option.toList_none, List.cons_append, List.nil_append, true_and, and_true, true_or, or_true, eq_self, ci0, ci1, cin6, forall_const, not_true_eq_false, not_false_eq_true, fimp, timp, i10, i01, cm_rne, and_assoc, x0, q0, cs, cf3, ca3]
  · rw [if_neg (by omega)] at K
    (repeat' apply And.intro) <;> (try omega) <;> (try (intro hx; exfalso; omega))
    rw [(b1.2.2 r h3.1 h3.2).2.2.1]
    exact K
  · rw [if_pos (by omega)] at K
    exact K
theorem p_group (hX : isX G) (hA : rXA M A) (hv : vA A) (hg : cm_in g) (hw : cm_in w) (K : ∀ M', rXA M' A → fr M M' 0 81 → Q (some (0, xGroup (aS A) g w)) G M') : Go 53 0 [some (2, 0), some (0, g), some (0, w)] [] G M Q := by
  have hX' := hX
  obtain ⟨x0, ⟨q0, q1, q2, q3, q4, q5, q6⟩, xc, xk, xt, xu, xp, xh, xl⟩ := hX
  have cs := xc.2.1
  have ks := xk.2.1
  have hA' := hA
  obtain ⟨b1, b2, b3, b4, b5⟩ := hA
  have hn := hv.1.2.1
  have hn0 := hv.1.1
  unfold xGroup at K
  simp (disch := omega) only [g53_0, g53_4, g53_7, g53_9, g53_10, g53_11, g53_17, g53_52, g53_53, g53_56, g53_60, g53_61, g53_62, g53_65, g53_69, g53_70, g53_71, g53_74, g53_78, g53_81, g53_83, g53_86, g53_87, g53_90, g53_94, g53_95, g53_96, g53_99, g53_103, g53_104, g53_105, g53_109, g53_110, g53_112, Option.toList_some, Option.toList_none, List.cons_append, List.nil_append, true_and, and_true, true_or, or_true, eq_self, ci0, ci1, cin6, forall_const, not_true_eq_false, not_false_eq_true, fimp, timp, i10, i01, cm_rne, and_assoc]
  refine c53_1 (by decide) (p_isGroup hg (fun h1 => ?_) (fun h1 => ?_)) <;> simp (disch := omega) only [g53_0, g53_4, g53_7, g53_9, g53_10, g53_11, g53_17, g53_52, g53_53, g53_56, g53_60, g53_61, g53_62, g53_65, g53_69, g53_70, g53_71, g53_74, g53_78, g53_81, g53_83, g53_86, g53_87, g53_90, g53_94, g53_95, g53_96, g53_99, g53_103, g53_104, g53_105, g53_109, g53_110, g53_112, Option.toList_some, Option.toList_none, List.cons_append, List.nil_append, true_and, and_true, true_or, or_true, eq_self, ci0, ci1, cin6, forall_const, not_true_eq_false, not_false_eq_true, fimp, timp, i10, i01, cm_rne, and_assoc, x0, q1]
  · rw [ite'_p h1] at K
    refine c53_14 (by decide) ks (p_follow xk hv.1 b1 (fun M1 fo g1 f1 => ?_))
    obtain ⟨k1, k2⟩ := rXA_k hA' (f1.wd (by omega) (by omega)) g1
    have K1 := K M1 k1 k2
    have hcn := cnt0 (sG (aS A)) g (sN (aS A)).toNat
    have hcb := cntb (sG (aS A)) g (sN (aS A)).toNat
    rw [show (((sN (aS A)).toNat : Nat) : Int) = sN (aS A) by omega] at hcn
    have hf6 := fst0 (P := fun j => sG (aS A) j = g) (n := sN (aS A))
    simp (disch := omega) only [g53_0, g53_4, g53_7, g53_9, g53_10, g53_11, g53_17, g53_52, g53_53, g53_56, g53_60, g53_61, g53_62, g53_65, g53_69, g53_70, g53_71, g53_74, g53_78, g53_81, g53_83, g53_86, g53_87, g53_90, g53_94, g53_95, g53_96, g53_99, g53_103, g53_104, g53_105, g53_109, g53_110, g53_112, Option.toList_some, Option.toList_none, List.cons_append, List.nil_append, true_and, and_true, true_or, or_true, eq_self, ci0, ci1, cin6, forall_const, not_true_eq_false, not_false_eq_true, fimp, timp, i10, i01, cm_rne, and_assoc]
    by_cases w0 : w = 0
    · rw [if_pos w0] at K1
      refine go_table hq53 k53_18 hw (Or.inr (Or.inr (by rw [w0]; decide))) (tgt := 52) (by rw [w0]; decide) ?_
      simp (disch := omega) only [g53_0, g53_4, g53_7, g53_9, g53_10, g53_11, g53_17, g53_52, g53_53, g53_56, g53_60, g53_61, g53_62, g53_65, g53_69, g53_70, g53_71, g53_74, g53_78, g53_81, g53_83, g53_86, g53_87, g53_90, g53_94, g53_95, g53_96, g53_99, g53_103, g53_104, g53_105, g53_109, g53_110, g53_112, Option.toList_some, Option.toList_none, List.cons_append, List.nil_append, true_and, and_true, true_or, or_true, eq_self, ci0, ci1, cin6, forall_const, not_true_eq_false, not_false_eq_true, fimp, timp, i10, i01, cm_rne, and_assoc, x0, q0]
      refine c53_57 (by decide) cs (p_namesOf xc k1.1 hv.1 hg ?_)
      simp (disch := omega) only [g53_0, g53_4, g53_7, g53_9, g53_10, g53_11, g53_17, g53_52, g53_53, g53_56, g53_60, g53_61, g53_62, g53_65, g53_69, g53_70, g53_71, g53_74, g53_78, g53_81, g53_83, g53_86, g53_87, g53_90, g53_94, g53_95, g53_96, g53_99, g53_103, g53_104, g53_105, g53_109, g53_110, g53_112, Option.toList_some, Option.toList_none, List.cons_append, List.nil_append, true_and, and_true, true_or, or_true, eq_self, ci0, ci1, cin6, forall_const, not_true_eq_false, not_false_eq_true, fimp, timp, i10, i01, cm_rne, and_assoc]
      exact K1
    rw [if_neg w0] at K1
    by_cases w1 : w = 1
    · rw [if_pos w1] at K1
      refine go_table hq53 k53_18 hw (Or.inr (Or.inr (by rw [w1]; decide))) (tgt := 61) (by rw [w1]; decide) ?_
      simp (disch := omega) only [g53_0, g53_4, g53_7, g53_9, g53_10, g53_11, g53_17, g53_52, g53_53, g53_56, g53_60, g53_61, g53_62, g53_65, g53_69, g53_70, g53_71, g53_74, g53_78, g53_81, g53_83, g53_86, g53_87, g53_90, g53_94, g53_95, g53_96, g53_99, g53_103, g53_104, g53_105, g53_109, g53_110, g53_112, Option.toList_some, Option.toList_none, List.cons_append, List.nil_append, true_and, and_true, true_or, or_true, eq_self, ci0, ci1, cin6, forall_const, not_true_eq_false, not_false_eq_true, fimp, timp, i10, i01, cm_rne, and_assoc, x0, q1]
      refine c53_66 (by decide) ks (p_spreadOf xk hv.1 k1.1 fo hg ?_)
      simp (disch := omega) only [g53_0, g53_4, g53_7, g53_9, g53_10, g53_11, g53_17, g53_52, g53_53, g53_56, g53_60, g53_61, g53_62, g53_65, g53_69, g53_70, g53_71, g53_74, g53_78, g53_81, g53_83, g53_86, g53_87, g53_90, g53_94, g53_95, g53_96, g53_99, g53_103, g53_104, g53_105, g53_109, g53_110, g53_112, Option.toList_some, Option.toList_none, List.cons_append, List.nil_append, true_and, and_true, true_or, or_true, eq_self, ci0, ci1, cin6, forall_const, not_true_eq_false, not_false_eq_true, fimp, timp, i10, i01, cm_rne, and_assoc]
      exact K1
    rw [if_neg w1] at K1
    by_cases w2 : w = 2
    · rw [if_pos w2] at K1
      refine go_table hq53 k53_18 hw (Or.inr (Or.inr (by rw [w2]; decide))) (tgt := 70) (by rw [w2]; decide) ?_
      simp (disch := omega) only [g53_0, g53_4, g53_7, g53_9, g53_10, g53_11, g53_17, g53_52, g53_53, g53_56, g53_60, g53_61, g53_62, g53_65, g53_69, g53_70, g53_71, g53_74, g53_78, g53_81, g53_83, g53_86, g53_87, g53_90, g53_94, g53_95, g53_96, g53_99, g53_103, g53_104, g53_105, g53_109, g53_110, g53_112, Option.toList_some, Option.toList_none, List.cons_append, List.nil_append, true_and, and_true, true_or, or_true, eq_self, ci0, ci1, cin6, forall_const, not_true_eq_false, not_false_eq_true, fimp, timp, i10, i01, cm_rne, and_assoc, x0, q0]
      refine c53_75 (by decide) cs (p_namesOf xc k1.1 hv.1 hg ?_)
      generalize hcc : fP (fun i a => if sG (aS A) i = g then a + 1 else a) (0 : Int) (sN (aS A)).toNat = cc at *
      simp (disch := omega) only [g53_0, g53_4, g53_7, g53_9, g53_10, g53_11, g53_17, g53_52, g53_53, g53_56, g53_60, g53_61, g53_62, g53_65, g53_69, g53_70, g53_71, g53_74, g53_78, g53_81, g53_83, g53_86, g53_87, g53_90, g53_94, g53_95, g53_96, g53_99, g53_103, g53_104, g53_105, g53_109, g53_110, g53_112, Option.toList_some, Option.toList_none, List.cons_append, List.nil_append, true_and, and_true, true_or, or_true, eq_self, ci0, ci1, cin6, forall_const, not_true_eq_false, not_false_eq_true, fimp, timp, i10, i01, cm_rne, and_assoc, x0, q1]
      (repeat' apply And.intro) <;> (try omega) <;> (try (intro hx; exfalso; omega))
      · intro hz
        have n1 : ¬ nameAt (aS A) g = -6 := fun z => hz (hcn.2.mpr (hf6.mp z))
        rw [if_neg n1] at K1
        refine c53_91 (by decide) ks (p_leastSeenOf xk hv.1 k1.1 fo hg ?_)
        simp (disch := omega) only [g53_0, g53_4, g53_7, g53_9, g53_10, g53_11, g53_17, g53_52, g53_53, g53_56, g53_60, g53_61, g53_62, g53_65, g53_69, g53_70, g53_71, g53_74, g53_78, g53_81, g53_83, g53_86, g53_87, g53_90, g53_94, g53_95, g53_96, g53_99, g53_103, g53_104, g53_105, g53_109, g53_110, g53_112, Option.toList_some, Option.toList_none, List.cons_append, List.nil_append, true_and, and_true, true_or, or_true, eq_self, ci0, ci1, cin6, forall_const, not_true_eq_false, not_false_eq_true, fimp, timp, i10, i01, cm_rne, and_assoc]
        exact K1
      · intro hz
        have n1 : nameAt (aS A) g = -6 := hf6.mpr (hcn.2.mp hz)
        rw [if_pos n1] at K1
        exact K1
    rw [if_neg w2] at K1
    by_cases w3 : w = 3
    · rw [if_pos w3] at K1
      refine go_table hq53 k53_18 hw (Or.inr (Or.inr (by rw [w3]; decide))) (tgt := 95) (by rw [w3]; decide) ?_
      simp (disch := omega) only [g53_0, g53_4, g53_7, g53_9, g53_10, g53_11, g53_17, g53_52, g53_53, g53_56, g53_60, g53_61, g53_62, g53_65, g53_69, g53_70, g53_71, g53_74, g53_78, g53_81, g53_83, g53_86, g53_87, g53_90, g53_94, g53_95, g53_96, g53_99, g53_103, g53_104, g53_105, g53_109, g53_110, g53_112, Option.toList_some, Option.toList_none, List.cons_append, List.nil_append, true_and, and_true, true_or, or_true, eq_self, ci0, ci1, cin6, forall_const, not_true_eq_false, not_false_eq_true, fimp, timp, i10, i01, cm_rne, and_assoc, x0, q1]
      refine c53_100 (by decide) ks (p_leastSeenLineOf xk hv.1 k1.1 fo hg ?_)
      simp (disch := omega) only [g53_0, g53_4, g53_7, g53_9, g53_10, g53_11, g53_17, g53_52, g53_53, g53_56, g53_60, g53_61, g53_62, g53_65, g53_69, g53_70, g53_71, g53_74, g53_78, g53_81, g53_83, g53_86, g53_87, g53_90, g53_94, g53_95, g53_96, g53_99, g53_103, g53_104, g53_105, g53_109, g53_110, g53_112, Option.toList_some, Option.toList_none, List.cons_append, List.nil_append, true_and, and_true, true_or, or_true, eq_self, ci0, ci1, cin6, forall_const, not_true_eq_false, not_false_eq_true, fimp, timp, i10, i01, cm_rne, and_assoc]
      exact K1
    rw [if_neg w3] at K1
    by_cases w4 : w = 4
    · rw [if_pos w4] at K1
      refine go_table hq53 k53_18 hw (Or.inr (Or.inr (by rw [w4]; decide))) (tgt := 104) (by rw [w4]; decide) ?_
      simp (disch := omega) only [g53_0, g53_4, g53_7, g53_9, g53_10, g53_11, g53_17, g53_52, g53_53, g53_56, g53_60, g53_61, g53_62, g53_65, g53_69, g53_70, g53_71, g53_74, g53_78, g53_81, g53_83, g53_86, g53_87, g53_90, g53_94, g53_95, g53_96, g53_99, g53_103, g53_104, g53_105, g53_109, g53_110, g53_112, Option.toList_some, Option.toList_none, List.cons_append, List.nil_append, true_and, and_true, true_or, or_true, eq_self, ci0, ci1, cin6, forall_const, not_true_eq_false, not_false_eq_true, fimp, timp, i10, i01, cm_rne, and_assoc]
      refine c53_106 (by decide) x0 (p_firstNumberOf hX' k1 hv hg ?_)
      simp (disch := omega) only [g53_0, g53_4, g53_7, g53_9, g53_10, g53_11, g53_17, g53_52, g53_53, g53_56, g53_60, g53_61, g53_62, g53_65, g53_69, g53_70, g53_71, g53_74, g53_78, g53_81, g53_83, g53_86, g53_87, g53_90, g53_94, g53_95, g53_96, g53_99, g53_103, g53_104, g53_105, g53_109, g53_110, g53_112, Option.toList_some, Option.toList_none, List.cons_append, List.nil_append, true_and, and_true, true_or, or_true, eq_self, ci0, ci1, cin6, forall_const, not_true_eq_false, not_false_eq_true, fimp, timp, i10, i01, cm_rne, and_assoc]
      exact K1
    rw [if_neg w4] at K1
    refine go_table hq53 k53_18 hw (by omega) (tgt := 110) (by rw [cm_tab_d (by omega)]; decide) ?_
    simp (disch := omega) only [g53_0, g53_4, g53_7, g53_9, g53_10, g53_11, g53_17, g53_52, g53_53, g53_56, g53_60, g53_61, g53_62, g53_65, g53_69, g53_70, g53_71, g53_74, g53_78, g53_81, g53_83, g53_86, g53_87, g53_90, g53_94, g53_95, g53_96, g53_99, g53_103, g53_104, g53_105, g53_109, g53_110, g53_112, Option.toList_some, Option.toList_none, List.cons_append, List.nil_append, true_and, and_true, true_or, or_true, eq_self, ci0, ci1, cin6, forall_const, not_true_eq_false, not_false_eq_true, fimp, timp, i10, i01, cm_rne, and_assoc]
    exact K1
  · rw [ite'_n h1] at K
    exact K M hA' fr.rf
theorem p_at (hX : isX G) (hA : rXA M A) (hv : vA A) (ht : cm_in t) (hw : cm_in w) (K : ∀ M', rXA M' A → fr M M' 0 81 → Q (some (0, xAt (aS A) t w)) G M') : Go 54 0 [some (2, 0), some (0, t), some (0, w)] [] G M Q := by
  obtain ⟨x0, ⟨q0, q1, q2, q3, q4, q5, q6⟩, xc, xk, xt, xu, xp, xh, xl⟩ := hX
  have ks := xk.2.1
  have hA' := hA
  obtain ⟨b1, b2, b3, b4, b5⟩ := hA
  unfold xAt at K
  simp (disch := omega) only [g54_0, g54_1, g54_2, g54_8, g54_11, g54_13, g54_14, g54_15, g54_21, g54_56, g54_57, g54_60, g54_64, g54_65, g54_66, g54_69, g54_73, g54_74, g54_75, g54_78, g54_82, g54_83, g54_84, g54_87, g54_91, g54_92, g54_93, g54_96, g54_100, g54_101, g54_103, Option.toList_some, Option.toList_none, List.cons_append, List.nil_append, true_and, and_true, true_or, or_true, eq_self, ci0, ci1, cin6, forall_const, not_true_eq_false, not_false_eq_true, fimp, timp, i10, i01, cm_rne, and_assoc]
  refine c54_5 (Nat.le_of_ble_eq_true rfl) (p_isWithin ht cn0 ⟨by decide, by decide⟩ (fun h1 => ?_) (fun h1 => ?_)) <;> simp (disch := omega) only [g54_0, g54_1, g54_2, g54_8, g54_11, g54_13, g54_14, g54_15, g54_21, g54_56, g54_57, g54_60, g54_64, g54_65, g54_66, g54_69, g54_73, g54_74, g54_75, g54_78, g54_82, g54_83, g54_84, g54_87, g54_91, g54_92, g54_93, g54_96, g54_100, g54_101, g54_103, Option.toList_some, Option.toList_none, List.cons_append, List.nil_append, true_and, and_true, true_or, or_true, eq_self, ci0, ci1, cin6, forall_const, not_true_eq_false, not_false_eq_true, fimp, timp, i10, i01, cm_rne, and_assoc, x0, q1]
  · rw [ite'_p h1] at K
    refine c54_18 (by decide) ks (p_follow xk hv.1 b1 (fun M1 fo g1 f1 => ?_))
    obtain ⟨k1, k2⟩ := rXA_k hA' (f1.wd (by omega) (by omega)) g1
    have K1 := K M1 k1 k2
    simp (disch := omega) only [g54_0, g54_1, g54_2, g54_8, g54_11, g54_13, g54_14, g54_15, g54_21, g54_56, g54_57, g54_60, g54_64, g54_65, g54_66, g54_69, g54_73, g54_74, g54_75, g54_78, g54_82, g54_83, g54_84, g54_87, g54_91, g54_92, g54_93, g54_96, g54_100, g54_101, g54_103, Option.toList_some, Option.toList_none, List.cons_append, List.nil_append, true_and, and_true, true_or, or_true, eq_self, ci0, ci1, cin6, forall_const, not_true_eq_false, not_false_eq_true, fimp, timp, i10, i01, cm_rne, and_assoc]
    by_cases w0 : w = 0
    · rw [if_pos w0] at K1
      refine go_table hq54 k54_22 hw (Or.inr (Or.inr (by rw [w0]; decide))) (tgt := 56) (by rw [w0]; decide) ?_
      simp (disch := omega) only [g54_0, g54_1, g54_2, g54_8, g54_11, g54_13, g54_14, g54_15, g54_21, g54_56, g54_57, g54_60, g54_64, g54_65, g54_66, g54_69, g54_73, g54_74, g54_75, g54_78, g54_82, g54_83, g54_84, g54_87, g54_91, g54_92, g54_93, g54_96, g54_100, g54_101, g54_103, Option.toList_some, Option.toList_none, List.cons_append, List.nil_append, true_and, and_true, true_or, or_true, eq_self, ci0, ci1, cin6, forall_const, not_true_eq_false, not_false_eq_true, fimp, timp, i10, i01, cm_rne, and_assoc, x0, q1]
      refine c54_61 (by decide) ks (p_firstSeenAt xk hv.1 k1.1 fo h1 (fun r hr => ?_))
      simp (disch := omega) only [g54_0, g54_1, g54_2, g54_8, g54_11, g54_13, g54_14, g54_15, g54_21, g54_56, g54_57, g54_60, g54_64, g54_65, g54_66, g54_69, g54_73, g54_74, g54_75, g54_78, g54_82, g54_83, g54_84, g54_87, g54_91, g54_92, g54_93, g54_96, g54_100, g54_101, g54_103, Option.toList_some, Option.toList_none, List.cons_append, List.nil_append, true_and, and_true, true_or, or_true, eq_self, ci0, ci1, cin6, forall_const, not_true_eq_false, not_false_eq_true, fimp, timp, i10, i01, cm_rne, and_assoc]
      rw [fstOf_e hr]
      exact K1
    rw [if_neg w0] at K1
    by_cases w1 : w = 1
    · rw [if_pos w1] at K1
      refine go_table hq54 k54_22 hw (Or.inr (Or.inr (by rw [w1]; decide))) (tgt := 65) (by rw [w1]; decide) ?_
      simp (disch := omega) only [g54_0, g54_1, g54_2, g54_8, g54_11, g54_13, g54_14, g54_15, g54_21, g54_56, g54_57, g54_60, g54_64, g54_65, g54_66, g54_69, g54_73, g54_74, g54_75, g54_78, g54_82, g54_83, g54_84, g54_87, g54_91, g54_92, g54_93, g54_96, g54_100, g54_101, g54_103, Option.toList_some, Option.toList_none, List.cons_append, List.nil_append, true_and, and_true, true_or, or_true, eq_self, ci0, ci1, cin6, forall_const, not_true_eq_false, not_false_eq_true, fimp, timp, i10, i01, cm_rne, and_assoc, x0, q1]
      refine c54_70 (by decide) ks (p_lastSeenAt xk hv.1 k1.1 fo h1 (fun r hr => ?_))
      simp (disch := omega) only [g54_0, g54_1, g54_2, g54_8, g54_11, g54_13, g54_14, g54_15, g54_21, g54_56, g54_57, g54_60, g54_64, g54_65, g54_66, g54_69, g54_73, g54_74, g54_75, g54_78, g54_82, g54_83, g54_84, g54_87, g54_91, g54_92, g54_93, g54_96, g54_100, g54_101, g54_103, Option.toList_some, Option.toList_none, List.cons_append, List.nil_append, true_and, and_true, true_or, or_true, eq_self, ci0, ci1, cin6, forall_const, not_true_eq_false, not_false_eq_true, fimp, timp, i10, i01, cm_rne, and_assoc]
      rw [lstOf_e hr]
      exact K1
    rw [if_neg w1] at K1
    by_cases w2 : w = 2
    · rw [if_pos w2] at K1
      refine go_table hq54 k54_22 hw (Or.inr (Or.inr (by rw [w2]; decide))) (tgt := 74) (by rw [w2]; decide) ?_
      simp (disch := omega) only [g54_0, g54_1, g54_2, g54_8, g54_11, g54_13, g54_14, g54_15, g54_21, g54_56, g54_57, g54_60, g54_64, g54_65, g54_66, g54_69, g54_73, g54_74, g54_75, g54_78, g54_82, g54_83, g54_84, g54_87, g54_91, g54_92, g54_93, g54_96, g54_100, g54_101, g54_103, Option.toList_some, Option.toList_none, List.cons_append, List.nil_append, true_and, and_true, true_or, or_true, eq_self, ci0, ci1, cin6, forall_const, not_true_eq_false, not_false_eq_true, fimp, timp, i10, i01, cm_rne, and_assoc, x0, q1]
      refine c54_79 (by decide) ks (p_howManySeenAt xk hv.1 k1.1 fo h1 ?_)
      simp (disch := omega) only [g54_0, g54_1, g54_2, g54_8, g54_11, g54_13, g54_14, g54_15, g54_21, g54_56, g54_57, g54_60, g54_64, g54_65, g54_66, g54_69, g54_73, g54_74, g54_75, g54_78, g54_82, g54_83, g54_84, g54_87, g54_91, g54_92, g54_93, g54_96, g54_100, g54_101, g54_103, Option.toList_some, Option.toList_none, List.cons_append, List.nil_append, true_and, and_true, true_or, or_true, eq_self, ci0, ci1, cin6, forall_const, not_true_eq_false, not_false_eq_true, fimp, timp, i10, i01, cm_rne, and_assoc]
      exact K1
    rw [if_neg w2] at K1
    by_cases w3 : w = 3
    · rw [if_pos w3] at K1
      refine go_table hq54 k54_22 hw (Or.inr (Or.inr (by rw [w3]; decide))) (tgt := 83) (by rw [w3]; decide) ?_
      simp (disch := omega) only [g54_0, g54_1, g54_2, g54_8, g54_11, g54_13, g54_14, g54_15, g54_21, g54_56, g54_57, g54_60, g54_64, g54_65, g54_66, g54_69, g54_73, g54_74, g54_75, g54_78, g54_82, g54_83, g54_84, g54_87, g54_91, g54_92, g54_93, g54_96, g54_100, g54_101, g54_103, Option.toList_some, Option.toList_none, List.cons_append, List.nil_append, true_and, and_true, true_or, or_true, eq_self, ci0, ci1, cin6, forall_const, not_true_eq_false, not_false_eq_true, fimp, timp, i10, i01, cm_rne, and_assoc, x0, q1]
      refine c54_88 (by decide) ks (p_speedAt xk hv.1 fo.2.2 h1 ?_)
      simp (disch := omega) only [g54_0, g54_1, g54_2, g54_8, g54_11, g54_13, g54_14, g54_15, g54_21, g54_56, g54_57, g54_60, g54_64, g54_65, g54_66, g54_69, g54_73, g54_74, g54_75, g54_78, g54_82, g54_83, g54_84, g54_87, g54_91, g54_92, g54_93, g54_96, g54_100, g54_101, g54_103, Option.toList_some, Option.toList_none, List.cons_append, List.nil_append, true_and, and_true, true_or, or_true, eq_self, ci0, ci1, cin6, forall_const, not_true_eq_false, not_false_eq_true, fimp, timp, i10, i01, cm_rne, and_assoc]
      exact K1
    rw [if_neg w3] at K1
    by_cases w4 : w = 4
    · rw [if_pos w4] at K1
      refine go_table hq54 k54_22 hw (Or.inr (Or.inr (by rw [w4]; decide))) (tgt := 92) (by rw [w4]; decide) ?_
      simp (disch := omega) only [g54_0, g54_1, g54_2, g54_8, g54_11, g54_13, g54_14, g54_15, g54_21, g54_56, g54_57, g54_60, g54_64, g54_65, g54_66, g54_69, g54_73, g54_74, g54_75, g54_78, g54_82, g54_83, g54_84, g54_87, g54_91, g54_92, g54_93, g54_96, g54_100, g54_101, g54_103, Option.toList_some, Option.toList_none, List.cons_append, List.nil_append, true_and, and_true, true_or, or_true, eq_self, ci0, ci1, cin6, forall_const, not_true_eq_false, not_false_eq_true, fimp, timp, i10, i01, cm_rne, and_assoc, x0, q1]
      refine c54_97 (by decide) ks (p_movedAt xk hv.1 fo.2.2 h1 ?_)
      simp (disch := omega) only [g54_0, g54_1, g54_2, g54_8, g54_11, g54_13, g54_14, g54_15, g54_21, g54_56, g54_57, g54_60, g54_64, g54_65, g54_66, g54_69, g54_73, g54_74, g54_75, g54_78, g54_82, g54_83, g54_84, g54_87, g54_91, g54_92, g54_93, g54_96, g54_100, g54_101, g54_103, Option.toList_some, Option.toList_none, List.cons_append, List.nil_append, true_and, and_true, true_or, or_true, eq_self, ci0, ci1, cin6, forall_const, not_true_eq_false, not_false_eq_true, fimp, timp, i10, i01, cm_rne, and_assoc]
      exact K1
    rw [if_neg w4] at K1
    refine go_table hq54 k54_22 hw (by omega) (tgt := 101) (by rw [cm_tab_d (by omega)]; decide) ?_
    simp (disch := omega) only [g54_0, g54_1, g54_2, g54_8, g54_11, g54_13, g54_14, g54_15, g54_21, g54_56, g54_57, g54_60, g54_64, g54_65, g54_66, g54_69, g54_73, g54_74, g54_75, g54_78, g54_82, g54_83, g54_84, g54_87, g54_91, g54_92, g54_93, g54_96, g54_100, g54_101, g54_103, Option.toList_some, Option.toList_none, List.cons_append, List.nil_append, true_and, and_true, true_or, or_true, eq_self, ci0, ci1, cin6, forall_const, not_true_eq_false, not_false_eq_true, fimp, timp, i10, i01, cm_rne, and_assoc]
    exact K1
  · rw [ite'_n h1] at K
    exact K M hA' fr.rf
theorem p_count (hX : isX G) (hA : rXA M A) (hv : vA A) (hw : cm_in w) (K : ∀ M', rXA M' A → fr M M' 0 81 → Q (some (0, xCount A w)) G M') : Go 55 0 [some (2, 0), some (0, w)] [] G M Q := by
  obtain ⟨x0, ⟨q0, q1, q2, q3, q4, q5, q6⟩, xc, xk, xt, xu, xp, xh, xl⟩ := hX
  have xc' := xc
  obtain ⟨c0, cs, ⟨cf0, cf1, cf2, cf3, cf4⟩, ca0, ca1, ca2, ca3, ca4⟩ := xc
  have ks := xk.2.1
  have hA' := hA
  obtain ⟨b1, b2, b3, b4, b5⟩ := hA
  unfold xCount at K
  simp (disch := omega) only [g55_0, g55_1, g55_7, g55_72, g55_73, g55_76, g55_79, g55_80, g55_81, g55_87, g55_88, g55_89, g55_92, g55_95, g55_96, g55_97, g55_103, g55_104, g55_105, g55_111, g55_112, g55_113, g55_119, g55_120, g55_121, g55_127, g55_128, g55_129, g55_132, g55_135, g55_136, g55_137, g55_138, g55_139, g55_142, g55_145, g55_146, g55_147, g55_148, g55_149, g55_152, g55_155, g55_156, g55_157, g55_158, g55_159, g55_162, g55_165, g55_166, g55_167, g55_170, g55_173, g55_174, g55_176, Option.toList_some, Option.toList_none, List.cons_append, List.nil_append, true_and, and_true, true_or, or_true, eq_self, ci0, ci1, cin6, forall_const, not_true_eq_false, not_false_eq_true, fimp, timp, i10, i01, cm_rne, and_assoc, x0, q1]
  refine c55_4 (by decide) ks (p_follow xk hv.1 b1 (fun M1 fo g1 f1 => ?_))
  obtain ⟨k1, k2⟩ := rXA_k hA' (f1.wd (by omega) (by omega)) g1
  have K1 := K M1 k1 k2
  obtain ⟨r1, r2, r3⟩ := k1.1
  simp (disch := omega) only [g55_0, g55_1, g55_7, g55_72, g55_73, g55_76, g55_79, g55_80, g55_81, g55_87, g55_88, g55_89, g55_92, g55_95, g55_96, g55_97, g55_103, g55_104, g55_105, g55_111, g55_112, g55_113, g55_119, g55_120, g55_121, g55_127, g55_128, g55_129, g55_132, g55_135, g55_136, g55_137, g55_138, g55_139, g55_142, g55_145, g55_146, g55_147, g55_148, g55_149, g55_152, g55_155, g55_156, g55_157, g55_158, g55_159, g55_162, g55_165, g55_166, g55_167, g55_170, g55_173, g55_174, g55_176, Option.toList_some, Option.toList_none, List.cons_append, List.nil_append, true_and, and_true, true_or, or_true, eq_self, ci0, ci1, cin6, forall_const, not_true_eq_false, not_false_eq_true, fimp, timp, i10, i01, cm_rne, and_assoc]
  by_cases w0 : w = 0
  · rw [if_pos w0] at K1
    refine go_table hq55 k55_8 hw (Or.inr (Or.inr (by rw [w0]; decide))) (tgt := 72) (by rw [w0]; decide) ?_
    simp (disch := omega) only [g55_0, g55_1, g55_7, g55_72, g55_73, g55_76, g55_79, g55_80, g55_81, g55_87, g55_88, g55_89, g55_92, g55_95, g55_96, g55_97, g55_103, g55_104, g55_105, g55_111, g55_112, g55_113, g55_119, g55_120, g55_121, g55_127, g55_128, g55_129, g55_132, g55_135, g55_136, g55_137, g55_138, g55_139, g55_142, g55_145, g55_146, g55_147, g55_148, g55_149, g55_152, g55_155, g55_156, g55_157, g55_158, g55_159, g55_162, g55_165, g55_166, g55_167, g55_170, g55_173, g55_174, g55_176, Option.toList_some, Option.toList_none, List.cons_append, List.nil_append, true_and, and_true, true_or, or_true, eq_self, ci0, ci1, cin6, forall_const, not_true_eq_false, not_false_eq_true, fimp, timp, i10, i01, cm_rne, and_assoc, x0, q0, cs, r1]
    exact K1
  rw [if_neg w0] at K1
  by_cases w1 : w = 1
  · rw [if_pos w1] at K1
    refine go_table hq55 k55_8 hw (Or.inr (Or.inr (by rw [w1]; decide))) (tgt := 80) (by rw [w1]; decide) ?_
    simp (disch := omega) only [g55_0, g55_1, g55_7, g55_72, g55_73, g55_76, g55_79, g55_80, g55_81, g55_87, g55_88, g55_89, g55_92, g55_95, g55_96, g55_97, g55_103, g55_104, g55_105, g55_111, g55_112, g55_113, g55_119, g55_120, g55_121, g55_127, g55_128, g55_129, g55_132, g55_135, g55_136, g55_137, g55_138, g55_139, g55_142, g55_145, g55_146, g55_147, g55_148, g55_149, g55_152, g55_155, g55_156, g55_157, g55_158, g55_159, g55_162, g55_165, g55_166, g55_167, g55_170, g55_173, g55_174, g55_176, Option.toList_some, Option.toList_none, List.cons_append, List.nil_append, true_and, and_true, true_or, or_true, eq_self, ci0, ci1, cin6, forall_const, not_true_eq_false, not_false_eq_true, fimp, timp, i10, i01, cm_rne, and_assoc, x0, q0]
    refine c55_84 (by decide) cs (p_namesInAll xc' k1.1 hv.1 ?_)
    simp (disch := omega) only [g55_0, g55_1, g55_7, g55_72, g55_73, g55_76, g55_79, g55_80, g55_81, g55_87, g55_88, g55_89, g55_92, g55_95, g55_96, g55_97, g55_103, g55_104, g55_105, g55_111, g55_112, g55_113, g55_119, g55_120, g55_121, g55_127, g55_128, g55_129, g55_132, g55_135, g55_136, g55_137, g55_138, g55_139, g55_142, g55_145, g55_146, g55_147, g55_148, g55_149, g55_152, g55_155, g55_156, g55_157, g55_158, g55_159, g55_162, g55_165, g55_166, g55_167, g55_170, g55_173, g55_174, g55_176, Option.toList_some, Option.toList_none, List.cons_append, List.nil_append, true_and, and_true, true_or, or_true, eq_self, ci0, ci1, cin6, forall_const, not_true_eq_false, not_false_eq_true, fimp, timp, i10, i01, cm_rne, and_assoc]
    exact K1
  rw [if_neg w1] at K1
  by_cases w2 : w = 2
  · rw [if_pos w2] at K1
    refine go_table hq55 k55_8 hw (Or.inr (Or.inr (by rw [w2]; decide))) (tgt := 88) (by rw [w2]; decide) ?_
    simp (disch := omega) only [g55_0, g55_1, g55_7, g55_72, g55_73, g55_76, g55_79, g55_80, g55_81, g55_87, g55_88, g55_89, g55_92, g55_95, g55_96, g55_97, g55_103, g55_104, g55_105, g55_111, g55_112, g55_113, g55_119, g55_120, g55_121, g55_127, g55_128, g55_129, g55_132, g55_135, g55_136, g55_137, g55_138, g55_139, g55_142, g55_145, g55_146, g55_147, g55_148, g55_149, g55_152, g55_155, g55_156, g55_157, g55_158, g55_159, g55_162, g55_165, g55_166, g55_167, g55_170, g55_173, g55_174, g55_176, Option.toList_some, Option.toList_none, List.cons_append, List.nil_append, true_and, and_true, true_or, or_true, eq_self, ci0, ci1, cin6, forall_const, not_true_eq_false, not_false_eq_true, fimp, timp, i10, i01, cm_rne, and_assoc, x0, q1, ks, fo.2.1]
    exact K1
  rw [if_neg w2] at K1
  by_cases w3 : w = 3
  · rw [if_pos w3] at K1
    refine go_table hq55 k55_8 hw (Or.inr (Or.inr (by rw [w3]; decide))) (tgt := 96) (by rw [w3]; decide) ?_
    simp (disch := omega) only [g55_0, g55_1, g55_7, g55_72, g55_73, g55_76, g55_79, g55_80, g55_81, g55_87, g55_88, g55_89, g55_92, g55_95, g55_96, g55_97, g55_103, g55_104, g55_105, g55_111, g55_112, g55_113, g55_119, g55_120, g55_121, g55_127, g55_128, g55_129, g55_132, g55_135, g55_136, g55_137, g55_138, g55_139, g55_142, g55_145, g55_146, g55_147, g55_148, g55_149, g55_152, g55_155, g55_156, g55_157, g55_158, g55_159, g55_162, g55_165, g55_166, g55_167, g55_170, g55_173, g55_174, g55_176, Option.toList_some, Option.toList_none, List.cons_append, List.nil_append, true_and, and_true, true_or, or_true, eq_self, ci0, ci1, cin6, forall_const, not_true_eq_false, not_false_eq_true, fimp, timp, i10, i01, cm_rne, and_assoc, x0, q1]
    refine c55_100 (by decide) ks (p_ticksInAll xk hv.1 k1.1 fo ?_)
    simp (disch := omega) only [g55_0, g55_1, g55_7, g55_72, g55_73, g55_76, g55_79, g55_80, g55_81, g55_87, g55_88, g55_89, g55_92, g55_95, g55_96, g55_97, g55_103, g55_104, g55_105, g55_111, g55_112, g55_113, g55_119, g55_120, g55_121, g55_127, g55_128, g55_129, g55_132, g55_135, g55_136, g55_137, g55_138, g55_139, g55_142, g55_145, g55_146, g55_147, g55_148, g55_149, g55_152, g55_155, g55_156, g55_157, g55_158, g55_159, g55_162, g55_165, g55_166, g55_167, g55_170, g55_173, g55_174, g55_176, Option.toList_some, Option.toList_none, List.cons_append, List.nil_append, true_and, and_true, true_or, or_true, eq_self, ci0, ci1, cin6, forall_const, not_true_eq_false, not_false_eq_true, fimp, timp, i10, i01, cm_rne, and_assoc]
    exact K1
  rw [if_neg w3] at K1
  by_cases w4 : w = 4
  · rw [if_pos w4] at K1
    refine go_table hq55 k55_8 hw (Or.inr (Or.inr (by rw [w4]; decide))) (tgt := 104) (by rw [w4]; decide) ?_
    simp (disch := omega) only [g55_0, g55_1, g55_7, g55_72, g55_73, g55_76, g55_79, g55_80, g55_81, g55_87, g55_88, g55_89, g55_92, g55_95, g55_96, g55_97, g55_103, g55_104, g55_105, g55_111, g55_112, g55_113, g55_119, g55_120, g55_121, g55_127, g55_128, g55_129, g55_132, g55_135, g55_136, g55_137, g55_138, g55_139, g55_142, g55_145, g55_146, g55_147, g55_148, g55_149, g55_152, g55_155, g55_156, g55_157, g55_158, g55_159, g55_162, g55_165, g55_166, g55_167, g55_170, g55_173, g55_174, g55_176, Option.toList_some, Option.toList_none, List.cons_append, List.nil_append, true_and, and_true, true_or, or_true, eq_self, ci0, ci1, cin6, forall_const, not_true_eq_false, not_false_eq_true, fimp, timp, i10, i01, cm_rne, and_assoc, x0, q1]
    refine c55_108 (by decide) ks (p_unequalGroups xk hv.1 k1.1 fo ?_)
    simp (disch := omega) only [g55_0, g55_1, g55_7, g55_72, g55_73, g55_76, g55_79, g55_80, g55_81, g55_87, g55_88, g55_89, g55_92, g55_95, g55_96, g55_97, g55_103, g55_104, g55_105, g55_111, g55_112, g55_113, g55_119, g55_120, g55_121, g55_127, g55_128, g55_129, g55_132, g55_135, g55_136, g55_137, g55_138, g55_139, g55_142, g55_145, g55_146, g55_147, g55_148, g55_149, g55_152, g55_155, g55_156, g55_157, g55_158, g55_159, g55_162, g55_165, g55_166, g55_167, g55_170, g55_173, g55_174, g55_176, Option.toList_some, Option.toList_none, List.cons_append, List.nil_append, true_and, and_true, true_or, or_true, eq_self, ci0, ci1, cin6, forall_const, not_true_eq_false, not_false_eq_true, fimp, timp, i10, i01, cm_rne, and_assoc]
    exact K1
  rw [if_neg w4] at K1
  by_cases w5 : w = 5
  · rw [if_pos w5] at K1
    refine go_table hq55 k55_8 hw (Or.inr (Or.inr (by rw [w5]; decide))) (tgt := 112) (by rw [w5]; decide) ?_
    simp (disch := omega) only [g55_0, g55_1, g55_7, g55_72, g55_73, g55_76, g55_79, g55_80, g55_81, g55_87, g55_88, g55_89, g55_92, g55_95, g55_96, g55_97, g55_103, g55_104, g55_105, g55_111, g55_112, g55_113, g55_119, g55_120, g55_121, g55_127, g55_128, g55_129, g55_132, g55_135, g55_136, g55_137, g55_138, g55_139, g55_142, g55_145, g55_146, g55_147, g55_148, g55_149, g55_152, g55_155, g55_156, g55_157, g55_158, g55_159, g55_162, g55_165, g55_166, g55_167, g55_170, g55_173, g55_174, g55_176, Option.toList_some, Option.toList_none, List.cons_append, List.nil_append, true_and, and_true, true_or, or_true, eq_self, ci0, ci1, cin6, forall_const, not_true_eq_false, not_false_eq_true, fimp, timp, i10, i01, cm_rne, and_assoc, x0, q0]
    refine c55_116 (by decide) cs (p_cuesInAll xc' k1.1 hv.1 ?_)
    simp (disch := omega) only [g55_0, g55_1, g55_7, g55_72, g55_73, g55_76, g55_79, g55_80, g55_81, g55_87, g55_88, g55_89, g55_92, g55_95, g55_96, g55_97, g55_103, g55_104, g55_105, g55_111, g55_112, g55_113, g55_119, g55_120, g55_121, g55_127, g55_128, g55_129, g55_132, g55_135, g55_136, g55_137, g55_138, g55_139, g55_142, g55_145, g55_146, g55_147, g55_148, g55_149, g55_152, g55_155, g55_156, g55_157, g55_158, g55_159, g55_162, g55_165, g55_166, g55_167, g55_170, g55_173, g55_174, g55_176, Option.toList_some, Option.toList_none, List.cons_append, List.nil_append, true_and, and_true, true_or, or_true, eq_self, ci0, ci1, cin6, forall_const, not_true_eq_false, not_false_eq_true, fimp, timp, i10, i01, cm_rne, and_assoc]
    exact K1
  rw [if_neg w5] at K1
  by_cases w6 : w = 6
  · rw [if_pos w6] at K1
    refine go_table hq55 k55_8 hw (Or.inr (Or.inr (by rw [w6]; decide))) (tgt := 120) (by rw [w6]; decide) ?_
    simp (disch := omega) only [g55_0, g55_1, g55_7, g55_72, g55_73, g55_76, g55_79, g55_80, g55_81, g55_87, g55_88, g55_89, g55_92, g55_95, g55_96, g55_97, g55_103, g55_104, g55_105, g55_111, g55_112, g55_113, g55_119, g55_120, g55_121, g55_127, g55_128, g55_129, g55_132, g55_135, g55_136, g55_137, g55_138, g55_139, g55_142, g55_145, g55_146, g55_147, g55_148, g55_149, g55_152, g55_155, g55_156, g55_157, g55_158, g55_159, g55_162, g55_165, g55_166, g55_167, g55_170, g55_173, g55_174, g55_176, Option.toList_some, Option.toList_none, List.cons_append, List.nil_append, true_and, and_true, true_or, or_true, eq_self, ci0, ci1, cin6, forall_const, not_true_eq_false, not_false_eq_true, fimp, timp, i10, i01, cm_rne, and_assoc, x0, q1]
    refine c55_124 (by decide) ks (p_neverSeenNames xk hv.1 k1.1 fo ?_)
    simp (disch := omega) only [g55_0, g55_1, g55_7, g55_72, g55_73, g55_76, g55_79, g55_80, g55_81, g55_87, g55_88, g55_89, g55_92, g55_95, g55_96, g55_97, g55_103, g55_104, g55_105, g55_111, g55_112, g55_113, g55_119, g55_120, g55_121, g55_127, g55_128, g55_129, g55_132, g55_135, g55_136, g55_137, g55_138, g55_139, g55_142, g55_145, g55_146, g55_147, g55_148, g55_149, g55_152, g55_155, g55_156, g55_157, g55_158, g55_159, g55_162, g55_165, g55_166, g55_167, g55_170, g55_173, g55_174, g55_176, Option.toList_some, Option.toList_none, List.cons_append, List.nil_append, true_and, and_true, true_or, or_true, eq_self, ci0, ci1, cin6, forall_const, not_true_eq_false, not_false_eq_true, fimp, timp, i10, i01, cm_rne, and_assoc]
    exact K1
  rw [if_neg w6] at K1
  by_cases w7 : w = 7
  · rw [if_pos w7] at K1
    refine go_table hq55 k55_8 hw (Or.inr (Or.inr (by rw [w7]; decide))) (tgt := 128) (by rw [w7]; decide) ?_
    simp (disch := omega) only [g55_0, g55_1, g55_7, g55_72, g55_73, g55_76, g55_79, g55_80, g55_81, g55_87, g55_88, g55_89, g55_92, g55_95, g55_96, g55_97, g55_103, g55_104, g55_105, g55_111, g55_112, g55_113, g55_119, g55_120, g55_121, g55_127, g55_128, g55_129, g55_132, g55_135, g55_136, g55_137, g55_138, g55_139, g55_142, g55_145, g55_146, g55_147, g55_148, g55_149, g55_152, g55_155, g55_156, g55_157, g55_158, g55_159, g55_162, g55_165, g55_166, g55_167, g55_170, g55_173, g55_174, g55_176, Option.toList_some, Option.toList_none, List.cons_append, List.nil_append, true_and, and_true, true_or, or_true, eq_self, ci0, ci1, cin6, forall_const, not_true_eq_false, not_false_eq_true, fimp, timp, i10, i01, cm_rne, and_assoc, x0, q0, cs, cf0, ca0, r2 0 (by decide) (by decide)]
    (repeat' apply And.intro) <;> (try omega) <;> (try (intro hx; exfalso; omega))
  rw [if_neg w7] at K1
  by_cases w8 : w = 8
  · rw [if_pos w8] at K1
    refine go_table hq55 k55_8 hw (Or.inr (Or.inr (by rw [w8]; decide))) (tgt := 138) (by rw [w8]; decide) ?_
    simp (disch := omega) only [g55_0, g55_1, g55_7, g55_72, g55_73, g55_76, g55_79, g55_80, g55_81, g55_87, g55_88, g55_89, g55_92, g55_95, g55_96, g55_97, g55_103, g55_104, g55_105, g55_111, g55_112, g55_113, g55_119, g55_120, g55_121, g55_127, g55_128, g55_129, g55_132, g55_135, g55_136, g55_137, g55_138, g55_139, g55_142, g55_145, g55_146, g55_147, g55_148, g55_149, g55_152, g55_155, g55_156, g55_157, g55_158, g55_159, g55_162, g55_165, g55_166, g55_167, g55_170, g55_173, g55_174, g55_176, Option.toList_some, Option.toList_none, List.cons_append, List.nil_append, true_and, and_true, true_or, or_true, eq_self, ci0, ci1, cin6, forall_const, not_true_eq_false, not_false_eq_true, fimp, timp, i10, i01, cm_rne, and_assoc, x0, q0, cs, cf0, ca0, r2 1 (by decide) (by decide)]
    (repeat' apply And.intro) <;> (try omega) <;> (try (intro hx; exfalso; omega))
  rw [if_neg w8] at K1
  by_cases w9 : w = 9
  · rw [if_pos w9] at K1
    refine go_table hq55 k55_8 hw (Or.inr (Or.inr (by rw [w9]; decide))) (tgt := 148) (by rw [w9]; decide) ?_
    simp (disch := omega) only [g55_0, g55_1, g55_7, g55_72, g55_73, g55_76, g55_79, g55_80, g55_81, g55_87, g55_88, g55_89, g55_92, g55_95, g55_96, g55_97, g55_103, g55_104, g55_105, g55_111, g55_112, g55_113, g55_119, g55_120, g55_121, g55_127, g55_128, g55_129, g55_132, g55_135, g55_136, g55_137, g55_138, g55_139, g55_142, g55_145, g55_146, g55_147, g55_148, g55_149, g55_152, g55_155, g55_156, g55_157, g55_158, g55_159, g55_162, g55_165, g55_166, g55_167, g55_170, g55_173, g55_174, g55_176, Option.toList_some, Option.toList_none, List.cons_append, List.nil_append, true_and, and_true, true_or, or_true, eq_self, ci0, ci1, cin6, forall_const, not_true_eq_false, not_false_eq_true, fimp, timp, i10, i01, cm_rne, and_assoc, x0, q0, cs, cf0, ca0, r2 2 (by decide) (by decide)]
    (repeat' apply And.intro) <;> (try omega) <;> (try (intro hx; exfalso; omega))
  rw [if_neg w9] at K1
  by_cases w10 : w = 10
  · rw [if_pos w10] at K1
    refine go_table hq55 k55_8 hw (Or.inr (Or.inr (by rw [w10]; decide))) (tgt := 158) (by rw [w10]; decide) ?_
    simp (disch := omega) only [g55_0, g55_1, g55_7, g55_72, g55_73, g55_76, g55_79, g55_80, g55_81, g55_87, g55_88, g55_89, g55_92, g55_95, g55_96, g55_97, g55_103, g55_104, g55_105, g55_111, g55_112, g55_113, g55_119, g55_120, g55_121, g55_127, g55_128, g55_129, g55_132, g55_135, g55_136, g55_137, g55_138, g55_139, g55_142, g55_145, g55_146, g55_147, g55_148, g55_149, g55_152, g55_155, g55_156, g55_157, g55_158, g55_159, g55_162, g55_165, g55_166, g55_167, g55_170, g55_173, g55_174, g55_176, Option.toList_some, Option.toList_none, List.cons_append, List.nil_append, true_and, and_true, true_or, or_true, eq_self, ci0, ci1, cin6, forall_const, not_true_eq_false, not_false_eq_true, fimp, timp, i10, i01, cm_rne, and_assoc, x0, q4, xp.1, k1.2.2.2.1]
    exact K1
  rw [if_neg w10] at K1
  by_cases w11 : w = 11
  · rw [if_pos w11] at K1
    refine go_table hq55 k55_8 hw (Or.inr (Or.inr (by rw [w11]; decide))) (tgt := 166) (by rw [w11]; decide) ?_
    simp (disch := omega) only [g55_0, g55_1, g55_7, g55_72, g55_73, g55_76, g55_79, g55_80, g55_81, g55_87, g55_88, g55_89, g55_92, g55_95, g55_96, g55_97, g55_103, g55_104, g55_105, g55_111, g55_112, g55_113, g55_119, g55_120, g55_121, g55_127, g55_128, g55_129, g55_132, g55_135, g55_136, g55_137, g55_138, g55_139, g55_142, g55_145, g55_146, g55_147, g55_148, g55_149, g55_152, g55_155, g55_156, g55_157, g55_158, g55_159, g55_162, g55_165, g55_166, g55_167, g55_170, g55_173, g55_174, g55_176, Option.toList_some, Option.toList_none, List.cons_append, List.nil_append, true_and, and_true, true_or, or_true, eq_self, ci0, ci1, cin6, forall_const, not_true_eq_false, not_false_eq_true, fimp, timp, i10, i01, cm_rne, and_assoc, x0, q5, xh.1, k1.2.1.1]
    exact K1
  rw [if_neg w11] at K1
  refine go_table hq55 k55_8 hw (by omega) (tgt := 174) (by rw [cm_tab_d (by omega)]; decide) ?_
  simp (disch := omega) only [g55_0, g55_1, g55_7, g55_72, g55_73, g55_76, g55_79, g55_80, g55_81, g55_87, g55_88, g55_89, g55_92, g55_95, g55_96, g55_97, g55_103, g55_104, g55_105, g55_111, g55_112, g55_113, g55_119, g55_120, g55_121, g55_127, g55_128, g55_129, g55_132, g55_135, g55_136, g55_137, g55_138, g55_139, g55_142, g55_145, g55_146, g55_147, g55_148, g55_149, g55_152, g55_155, g55_156, g55_157, g55_158, g55_159, g55_162, g55_165, g55_166, g55_167, g55_170, g55_173, g55_174, g55_176, Option.toList_some, Option.toList_none, List.cons_append, List.nil_append, true_and, and_true, true_or, or_true, eq_self, ci0, ci1, cin6, forall_const, not_true_eq_false, not_false_eq_true, fimp, timp, i10, i01, cm_rne, and_assoc]
  exact K1
end CLASS3
