/-! ===== the class: questions ===== -/
section CLASS3
variable {G : cm_G} {M : cm_M} {i j t v w g h s n k u a b : Int} {S : sS} {A : sA} {H : Int → sS} {Q : Option cm_V → cm_G → cm_M → Prop}
theorem p_of (hX : isX G) (hA : rXA M A) (hv : vA A) (hi : cm_in i) (hw : cm_in w) (K : ∀ M', rXA M' A → fr M M' 0 81 → Q (some (0, xOf (aS A) i w)) G M') : Go 64 0 [some (2, 0), some (0, i), some (0, w)] [] G M Q := by
  obtain ⟨x0, ⟨q0, q1, q2, q3, q4, q5, q6⟩, xc, xk, xt, xu, xp, xh, xl⟩ := hX
  have xc' := xc
  have xk' := xk
  obtain ⟨c0, cs, ⟨cf0, cf1, cf2, cf3, cf4⟩, ca0, ca1, ca2, ca3, ca4⟩ := xc
  obtain ⟨k0, ks, ⟨e0, e1, e2, e3, e5, e6, e7⟩, ⟨ka1, ka2, ka3, ka4, ka5, ka6⟩, -, -⟩ := xk
  have hA' := hA
  obtain ⟨b1, b2, b3, b4, b5⟩ := hA
  have hn := hv.1.2.1
  unfold xOf at K
  simp (disch := omega) only [g64_0, g64_1, g64_4, g64_8, g64_11, g64_12, g64_13, g64_14, g64_20, g64_72, g64_73, g64_76, g64_79, g64_80, g64_81, g64_82, g64_83, g64_86, g64_89, g64_90, g64_91, g64_92, g64_93, g64_96, g64_99, g64_100, g64_101, g64_102, g64_103, g64_106, g64_109, g64_110, g64_111, g64_112, g64_113, g64_116, g64_119, g64_120, g64_121, g64_122, g64_123, g64_126, g64_130, g64_131, g64_132, g64_135, g64_138, g64_139, g64_140, g64_141, g64_142, g64_145, g64_148, g64_149, g64_150, g64_153, g64_155, g64_158, g64_159, g64_162, g64_165, g64_166, g64_167, g64_168, g64_169, g64_172, g64_175, g64_176, g64_177, g64_180, g64_182, g64_185, g64_186, g64_189, g64_192, g64_193, g64_194, g64_195, g64_198, g64_201, g64_202, g64_203, g64_204, g64_205, g64_206, g64_207, g64_209, Option.toList_some, Option.toList_none, List.cons_append, List.nil_append, true_and, and_true, true_or, or_true, eq_self, ci0, ci1, cin6, forall_const, not_true_eq_false, not_false_eq_true, fimp, timp, i10, i01, cm_rne, and_assoc, x0, q0]
  refine c64_5 (by decide) cs (p_holds xc' b1 hv.1 hi (fun h1 => ?_) (fun h1 => ?_)) <;> simp (disch := omega) only [g64_0, g64_1, g64_4, g64_8, g64_11, g64_12, g64_13, g64_14, g64_20, g64_72, g64_73, g64_76, g64_79, g64_80, g64_81, g64_82, g64_83, g64_86, g64_89, g64_90, g64_91, g64_92, g64_93, g64_96, g64_99, g64_100, g64_101, g64_102, g64_103, g64_106, g64_109, g64_110, g64_111, g64_112, g64_113, g64_116, g64_119, g64_120, g64_121, g64_122, g64_123, g64_126, g64_130, g64_131, g64_132, g64_135, g64_138, g64_139, g64_140, g64_141, g64_142, g64_145, g64_148, g64_149, g64_150, g64_153, g64_155, g64_158, g64_159, g64_162, g64_165, g64_166, g64_167, g64_168, g64_169, g64_172, g64_175, g64_176, g64_177, g64_180, g64_182, g64_185, g64_186, g64_189, g64_192, g64_193, g64_194, g64_195, g64_198, g64_201, g64_202, g64_203, g64_204, g64_205, g64_206, g64_207, g64_209, Option.toList_some, Option.toList_none, List.cons_append, List.nil_append, true_and, and_true, true_or, or_true, eq_self, ci0, ci1, cin6, forall_const, not_true_eq_false, not_false_eq_true, fimp, timp, i10, i01, cm_rne, and_assoc, x0, q1]
  · rw [ite'_p h1] at K
    refine c64_17 (by decide) ks (p_follow xk' hv.1 b1 (fun M1 fo g1 f1 => ?_))
    obtain ⟨k1, k2⟩ := rXA_k hA' (f1.wd (by omega) (by omega)) g1
    have K1 := K M1 k1 k2
    obtain ⟨r1, r2, r3⟩ := k1.1
    obtain ⟨w1, w2, w3, w4⟩ := r3 i h1.1 h1.2
    obtain ⟨t1, t2, t3⟩ := fo.1 i h1.1 h1.2
    have hb1 := fI_b hv.1 h1
    have hb2 := eI_b hv.1 h1
    simp (disch := omega) only [g64_0, g64_1, g64_4, g64_8, g64_11, g64_12, g64_13, g64_14, g64_20, g64_72, g64_73, g64_76, g64_79, g64_80, g64_81, g64_82, g64_83, g64_86, g64_89, g64_90, g64_91, g64_92, g64_93, g64_96, g64_99, g64_100, g64_101, g64_102, g64_103, g64_106, g64_109, g64_110, g64_111, g64_112, g64_113, g64_116, g64_119, g64_120, g64_121, g64_122, g64_123, g64_126, g64_130, g64_131, g64_132, g64_135, g64_138, g64_139, g64_140, g64_141, g64_142, g64_145, g64_148, g64_149, g64_150, g64_153, g64_155, g64_158, g64_159, g64_162, g64_165, g64_166, g64_167, g64_168, g64_169, g64_172, g64_175, g64_176, g64_177, g64_180, g64_182, g64_185, g64_186, g64_189, g64_192, g64_193, g64_194, g64_195, g64_198, g64_201, g64_202, g64_203, g64_204, g64_205, g64_206, g64_207, g64_209, Option.toList_some, Option.toList_none, List.cons_append, List.nil_append, true_and, and_true, true_or, or_true, eq_self, ci0, ci1, cin6, forall_const, not_true_eq_false, not_false_eq_true, fimp, timp, i10, i01, cm_rne, and_assoc]
    by_cases w0 : w = 0
    · rw [if_pos w0] at K1
      refine go_table hq64 k64_21 hw (Or.inr (Or.inr (by rw [w0]; decide))) (tgt := 72) (by rw [w0]; decide) ?_
      simp (disch := omega) only [g64_0, g64_1, g64_4, g64_8, g64_11, g64_12, g64_13, g64_14, g64_20, g64_72, g64_73, g64_76, g64_79, g64_80, g64_81, g64_82, g64_83, g64_86, g64_89, g64_90, g64_91, g64_92, g64_93, g64_96, g64_99, g64_100, g64_101, g64_102, g64_103, g64_106, g64_109, g64_110, g64_111, g64_112, g64_113, g64_116, g64_119, g64_120, g64_121, g64_122, g64_123, g64_126, g64_130, g64_131, g64_132, g64_135, g64_138, g64_139, g64_140, g64_141, g64_142, g64_145, g64_148, g64_149, g64_150, g64_153, g64_155, g64_158, g64_159, g64_162, g64_165, g64_166, g64_167, g64_168, g64_169, g64_172, g64_175, g64_176, g64_177, g64_180, g64_182, g64_185, g64_186, g64_189, g64_192, g64_193, g64_194, g64_195, g64_198, g64_201, g64_202, g64_203, g64_204, g64_205, g64_206, g64_207, g64_209, Option.toList_some, Option.toList_none, List.cons_append, List.nil_append, true_and, and_true, true_or, or_true, eq_self, ci0, ci1, cin6, forall_const, not_true_eq_false, not_false_eq_true, fimp, timp, i10, i01, cm_rne, and_assoc, x0, q0, cs, cf1, ca1, w1]
      (repeat' apply And.intro) <;> (try omega) <;> (try (intro hx; exfalso; omega))
    rw [if_neg w0] at K1
    by_cases w1' : w = 1
    · rw [if_pos w1'] at K1
      refine go_table hq64 k64_21 hw (Or.inr (Or.inr (by rw [w1']; decide))) (tgt := 82) (by rw [w1']; decide) ?_
      simp (disch := omega) only [g64_0, g64_1, g64_4, g64_8, g64_11, g64_12, g64_13, g64_14, g64_20, g64_72, g64_73, g64_76, g64_79, g64_80, g64_81, g64_82, g64_83, g64_86, g64_89, g64_90, g64_91, g64_92, g64_93, g64_96, g64_99, g64_100, g64_101, g64_102, g64_103, g64_106, g64_109, g64_110, g64_111, g64_112, g64_113, g64_116, g64_119, g64_120, g64_121, g64_122, g64_123, g64_126, g64_130, g64_131, g64_132, g64_135, g64_138, g64_139, g64_140, g64_141, g64_142, g64_145, g64_148, g64_149, g64_150, g64_153, g64_155, g64_158, g64_159, g64_162, g64_165, g64_166, g64_167, g64_168, g64_169, g64_172, g64_175, g64_176, g64_177, g64_180, g64_182, g64_185, g64_186, g64_189, g64_192, g64_193, g64_194, g64_195, g64_198, g64_201, g64_202, g64_203, g64_204, g64_205, g64_206, g64_207, g64_209, Option.toList_some, Option.toList_none, List.cons_append, List.nil_append, true_and, and_true, true_or, or_true, eq_self, ci0, ci1, cin6, forall_const, not_true_eq_false, not_false_eq_true, fimp, timp, i10, i01, cm_rne, and_assoc, x0, q0, cs, cf2, ca2, w2]
      (repeat' apply And.intro) <;> (try omega) <;> (try (intro hx; exfalso; omega))
    rw [if_neg w1'] at K1
    by_cases w2' : w = 2
    · rw [if_pos w2'] at K1
      refine go_table hq64 k64_21 hw (Or.inr (Or.inr (by rw [w2']; decide))) (tgt := 92) (by rw [w2']; decide) ?_
      simp (disch := omega) only [g64_0, g64_1, g64_4, g64_8, g64_11, g64_12, g64_13, g64_14, g64_20, g64_72, g64_73, g64_76, g64_79, g64_80, g64_81, g64_82, g64_83, g64_86, g64_89, g64_90, g64_91, g64_92, g64_93, g64_96, g64_99, g64_100, g64_101, g64_102, g64_103, g64_106, g64_109, g64_110, g64_111, g64_112, g64_113, g64_116, g64_119, g64_120, g64_121, g64_122, g64_123, g64_126, g64_130, g64_131, g64_132, g64_135, g64_138, g64_139, g64_140, g64_141, g64_142, g64_145, g64_148, g64_149, g64_150, g64_153, g64_155, g64_158, g64_159, g64_162, g64_165, g64_166, g64_167, g64_168, g64_169, g64_172, g64_175, g64_176, g64_177, g64_180, g64_182, g64_185, g64_186, g64_189, g64_192, g64_193, g64_194, g64_195, g64_198, g64_201, g64_202, g64_203, g64_204, g64_205, g64_206, g64_207, g64_209, Option.toList_some, Option.toList_none, List.cons_append, List.nil_append, true_and, and_true, true_or, or_true, eq_self, ci0, ci1, cin6, forall_const, not_true_eq_false, not_false_eq_true, fimp, timp, i10, i01, cm_rne, and_assoc, x0, q0, cs, cf3, ca3, w3]
      (repeat' apply And.intro) <;> (try omega) <;> (try (intro hx; exfalso; omega))
    rw [if_neg w2'] at K1
    by_cases w3' : w = 3
    · rw [if_pos w3'] at K1
      refine go_table hq64 k64_21 hw (Or.inr (Or.inr (by rw [w3']; decide))) (tgt := 102) (by rw [w3']; decide) ?_
      simp (disch := omega) only [g64_0, g64_1, g64_4, g64_8, g64_11, g64_12, g64_13, g64_14, g64_20, g64_72, g64_73, g64_76, g64_79, g64_80, g64_81, g64_82, g64_83, g64_86, g64_89, g64_90, g64_91, g64_92, g64_93, g64_96, g64_99, g64_100, g64_101, g64_102, g64_103, g64_106, g64_109, g64_110, g64_111, g64_112, g64_113, g64_116, g64_119, g64_120, g64_121, g64_122, g64_123, g64_126, g64_130, g64_131, g64_132, g64_135, g64_138, g64_139, g64_140, g64_141, g64_142, g64_145, g64_148, g64_149, g64_150, g64_153, g64_155, g64_158, g64_159, g64_162, g64_165, g64_166, g64_167, g64_168, g64_169, g64_172, g64_175, g64_176, g64_177, g64_180, g64_182, g64_185, g64_186, g64_189, g64_192, g64_193, g64_194, g64_195, g64_198, g64_201, g64_202, g64_203, g64_204, g64_205, g64_206, g64_207, g64_209, Option.toList_some, Option.toList_none, List.cons_append, List.nil_append, true_and, and_true, true_or, or_true, eq_self, ci0, ci1, cin6, forall_const, not_true_eq_false, not_false_eq_true, fimp, timp, i10, i01, cm_rne, and_assoc, x0, q0, cs, cf4, ca4, w4]
      (repeat' apply And.intro) <;> (try omega) <;> (try (intro hx; exfalso; omega))
    rw [if_neg w3'] at K1
    by_cases w4' : w = 4
    · rw [if_pos w4'] at K1
      refine go_table hq64 k64_21 hw (Or.inr (Or.inr (by rw [w4']; decide))) (tgt := 112) (by rw [w4']; decide) ?_
      simp (disch := omega) only [g64_0, g64_1, g64_4, g64_8, g64_11, g64_12, g64_13, g64_14, g64_20, g64_72, g64_73, g64_76, g64_79, g64_80, g64_81, g64_82, g64_83, g64_86, g64_89, g64_90, g64_91, g64_92, g64_93, g64_96, g64_99, g64_100, g64_101, g64_102, g64_103, g64_106, g64_109, g64_110, g64_111, g64_112, g64_113, g64_116, g64_119, g64_120, g64_121, g64_122, g64_123, g64_126, g64_130, g64_131, g64_132, g64_135, g64_138, g64_139, g64_140, g64_141, g64_142, g64_145, g64_148, g64_149, g64_150, g64_153, g64_155, g64_158, g64_159, g64_162, g64_165, g64_166, g64_167, g64_168, g64_169, g64_172, g64_175, g64_176, g64_177, g64_180, g64_182, g64_185, g64_186, g64_189, g64_192, g64_193, g64_194, g64_195, g64_198, g64_201, g64_202, g64_203, g64_204, g64_205, g64_206, g64_207, g64_209, Option.toList_some, Option.toList_none, List.cons_append, List.nil_append, true_and, and_true, true_or, or_true, eq_self, ci0, ci1, cin6, forall_const, not_true_eq_false, not_false_eq_true, fimp, timp, i10, i01, cm_rne, and_assoc, x0, q1, ks, e1, ka1, t1]
      (repeat' apply And.intro) <;> (try omega) <;> (try (intro hx; exfalso; omega))
    rw [if_neg w4'] at K1
    by_cases w5 : w = 5
    · rw [if_pos w5] at K1
      refine go_table hq64 k64_21 hw (Or.inr (Or.inr (by rw [w5]; decide))) (tgt := 122) (by rw [w5]; decide) ?_
      simp (disch := omega) only [g64_0, g64_1, g64_4, g64_8, g64_11, g64_12, g64_13, g64_14, g64_20, g64_72, g64_73, g64_76, g64_79, g64_80, g64_81, g64_82, g64_83, g64_86, g64_89, g64_90, g64_91, g64_92, g64_93, g64_96, g64_99, g64_100, g64_101, g64_102, g64_103, g64_106, g64_109, g64_110, g64_111, g64_112, g64_113, g64_116, g64_119, g64_120, g64_121, g64_122, g64_123, g64_126, g64_130, g64_131, g64_132, g64_135, g64_138, g64_139, g64_140, g64_141, g64_142, g64_145, g64_148, g64_149, g64_150, g64_153, g64_155, g64_158, g64_159, g64_162, g64_165, g64_166, g64_167, g64_168, g64_169, g64_172, g64_175, g64_176, g64_177, g64_180, g64_182, g64_185, g64_186, g64_189, g64_192, g64_193, g64_194, g64_195, g64_198, g64_201, g64_202, g64_203, g64_204, g64_205, g64_206, g64_207, g64_209, Option.toList_some, Option.toList_none, List.cons_append, List.nil_append, true_and, and_true, true_or, or_true, eq_self, ci0, ci1, cin6, forall_const, not_true_eq_false, not_false_eq_true, fimp, timp, i10, i01, cm_rne, and_assoc, x0, q0]
      refine c64_127 (by decide) cs (p_heightOf xc' k1.1 hv.1 h1 ?_)
      simp (disch := omega) only [g64_0, g64_1, g64_4, g64_8, g64_11, g64_12, g64_13, g64_14, g64_20, g64_72, g64_73, g64_76, g64_79, g64_80, g64_81, g64_82, g64_83, g64_86, g64_89, g64_90, g64_91, g64_92, g64_93, g64_96, g64_99, g64_100, g64_101, g64_102, g64_103, g64_106, g64_109, g64_110, g64_111, g64_112, g64_113, g64_116, g64_119, g64_120, g64_121, g64_122, g64_123, g64_126, g64_130, g64_131, g64_132, g64_135, g64_138, g64_139, g64_140, g64_141, g64_142, g64_145, g64_148, g64_149, g64_150, g64_153, g64_155, g64_158, g64_159, g64_162, g64_165, g64_166, g64_167, g64_168, g64_169, g64_172, g64_175, g64_176, g64_177, g64_180, g64_182, g64_185, g64_186, g64_189, g64_192, g64_193, g64_194, g64_195, g64_198, g64_201, g64_202, g64_203, g64_204, g64_205, g64_206, g64_207, g64_209, Option.toList_some, Option.toList_none, List.cons_append, List.nil_append, true_and, and_true, true_or, or_true, eq_self, ci0, ci1, cin6, forall_const, not_true_eq_false, not_false_eq_true, fimp, timp, i10, i01, cm_rne, and_assoc]
      exact K1
    rw [if_neg w5] at K1
    by_cases w6 : w = 6
    · rw [if_pos w6] at K1
      refine go_table hq64 k64_21 hw (Or.inr (Or.inr (by rw [w6]; decide))) (tgt := 131) (by rw [w6]; decide) ?_
      simp (disch := omega) only [g64_0, g64_1, g64_4, g64_8, g64_11, g64_12, g64_13, g64_14, g64_20, g64_72, g64_73, g64_76, g64_79, g64_80, g64_81, g64_82, g64_83, g64_86, g64_89, g64_90, g64_91, g64_92, g64_93, g64_96, g64_99, g64_100, g64_101, g64_102, g64_103, g64_106, g64_109, g64_110, g64_111, g64_112, g64_113, g64_116, g64_119, g64_120, g64_121, g64_122, g64_123, g64_126, g64_130, g64_131, g64_132, g64_135, g64_138, g64_139, g64_140, g64_141, g64_142, g64_145, g64_148, g64_149, g64_150, g64_153, g64_155, g64_158, g64_159, g64_162, g64_165, g64_166, g64_167, g64_168, g64_169, g64_172, g64_175, g64_176, g64_177, g64_180, g64_182, g64_185, g64_186, g64_189, g64_192, g64_193, g64_194, g64_195, g64_198, g64_201, g64_202, g64_203, g64_204, g64_205, g64_206, g64_207, g64_209, Option.toList_some, Option.toList_none, List.cons_append, List.nil_append, true_and, and_true, true_or, or_true, eq_self, ci0, ci1, cin6, forall_const, not_true_eq_false, not_false_eq_true, fimp, timp, i10, i01, cm_rne, and_assoc, x0, q1, ks, e3, ka3, t3]
      (repeat' apply And.intro) <;> (try omega) <;> (try (intro hx; exfalso; omega))
    rw [if_neg w6] at K1
    by_cases w7 : w = 7
    · rw [if_pos w7] at K1
      refine go_table hq64 k64_21 hw (Or.inr (Or.inr (by rw [w7]; decide))) (tgt := 141) (by rw [w7]; decide) ?_
      simp (disch := omega) only [g64_0, g64_1, g64_4, g64_8, g64_11, g64_12, g64_13, g64_14, g64_20, g64_72, g64_73, g64_76, g64_79, g64_80, g64_81, g64_82, g64_83, g64_86, g64_89, g64_90, g64_91, g64_92, g64_93, g64_96, g64_99, g64_100, g64_101, g64_102, g64_103, g64_106, g64_109, g64_110, g64_111, g64_112, g64_113, g64_116, g64_119, g64_120, g64_121, g64_122, g64_123, g64_126, g64_130, g64_131, g64_132, g64_135, g64_138, g64_139, g64_140, g64_141, g64_142, g64_145, g64_148, g64_149, g64_150, g64_153, g64_155, g64_158, g64_159, g64_162, g64_165, g64_166, g64_167, g64_168, g64_169, g64_172, g64_175, g64_176, g64_177, g64_180, g64_182, g64_185, g64_186, g64_189, g64_192, g64_193, g64_194, g64_195, g64_198, g64_201, g64_202, g64_203, g64_204, g64_205, g64_206, g64_207, g64_209, Option.toList_some, Option.toList_none, List.cons_append, List.nil_append, true_and, and_true, true_or, or_true, eq_self, ci0, ci1, cin6, forall_const, not_true_eq_false, not_false_eq_true, fimp, timp, i10, i01, cm_rne, and_assoc, x0, q1, ks, e2, ka2, e3, ka3, t3, t2]
      (repeat' apply And.intro) <;> (try omega) <;> (try (intro hx; exfalso; omega))
      · intro hz
        rw [if_neg hz] at K1
        (repeat' apply And.intro) <;> (try omega) <;> (try (intro hx; exfalso; omega))
      · intro hz
        rw [if_pos hz] at K1
        exact K1
    rw [if_neg w7] at K1
    by_cases w8 : w = 8
    · rw [if_pos w8] at K1
      refine go_table hq64 k64_21 hw (Or.inr (Or.inr (by rw [w8]; decide))) (tgt := 168) (by rw [w8]; decide) ?_
      simp (disch := omega) only [g64_0, g64_1, g64_4, g64_8, g64_11, g64_12, g64_13, g64_14, g64_20, g64_72, g64_73, g64_76, g64_79, g64_80, g64_81, g64_82, g64_83, g64_86, g64_89, g64_90, g64_91, g64_92, g64_93, g64_96, g64_99, g64_100, g64_101, g64_102, g64_103, g64_106, g64_109, g64_110, g64_111, g64_112, g64_113, g64_116, g64_119, g64_120, g64_121, g64_122, g64_123, g64_126, g64_130, g64_131, g64_132, g64_135, g64_138, g64_139, g64_140, g64_141, g64_142, g64_145, g64_148, g64_149, g64_150, g64_153, g64_155, g64_158, g64_159, g64_162, g64_165, g64_166, g64_167, g64_168, g64_169, g64_172, g64_175, g64_176, g64_177, g64_180, g64_182, g64_185, g64_186, g64_189, g64_192, g64_193, g64_194, g64_195, g64_198, g64_201, g64_202, g64_203, g64_204, g64_205, g64_206, g64_207, g64_209, Option.toList_some, Option.toList_none, List.cons_append, List.nil_append, true_and, and_true, true_or, or_true, eq_self, ci0, ci1, cin6, forall_const, not_true_eq_false, not_false_eq_true, fimp, timp, i10, i01, cm_rne, and_assoc, x0, q1, ks, e2, ka2, e3, ka3, t3, t2]
      (repeat' apply And.intro) <;> (try omega) <;> (try (intro hx; exfalso; omega))
      · intro hz
        rw [if_neg hz] at K1
        (repeat' apply And.intro) <;> (try omega) <;> (try (intro hx; exfalso; omega))
      · intro hz
        rw [if_pos hz] at K1
        exact K1
    rw [if_neg w8] at K1
    refine go_table hq64 k64_21 hw (by omega) (tgt := 207) (by rw [cm_tab_d (by omega)]; decide) ?_
    simp (disch := omega) only [g64_0, g64_1, g64_4, g64_8, g64_11, g64_12, g64_13, g64_14, g64_20, g64_72, g64_73, g64_76, g64_79, g64_80, g64_81, g64_82, g64_83, g64_86, g64_89, g64_90, g64_91, g64_92, g64_93, g64_96, g64_99, g64_100, g64_101, g64_102, g64_103, g64_106, g64_109, g64_110, g64_111, g64_112, g64_113, g64_116, g64_119, g64_120, g64_121, g64_122, g64_123, g64_126, g64_130, g64_131, g64_132, g64_135, g64_138, g64_139, g64_140, g64_141, g64_142, g64_145, g64_148, g64_149, g64_150, g64_153, g64_155, g64_158, g64_159, g64_162, g64_165, g64_166, g64_167, g64_168, g64_169, g64_172, g64_175, g64_176, g64_177, g64_180, g64_182, g64_185, g64_186, g64_189, g64_192, g64_193, g64_194, g64_195, g64_198, g64_201, g64_202, g64_203, g64_204, g64_205, g64_206, g64_207, g64_209, Option.toList_some, Option.toList_none, List.cons_append, List.nil_append, true_and, and_true, true_or, or_true, eq_self, ci0, ci1, cin6, forall_const, not_true_eq_false, not_false_eq_true, fimp, timp, i10, i01, cm_rne, and_assoc]
    exact K1
  · rw [ite'_n h1] at K
    exact K M hA' fr.rf
theorem p_firstNumberOf (hX : isX G) (hA : rXA M A) (hv : vA A) (hg : cm_in g) (K : Q (some (0, if nameAt (aS A) g = -6 then -6 else sM (aS A) (nameAt (aS A) g))) G M) : Go 79 0 [some (2, 0), some (0, g), none] [] G M Q := by
  obtain ⟨x0, ⟨q0, q1, q2, q3, q4, q5, q6⟩, xc, xk, xt, xu, xp, xh, xl⟩ := hX
  have xc' := xc
  obtain ⟨c0, cs, ⟨cf0, cf1, cf2, cf3, cf4⟩, ca0, ca1, ca2, ca3, ca4⟩ := xc
  obtain ⟨b1, b2, b3, b4, b5⟩ := hA
  have hn := hv.1.2.1
  simp (disch := omega) only [g79_0, g79_1, g79_4, g79_8, g79_9, g79_10, g79_13, g79_17, g79_20, g79_21, g79_24, g79_27, g79_28, g79_29, g79_32, g79_34, Option.toList_some, Option.toList_none, List.cons_append, List.nil_append, true_and, and_true, true_or, or_true, eq_self, ci0, ci1, cin6, forall_const, not_true_eq_false, not_false_eq_true, fimp, timp, i10, i01, cm_rne, and_assoc, x0, q0]
  refine c79_5 (by decide) cs (p_firstNameOf xc' b1 hv.1 hg (fun r hr => ?_))
  have er : r = nameAt (aS A) g := fstOf_e hr
  have hrb : r = -6 ∨ (0 ≤ r ∧ r < sN (aS A)) := by
    rcases hr with ⟨z1, z2, -⟩ | ⟨z, -⟩
    · exact Or.inr ⟨z1, z2⟩
    · exact Or.inl z
  rw [← er] at K
  simp (disch := omega) only [g79_0, g79_1, g79_4, g79_8, g79_9, g79_10, g79_13, g79_17, g79_20, g79_21, g79_24, g79_27, g79_28, g79_29, g79_32, g79_34, Option.toList_some, Option.toList_none, List.cons_append, List.nil_append, true_and, and_true, true_or, or_true, eq_self, ci0, ci1, cin6, forall_const, not_true_eq_false, not_false_eq_true, fimp, timp, i10, i01, cm_rne, and_assoc, x0, q0]
  refine c79_14 (by decide) cs (p_holds xc' b1 hv.1 (by constructor <;> omega) (fun h3 => ?_) (fun h3 => ?_)) <;> simp (disch := omega) only [g79_0, g79_1, g79_4, g79_8, g79_9, g79_10, g79_13, g79_17, g79_20, g79_21, g79_24, g79_27, g79_28, g79_29, g79_32, g79_34, Option.toList_some, Option.toList_none, List.cons_append, List.nil_append, true_and, and_true, true_or, or_true, eq_self, ci0, ci1, cin6, forall_const, not_true_eq_false, not_false_eq_true, fimp, timp, i10, i01, cm_rne, and_assoc, x0, q0, cs, cf3, ca3]
  · rw [if_neg (by omega)] at K
    (repeat' apply And.intro) <;> (try omega) <;> (try (intro hx; exfalso; omega))
    rw [(b1.2.2 r h3.1 h3.2).2.2.1]
    exact K
  · rw [if_pos (by omega)] at K
    exact K
theorem p_group (hX : isX G) (hA : rXA M A) (hv : vA A) (hg : cm_in g) (hw : cm_in w) (K : ∀ M', rXA M' A → fr M M' 0 81 → Q (some (0, xGroup (aS A) g w)) G M') : Go 65 0 [some (2, 0), some (0, g), some (0, w)] [] G M Q := by
  have hX' := hX
  obtain ⟨x0, ⟨q0, q1, q2, q3, q4, q5, q6⟩, xc, xk, xt, xu, xp, xh, xl⟩ := hX
  have cs := xc.2.1
  have ks := xk.2.1
  have hA' := hA
  obtain ⟨b1, b2, b3, b4, b5⟩ := hA
  have hn := hv.1.2.1
  have hn0 := hv.1.1
  unfold xGroup at K
  simp (disch := omega) only [g65_0, g65_4, g65_7, g65_9, g65_10, g65_11, g65_17, g65_52, g65_53, g65_56, g65_60, g65_61, g65_62, g65_65, g65_69, g65_70, g65_71, g65_74, g65_78, g65_81, g65_83, g65_86, g65_87, g65_90, g65_94, g65_95, g65_96, g65_99, g65_103, g65_104, g65_105, g65_109, g65_110, g65_112, Option.toList_some, Option.toList_none, List.cons_append, List.nil_append, true_and, and_true, true_or, or_true, eq_self, ci0, ci1, cin6, forall_const, not_true_eq_false, not_false_eq_true, fimp, timp, i10, i01, cm_rne, and_assoc]
  refine c65_1 (by decide) (p_isGroup hg (fun h1 => ?_) (fun h1 => ?_)) <;> simp (disch := omega) only [g65_0, g65_4, g65_7, g65_9, g65_10, g65_11, g65_17, g65_52, g65_53, g65_56, g65_60, g65_61, g65_62, g65_65, g65_69, g65_70, g65_71, g65_74, g65_78, g65_81, g65_83, g65_86, g65_87, g65_90, g65_94, g65_95, g65_96, g65_99, g65_103, g65_104, g65_105, g65_109, g65_110, g65_112, Option.toList_some, Option.toList_none, List.cons_append, List.nil_append, true_and, and_true, true_or, or_true, eq_self, ci0, ci1, cin6, forall_const, not_true_eq_false, not_false_eq_true, fimp, timp, i10, i01, cm_rne, and_assoc, x0, q1]
  · rw [ite'_p h1] at K
    refine c65_14 (by decide) ks (p_follow xk hv.1 b1 (fun M1 fo g1 f1 => ?_))
    obtain ⟨k1, k2⟩ := rXA_k hA' (f1.wd (by omega) (by omega)) g1
    have K1 := K M1 k1 k2
    have hcn := cnt0 (sG (aS A)) g (sN (aS A)).toNat
    have hcb := cntb (sG (aS A)) g (sN (aS A)).toNat
    rw [show (((sN (aS A)).toNat : Nat) : Int) = sN (aS A) by omega] at hcn
    have hf6 := fst0 (P := fun j => sG (aS A) j = g) (n := sN (aS A))
    simp (disch := omega) only [g65_0, g65_4, g65_7, g65_9, g65_10, g65_11, g65_17, g65_52, g65_53, g65_56, g65_60, g65_61, g65_62, g65_65, g65_69, g65_70, g65_71, g65_74, g65_78, g65_81, g65_83, g65_86, g65_87, g65_90, g65_94, g65_95, g65_96, g65_99, g65_103, g65_104, g65_105, g65_109, g65_110, g65_112, Option.toList_some, Option.toList_none, List.cons_append, List.nil_append, true_and, and_true, true_or, or_true, eq_self, ci0, ci1, cin6, forall_const, not_true_eq_false, not_false_eq_true, fimp, timp, i10, i01, cm_rne, and_assoc]
    by_cases w0 : w = 0
    · rw [if_pos w0] at K1
      refine go_table hq65 k65_18 hw (Or.inr (Or.inr (by rw [w0]; decide))) (tgt := 52) (by rw [w0]; decide) ?_
      simp (disch := omega) only [g65_0, g65_4, g65_7, g65_9, g65_10, g65_11, g65_17, g65_52, g65_53, g65_56, g65_60, g65_61, g65_62, g65_65, g65_69, g65_70, g65_71, g65_74, g65_78, g65_81, g65_83, g65_86, g65_87, g65_90, g65_94, g65_95, g65_96, g65_99, g65_103, g65_104, g65_105, g65_109, g65_110, g65_112, Option.toList_some, Option.toList_none, List.cons_append, List.nil_append, true_and, and_true, true_or, or_true, eq_self, ci0, ci1, cin6, forall_const, not_true_eq_false, not_false_eq_true, fimp, timp, i10, i01, cm_rne, and_assoc, x0, q0]
      refine c65_57 (by decide) cs (p_namesOf xc k1.1 hv.1 hg ?_)
      simp (disch := omega) only [g65_0, g65_4, g65_7, g65_9, g65_10, g65_11, g65_17, g65_52, g65_53, g65_56, g65_60, g65_61, g65_62, g65_65, g65_69, g65_70, g65_71, g65_74, g65_78, g65_81, g65_83, g65_86, g65_87, g65_90, g65_94, g65_95, g65_96, g65_99, g65_103, g65_104, g65_105, g65_109, g65_110, g65_112, Option.toList_some, Option.toList_none, List.cons_append, List.nil_append, true_and, and_true, true_or, or_true, eq_self, ci0, ci1, cin6, forall_const, not_true_eq_false, not_false_eq_true, fimp, timp, i10, i01, cm_rne, and_assoc]
      exact K1
    rw [if_neg w0] at K1
    by_cases w1 : w = 1
    · rw [if_pos w1] at K1
      refine go_table hq65 k65_18 hw (Or.inr (Or.inr (by rw [w1]; decide))) (tgt := 61) (by rw [w1]; decide) ?_
      simp (disch := omega) only [g65_0, g65_4, g65_7, g65_9, g65_10, g65_11, g65_17, g65_52, g65_53, g65_56, g65_60, g65_61, g65_62, g65_65, g65_69, g65_70, g65_71, g65_74, g65_78, g65_81, g65_83, g65_86, g65_87, g65_90, g65_94, g65_95, g65_96, g65_99, g65_103, g65_104, g65_105, g65_109, g65_110, g65_112, Option.toList_some, Option.toList_none, List.cons_append, List.nil_append, true_and, and_true, true_or, or_true, eq_self, ci0, ci1, cin6, forall_const, not_true_eq_false, not_false_eq_true, fimp, timp, i10, i01, cm_rne, and_assoc, x0, q1]
      refine c65_66 (by decide) ks (p_spreadOf xk hv.1 k1.1 fo hg ?_)
      simp (disch := omega) only [g65_0, g65_4, g65_7, g65_9, g65_10, g65_11, g65_17, g65_52, g65_53, g65_56, g65_60, g65_61, g65_62, g65_65, g65_69, g65_70, g65_71, g65_74, g65_78, g65_81, g65_83, g65_86, g65_87, g65_90, g65_94, g65_95, g65_96, g65_99, g65_103, g65_104, g65_105, g65_109, g65_110, g65_112, Option.toList_some, Option.toList_none, List.cons_append, List.nil_append, true_and, and_true, true_or, or_true, eq_self, ci0, ci1, cin6, forall_const, not_true_eq_false, not_false_eq_true, fimp, timp, i10, i01, cm_rne, and_assoc]
      exact K1
    rw [if_neg w1] at K1
    by_cases w2 : w = 2
    · rw [if_pos w2] at K1
      refine go_table hq65 k65_18 hw (Or.inr (Or.inr (by rw [w2]; decide))) (tgt := 70) (by rw [w2]; decide) ?_
      simp (disch := omega) only [g65_0, g65_4, g65_7, g65_9, g65_10, g65_11, g65_17, g65_52, g65_53, g65_56, g65_60, g65_61, g65_62, g65_65, g65_69, g65_70, g65_71, g65_74, g65_78, g65_81, g65_83, g65_86, g65_87, g65_90, g65_94, g65_95, g65_96, g65_99, g65_103, g65_104, g65_105, g65_109, g65_110, g65_112, Option.toList_some, Option.toList_none, List.cons_append, List.nil_append, true_and, and_true, true_or, or_true, eq_self, ci0, ci1, cin6, forall_const, not_true_eq_false, not_false_eq_true, fimp, timp, i10, i01, cm_rne, and_assoc, x0, q0]
      refine c65_75 (by decide) cs (p_namesOf xc k1.1 hv.1 hg ?_)
      generalize hcc : fP (fun i a => if sG (aS A) i = g then a + 1 else a) (0 : Int) (sN (aS A)).toNat = cc at *
      simp (disch := omega) only [g65_0, g65_4, g65_7, g65_9, g65_10, g65_11, g65_17, g65_52, g65_53, g65_56, g65_60, g65_61, g65_62, g65_65, g65_69, g65_70, g65_71, g65_74, g65_78, g65_81, g65_83, g65_86, g65_87, g65_90, g65_94, g65_95, g65_96, g65_99, g65_103, g65_104, g65_105, g65_109, g65_110, g65_112, Option.toList_some, Option.toList_none, List.cons_append, List.nil_append, true_and, and_true, true_or, or_true, eq_self, ci0, ci1, cin6, forall_const, not_true_eq_false, not_false_eq_true, fimp, timp, i10, i01, cm_rne, and_assoc, x0, q1]
      (repeat' apply And.intro) <;> (try omega) <;> (try (intro hx; exfalso; omega))
      · intro hz
        have n1 : ¬ nameAt (aS A) g = -6 := fun z => hz (hcn.2.mpr (hf6.mp z))
        rw [if_neg n1] at K1
        refine c65_91 (by decide) ks (p_leastSeenOf xk hv.1 k1.1 fo hg ?_)
        simp (disch := omega) only [g65_0, g65_4, g65_7, g65_9, g65_10, g65_11, g65_17, g65_52, g65_53, g65_56, g65_60, g65_61, g65_62, g65_65, g65_69, g65_70, g65_71, g65_74, g65_78, g65_81, g65_83, g65_86, g65_87, g65_90, g65_94, g65_95, g65_96, g65_99, g65_103, g65_104, g65_105, g65_109, g65_110, g65_112, Option.toList_some, Option.toList_none, List.cons_append, List.nil_append, true_and, and_true, true_or, or_true, eq_self, ci0, ci1, cin6, forall_const, not_true_eq_false, not_false_eq_true, fimp, timp, i10, i01, cm_rne, and_assoc]
        exact K1
      · intro hz
        have n1 : nameAt (aS A) g = -6 := hf6.mpr (hcn.2.mp hz)
        rw [if_pos n1] at K1
        exact K1
    rw [if_neg w2] at K1
    by_cases w3 : w = 3
    · rw [if_pos w3] at K1
      refine go_table hq65 k65_18 hw (Or.inr (Or.inr (by rw [w3]; decide))) (tgt := 95) (by rw [w3]; decide) ?_
      simp (disch := omega) only [g65_0, g65_4, g65_7, g65_9, g65_10, g65_11, g65_17, g65_52, g65_53, g65_56, g65_60, g65_61, g65_62, g65_65, g65_69, g65_70, g65_71, g65_74, g65_78, g65_81, g65_83, g65_86, g65_87, g65_90, g65_94, g65_95, g65_96, g65_99, g65_103, g65_104, g65_105, g65_109, g65_110, g65_112, Option.toList_some, Option.toList_none, List.cons_append, List.nil_append, true_and, and_true, true_or, or_true, eq_self, ci0, ci1, cin6, forall_const, not_true_eq_false, not_false_eq_true, fimp, timp, i10, i01, cm_rne, and_assoc, x0, q1]
      refine c65_100 (by decide) ks (p_leastSeenLineOf xk hv.1 k1.1 fo hg ?_)
      simp (disch := omega) only [g65_0, g65_4, g65_7, g65_9, g65_10, g65_11, g65_17, g65_52, g65_53, g65_56, g65_60, g65_61, g65_62, g65_65, g65_69, g65_70, g65_71, g65_74, g65_78, g65_81, g65_83, g65_86, g65_87, g65_90, g65_94, g65_95, g65_96, g65_99, g65_103, g65_104, g65_105, g65_109, g65_110, g65_112, Option.toList_some, Option.toList_none, List.cons_append, List.nil_append, true_and, and_true, true_or, or_true, eq_self, ci0, ci1, cin6, forall_const, not_true_eq_false, not_false_eq_true, fimp, timp, i10, i01, cm_rne, and_assoc]
      exact K1
    rw [if_neg w3] at K1
    by_cases w4 : w = 4
    · rw [if_pos w4] at K1
      refine go_table hq65 k65_18 hw (Or.inr (Or.inr (by rw [w4]; decide))) (tgt := 104) (by rw [w4]; decide) ?_
      simp (disch := omega) only [g65_0, g65_4, g65_7, g65_9, g65_10, g65_11, g65_17, g65_52, g65_53, g65_56, g65_60, g65_61, g65_62, g65_65, g65_69, g65_70, g65_71, g65_74, g65_78, g65_81, g65_83, g65_86, g65_87, g65_90, g65_94, g65_95, g65_96, g65_99, g65_103, g65_104, g65_105, g65_109, g65_110, g65_112, Option.toList_some, Option.toList_none, List.cons_append, List.nil_append, true_and, and_true, true_or, or_true, eq_self, ci0, ci1, cin6, forall_const, not_true_eq_false, not_false_eq_true, fimp, timp, i10, i01, cm_rne, and_assoc]
      refine c65_106 (by decide) x0 (p_firstNumberOf hX' k1 hv hg ?_)
      simp (disch := omega) only [g65_0, g65_4, g65_7, g65_9, g65_10, g65_11, g65_17, g65_52, g65_53, g65_56, g65_60, g65_61, g65_62, g65_65, g65_69, g65_70, g65_71, g65_74, g65_78, g65_81, g65_83, g65_86, g65_87, g65_90, g65_94, g65_95, g65_96, g65_99, g65_103, g65_104, g65_105, g65_109, g65_110, g65_112, Option.toList_some, Option.toList_none, List.cons_append, List.nil_append, true_and, and_true, true_or, or_true, eq_self, ci0, ci1, cin6, forall_const, not_true_eq_false, not_false_eq_true, fimp, timp, i10, i01, cm_rne, and_assoc]
      exact K1
    rw [if_neg w4] at K1
    refine go_table hq65 k65_18 hw (by omega) (tgt := 110) (by rw [cm_tab_d (by omega)]; decide) ?_
    simp (disch := omega) only [g65_0, g65_4, g65_7, g65_9, g65_10, g65_11, g65_17, g65_52, g65_53, g65_56, g65_60, g65_61, g65_62, g65_65, g65_69, g65_70, g65_71, g65_74, g65_78, g65_81, g65_83, g65_86, g65_87, g65_90, g65_94, g65_95, g65_96, g65_99, g65_103, g65_104, g65_105, g65_109, g65_110, g65_112, Option.toList_some, Option.toList_none, List.cons_append, List.nil_append, true_and, and_true, true_or, or_true, eq_self, ci0, ci1, cin6, forall_const, not_true_eq_false, not_false_eq_true, fimp, timp, i10, i01, cm_rne, and_assoc]
    exact K1
  · rw [ite'_n h1] at K
    exact K M hA' fr.rf
theorem p_at (hX : isX G) (hA : rXA M A) (hv : vA A) (ht : cm_in t) (hw : cm_in w) (K : ∀ M', rXA M' A → fr M M' 0 81 → Q (some (0, xAt (aS A) t w)) G M') : Go 66 0 [some (2, 0), some (0, t), some (0, w)] [] G M Q := by
  obtain ⟨x0, ⟨q0, q1, q2, q3, q4, q5, q6⟩, xc, xk, xt, xu, xp, xh, xl⟩ := hX
  have ks := xk.2.1
  have hA' := hA
  obtain ⟨b1, b2, b3, b4, b5⟩ := hA
  unfold xAt at K
  simp (disch := omega) only [g66_0, g66_1, g66_2, g66_8, g66_11, g66_13, g66_14, g66_15, g66_21, g66_56, g66_57, g66_60, g66_64, g66_65, g66_66, g66_69, g66_73, g66_74, g66_75, g66_78, g66_82, g66_83, g66_84, g66_87, g66_91, g66_92, g66_93, g66_96, g66_100, g66_101, g66_103, Option.toList_some, Option.toList_none, List.cons_append, List.nil_append, true_and, and_true, true_or, or_true, eq_self, ci0, ci1, cin6, forall_const, not_true_eq_false, not_false_eq_true, fimp, timp, i10, i01, cm_rne, and_assoc]
  refine c66_5 (Nat.le_of_ble_eq_true rfl) (p_isWithin ht cn0 ⟨by decide, by decide⟩ (fun h1 => ?_) (fun h1 => ?_)) <;> simp (disch := omega) only [g66_0, g66_1, g66_2, g66_8, g66_11, g66_13, g66_14, g66_15, g66_21, g66_56, g66_57, g66_60, g66_64, g66_65, g66_66, g66_69, g66_73, g66_74, g66_75, g66_78, g66_82, g66_83, g66_84, g66_87, g66_91, g66_92, g66_93, g66_96, g66_100, g66_101, g66_103, Option.toList_some, Option.toList_none, List.cons_append, List.nil_append, true_and, and_true, true_or, or_true, eq_self, ci0, ci1, cin6, forall_const, not_true_eq_false, not_false_eq_true, fimp, timp, i10, i01, cm_rne, and_assoc, x0, q1]
  · rw [ite'_p h1] at K
    refine c66_18 (by decide) ks (p_follow xk hv.1 b1 (fun M1 fo g1 f1 => ?_))
    obtain ⟨k1, k2⟩ := rXA_k hA' (f1.wd (by omega) (by omega)) g1
    have K1 := K M1 k1 k2
    simp (disch := omega) only [g66_0, g66_1, g66_2, g66_8, g66_11, g66_13, g66_14, g66_15, g66_21, g66_56, g66_57, g66_60, g66_64, g66_65, g66_66, g66_69, g66_73, g66_74, g66_75, g66_78, g66_82, g66_83, g66_84, g66_87, g66_91, g66_92, g66_93, g66_96, g66_100, g66_101, g66_103, Option.toList_some, Option.toList_none, List.cons_append, List.nil_append, true_and, and_true, true_or, or_true, eq_self, ci0, ci1, cin6, forall_const, not_true_eq_false, not_false_eq_true, fimp, timp, i10, i01, cm_rne, and_assoc]
    by_cases w0 : w = 0
    · rw [if_pos w0] at K1
      refine go_table hq66 k66_22 hw (Or.inr (Or.inr (by rw [w0]; decide))) (tgt := 56) (by rw [w0]; decide) ?_
      simp (disch := omega) only [g66_0, g66_1, g66_2, g66_8, g66_11, g66_13, g66_14, g66_15, g66_21, g66_56, g66_57, g66_60, g66_64, g66_65, g66_66, g66_69, g66_73, g66_74, g66_75, g66_78, g66_82, g66_83, g66_84, g66_87, g66_91, g66_92, g66_93, g66_96, g66_100, g66_101, g66_103, Option.toList_some, Option.toList_none, List.cons_append, List.nil_append, true_and, and_true, true_or, or_true, eq_self, ci0, ci1, cin6, forall_const, not_true_eq_false, not_false_eq_true, fimp, timp, i10, i01, cm_rne, and_assoc, x0, q1]
      refine c66_61 (by decide) ks (p_firstSeenAt xk hv.1 k1.1 fo h1 (fun r hr => ?_))
      simp (disch := omega) only [g66_0, g66_1, g66_2, g66_8, g66_11, g66_13, g66_14, g66_15, g66_21, g66_56, g66_57, g66_60, g66_64, g66_65, g66_66, g66_69, g66_73, g66_74, g66_75, g66_78, g66_82, g66_83, g66_84, g66_87, g66_91, g66_92, g66_93, g66_96, g66_100, g66_101, g66_103, Option.toList_some, Option.toList_none, List.cons_append, List.nil_append, true_and, and_true, true_or, or_true, eq_self, ci0, ci1, cin6, forall_const, not_true_eq_false, not_false_eq_true, fimp, timp, i10, i01, cm_rne, and_assoc]
      rw [fstOf_e hr]
      exact K1
    rw [if_neg w0] at K1
    by_cases w1 : w = 1
    · rw [if_pos w1] at K1
      refine go_table hq66 k66_22 hw (Or.inr (Or.inr (by rw [w1]; decide))) (tgt := 65) (by rw [w1]; decide) ?_
      simp (disch := omega) only [g66_0, g66_1, g66_2, g66_8, g66_11, g66_13, g66_14, g66_15, g66_21, g66_56, g66_57, g66_60, g66_64, g66_65, g66_66, g66_69, g66_73, g66_74, g66_75, g66_78, g66_82, g66_83, g66_84, g66_87, g66_91, g66_92, g66_93, g66_96, g66_100, g66_101, g66_103, Option.toList_some, Option.toList_none, List.cons_append, List.nil_append, true_and, and_true, true_or, or_true, eq_self, ci0, ci1, cin6, forall_const, not_true_eq_false, not_false_eq_true, fimp, timp, i10, i01, cm_rne, and_assoc, x0, q1]
      refine c66_70 (by decide) ks (p_lastSeenAt xk hv.1 k1.1 fo h1 (fun r hr => ?_))
      simp (disch := omega) only [g66_0, g66_1, g66_2, g66_8, g66_11, g66_13, g66_14, g66_15, g66_21, g66_56, g66_57, g66_60, g66_64, g66_65, g66_66, g66_69, g66_73, g66_74, g66_75, g66_78, g66_82, g66_83, g66_84, g66_87, g66_91, g66_92, g66_93, g66_96, g66_100, g66_101, g66_103, Option.toList_some, Option.toList_none, List.cons_append, List.nil_append, true_and, and_true, true_or, or_true, eq_self, ci0, ci1, cin6, forall_const, not_true_eq_false, not_false_eq_true, fimp, timp, i10, i01, cm_rne, and_assoc]
      rw [lstOf_e hr]
      exact K1
    rw [if_neg w1] at K1
    by_cases w2 : w = 2
    · rw [if_pos w2] at K1
      refine go_table hq66 k66_22 hw (Or.inr (Or.inr (by rw [w2]; decide))) (tgt := 74) (by rw [w2]; decide) ?_
      simp (disch := omega) only [g66_0, g66_1, g66_2, g66_8, g66_11, g66_13, g66_14, g66_15, g66_21, g66_56, g66_57, g66_60, g66_64, g66_65, g66_66, g66_69, g66_73, g66_74, g66_75, g66_78, g66_82, g66_83, g66_84, g66_87, g66_91, g66_92, g66_93, g66_96, g66_100, g66_101, g66_103, Option.toList_some, Option.toList_none, List.cons_append, List.nil_append, true_and, and_true, true_or, or_true, eq_self, ci0, ci1, cin6, forall_const, not_true_eq_false, not_false_eq_true, fimp, timp, i10, i01, cm_rne, and_assoc, x0, q1]
      refine c66_79 (by decide) ks (p_howManySeenAt xk hv.1 k1.1 fo h1 ?_)
      simp (disch := omega) only [g66_0, g66_1, g66_2, g66_8, g66_11, g66_13, g66_14, g66_15, g66_21, g66_56, g66_57, g66_60, g66_64, g66_65, g66_66, g66_69, g66_73, g66_74, g66_75, g66_78, g66_82, g66_83, g66_84, g66_87, g66_91, g66_92, g66_93, g66_96, g66_100, g66_101, g66_103, Option.toList_some, Option.toList_none, List.cons_append, List.nil_append, true_and, and_true, true_or, or_true, eq_self, ci0, ci1, cin6, forall_const, not_true_eq_false, not_false_eq_true, fimp, timp, i10, i01, cm_rne, and_assoc]
      exact K1
    rw [if_neg w2] at K1
    by_cases w3 : w = 3
    · rw [if_pos w3] at K1
      refine go_table hq66 k66_22 hw (Or.inr (Or.inr (by rw [w3]; decide))) (tgt := 83) (by rw [w3]; decide) ?_
      simp (disch := omega) only [g66_0, g66_1, g66_2, g66_8, g66_11, g66_13, g66_14, g66_15, g66_21, g66_56, g66_57, g66_60, g66_64, g66_65, g66_66, g66_69, g66_73, g66_74, g66_75, g66_78, g66_82, g66_83, g66_84, g66_87, g66_91, g66_92, g66_93, g66_96, g66_100, g66_101, g66_103, Option.toList_some, Option.toList_none, List.cons_append, List.nil_append, true_and, and_true, true_or, or_true, eq_self, ci0, ci1, cin6, forall_const, not_true_eq_false, not_false_eq_true, fimp, timp, i10, i01, cm_rne, and_assoc, x0, q1]
      refine c66_88 (by decide) ks (p_speedAt xk hv.1 fo.2.2 h1 ?_)
      simp (disch := omega) only [g66_0, g66_1, g66_2, g66_8, g66_11, g66_13, g66_14, g66_15, g66_21, g66_56, g66_57, g66_60, g66_64, g66_65, g66_66, g66_69, g66_73, g66_74, g66_75, g66_78, g66_82, g66_83, g66_84, g66_87, g66_91, g66_92, g66_93, g66_96, g66_100, g66_101, g66_103, Option.toList_some, Option.toList_none, List.cons_append, List.nil_append, true_and, and_true, true_or, or_true, eq_self, ci0, ci1, cin6, forall_const, not_true_eq_false, not_false_eq_true, fimp, timp, i10, i01, cm_rne, and_assoc]
      exact K1
    rw [if_neg w3] at K1
    by_cases w4 : w = 4
    · rw [if_pos w4] at K1
      refine go_table hq66 k66_22 hw (Or.inr (Or.inr (by rw [w4]; decide))) (tgt := 92) (by rw [w4]; decide) ?_
      simp (disch := omega) only [g66_0, g66_1, g66_2, g66_8, g66_11, g66_13, g66_14, g66_15, g66_21, g66_56, g66_57, g66_60, g66_64, g66_65, g66_66, g66_69, g66_73, g66_74, g66_75, g66_78, g66_82, g66_83, g66_84, g66_87, g66_91, g66_92, g66_93, g66_96, g66_100, g66_101, g66_103, Option.toList_some, Option.toList_none, List.cons_append, List.nil_append, true_and, and_true, true_or, or_true, eq_self, ci0, ci1, cin6, forall_const, not_true_eq_false, not_false_eq_true, fimp, timp, i10, i01, cm_rne, and_assoc, x0, q1]
      refine c66_97 (by decide) ks (p_movedAt xk hv.1 fo.2.2 h1 ?_)
      simp (disch := omega) only [g66_0, g66_1, g66_2, g66_8, g66_11, g66_13, g66_14, g66_15, g66_21, g66_56, g66_57, g66_60, g66_64, g66_65, g66_66, g66_69, g66_73, g66_74, g66_75, g66_78, g66_82, g66_83, g66_84, g66_87, g66_91, g66_92, g66_93, g66_96, g66_100, g66_101, g66_103, Option.toList_some, Option.toList_none, List.cons_append, List.nil_append, true_and, and_true, true_or, or_true, eq_self, ci0, ci1, cin6, forall_const, not_true_eq_false, not_false_eq_true, fimp, timp, i10, i01, cm_rne, and_assoc]
      exact K1
    rw [if_neg w4] at K1
    refine go_table hq66 k66_22 hw (by omega) (tgt := 101) (by rw [cm_tab_d (by omega)]; decide) ?_
    simp (disch := omega) only [g66_0, g66_1, g66_2, g66_8, g66_11, g66_13, g66_14, g66_15, g66_21, g66_56, g66_57, g66_60, g66_64, g66_65, g66_66, g66_69, g66_73, g66_74, g66_75, g66_78, g66_82, g66_83, g66_84, g66_87, g66_91, g66_92, g66_93, g66_96, g66_100, g66_101, g66_103, Option.toList_some, Option.toList_none, List.cons_append, List.nil_append, true_and, and_true, true_or, or_true, eq_self, ci0, ci1, cin6, forall_const, not_true_eq_false, not_false_eq_true, fimp, timp, i10, i01, cm_rne, and_assoc]
    exact K1
  · rw [ite'_n h1] at K
    exact K M hA' fr.rf
theorem p_count (hX : isX G) (hA : rXA M A) (hv : vA A) (hw : cm_in w) (K : ∀ M', rXA M' A → fr M M' 0 81 → Q (some (0, xCount A w)) G M') : Go 67 0 [some (2, 0), some (0, w)] [] G M Q := by
  obtain ⟨x0, ⟨q0, q1, q2, q3, q4, q5, q6⟩, xc, xk, xt, xu, xp, xh, xl⟩ := hX
  have xc' := xc
  obtain ⟨c0, cs, ⟨cf0, cf1, cf2, cf3, cf4⟩, ca0, ca1, ca2, ca3, ca4⟩ := xc
  have ks := xk.2.1
  have hA' := hA
  obtain ⟨b1, b2, b3, b4, b5⟩ := hA
  unfold xCount at K
  simp (disch := omega) only [g67_0, g67_1, g67_7, g67_72, g67_73, g67_76, g67_79, g67_80, g67_81, g67_87, g67_88, g67_89, g67_92, g67_95, g67_96, g67_97, g67_103, g67_104, g67_105, g67_111, g67_112, g67_113, g67_119, g67_120, g67_121, g67_127, g67_128, g67_129, g67_132, g67_135, g67_136, g67_137, g67_138, g67_139, g67_142, g67_145, g67_146, g67_147, g67_148, g67_149, g67_152, g67_155, g67_156, g67_157, g67_158, g67_159, g67_162, g67_165, g67_166, g67_167, g67_170, g67_173, g67_174, g67_176, Option.toList_some, Option.toList_none, List.cons_append, List.nil_append, true_and, and_true, true_or, or_true, eq_self, ci0, ci1, cin6, forall_const, not_true_eq_false, not_false_eq_true, fimp, timp, i10, i01, cm_rne, and_assoc, x0, q1]
  refine c67_4 (by decide) ks (p_follow xk hv.1 b1 (fun M1 fo g1 f1 => ?_))
  obtain ⟨k1, k2⟩ := rXA_k hA' (f1.wd (by omega) (by omega)) g1
  have K1 := K M1 k1 k2
  obtain ⟨r1, r2, r3⟩ := k1.1
  simp (disch := omega) only [g67_0, g67_1, g67_7, g67_72, g67_73, g67_76, g67_79, g67_80, g67_81, g67_87, g67_88, g67_89, g67_92, g67_95, g67_96, g67_97, g67_103, g67_104, g67_105, g67_111, g67_112, g67_113, g67_119, g67_120, g67_121, g67_127, g67_128, g67_129, g67_132, g67_135, g67_136, g67_137, g67_138, g67_139, g67_142, g67_145, g67_146, g67_147, g67_148, g67_149, g67_152, g67_155, g67_156, g67_157, g67_158, g67_159, g67_162, g67_165, g67_166, g67_167, g67_170, g67_173, g67_174, g67_176, Option.toList_some, Option.toList_none, List.cons_append, List.nil_append, true_and, and_true, true_or, or_true, eq_self, ci0, ci1, cin6, forall_const, not_true_eq_false, not_false_eq_true, fimp, timp, i10, i01, cm_rne, and_assoc]
  by_cases w0 : w = 0
  · rw [if_pos w0] at K1
    refine go_table hq67 k67_8 hw (Or.inr (Or.inr (by rw [w0]; decide))) (tgt := 72) (by rw [w0]; decide) ?_
    simp (disch := omega) only [g67_0, g67_1, g67_7, g67_72, g67_73, g67_76, g67_79, g67_80, g67_81, g67_87, g67_88, g67_89, g67_92, g67_95, g67_96, g67_97, g67_103, g67_104, g67_105, g67_111, g67_112, g67_113, g67_119, g67_120, g67_121, g67_127, g67_128, g67_129, g67_132, g67_135, g67_136, g67_137, g67_138, g67_139, g67_142, g67_145, g67_146, g67_147, g67_148, g67_149, g67_152, g67_155, g67_156, g67_157, g67_158, g67_159, g67_162, g67_165, g67_166, g67_167, g67_170, g67_173, g67_174, g67_176, Option.toList_some, Option.toList_none, List.cons_append, List.nil_append, true_and, and_true, true_or, or_true, eq_self, ci0, ci1, cin6, forall_const, not_true_eq_false, not_false_eq_true, fimp, timp, i10, i01, cm_rne, and_assoc, x0, q0, cs, r1]
    exact K1
  rw [if_neg w0] at K1
  by_cases w1 : w = 1
  · rw [if_pos w1] at K1
    refine go_table hq67 k67_8 hw (Or.inr (Or.inr (by rw [w1]; decide))) (tgt := 80) (by rw [w1]; decide) ?_
    simp (disch := omega) only [g67_0, g67_1, g67_7, g67_72, g67_73, g67_76, g67_79, g67_80, g67_81, g67_87, g67_88, g67_89, g67_92, g67_95, g67_96, g67_97, g67_103, g67_104, g67_105, g67_111, g67_112, g67_113, g67_119, g67_120, g67_121, g67_127, g67_128, g67_129, g67_132, g67_135, g67_136, g67_137, g67_138, g67_139, g67_142, g67_145, g67_146, g67_147, g67_148, g67_149, g67_152, g67_155, g67_156, g67_157, g67_158, g67_159, g67_162, g67_165, g67_166, g67_167, g67_170, g67_173, g67_174, g67_176, Option.toList_some, Option.toList_none, List.cons_append, List.nil_append, true_and, and_true, true_or, or_true, eq_self, ci0, ci1, cin6, forall_const, not_true_eq_false, not_false_eq_true, fimp, timp, i10, i01, cm_rne, and_assoc, x0, q0]
    refine c67_84 (by decide) cs (p_namesInAll xc' k1.1 hv.1 ?_)
    simp (disch := omega) only [g67_0, g67_1, g67_7, g67_72, g67_73, g67_76, g67_79, g67_80, g67_81, g67_87, g67_88, g67_89, g67_92, g67_95, g67_96, g67_97, g67_103, g67_104, g67_105, g67_111, g67_112, g67_113, g67_119, g67_120, g67_121, g67_127, g67_128, g67_129, g67_132, g67_135, g67_136, g67_137, g67_138, g67_139, g67_142, g67_145, g67_146, g67_147, g67_148, g67_149, g67_152, g67_155, g67_156, g67_157, g67_158, g67_159, g67_162, g67_165, g67_166, g67_167, g67_170, g67_173, g67_174, g67_176, Option.toList_some, Option.toList_none, List.cons_append, List.nil_append, true_and, and_true, true_or, or_true, eq_self, ci0, ci1, cin6, forall_const, not_true_eq_false, not_false_eq_true, fimp, timp, i10, i01, cm_rne, and_assoc]
    exact K1
  rw [if_neg w1] at K1
  by_cases w2 : w = 2
  · rw [if_pos w2] at K1
    refine go_table hq67 k67_8 hw (Or.inr (Or.inr (by rw [w2]; decide))) (tgt := 88) (by rw [w2]; decide) ?_
    simp (disch := omega) only [g67_0, g67_1, g67_7, g67_72, g67_73, g67_76, g67_79, g67_80, g67_81, g67_87, g67_88, g67_89, g67_92, g67_95, g67_96, g67_97, g67_103, g67_104, g67_105, g67_111, g67_112, g67_113, g67_119, g67_120, g67_121, g67_127, g67_128, g67_129, g67_132, g67_135, g67_136, g67_137, g67_138, g67_139, g67_142, g67_145, g67_146, g67_147, g67_148, g67_149, g67_152, g67_155, g67_156, g67_157, g67_158, g67_159, g67_162, g67_165, g67_166, g67_167, g67_170, g67_173, g67_174, g67_176, Option.toList_some, Option.toList_none, List.cons_append, List.nil_append, true_and, and_true, true_or, or_true, eq_self, ci0, ci1, cin6, forall_const, not_true_eq_false, not_false_eq_true, fimp, timp, i10, i01, cm_rne, and_assoc, x0, q1, ks, fo.2.1]
    exact K1
  rw [if_neg w2] at K1
  by_cases w3 : w = 3
  · rw [if_pos w3] at K1
    refine go_table hq67 k67_8 hw (Or.inr (Or.inr (by rw [w3]; decide))) (tgt := 96) (by rw [w3]; decide) ?_
    simp (disch := omega) only [g67_0, g67_1, g67_7, g67_72, g67_73, g67_76, g67_79, g67_80, g67_81, g67_87, g67_88, g67_89, g67_92, g67_95, g67_96, g67_97, g67_103, g67_104, g67_105, g67_111, g67_112, g67_113, g67_119, g67_120, g67_121, g67_127, g67_128, g67_129, g67_132, g67_135, g67_136, g67_137, g67_138, g67_139, g67_142, g67_145, g67_146, g67_147, g67_148, g67_149, g67_152, g67_155, g67_156, g67_157, g67_158, g67_159, g67_162, g67_165, g67_166, g67_167, g67_170, g67_173, g67_174, g67_176, Option.toList_some, Option.toList_none, List.cons_append, List.nil_append, true_and, and_true, true_or, or_true, eq_self, ci0, ci1, cin6, forall_const, not_true_eq_false, not_false_eq_true, fimp, timp, i10, i01, cm_rne, and_assoc, x0, q1]
    refine c67_100 (by decide) ks (p_ticksInAll xk hv.1 k1.1 fo ?_)
    simp (disch := omega) only [g67_0, g67_1, g67_7, g67_72, g67_73, g67_76, g67_79, g67_80, g67_81, g67_87, g67_88, g67_89, g67_92, g67_95, g67_96, g67_97, g67_103, g67_104, g67_105, g67_111, g67_112, g67_113, g67_119, g67_120, g67_121, g67_127, g67_128, g67_129, g67_132, g67_135, g67_136, g67_137, g67_138, g67_139, g67_142, g67_145, g67_146, g67_147, g67_148, g67_149, g67_152, g67_155, g67_156, g67_157, g67_158, g67_159, g67_162, g67_165, g67_166, g67_167, g67_170, g67_173, g67_174, g67_176, Option.toList_some, Option.toList_none, List.cons_append, List.nil_append, true_and, and_true, true_or, or_true, eq_self, ci0, ci1, cin6, forall_const, not_true_eq_false, not_false_eq_true, fimp, timp, i10, i01, cm_rne, and_assoc]
    exact K1
  rw [if_neg w3] at K1
  by_cases w4 : w = 4
  · rw [if_pos w4] at K1
    refine go_table hq67 k67_8 hw (Or.inr (Or.inr (by rw [w4]; decide))) (tgt := 104) (by rw [w4]; decide) ?_
    simp (disch := omega) only [g67_0, g67_1, g67_7, g67_72, g67_73, g67_76, g67_79, g67_80, g67_81, g67_87, g67_88, g67_89, g67_92, g67_95, g67_96, g67_97, g67_103, g67_104, g67_105, g67_111, g67_112, g67_113, g67_119, g67_120, g67_121, g67_127, g67_128, g67_129, g67_132, g67_135, g67_136, g67_137, g67_138, g67_139, g67_142, g67_145, g67_146, g67_147, g67_148, g67_149, g67_152, g67_155, g67_156, g67_157, g67_158, g67_159, g67_162, g67_165, g67_166, g67_167, g67_170, g67_173, g67_174, g67_176, Option.toList_some, Option.toList_none, List.cons_append, List.nil_append, true_and, and_true, true_or, or_true, eq_self, ci0, ci1, cin6, forall_const, not_true_eq_false, not_false_eq_true, fimp, timp, i10, i01, cm_rne, and_assoc, x0, q1]
    refine c67_108 (by decide) ks (p_unequalGroups xk hv.1 k1.1 fo ?_)
    simp (disch := omega) only [g67_0, g67_1, g67_7, g67_72, g67_73, g67_76, g67_79, g67_80, g67_81, g67_87, g67_88, g67_89, g67_92, g67_95, g67_96, g67_97, g67_103, g67_104, g67_105, g67_111, g67_112, g67_113, g67_119, g67_120, g67_121, g67_127, g67_128, g67_129, g67_132, g67_135, g67_136, g67_137, g67_138, g67_139, g67_142, g67_145, g67_146, g67_147, g67_148, g67_149, g67_152, g67_155, g67_156, g67_157, g67_158, g67_159, g67_162, g67_165, g67_166, g67_167, g67_170, g67_173, g67_174, g67_176, Option.toList_some, Option.toList_none, List.cons_append, List.nil_append, true_and, and_true, true_or, or_true, eq_self, ci0, ci1, cin6, forall_const, not_true_eq_false, not_false_eq_true, fimp, timp, i10, i01, cm_rne, and_assoc]
    exact K1
  rw [if_neg w4] at K1
  by_cases w5 : w = 5
  · rw [if_pos w5] at K1
    refine go_table hq67 k67_8 hw (Or.inr (Or.inr (by rw [w5]; decide))) (tgt := 112) (by rw [w5]; decide) ?_
    simp (disch := omega) only [g67_0, g67_1, g67_7, g67_72, g67_73, g67_76, g67_79, g67_80, g67_81, g67_87, g67_88, g67_89, g67_92, g67_95, g67_96, g67_97, g67_103, g67_104, g67_105, g67_111, g67_112, g67_113, g67_119, g67_120, g67_121, g67_127, g67_128, g67_129, g67_132, g67_135, g67_136, g67_137, g67_138, g67_139, g67_142, g67_145, g67_146, g67_147, g67_148, g67_149, g67_152, g67_155, g67_156, g67_157, g67_158, g67_159, g67_162, g67_165, g67_166, g67_167, g67_170, g67_173, g67_174, g67_176, Option.toList_some, Option.toList_none, List.cons_append, List.nil_append, true_and, and_true, true_or, or_true, eq_self, ci0, ci1, cin6, forall_const, not_true_eq_false, not_false_eq_true, fimp, timp, i10, i01, cm_rne, and_assoc, x0, q0]
    refine c67_116 (by decide) cs (p_cuesInAll xc' k1.1 hv.1 ?_)
    simp (disch := omega) only [g67_0, g67_1, g67_7, g67_72, g67_73, g67_76, g67_79, g67_80, g67_81, g67_87, g67_88, g67_89, g67_92, g67_95, g67_96, g67_97, g67_103, g67_104, g67_105, g67_111, g67_112, g67_113, g67_119, g67_120, g67_121, g67_127, g67_128, g67_129, g67_132, g67_135, g67_136, g67_137, g67_138, g67_139, g67_142, g67_145, g67_146, g67_147, g67_148, g67_149, g67_152, g67_155, g67_156, g67_157, g67_158, g67_159, g67_162, g67_165, g67_166, g67_167, g67_170, g67_173, g67_174, g67_176, Option.toList_some, Option.toList_none, List.cons_append, List.nil_append, true_and, and_true, true_or, or_true, eq_self, ci0, ci1, cin6, forall_const, not_true_eq_false, not_false_eq_true, fimp, timp, i10, i01, cm_rne, and_assoc]
    exact K1
  rw [if_neg w5] at K1
  by_cases w6 : w = 6
  · rw [if_pos w6] at K1
    refine go_table hq67 k67_8 hw (Or.inr (Or.inr (by rw [w6]; decide))) (tgt := 120) (by rw [w6]; decide) ?_
    simp (disch := omega) only [g67_0, g67_1, g67_7, g67_72, g67_73, g67_76, g67_79, g67_80, g67_81, g67_87, g67_88, g67_89, g67_92, g67_95, g67_96, g67_97, g67_103, g67_104, g67_105, g67_111, g67_112, g67_113, g67_119, g67_120, g67_121, g67_127, g67_128, g67_129, g67_132, g67_135, g67_136, g67_137, g67_138, g67_139, g67_142, g67_145, g67_146, g67_147, g67_148, g67_149, g67_152, g67_155, g67_156, g67_157, g67_158, g67_159, g67_162, g67_165, g67_166, g67_167, g67_170, g67_173, g67_174, g67_176, Option.toList_some, Option.toList_none, List.cons_append, List.nil_append, true_and, and_true, true_or, or_true, eq_self, ci0, ci1, cin6, forall_const, not_true_eq_false, not_false_eq_true, fimp, timp, i10, i01, cm_rne, and_assoc, x0, q1]
    refine c67_124 (by decide) ks (p_neverSeenNames xk hv.1 k1.1 fo ?_)
    simp (disch := omega) only [g67_0, g67_1, g67_7, g67_72, g67_73, g67_76, g67_79, g67_80, g67_81, g67_87, g67_88, g67_89, g67_92, g67_95, g67_96, g67_97, g67_103, g67_104, g67_105, g67_111, g67_112, g67_113, g67_119, g67_120, g67_121, g67_127, g67_128, g67_129, g67_132, g67_135, g67_136, g67_137, g67_138, g67_139, g67_142, g67_145, g67_146, g67_147, g67_148, g67_149, g67_152, g67_155, g67_156, g67_157, g67_158, g67_159, g67_162, g67_165, g67_166, g67_167, g67_170, g67_173, g67_174, g67_176, Option.toList_some, Option.toList_none, List.cons_append, List.nil_append, true_and, and_true, true_or, or_true, eq_self, ci0, ci1, cin6, forall_const, not_true_eq_false, not_false_eq_true, fimp, timp, i10, i01, cm_rne, and_assoc]
    exact K1
  rw [if_neg w6] at K1
  by_cases w7 : w = 7
  · rw [if_pos w7] at K1
    refine go_table hq67 k67_8 hw (Or.inr (Or.inr (by rw [w7]; decide))) (tgt := 128) (by rw [w7]; decide) ?_
    simp (disch := omega) only [g67_0, g67_1, g67_7, g67_72, g67_73, g67_76, g67_79, g67_80, g67_81, g67_87, g67_88, g67_89, g67_92, g67_95, g67_96, g67_97, g67_103, g67_104, g67_105, g67_111, g67_112, g67_113, g67_119, g67_120, g67_121, g67_127, g67_128, g67_129, g67_132, g67_135, g67_136, g67_137, g67_138, g67_139, g67_142, g67_145, g67_146, g67_147, g67_148, g67_149, g67_152, g67_155, g67_156, g67_157, g67_158, g67_159, g67_162, g67_165, g67_166, g67_167, g67_170, g67_173, g67_174, g67_176, Option.toList_some, Option.toList_none, List.cons_append, List.nil_append, true_and, and_true, true_or, or_true, eq_self, ci0, ci1, cin6, forall_const, not_true_eq_false, not_false_eq_true, fimp, timp, i10, i01, cm_rne, and_assoc, x0, q0, cs, cf0, ca0, r2 0 (by decide) (by decide)]
    (repeat' apply And.intro) <;> (try omega) <;> (try (intro hx; exfalso; omega))
  rw [if_neg w7] at K1
  by_cases w8 : w = 8
  · rw [if_pos w8] at K1
    refine go_table hq67 k67_8 hw (Or.inr (Or.inr (by rw [w8]; decide))) (tgt := 138) (by rw [w8]; decide) ?_
    simp (disch := omega) only [g67_0, g67_1, g67_7, g67_72, g67_73, g67_76, g67_79, g67_80, g67_81, g67_87, g67_88, g67_89, g67_92, g67_95, g67_96, g67_97, g67_103, g67_104, g67_105, g67_111, g67_112, g67_113, g67_119, g67_120, g67_121, g67_127, g67_128, g67_129, g67_132, g67_135, g67_136, g67_137, g67_138, g67_139, g67_142, g67_145, g67_146, g67_147, g67_148, g67_149, g67_152, g67_155, g67_156, g67_157, g67_158, g67_159, g67_162, g67_165, g67_166, g67_167, g67_170, g67_173, g67_174, g67_176, Option.toList_some, Option.toList_none, List.cons_append, List.nil_append, true_and, and_true, true_or, or_true, eq_self, ci0, ci1, cin6, forall_const, not_true_eq_false, not_false_eq_true, fimp, timp, i10, i01, cm_rne, and_assoc, x0, q0, cs, cf0, ca0, r2 1 (by decide) (by decide)]
    (repeat' apply And.intro) <;> (try omega) <;> (try (intro hx; exfalso; omega))
  rw [if_neg w8] at K1
  by_cases w9 : w = 9
  · rw [if_pos w9] at K1
    refine go_table hq67 k67_8 hw (Or.inr (Or.inr (by rw [w9]; decide))) (tgt := 148) (by rw [w9]; decide) ?_
    simp (disch := omega) only [g67_0, g67_1, g67_7, g67_72, g67_73, g67_76, g67_79, g67_80, g67_81, g67_87, g67_88, g67_89, g67_92, g67_95, g67_96, g67_97, g67_103, g67_104, g67_105, g67_111, g67_112, g67_113, g67_119, g67_120, g67_121, g67_127, g67_128, g67_129, g67_132, g67_135, g67_136, g67_137, g67_138, g67_139, g67_142, g67_145, g67_146, g67_147, g67_148, g67_149, g67_152, g67_155, g67_156, g67_157, g67_158, g67_159, g67_162, g67_165, g67_166, g67_167, g67_170, g67_173, g67_174, g67_176, Option.toList_some, Option.toList_none, List.cons_append, List.nil_append, true_and, and_true, true_or, or_true, eq_self, ci0, ci1, cin6, forall_const, not_true_eq_false, not_false_eq_true, fimp, timp, i10, i01, cm_rne, and_assoc, x0, q0, cs, cf0, ca0, r2 2 (by decide) (by decide)]
    (repeat' apply And.intro) <;> (try omega) <;> (try (intro hx; exfalso; omega))
  rw [if_neg w9] at K1
  by_cases w10 : w = 10
  · rw [if_pos w10] at K1
    refine go_table hq67 k67_8 hw (Or.inr (Or.inr (by rw [w10]; decide))) (tgt := 158) (by rw [w10]; decide) ?_
    simp (disch := omega) only [g67_0, g67_1, g67_7, g67_72, g67_73, g67_76, g67_79, g67_80, g67_81, g67_87, g67_88, g67_89, g67_92, g67_95, g67_96, g67_97, g67_103, g67_104, g67_105, g67_111, g67_112, g67_113, g67_119, g67_120, g67_121, g67_127, g67_128, g67_129, g67_132, g67_135, g67_136, g67_137, g67_138, g67_139, g67_142, g67_145, g67_146, g67_147, g67_148, g67_149, g67_152, g67_155, g67_156, g67_157, g67_158, g67_159, g67_162, g67_165, g67_166, g67_167, g67_170, g67_173, g67_174, g67_176, Option.toList_some, Option.toList_none, List.cons_append, List.nil_append, true_and, and_true, true_or, or_true, eq_self, ci0, ci1, cin6, forall_const, not_true_eq_false, not_false_eq_true, fimp, timp, i10, i01, cm_rne, and_assoc, x0, q4, xp.1, k1.2.2.2.1]
    exact K1
  rw [if_neg w10] at K1
  by_cases w11 : w = 11
  · rw [if_pos w11] at K1
    refine go_table hq67 k67_8 hw (Or.inr (Or.inr (by rw [w11]; decide))) (tgt := 166) (by rw [w11]; decide) ?_
    simp (disch := omega) only [g67_0, g67_1, g67_7, g67_72, g67_73, g67_76, g67_79, g67_80, g67_81, g67_87, g67_88, g67_89, g67_92, g67_95, g67_96, g67_97, g67_103, g67_104, g67_105, g67_111, g67_112, g67_113, g67_119, g67_120, g67_121, g67_127, g67_128, g67_129, g67_132, g67_135, g67_136, g67_137, g67_138, g67_139, g67_142, g67_145, g67_146, g67_147, g67_148, g67_149, g67_152, g67_155, g67_156, g67_157, g67_158, g67_159, g67_162, g67_165, g67_166, g67_167, g67_170, g67_173, g67_174, g67_176, Option.toList_some, Option.toList_none, List.cons_append, List.nil_append, true_and, and_true, true_or, or_true, eq_self, ci0, ci1, cin6, forall_const, not_true_eq_false, not_false_eq_true, fimp, timp, i10, i01, cm_rne, and_assoc, x0, q5, xh.1, k1.2.1.1]
    exact K1
  rw [if_neg w11] at K1
  refine go_table hq67 k67_8 hw (by omega) (tgt := 174) (by rw [cm_tab_d (by omega)]; decide) ?_
  simp (disch := omega) only [g67_0, g67_1, g67_7, g67_72, g67_73, g67_76, g67_79, g67_80, g67_81, g67_87, g67_88, g67_89, g67_92, g67_95, g67_96, g67_97, g67_103, g67_104, g67_105, g67_111, g67_112, g67_113, g67_119, g67_120, g67_121, g67_127, g67_128, g67_129, g67_132, g67_135, g67_136, g67_137, g67_138, g67_139, g67_142, g67_145, g67_146, g67_147, g67_148, g67_149, g67_152, g67_155, g67_156, g67_157, g67_158, g67_159, g67_162, g67_165, g67_166, g67_167, g67_170, g67_173, g67_174, g67_176, Option.toList_some, Option.toList_none, List.cons_append, List.nil_append, true_and, and_true, true_or, or_true, eq_self, ci0, ci1, cin6, forall_const, not_true_eq_false, not_false_eq_true, fimp, timp, i10, i01, cm_rne, and_assoc]
  exact K1
end CLASS3
