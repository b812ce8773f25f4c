/-! ===== THE SMALL MACHINE IS SOUND ===== -/
section SOUND
variable {l : Launch} {D : va_G} {cA : Nat → ClassId} {B : Int → Nat} {base : Nat} {ro : Int → Int → Int}
def cm_Rs (l : Launch) (D : va_G) (cA : Nat → ClassId) (B : Int → Nat) (base : Nat) (ro : Int → Int → Int) (q : cm_MI) (pc : Nat) (ls : List (Option cm_V)) (st : List cm_V) (G : cm_G) (M : cm_M) (r : Option cm_V) (G' : cm_G) (M' : cm_M) : Prop :=
  cm_Ro ro M → cm_Wf G → (∃ D1, G'.1 = G.1 ++ D1) ∧ cm_Ro ro M' ∧ cm_Wf G' ∧ cm_WW l D cA B base ro q pc ls st G M r G' M'
theorem cm_grow {G G' : cm_G} (h : ∃ D1, G'.1 = G.1 ++ D1) : G.1.length ≤ G'.1.length ∧ cm_sl G ≤ cm_sl G' := by
  obtain ⟨D1, h⟩ := h
  unfold cm_sl
  rw [h, List.length_append, List.map_append, List.sum_append]
  exact ⟨Nat.le_add_right _ _, Nat.le_add_right _ _⟩
variable {q : cm_MI} {pc : Nat} {ls : List (Option cm_V)} {st : List cm_V} {G : cm_G} {M : cm_M} {r : Option cm_V} {G' : cm_G} {M' : cm_M}
theorem cm_Rs.gen {q2 : cm_MI} {pc2 : Nat} {ls2 : List (Option cm_V)} {st2 : List cm_V} {G1 : cm_G} {M1 : cm_M} (K : cm_Rs l D cA B base ro q2 pc2 ls2 st2 G1 M1 r G' M') (hro : cm_Ro ro M → cm_Ro ro M1) (hwf : cm_Wf G → cm_Wf G1) (hpre : ∃ D1, G1.1 = G.1 ++ D1)
    (h : cm_Ro ro M → cm_Wf G → (G1.1.length ≤ G'.1.length ∧ cm_sl G1 ≤ cm_sl G') → cm_WW l D cA B base ro q2 pc2 ls2 st2 G1 M1 r G' M' → cm_WW l D cA B base ro q pc ls st G M r G' M') : cm_Rs l D cA B base ro q pc ls st G M r G' M' := by
  intro h1 h2
  obtain ⟨⟨D2, k1⟩, k2, k3, k4⟩ := K (hro h1) (hwf h2)
  obtain ⟨D1, k0⟩ := hpre
  exact ⟨⟨D1 ++ D2, by rw [k1, k0, List.append_assoc]⟩, k2, k3, h h1 h2 (cm_grow ⟨D2, k1⟩) k4⟩
theorem cm_Rs.same {pc2 : Nat} {ls2 : List (Option cm_V)} {st2 : List cm_V} (K : cm_Rs l D cA B base ro q pc2 ls2 st2 G M r G' M')
    (h : cm_Ro ro M → cm_Wf G → (G.1.length ≤ G'.1.length ∧ cm_sl G ≤ cm_sl G') → cm_WW l D cA B base ro q pc2 ls2 st2 G M r G' M' → cm_WW l D cA B base ro q pc ls st G M r G' M') : cm_Rs l D cA B base ro q pc ls st G M r G' M' :=
  cm_Rs.gen K id id ⟨[], (List.append_nil _).symm⟩ h
theorem cm_Ro.up {k j v : Int} (hk : 0 ≤ k) (h : cm_Ro ro M) : cm_Ro ro (cm_up M k j v) := fun a ha b => by rw [cm_up_n _ (Or.inl (by omega))]; exact h a ha b
theorem cm_Ro.row {k v : Int} (hk : 0 ≤ k) (h : cm_Ro ro M) : cm_Ro ro (cm_row M k v) := fun a ha b => by rw [cm_row_n _ (by omega)]; exact h a ha b
theorem cm_Ro.cpy {k1 sp k2 dp n : Int} (hk : 0 ≤ k2) (h : cm_Ro ro M) : cm_Ro ro (cm_cpy M k1 sp k2 dp n) := fun a ha b => by unfold cm_cpy; rw [if_neg (by omega)]; exact h a ha b
theorem cm_Wf.push {e : Nat × Nat} {f : Int → Int → Int} (he : e.2 < 2 ^ 31) (h : cm_Wf G) : cm_Wf (G.1 ++ [e], f) := fun x hx => by
  rcases List.mem_append.mp hx with h1 | h1
  · exact h x h1
  · rw [List.mem_singleton.mp h1]; exact he
theorem cm_rc_of {q' : cm_MI} {n : Nat} (hn : n = (cm_tg q').length) (h : cm_rcb G q' st = true) : ∃ k, st[n - 1]? = some (2, k) ∧ cm_sh G k = some (0, cm_ci q') := by
  subst hn
  unfold cm_rcb at h
  split at h
  · rename_i k hk
    exact ⟨k, hk, of_decide_eq_true h⟩
  · cases h
theorem cm_split {n : Nat} {k : Int} (hn : 0 < n) (h : st[n - 1]? = some (2, k)) : (st.take n).reverse = (2, k) :: (st.take (n - 1)).reverse ∧ st = ((st.take (n - 1)).reverse).reverse ++ (2, k) :: st.drop n := by
  obtain ⟨n, rfl⟩ : ∃ m, n = m + 1 := ⟨n - 1, by omega⟩
  rw [Nat.add_sub_cancel] at h ⊢
  have hlt : n < st.length := (List.getElem?_eq_some_iff.mp h).1
  have e1 : st.take (n + 1) = st.take n ++ [(2, k)] := by rw [List.take_add_one, h]; rfl
  refine ⟨by rw [e1]; simp, ?_⟩
  rw [List.reverse_reverse]
  conv => lhs; rw [← List.take_append_drop (n + 1) st]
  rw [e1]
  simp
/-- what a run of n rounds says -/
def cm_IH (l : Launch) (D : va_G) (cA : Nat → ClassId) (B : Int → Nat) (base : Nat) (ro : Int → Int → Int) (f : cm_K) : Prop := ∀ (μ : Nat) (q : cm_Q) (pc : Nat) (ls : List (Option cm_V)) (st : List cm_V) (G : cm_G) (M : cm_M) (r : Option cm_V) (G' : cm_G) (M' : cm_M), cm_P[μ]? = some q → f μ pc ls st G M = some (r, G', M') → cm_Rs l D cA B base ro q.1 pc ls st G M r G' M'
/-- a call in the small machine -/
theorem cm_cl_of {f : cm_K} {n : Nat} {q' : cm_MI} {k : Option cm_V → List cm_V → cm_G → cm_M → Option cm_R} {R : cm_R} (h : cm_cl f n q' st G M k = some R) :
    (((st.take (cm_tg q').length).reverse).map (fun v => v.1) = cm_tg q' ∧ cm_sum (st.drop (cm_tg q').length) ≤ 8 ∧ cm_sum ((st.take (cm_tg q').length).reverse) ≤ cm_ml q') ∧ ∃ v G1 M1, f n 0 (cm_ent (cm_ml q') ((st.take (cm_tg q').length).reverse)) [] G M = some (v, G1, M1) ∧ k v (st.drop (cm_tg q').length) G1 M1 = some R := by
  unfold cm_cl at h
  simp only at h
  split at h
  · rename_i hg
    refine ⟨hg, ?_⟩
    split at h
    · rename_i v G1 M1 hv
      exact ⟨v, G1, M1, hv, h⟩
    · cases h
  · cases h
theorem cm_tgt {pc : Nat} {off : Int} (h : 0 ≤ (pc : Int) + off) : (pc : Int) + off = (((pc : Int) + off).toNat : Nat) := by omega
theorem cm_do_sound (hB : cm_B B base) {f : cm_K} (IH : cm_IH l D cA B base ro f) {μ : Nat} {q : cm_Q} {i : Instr × Nat} (hq : cm_P[μ]? = some q) (hd : decode q.1.2.1 pc = .ok i) (hrk : cm_rk q.1 i.1 = true) (h : cm_do f μ q.1 i pc ls st G M = some (r, G', M')) : cm_Rs l D cA B base ro q.1 pc ls st G M r G' M' := by
  unfold cm_do at h
  split at h
  · exact (IH _ _ _ _ _ _ _ _ _ _ hq h).same (fun _ _ _ K => cs_iconst hd K)
  · split at h
    · rename_i hg
      exact (IH _ _ _ _ _ _ _ _ _ _ hq h).same (fun _ _ _ K => cs_bipush hg hd K)
    · cases h
  · split at h
    · rename_i hg
      exact (IH _ _ _ _ _ _ _ _ _ _ hq h).same (fun _ _ _ K => cs_sipush hg hd K)
    · cases h
  · exact (IH _ _ _ _ _ _ _ _ _ _ hq h).same (fun _ _ _ K => cs_lconst hd K)
  · split at h
    · rename_i v hv
      exact (IH _ _ _ _ _ _ _ _ _ _ hq h).same (fun _ _ _ K => cs_ldc2 hv hd K)
    · cases h
  · split at h
    · rename_i v hv
      exact (IH _ _ _ _ _ _ _ _ _ _ hq h).same (fun _ _ _ K => cs_ldc hv hd K)
    · cases h
  -- loads
  · unfold cm_ld at h
    split at h
    · rename_i v hv
      split at h
      · rename_i hg
        obtain ⟨t, x⟩ := v
        have ht := hg
        simp only at ht
        subst ht
        exact (IH _ _ _ _ _ _ _ _ _ _ hq h).same (fun _ _ _ K => cs_iload_n hv hd K)
      · cases h
    · cases h
  · unfold cm_ld at h
    split at h
    · rename_i v hv
      split at h
      · rename_i hg
        obtain ⟨t, x⟩ := v
        have ht := hg
        simp only at ht
        subst ht
        exact (IH _ _ _ _ _ _ _ _ _ _ hq h).same (fun _ _ _ K => cs_iload hv hd K)
      · cases h
    · cases h
  · unfold cm_ld at h
    split at h
    · rename_i v hv
      split at h
      · rename_i hg
        obtain ⟨t, x⟩ := v
        have ht := hg
        simp only at ht
        subst ht
        exact (IH _ _ _ _ _ _ _ _ _ _ hq h).same (fun _ _ _ K => cs_lload_n hv hd K)
      · cases h
    · cases h
  · unfold cm_ld at h
    split at h
    · rename_i v hv
      split at h
      · rename_i hg
        obtain ⟨t, x⟩ := v
        have ht := hg
        simp only at ht
        subst ht
        exact (IH _ _ _ _ _ _ _ _ _ _ hq h).same (fun _ _ _ K => cs_lload hv hd K)
      · cases h
    · cases h
  · unfold cm_ld at h
    split at h
    · rename_i v hv
      split at h
      · rename_i hg
        obtain ⟨t, x⟩ := v
        have ht := hg
        simp only at ht
        subst ht
        exact (IH _ _ _ _ _ _ _ _ _ _ hq h).same (fun _ _ _ K => cs_aload_n hv hd K)
      · cases h
    · cases h
  · unfold cm_ld at h
    split at h
    · rename_i v hv
      split at h
      · rename_i hg
        obtain ⟨t, x⟩ := v
        have ht := hg
        simp only at ht
        subst ht
        exact (IH _ _ _ _ _ _ _ _ _ _ hq h).same (fun _ _ _ K => cs_aload hv hd K)
      · cases h
    · cases h
  -- stores
  · unfold cm_st at h
    split at h
    · rename_i v st'
      split at h
      · rename_i hg
        obtain ⟨t, x⟩ := v
        obtain ⟨ht, h1, h2, -, -⟩ := hg
        simp only at ht
        subst ht
        exact (IH _ _ _ _ _ _ _ _ _ _ hq h).same (fun _ _ _ K => cs_istore_n h1 h2 hd K)
      · cases h
    · cases h
  · unfold cm_st at h
    split at h
    · rename_i v st'
      split at h
      · rename_i hg
        obtain ⟨t, x⟩ := v
        obtain ⟨ht, h1, h2, -, -⟩ := hg
        simp only at ht
        subst ht
        exact (IH _ _ _ _ _ _ _ _ _ _ hq h).same (fun _ _ _ K => cs_istore h1 h2 hd K)
      · cases h
    · cases h
  · unfold cm_st at h
    split at h
    · rename_i v st'
      split at h
      · rename_i hg
        obtain ⟨t, x⟩ := v
        obtain ⟨ht, h1, h2, -, hx⟩ := hg
        simp only at ht hx
        subst ht
        exact (IH _ _ _ _ _ _ _ _ _ _ hq h).same (fun _ _ _ K => cs_astore_n (hx trivial) h1 h2 hd K)
      · cases h
    · cases h
  · unfold cm_st at h
    split at h
    · rename_i v st'
      split at h
      · rename_i hg
        obtain ⟨t, x⟩ := v
        obtain ⟨ht, h1, h2, -, hx⟩ := hg
        simp only at ht hx
        subst ht
        exact (IH _ _ _ _ _ _ _ _ _ _ hq h).same (fun _ _ _ K => cs_astore (hx trivial) h1 h2 hd K)
      · cases h
    · cases h
  · unfold cm_lst at h
    split at h
    · split at h
      · rename_i hg
        exact (IH _ _ _ _ _ _ _ _ _ _ hq h).same (fun _ _ _ K => cs_lstore hg.1 hg.2.1 hg.2.2.1 hd K)
      · cases h
    · cases h
  · split at h
    · rename_i x hx
      split at h
      · rename_i hg
        exact (IH _ _ _ _ _ _ _ _ _ _ hq h).same (fun _ _ _ K => cs_iinc hx hg.1 hd K)
      · cases h
    · cases h
  -- arithmetic
  · unfold cm_ari at h
    split at h
    · exact (IH _ _ _ _ _ _ _ _ _ _ hq h).same (fun _ _ _ K => cs_iadd hd K)
    · cases h
  · unfold cm_ari at h
    split at h
    · exact (IH _ _ _ _ _ _ _ _ _ _ hq h).same (fun _ _ _ K => cs_isub hd K)
    · cases h
  · unfold cm_ari at h
    split at h
    · exact (IH _ _ _ _ _ _ _ _ _ _ hq h).same (fun _ _ _ K => cs_imul hd K)
    · cases h
  · unfold cm_ari at h
    split at h
    · exact (IH _ _ _ _ _ _ _ _ _ _ hq h).same (fun _ _ _ K => cs_iand hd K)
    · cases h
  · unfold cm_ari at h
    split at h
    · exact (IH _ _ _ _ _ _ _ _ _ _ hq h).same (fun _ _ _ K => cs_ishr hd K)
    · cases h
  · unfold cm_div at h
    split at h
    · split at h
      · rename_i hg
        exact (IH _ _ _ _ _ _ _ _ _ _ hq h).same (fun _ _ _ K => cs_idiv hg.1 hg.2.1 hg.2.2 hd K)
      · cases h
    · cases h
  · unfold cm_div at h
    split at h
    · split at h
      · rename_i hg
        exact (IH _ _ _ _ _ _ _ _ _ _ hq h).same (fun _ _ _ K => cs_irem hg.1 hg.2.1 hg.2.2 hd K)
      · cases h
    · cases h
  · unfold cm_arl at h
    split at h
    · exact (IH _ _ _ _ _ _ _ _ _ _ hq h).same (fun _ _ _ K => cs_land hd K)
    · cases h
  · unfold cm_arl at h
    split at h
    · exact (IH _ _ _ _ _ _ _ _ _ _ hq h).same (fun _ _ _ K => cs_lor hd K)
    · cases h
  · unfold cm_shl at h
    split at h
    · exact (IH _ _ _ _ _ _ _ _ _ _ hq h).same (fun _ _ _ K => cs_lushr hd K)
    · cases h
  · unfold cm_shl at h
    split at h
    · exact (IH _ _ _ _ _ _ _ _ _ _ hq h).same (fun _ _ _ K => cs_lshl hd K)
    · cases h
  · split at h
    · exact (IH _ _ _ _ _ _ _ _ _ _ hq h).same (fun _ _ _ K => cs_l2i hd K)
    · cases h
  · split at h
    · exact (IH _ _ _ _ _ _ _ _ _ _ hq h).same (fun _ _ _ K => cs_i2l hd K)
    · cases h
  · split at h
    · split at h
      · rename_i hg
        exact (IH _ _ _ _ _ _ _ _ _ _ hq h).same (fun _ _ _ K => cs_i2c hg hd K)
      · cases h
    · cases h
  · split at h
    · exact (IH _ _ _ _ _ _ _ _ _ _ hq h).same (fun _ _ _ K => cs_lcmp hd K)
    · cases h
  -- the stack
  · split at h
    · split at h
      · rename_i hg
        exact (IH _ _ _ _ _ _ _ _ _ _ hq h).same (fun _ _ _ K => cs_dup hg hd K)
      · cases h
    · cases h
  · split at h
    · split at h
      · rename_i hg
        exact (IH _ _ _ _ _ _ _ _ _ _ hq h).same (fun _ _ _ K => cs_dup2 hg.1 hg.2 hd K)
      · cases h
    · cases h
  · split at h
    · split at h
      · rename_i hg
        exact (IH _ _ _ _ _ _ _ _ _ _ hq h).same (fun _ _ _ K => cs_pop hg hd K)
      · cases h
    · cases h
  -- jumps
  · unfold cm_go at h
    split at h
    · rename_i hg
      exact (IH _ _ _ _ _ _ _ _ _ _ hq h).same (fun _ _ _ K => cs_goto (cm_tgt hg) hd K)
    · cases h
  · unfold cm_icmp at h
    split at h
    · split at h
      · rename_i hg
        split at h
        · rename_i hc
          exact (IH _ _ _ _ _ _ _ _ _ _ hq h).same (fun _ _ _ K => cs_icmp hg.1 hg.2.1 (cm_tgt hg.2.2) hd (fun _ => K) (fun z => absurd hc z))
        · rename_i hc
          exact (IH _ _ _ _ _ _ _ _ _ _ hq h).same (fun _ _ _ K => cs_icmp hg.1 hg.2.1 (cm_tgt hg.2.2) hd (fun z => absurd z hc) (fun _ => K))
      · cases h
    · cases h
  · unfold cm_if at h
    split at h
    · split at h
      · rename_i hg
        split at h
        · rename_i hc
          exact (IH _ _ _ _ _ _ _ _ _ _ hq h).same (fun _ _ _ K => cs_if hg.1 (cm_tgt hg.2) hd (fun _ => K) (fun z => absurd hc z))
        · rename_i hc
          exact (IH _ _ _ _ _ _ _ _ _ _ hq h).same (fun _ _ _ K => cs_if hg.1 (cm_tgt hg.2) hd (fun z => absurd z hc) (fun _ => K))
      · cases h
    · cases h
  · split at h
    · split at h
      · rename_i hg
        unfold cm_go at h
        split at h
        · rename_i ht
          exact (IH _ _ _ _ _ _ _ _ _ _ hq h).same (fun _ _ _ K => cs_table hg.1 hg.2 (cm_tgt ht) hd K)
        · cases h
      · cases h
    · cases h
  · split at h
    · split at h
      · rename_i hg
        unfold cm_go at h
        split at h
        · rename_i ht
          exact (IH _ _ _ _ _ _ _ _ _ _ hq h).same (fun _ _ _ K => cs_lookup hg.1 hg.2 (cm_tgt ht) hd K)
        · cases h
      · cases h
    · cases h
  -- fields
  · unfold cm_get at h
    split at h
    · rename_i k st' ci j hf
      split at h
      · rename_i hk
        split at h
        · rename_i hfk
          exact (IH _ _ _ _ _ _ _ _ _ _ hq h).same (fun _ _ _ K => cs_get hf hk (Or.inl ⟨hfk, rfl⟩) hd K)
        · rename_i hfk
          exact (IH _ _ _ _ _ _ _ _ _ _ hq h).same (fun _ _ _ K => cs_get hf hk (Or.inr ⟨hfk, rfl⟩) hd K)
        · cases h
      · cases h
    · cases h
  · unfold cm_put at h
    split at h
    · rename_i t v k st' ci j hf
      split at h
      · rename_i hg
        obtain ⟨hk, ht, hfin⟩ := hg
        split at h
        · rename_i ht0
          subst ht0
          exact (IH _ _ _ _ _ _ _ _ _ _ hq h).gen (cm_Ro.up (cm_sh_lt hk).1) id ⟨[], (List.append_nil _).symm⟩ (fun _ _ _ K => cs_put hB hf hk ht hfin (Or.inl ⟨rfl, rfl, rfl⟩) hd K)
        · split at h
          · rename_i ht2
            obtain ⟨rfl, hv⟩ := ht2
            exact (IH _ _ _ _ _ _ _ _ _ _ hq h).gen id (fun hw => hw) ⟨[], (List.append_nil _).symm⟩ (fun _ _ _ K => cs_put hB hf hk ht hfin (Or.inr ⟨rfl, hv, rfl, rfl⟩) hd K)
          · cases h
      · cases h
    · cases h
  · split at h
    · rename_i nst k hf
      exact (IH _ _ _ _ _ _ _ _ _ _ hq h).same (fun _ _ _ K => cs_gets hf hd K)
    · cases h
  -- arrays
  · unfold cm_ald at h
    split at h
    · split at h
      · rename_i hg
        exact (IH _ _ _ _ _ _ _ _ _ _ hq h).same (fun hro hwf _ K => cs_iald hB hro hwf hg hd K)
      · cases h
    · cases h
  · unfold cm_ald at h
    split at h
    · split at h
      · rename_i hg
        exact (IH _ _ _ _ _ _ _ _ _ _ hq h).same (fun hro hwf _ K => cs_cald hwf hg hd K)
      · cases h
    · cases h
  · unfold cm_ald at h
    split at h
    · split at h
      · rename_i hg
        exact (IH _ _ _ _ _ _ _ _ _ _ hq h).same (fun hro hwf _ K => cs_zald hwf hg hd K)
      · cases h
    · cases h
  · unfold cm_ast at h
    split at h
    · split at h
      · rename_i hg
        exact (IH _ _ _ _ _ _ _ _ _ _ hq h).gen (cm_Ro.up hg.1) id ⟨[], (List.append_nil _).symm⟩ (fun _ hwf _ K => cs_iast hB hwf hg.1 ⟨hg.2.1, hg.2.2.1⟩ hd K)
      · cases h
    · cases h
  · unfold cm_ast at h
    split at h
    · split at h
      · rename_i hg
        exact (IH _ _ _ _ _ _ _ _ _ _ hq h).gen (cm_Ro.up hg.1) id ⟨[], (List.append_nil _).symm⟩ (fun _ hwf _ K => cs_cast hB hwf hg.1 ⟨hg.2.1, hg.2.2.1⟩ (of_decide_eq_true hg.2.2.2) hd K)
      · cases h
    · cases h
  · unfold cm_ast at h
    split at h
    · split at h
      · rename_i hg
        exact (IH _ _ _ _ _ _ _ _ _ _ hq h).gen (cm_Ro.up hg.1) id ⟨[], (List.append_nil _).symm⟩ (fun _ hwf _ K => cs_zast hB hwf hg.1 ⟨hg.2.1, hg.2.2.1⟩ (of_decide_eq_true hg.2.2.2) hd K)
      · cases h
    · cases h
  · split at h
    · split at h
      · rename_i hg
        exact (IH _ _ _ _ _ _ _ _ _ _ hq h).same (fun hro hwf _ K => cs_aald hwf hg.1 hg.2 hd K)
      · cases h
    · cases h
  · split at h
    · split at h
      · rename_i hg
        exact (IH _ _ _ _ _ _ _ _ _ _ hq h).gen id (fun hw => hw) ⟨[], (List.append_nil _).symm⟩ (fun _ hwf _ K => cs_aast hB hwf hg.1 ⟨hg.2.1, hg.2.2.1⟩ hg.2.2.2 hd K)
      · cases h
    · cases h
  · split at h
    · split at h
      · rename_i hg
        subst hg
        exact (IH _ _ _ _ _ _ _ _ _ _ hq h).same (fun hro hwf _ K => cs_alen hB hro hd K)
      · cases h
    · cases h
  -- new cells
  · split at h
    · rename_i n st' u hu
      split at h
      · rename_i hg
        refine (IH _ _ _ _ _ _ _ _ _ _ hq h).gen (cm_Ro.row (by omega)) (cm_Wf.push (by show n.toNat < _; omega)) ⟨_, rfl⟩ (fun _ _ hg2 K => cs_newarray hB hu hg ?_ ?_ hd K)
        · have := hg2.1; simp at this; omega
        · have := hg2.2
          rw [cm_sl_app (G := G) rfl] at this
          have hz : cm_sz (u, n.toNat) = n.toNat := by
            cases ‹ArrayType› <;> simp only [cm_ty1, Option.some.injEq, reduceCtorEq] at hu <;> subst hu <;> rfl
          omega
      · cases h
    · cases h
  · split at h
    · rename_i n st' hf
      split at h
      · rename_i hg
        refine (IH _ _ _ _ _ _ _ _ _ _ hq h).gen id (cm_Wf.push (by show n.toNat < _; omega)) ⟨_, rfl⟩ (fun _ _ hg2 K => cs_anewarray hB hf hg ?_ ?_ hd K)
        · have := hg2.1; simp at this; omega
        · have := hg2.2
          rw [cm_sl_app (G := G) rfl] at this
          exact this
      · cases h
    · cases h
  · split at h
    · rename_i ci hf
      refine (IH _ _ _ _ _ _ _ _ _ _ hq h).gen (cm_Ro.row (by omega)) (cm_Wf.push ?_) ⟨_, rfl⟩ (fun _ _ hg2 K => cs_new hB hf ?_ ?_ hd K)
      · have := (cm_cls_ok _ (cm_as_mem hf)).1
        show ci < _
        simp only at this
        omega
      · have := hg2.1; simp at this; omega
      · have := hg2.2
        rw [cm_sl_app (G := G) rfl] at this
        exact this
    · cases h
  -- calls
  · split at h
    · rename_i nst n hf
      split at h
      · rename_i q' hq'
        split at h
        · rename_i hg
          obtain ⟨hkd, hrc⟩ := hg
          obtain ⟨⟨ht, hr8, hs⟩, v, G1, M1, hc, hk2⟩ := cm_cl_of h
          have hn : n < 1000 := by
            have := (List.getElem?_eq_some_iff.mp hq').1
            have hl : cm_P.length = 75 := by decide +kernel
            omega
          obtain ⟨q'', hq'', hok, hl0, hnl⟩ := (cm_call_ok _ (cm_as_mem hf)).1 hn
          cases hq'.symm.trans hq''
          have hnst : nst = 0 := by
            by_cases z : nst = 0
            · exact z
            · exfalso
              have hin3 := hnl z
              simp only [List.mem_cons, Prod.mk.injEq, List.not_mem_nil, or_false] at hin3
              rcases hin3 with ⟨h1, h2, h3⟩ | ⟨h1, h2, h3⟩
              · rw [h3] at hq'
                cases (show cm_P[0]? = some (mi_0, ins_0) from rfl).symm.trans hq'
                cases hkd
              · rw [h3] at hq'
                cases (show cm_P[43]? = some (mi_43, ins_43) from rfl).symm.trans hq'
                cases hkd
          subst hnst
          obtain ⟨k, hk, hsh⟩ := cm_rc_of rfl hrc
          have hpos : 0 < (cm_tg q'.1).length := by
            obtain ⟨tl, htl⟩ := hok.2.2.2.2.2.2.2.2.2.1 (by rw [hkd]; decide)
            rw [htl]; simp
          obtain ⟨e1, e2⟩ := cm_split hpos hk
          rw [e1] at ht hs hc
          have hrk1 : cm_dp q'.1 + 1 ≤ cm_dp q.1 ∧ 8 + (cm_ml q'.1 + 11) + cm_lc q'.1 ≤ cm_lc q.1 := by
            have hz : cm_rk1 q.1 _ = true := hrk
            unfold cm_rk1 at hz
            rw [hf] at hz
            simp only at hz
            rw [if_neg (by omega), if_neg (by omega), if_neg (by omega), hq'] at hz
            exact of_decide_eq_true hz
          intro hro hwf
          obtain ⟨p1, p2, p3, C⟩ := IH _ _ _ _ _ _ _ _ _ _ hq' hc hro hwf
          obtain ⟨r1, r2, r3, K⟩ := IH _ _ _ _ _ _ _ _ _ _ hq hk2 p2 p3
          refine ⟨?_, r2, r3, cs_callV hB hf hq' hn hkd hsh e2 ht hr8 hs hrk1 hd (cm_grow p1) (cm_grow r1) C K⟩
          obtain ⟨D1, p1⟩ := p1
          obtain ⟨D2, r1⟩ := r1
          exact ⟨D1 ++ D2, by rw [r1, p1, List.append_assoc]⟩
        · cases h
      · cases h
    · cases h
  · split at h
    · rename_i nst n hf
      split at h
      · rename_i hn
        subst hn
        split at h
        · split at h
          · rename_i hk
            have hrk1 : 1 ≤ cm_dp q.1 ∧ 12 ≤ cm_lc q.1 := by
              have hz : cm_rk1 q.1 _ = true := hrk
              unfold cm_rk1 at hz
              rw [hf] at hz
              exact of_decide_eq_true hz
            exact (IH _ _ _ _ _ _ _ _ _ _ hq h).same (fun _ _ _ K => cs_objInit hk hf hrk1 hd K)
          · cases h
        · cases h
      · split at h
        · rename_i q' hq'
          split at h
          · rename_i hg
            obtain ⟨hkd, hrc⟩ := hg
            obtain ⟨⟨ht, hr8, hs⟩, v, G1, M1, hc, hk2⟩ := cm_cl_of h
            have hn : n < 1000 := by
              have := (List.getElem?_eq_some_iff.mp hq').1
              have hl : cm_P.length = 75 := by decide +kernel
              omega
            obtain ⟨q'', hq'', hok, hl0, hnl⟩ := (cm_call_ok _ (cm_as_mem hf)).1 hn
            cases hq'.symm.trans hq''
            obtain ⟨k, hk, hsh⟩ := cm_rc_of rfl hrc
            have hpos : 0 < (cm_tg q'.1).length := by
              obtain ⟨tl, htl⟩ := hok.2.2.2.2.2.2.2.2.2.1 (by rw [hkd]; decide)
              rw [htl]; simp
            obtain ⟨e1, e2⟩ := cm_split hpos hk
            rw [e1] at ht hs hc
            have hrk1 : cm_dp q'.1 + 1 ≤ cm_dp q.1 ∧ 8 + (cm_ml q'.1 + 11) + cm_lc q'.1 ≤ cm_lc q.1 := by
              have hz : cm_rk1 q.1 _ = true := hrk
              unfold cm_rk1 at hz
              rw [hf] at hz
              simp only at hz
              rw [if_neg (by omega), if_neg (by omega), if_neg (by omega), hq'] at hz
              exact of_decide_eq_true hz
            intro hro hwf
            obtain ⟨p1, p2, p3, C⟩ := IH _ _ _ _ _ _ _ _ _ _ hq' hc hro hwf
            obtain ⟨r1, r2, r3, K⟩ := IH _ _ _ _ _ _ _ _ _ _ hq hk2 p2 p3
            refine ⟨?_, r2, r3, cs_callI hB hf hq' hn hkd hsh e2 ht hr8 hs hrk1 hd (cm_grow p1) (cm_grow r1) C K⟩
            obtain ⟨D1, p1⟩ := p1
            obtain ⟨D2, r1⟩ := r1
            exact ⟨D1 ++ D2, by rw [r1, p1, List.append_assoc]⟩
          · cases h
        · cases h
    · cases h
  · split at h
    · rename_i nst n hf
      split at h
      · rename_i hn
        subst hn
        split at h
        · split at h
          · rename_i hg
            have hrk1 : 1 ≤ cm_dp q.1 ∧ 21 ≤ cm_lc q.1 := by
              have hz : cm_rk1 q.1 _ = true := hrk
              unfold cm_rk1 at hz
              rw [hf] at hz
              exact of_decide_eq_true hz
            exact (IH _ _ _ _ _ _ _ _ _ _ hq h).same (fun _ _ hg2 K => cs_max hf hg.1 hg.2.1 hg.2.2 hrk1 hg2.1 hg2.2 hd K)
          · cases h
        · cases h
      · split at h
        · rename_i hn
          subst hn
          split at h
          · split at h
            · rename_i hg
              have hrk1 : 1 ≤ cm_dp q.1 ∧ 39 ≤ cm_lc q.1 := by
                have hz : cm_rk1 q.1 _ = true := hrk
                unfold cm_rk1 at hz
                rw [hf] at hz
                exact of_decide_eq_true hz
              exact (IH _ _ _ _ _ _ _ _ _ _ hq h).gen (cm_Ro.cpy hg.1) id ⟨[], (List.append_nil _).symm⟩ (fun hro hwf _ K => cs_copy hB hro hwf hf hg hrk1 hd K)
            · cases h
          · cases h
        · split at h
          · rename_i q' hq'
            split at h
            · rename_i hkd
              obtain ⟨⟨ht, hr8, hs⟩, v, G1, M1, hc, hk2⟩ := cm_cl_of h
              have hn : n < 1000 := by
                have := (List.getElem?_eq_some_iff.mp hq').1
                have hl : cm_P.length = 75 := by decide +kernel
                omega
              have hrk1 : cm_dp q'.1 + 1 ≤ cm_dp q.1 ∧ 8 + (cm_ml q'.1 + 11) + cm_lc q'.1 ≤ cm_lc q.1 := by
                have hz : cm_rk1 q.1 _ = true := hrk
                unfold cm_rk1 at hz
                rw [hf] at hz
                simp only at hz
                rw [if_neg (by omega), if_neg (by omega), if_neg (by omega), hq'] at hz
                exact of_decide_eq_true hz
              intro hro hwf
              obtain ⟨p1, p2, p3, C⟩ := IH _ _ _ _ _ _ _ _ _ _ hq' hc hro hwf
              obtain ⟨r1, r2, r3, K⟩ := IH _ _ _ _ _ _ _ _ _ _ hq hk2 p2 p3
              refine ⟨?_, r2, r3, cs_callS hB hf hq' hn hkd (by rw [List.reverse_reverse, List.take_append_drop]) ht hr8 hs hrk1 hd (cm_grow p1) (cm_grow r1) C K⟩
              obtain ⟨D1, p1⟩ := p1
              obtain ⟨D2, r1⟩ := r1
              exact ⟨D1 ++ D2, by rw [r1, p1, List.append_assoc]⟩
            · cases h
          · cases h
    · cases h
  -- returns
  · split at h
    · rename_i v hrt
      cases h
      exact fun hro hwf => ⟨⟨[], (List.append_nil _).symm⟩, hro, hwf, cs_ireturn hrt hd⟩
    · rename_i v hrt
      split at h
      · rename_i hv
        cases h
        exact fun hro hwf => ⟨⟨[], (List.append_nil _).symm⟩, hro, hwf, cs_zreturn hv hrt hd⟩
      · cases h
    · cases h
  · split at h
    · rename_i hrt
      cases h
      exact fun hro hwf => ⟨⟨[], (List.append_nil _).symm⟩, hro, hwf, cs_return hrt hd⟩
    · cases h
  · cases h
theorem cm_sound (hB : cm_B B base) (n : Nat) : cm_IH l D cA B base ro (cm_run n) := by
  induction n with
  | zero =>
    intro μ q pc ls st G M r G' M' hq h
    rw [cm_run_0] at h
    cases h
  | succ n ih =>
    intro μ q pc ls st G M r G' M' hq h
    rw [cm_run_s] at h
    unfold cm_step at h
    rw [hq] at h
    simp only at h
    split at h
    · cases h
    · rename_i i hi
      exact cm_do_sound hB ih hq (cm_dec hq hi) (cm_rk_ok hq hi) h
end SOUND
