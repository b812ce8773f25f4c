/-! ===== the same: fields, arrays, new cells ===== -/
theorem cm_fs_len (B : Int → Nat) (ci : Nat) (f g : Int → Int) : (cm_fs B ci f g).length = cm_nf ci := by simp [cm_fs]
theorem cm_fs_at (B : Int → Nat) {ci j : Nat} (f g : Int → Int) (h : j < cm_nf ci) : (cm_fs B ci f g)[j]? = some (cm_fv B ci f g j) := by
  unfold cm_fs
  rw [List.getElem?_map, List.getElem?_range h]
  rfl
theorem cm_fs_set (B : Int → Nat) {ci j : Nat} {f g f' g' : Int → Int} {v : Value} (h : j < cm_nf ci) (h1 : ∀ i, i ≠ j → cm_fv B ci f' g' i = cm_fv B ci f g i) (h2 : cm_fv B ci f' g' j = v) : cm_fs B ci f' g' = (cm_fs B ci f g).set j v := by
  apply List.ext_getElem?
  intro i
  by_cases hi : i < cm_nf ci
  · rw [cm_fs_at B f' g' hi]
    by_cases hij : i = j
    · subst hij
      rw [List.getElem?_set_self (by rw [cm_fs_len]; exact hi), h2]
    · rw [List.getElem?_set_ne (Ne.symm hij), cm_fs_at B f g hi, h1 i hij]
  · rw [List.getElem?_eq_none (by rw [cm_fs_len]; omega), List.getElem?_eq_none (by rw [List.length_set, cm_fs_len]; omega)]
theorem cm_nf_of {ci : Nat} {r : vw_C} (h : vwCl[ci]? = some r) : cm_nf ci = r.2.2 := by unfold cm_nf; rw [h]
theorem cm_up_s (f : Int → Int → Int) (k j v : Int) : cm_up f k j v k j = v := if_pos ⟨rfl, rfl⟩
theorem cm_up_n (f : Int → Int → Int) {k j v a b : Int} (h : a ≠ k ∨ b ≠ j) : cm_up f k j v a b = f a b := if_neg (fun z => h.elim (fun y => y z.1) (fun y => y z.2))
section ARMS2
variable {l : Launch} {D : va_G} {cA : Nat → ClassId} {B : Int → Nat} {base : Nat} {ro : Int → Int → Int} {q : cm_MI} {pc : Nat} {ls : List (Option cm_V)} {st : List cm_V} {G : cm_G} {M : cm_M} {r : Option cm_V} {G' : cm_G} {M' : cm_M}
theorem cm_cell0 {H : Heap} (hW : cm_W D cA B base G M H) {k : Int} {ci : Nat} (hk : cm_sh G k = some (0, ci)) : va_at D vwCl (B k, .inr (ci, cm_fs B ci (M k) (G.2 k))) H := hW.cell hk
theorem cm_cell1 {H : Heap} (hW : cm_W D cA B base G M H) {k : Int} {t n : Nat} (h0 : t ≠ 0) (h4 : t ≠ 4) (hk : cm_sh G k = some (t, n)) : va_at D vwCl (B k, .inl (cA t, n, .inl (fun j => Int32.ofInt (M k j)))) H := by
  have := hW.cell hk
  unfold cm_c at this
  rwa [if_neg h0, if_neg h4] at this
theorem cm_cell4 {H : Heap} (hW : cm_W D cA B base G M H) {k : Int} {n : Nat} (hk : cm_sh G k = some (4, n)) : va_at D vwCl (B k, .inl (cA 4, n, .inr (.inr (.inr (.inr (cm_rr B (G.2 k))))))) H := hW.cell hk
theorem cm_al_sh {t : Nat} {k i : Int} (hk : 0 ≤ k) (h0 : 0 ≤ i) (h : i < cm_al t G M k) : ∃ n : Nat, cm_sh G k = some (t, n) ∧ i < n := by
  unfold cm_al at h
  rw [if_neg (by omega), if_neg (by omega)] at h
  cases hs : cm_sh G k with
  | none => rw [hs] at h; simp only at h; omega
  | some e =>
    obtain ⟨t', n⟩ := e
    rw [hs] at h
    simp only at h
    by_cases ht : t' = t
    · rw [if_pos ht] at h
      exact ⟨n, by rw [ht], h⟩
    · rw [if_neg ht] at h; omega
theorem cm_wf_at (hwf : cm_Wf G) {k : Int} {e : Nat × Nat} (h : cm_sh G k = some e) : e.2 < 2 ^ 31 := by
  obtain ⟨n, -, h1⟩ := cm_sh_some h
  exact hwf e (List.mem_of_getElem? h1)
theorem cs_get {ix ci j : Nat} {k : Int} {w : cm_V} (hf : cm_as cm_fld (cm_ci q) ix = some (ci, j)) (hk : cm_sh G k = some (0, ci)) (hw : (cm_fk ci j = some 0 ∧ w = (0, M k j)) ∨ (cm_fk ci j = some 2 ∧ w = (2, G.2 k j))) (hd : decode q.2.1 pc = .ok (.getfield ix, 3)) (K : cm_WW l D cA B base ro q (pc + 3) ls (w :: st) G M r G' M') : cm_WW l D cA B base ro q pc ls ((2, k) :: st) G M r G' M' := by
  intro p e R s m args below meth c H locs Ls N0 S0 Qc hX hL hW hS h1 h2 h3 h4 hQ
  have kk := K p e R s m args below meth c H locs Ls N0 S0 Qc hX hL hW hS h1 h2 h3 h4 hQ
  obtain ⟨hx, hb, hml, hr, hown, hts, hlk, hin, hSt, hdp, hlc⟩ := hX
  obtain ⟨hci, rc, hrc, hj, hlink⟩ := cm_fld_ok _ (cm_as_mem hf)
  obtain ⟨rc', ty, hrc', hty, hname, hws, -⟩ := cm_cl_ok ci hci
  cases hrc.symm.trans hrc'
  rw [List.map_cons, cm_v2 B (by have := (cm_sh_lt hk).1; omega)]
  refine va_get (D := D) (cl := vwCl) (ci := ci) (C := rc.1) (T := rc.2.1) (N := rc.2.2) hx hb hts hws hown hSt.1 (cm_P1 (cm_cell0 hW hk)) 0 rfl hrc j hj (hts _ hlink) (fun _ h => h) (v := cm_v B w) ?_ hd kk
  rw [cm_fs_at B _ _ (by rw [cm_nf_of hrc]; exact hj)]
  unfold cm_fv
  rcases hw with ⟨h5, rfl⟩ | ⟨h5, rfl⟩
  · rw [if_pos h5, cm_v0]
  · rw [if_neg (by rw [h5]; decide)]
theorem cs_put (hB : cm_B B base) {ix ci j t : Nat} {k v : Int} {G1 : cm_G} {M1 : cm_M} (hf : cm_as cm_fld (cm_ci q) ix = some (ci, j)) (hk : cm_sh G k = some (0, ci)) (ht : cm_fk ci j = some t) (hfin : cm_fin ci j = true → cm_kd q = 2 ∧ cm_ci q = ci)
    (hw : (t = 0 ∧ G1 = G ∧ M1 = cm_up M k j v) ∨ (t = 2 ∧ 0 ≤ v ∧ G1 = (G.1, cm_up G.2 k j v) ∧ M1 = M)) (hd : decode q.2.1 pc = .ok (.putfield ix, 3)) (K : cm_WW l D cA B base ro q (pc + 3) ls st G1 M1 r G' M') : cm_WW l D cA B base ro q pc ls ((t, v) :: (2, k) :: st) G M r G' M' := by
  intro p e R s m args below meth c H locs Ls N0 S0 Qc hX hL hW hS h1 h2 h3 h4 hQ
  have hX' := hX
  obtain ⟨hx, hb, hml, hr, hown, hts, hlk, hin, hSt, hdp, hlc⟩ := hX
  obtain ⟨hci, rc, hrc, hj, hlink⟩ := cm_fld_ok _ (cm_as_mem hf)
  obtain ⟨rc', ty, hrc', hty, hname, hws, hparse, hnm, -, -, -, hkinds, hdecl⟩ := cm_cl_ok ci hci
  cases hrc.symm.trans hrc'
  have hK := hSt.1
  have hG1 : G1.1 = G.1 := by rcases hw with ⟨-, rfl, -⟩ | ⟨-, -, rfl, -⟩ <;> rfl
  have hjn : j < cm_nf ci := by rw [cm_nf_of hrc]; exact hj
  have hset : cm_fs B ci (M1 k) (G1.2 k) = (cm_fs B ci (M k) (G.2 k)).set j (cm_v B (t, v)) := by
    rcases hw with ⟨rfl, rfl, rfl⟩ | ⟨rfl, h0, rfl, rfl⟩
    · refine cm_fs_set B hjn (fun i hi => ?_) ?_
      · unfold cm_fv cm_up
        rw [if_neg (show ¬ (k = k ∧ (i : Int) = j) by omega)]
      · unfold cm_fv cm_up
        rw [if_pos ht, if_pos ⟨rfl, rfl⟩, cm_v0]
    · refine cm_fs_set B hjn (fun i hi => ?_) ?_
      · show cm_fv B ci (M1 k) (cm_up G.2 k j v k) i = _
        unfold cm_fv
        rw [cm_up_n _ (Or.inr (by omega))]
      · show cm_fv B ci (M1 k) (cm_up G.2 k j v k) j = _
        unfold cm_fv
        rw [if_neg (by rw [ht]; decide), cm_up_s]
  have hap := va_apart (own := cm_cn (cm_ci q)) hts hws ty hparse hnm hK hrc
  obtain ⟨rd, hrd, cell, q1, q2, q3, q4⟩ := cm_cell0 hW hk
  have hr : rd = rc := Option.some.inj (hrd.symm.trans hrc)
  subst hr
  obtain ⟨hSl, hfc, kC, hkC, hkind⟩ := hK.1 ci _ hrc
  obtain ⟨cf, kf, fi, f, hi, hsl⟩ := hSl j hj
  have hst := (u_facts hfc hkC (u_lays hts hws hj) hi).1
  have hvt : narrow (ty j) (cm_v B (t, v)) = cm_v B (t, v) ∧ fits (ty j) (cm_v B (t, v)) = true := by
    rcases hw with ⟨rfl, -⟩ | ⟨rfl, h0, -⟩
    · rcases hkinds j hj with ⟨-, h6⟩ | ⟨h6, -⟩
      · rw [h6]; exact ⟨rfl, rfl⟩
      · rw [ht] at h6; cases h6
    · rcases hkinds j hj with ⟨h6, -⟩ | ⟨-, ⟨x, h6⟩ | ⟨x, h6⟩⟩
      · rw [ht] at h6; cases h6
      · rw [h6, cm_v2 B (by omega)]; exact ⟨rfl, rfl⟩
      · rw [h6, cm_v2 B (by omega)]; exact ⟨rfl, rfl⟩
  have fin : ∀ H1 : Heap, H1[B k]? = some (cell.setSlot f.slot (cm_v B (t, v))) → H1.size = H.size → (∀ q, q ≠ B k → H1[q]? = H[q]?) →
      W p l e R s m args below meth c H1 (locs ++ [⟨B k, f.slot⟩]) (G.1.length - N0) (cm_sl G - S0) (MQ below Qc args s (G'.1.length - N0) (cm_sl G' - S0) (cm_A base)) (F0 m (pc + 3) Ls (st.map (cm_v B))) := by
    intro H1 e1 e2 e3
    have hW1 : cm_W D cA B base G1 M1 H1 := by
      refine hW.put hB hk e2 e3 ?_ hG1 (fun i hi => ?_)
      · show va_at D vwCl (B k, .inr (ci, cm_fs B ci (M1 k) (G1.2 k))) H1
        rw [hset]
        rw [hsl] at e1
        exact ⟨_, hrc, t_OB.to (V := updV (vp_V (cm_fs B ci (M k) (G.2 k))) j (cm_v B (t, v))) ⟨_, e1, q2, q3, t_set q4 hap hj _⟩ (fun i _ => vp_updV_set (by rw [cm_fs_len]; exact hjn) _ i)⟩
      · rcases hw with ⟨-, rfl, rfl⟩ | ⟨-, -, rfl, rfl⟩
        · exact ⟨by funext b; unfold cm_up; rw [if_neg (fun h => hi h.1)], rfl⟩
        · exact ⟨rfl, by funext b; show cm_up _ _ _ _ _ _ = _; unfold cm_up; rw [if_neg (fun h => hi h.1)]⟩
    have hS1 := hS.put (k := f.slot) e2 e3 (show cm_A base (B k) by
      obtain ⟨n, rfl, -⟩ := cm_sh_some hk
      show base ≤ B n
      rw [hB.1]; omega)
    have hsG : cm_sl G1 = cm_sl G := by unfold cm_sl; rw [hG1]
    have := K p e R s m args below meth c H1 _ Ls N0 S0 Qc hX' hL hW1 hS1 (by rw [hG1]; exact h1) (by rw [hsG]; exact h2) h3 h4 hQ
    rwa [hG1, hsG] at this
  rw [List.map_cons, List.map_cons, cm_v2 B (x := k) (by have := (cm_sh_lt hk).1; omega)]
  have hlay := hts _ (hws _ (u_in_lay hj))
  unfold u_lay at hlay
  by_cases hfi : (rd.2.1 j).2.2.2 = true
  · rw [if_pos hfi] at hlay
    obtain ⟨hk2, hcq⟩ := hfin (by unfold cm_fin; rw [hrc]; exact hfi)
    have hcf : m.cls = cf := by
      obtain ⟨_, _, c', _, _, _, -, -, hf', -, -, -, hown2, -⟩ := Cond.laysFinal_spec hlay
      have e1 : c' = cf := by have := hi.symm.trans hf'; simp at this; exact this.1.symm
      rw [hdecl j hj, hname, ← hcq] at hown2
      rw [← e1]; exact Option.some.inj (hown.symm.trans hown2)
    have h6 := u_fits hfc hkC hkind (Or.inr hlay) hi (hparse j hj) hvt.1 hvt.2
    exact W.putFinK hx hb hown (hts _ hlink) hi hst hcf (hin hk2) (by rw [q2]; exact h6) q1 q3 (by rw [hsl]; exact k2_hasslot (q4 j hj)) rfl rfl hd fin
  · rw [if_neg hfi] at hlay
    have h6 := u_store hfc hkC hkind hlay hi (hparse j hj) hvt.1 hvt.2
    exact W.putK hx hb (f := f) ⟨hown, hts _ hlink, ⟨_, _, _, hi⟩, hst⟩ (by rw [q2]; exact h6) q1 q3 (by rw [hsl]; exact k2_hasslot (q4 j hj)) rfl rfl hd fin
theorem cs_gets {ix nst : Nat} {k : Int} (hf : cm_as cm_sta (cm_ci q) ix = some (nst, k)) (hd : decode q.2.1 pc = .ok (.getstatic ix, 3)) (K : cm_WW l D cA B base ro q (pc + 3) ls ((2, k) :: st) G M r G' M') : cm_WW l D cA B base ro q pc ls st G M r G' M' := by
  intro p e R s m args below meth c H locs Ls N0 S0 Qc hX hL hW hS h1 h2 h3 h4 hQ
  have kk := K p e R s m args below meth c H locs Ls N0 S0 Qc hX hL hW hS h1 h2 h3 h4 hQ
  obtain ⟨hx, hb, hml, hr, hown, hts, hlk, hin, hSt, hdp, hlc⟩ := hX
  have hz := cm_sta_ok _ (cm_as_mem hf)
  rcases hz with h | ⟨h5, h6, h7⟩ | ⟨h5, h6, h7⟩
  · have e1 : cm_ci q = 1 := congrArg (fun z => z.1.1) h
    have e2 : ix = 27 := congrArg (fun z => z.1.2) h
    have e3 : k = -3 := congrArg (fun z => z.2.2) h
    subst e2 e3
    rw [List.map_cons, cm_v2 B (by decide)] at kk
    rw [e1] at hown
    exact va_getsN hx hb (hSt.2.2.1 (-3) (Or.inl rfl)).1 hS hown (va_Nw.use rfl hSt.2.1.2.2.1) (fun _ h => h) hd kk
  · simp only at h5 h6 h7
    subst h6
    rw [List.map_cons, cm_v2 B (by decide)] at kk
    exact va_gets hx hb (hSt.2.2.1 (-4) (Or.inr (Or.inl rfl))).1 hS hown (hts _ h7) (fun _ h => h) hd kk
  · simp only at h5 h6 h7
    subst h6
    rw [List.map_cons, cm_v2 B (by decide)] at kk
    exact va_gets hx hb (hSt.2.2.1 (-5) (Or.inr (Or.inr rfl))).1 hS hown (hts _ h7) (fun _ h => h) hd kk
theorem cs_iald (hB : cm_B B base) (hro : cm_Ro ro M) (hwf : cm_Wf G) {i k : Int} (hi : 0 ≤ i ∧ i < cm_al 1 G M k) (hd : decode q.2.1 pc = .ok (.iaload, 1)) (K : cm_WW l D cA B base ro q (pc + 1) ls ((0, M k i) :: st) G M r G' M') : cm_WW l D cA B base ro q pc ls ((0, i) :: (2, k) :: st) G M r G' M' := by
  intro p e R s m args below meth c H locs Ls N0 S0 Qc hX hL hW hS h1 h2 h3 h4 hQ
  have kk := K p e R s m args below meth c H locs Ls N0 S0 Qc hX hL hW hS h1 h2 h3 h4 hQ
  obtain ⟨hx, hb, hml, hr, hown, hts, hlk, hin, hSt, hdp, hlc⟩ := hX
  rw [List.map_cons, cm_v0] at kk
  rw [List.map_cons, List.map_cons, cm_v0]
  by_cases hs : k = -2
  · subst hs
    obtain ⟨L, l1, l2, l3⟩ := hSt.2.2.2.1
    have hiL : i < L := by
      have := hi.2
      unfold cm_al at this
      rw [if_pos ⟨rfl, rfl⟩, hro (-2) (by decide), l2] at this
      exact this
    rw [cm_v2 B (by decide)]
    have hb2 := hB.2 (-2) (by decide)
    refine va_sld hx hb l3 (by have := hSt.2.2.2.2; omega) (by simp only [cm_A]; omega) hS (cm_vin hi.1 hiL l1) hd ?_
    rw [cm_clamp hi.1 (by omega), show ((i.toNat : Nat) : Int) = i by omega, ← hro (-2) (by decide)]
    exact kk
  · by_cases ht : k = -3 ∨ k = -4 ∨ k = -5
    · have hi3 : i < 3 := by
        have := hi.2
        unfold cm_al at this
        rw [if_neg (fun h => hs h.1), if_pos ⟨ht, rfl⟩] at this
        exact this
      rw [cm_v2 B (by omega)]
      refine va_ti hx hb (hSt.2.2.1 k ht).2 hS (cm_vin (n := 3) hi.1 hi3 (by decide)) rfl hd ?_
      rw [cm_clamp hi.1 (by omega), show ((i.toNat : Nat) : Int) = i by omega, ← hro k (by omega)]
      exact kk
    · have hk0 : 0 ≤ k := by
        by_cases hk0 : 0 ≤ k
        · exact hk0
        · exfalso
          have := hi.2
          unfold cm_al at this
          rw [if_neg (fun h => hs h.1), if_neg (fun h => ht h.1)] at this
          unfold cm_sh at this
          rw [if_pos (by omega)] at this
          simp only at this
          omega
      obtain ⟨n, hn, hin'⟩ := cm_al_sh hk0 hi.1 hi.2
      rw [cm_v2 B (by omega)]
      refine va_iald (D := D) (cl := vwCl) (tys := cm_ty4 cA) hx hb hSt.1 (cm_P1 (cm_cell1 hW (by decide) (by decide) hn)) 0 0 rfl rfl (cm_vin hi.1 hin' (cm_wf_at hwf hn)) hd ?_
      rw [cm_clamp hi.1 (by have := cm_wf_at hwf hn; simp only at this; omega), show ((i.toNat : Nat) : Int) = i by omega]
      exact kk
theorem cs_cald (hwf : cm_Wf G) {i k : Int} (hi : 0 ≤ i ∧ i < cm_al 2 G M k) (hd : decode q.2.1 pc = .ok (.caload, 1)) (K : cm_WW l D cA B base ro q (pc + 1) ls ((0, M k i) :: st) G M r G' M') : cm_WW l D cA B base ro q pc ls ((0, i) :: (2, k) :: st) G M r G' M' := by
  intro p e R s m args below meth c H locs Ls N0 S0 Qc hX hL hW hS h1 h2 h3 h4 hQ
  have kk := K p e R s m args below meth c H locs Ls N0 S0 Qc hX hL hW hS h1 h2 h3 h4 hQ
  obtain ⟨hx, hb, hml, hr, hown, hts, hlk, hin, hSt, hdp, hlc⟩ := hX
  rw [List.map_cons, cm_v0] at kk
  rw [List.map_cons, List.map_cons, cm_v0]
  have hk0 : 0 ≤ k := by
    by_cases hk0 : 0 ≤ k
    · exact hk0
    · exfalso
      have := hi.2
      unfold cm_al at this
      rw [if_neg (by omega), if_neg (by omega)] at this
      unfold cm_sh at this
      rw [if_pos (by omega)] at this
      simp only at this
      omega
  obtain ⟨n, hn, hin'⟩ := cm_al_sh hk0 hi.1 hi.2
  rw [cm_v2 B (by omega)]
  refine va_cald (D := D) (cl := vwCl) (tys := cm_ty4 cA) hx hb hSt.1 (cm_P1 (cm_cell1 hW (by decide) (by decide) hn)) 0 1 rfl rfl (cm_vin hi.1 hin' (cm_wf_at hwf hn)) hd ?_
  rw [cm_clamp hi.1 (by have := cm_wf_at hwf hn; simp only at this; omega), show ((i.toNat : Nat) : Int) = i by omega]
  exact kk
theorem cs_zald (hwf : cm_Wf G) {i k : Int} (hi : 0 ≤ i ∧ i < cm_al 3 G M k) (hd : decode q.2.1 pc = .ok (.baload, 1)) (K : cm_WW l D cA B base ro q (pc + 1) ls ((0, M k i) :: st) G M r G' M') : cm_WW l D cA B base ro q pc ls ((0, i) :: (2, k) :: st) G M r G' M' := by
  intro p e R s m args below meth c H locs Ls N0 S0 Qc hX hL hW hS h1 h2 h3 h4 hQ
  have kk := K p e R s m args below meth c H locs Ls N0 S0 Qc hX hL hW hS h1 h2 h3 h4 hQ
  obtain ⟨hx, hb, hml, hr, hown, hts, hlk, hin, hSt, hdp, hlc⟩ := hX
  rw [List.map_cons, cm_v0] at kk
  rw [List.map_cons, List.map_cons, cm_v0]
  have hk0 : 0 ≤ k := by
    by_cases hk0 : 0 ≤ k
    · exact hk0
    · exfalso
      have := hi.2
      unfold cm_al at this
      rw [if_neg (by omega), if_neg (by omega)] at this
      unfold cm_sh at this
      rw [if_pos (by omega)] at this
      simp only at this
      omega
  obtain ⟨n, hn, hin'⟩ := cm_al_sh hk0 hi.1 hi.2
  rw [cm_v2 B (by omega)]
  refine va_zald (D := D) (cl := vwCl) (tys := cm_ty4 cA) hx hb hSt.1 (cm_P1 (cm_cell1 hW (by decide) (by decide) hn)) 0 2 rfl rfl (cm_vin hi.1 hin' (cm_wf_at hwf hn)) hd ?_
  rw [cm_clamp hi.1 (by have := cm_wf_at hwf hn; simp only at this; omega), show ((i.toNat : Nat) : Int) = i by omega]
  exact kk
theorem cs_aald (hwf : cm_Wf G) {i k : Int} (hk0 : 0 ≤ k) (hi : 0 ≤ i ∧ i < cm_al 4 G M k) (hd : decode q.2.1 pc = .ok (.aaload, 1)) (K : cm_WW l D cA B base ro q (pc + 1) ls ((2, G.2 k i) :: st) G M r G' M') : cm_WW l D cA B base ro q pc ls ((0, i) :: (2, k) :: st) G M r G' M' := by
  intro p e R s m args below meth c H locs Ls N0 S0 Qc hX hL hW hS h1 h2 h3 h4 hQ
  have kk := K p e R s m args below meth c H locs Ls N0 S0 Qc hX hL hW hS h1 h2 h3 h4 hQ
  obtain ⟨hx, hb, hml, hr, hown, hts, hlk, hin, hSt, hdp, hlc⟩ := hX
  rw [List.map_cons] at kk
  rw [List.map_cons, List.map_cons, cm_v0]
  obtain ⟨n, hn, hin'⟩ := cm_al_sh hk0 hi.1 hi.2
  rw [cm_v2 B (by omega)]
  refine va_aldq (D := D) (cl := vwCl) (tys := cm_ty4 cA) hx hb hSt.1 (cm_P1 (cm_cell4 hW hn)) 0 3 rfl rfl (cm_vin hi.1 hin' (cm_wf_at hwf hn)) hd ?_
  rw [cm_clamp hi.1 (by have := cm_wf_at hwf hn; simp only at this; omega)]
  have e1 : va_rf (cm_rr B (G.2 k) i.toNat) = cm_v B (2, G.2 k i) := by
    unfold cm_rr
    rw [show ((i.toNat : Nat) : Int) = i by omega]
    by_cases hz : G.2 k i = -1
    · rw [if_pos hz, hz]; rfl
    · rw [if_neg hz, cm_v2 B hz]; rfl
  rw [e1]
  exact kk
theorem cm_arr_put (hB : cm_B B base) {H H1 : Heap} {t n : Nat} (h0 : t ≠ 0) (h4 : t ≠ 4) {k i v : Int} {x : Int32} (hx : x = Int32.ofInt v) (hi : 0 ≤ i) (hW : cm_W D cA B base G M H) (hk : cm_sh G k = some (t, n)) (e : H1[B k]? = some ((vp_cell (cA t) (n, .inl (fun j => Int32.ofInt (M k j)))).setSlot i.toNat (.int x))) (z : H1.size = H.size) (oq : ∀ q, q ≠ B k → H1[q]? = H[q]?) : cm_W D cA B base G (cm_up M k i v) H1 := by
  refine hW.put hB hk z oq ?_ rfl (fun j hj => ⟨by funext b; unfold cm_up; rw [if_neg (fun h => hj h.1)], rfl⟩)
  unfold cm_c
  rw [if_neg h0, if_neg h4]
  show H1[B k]? = some (vp_cell _ _)
  rw [e, vp_cell_i, vp_cell_i, arrV_store]
  congr 2
  funext j
  unfold updV cm_up
  by_cases hj : j = i.toNat
  · rw [if_pos hj, if_pos ⟨rfl, by omega⟩, hx]
  · rw [if_neg hj, if_neg (by omega)]
theorem cm_base (hB : cm_B B base) {k : Int} {e : Nat × Nat} (hk : cm_sh G k = some e) : cm_A base (B k) := by
  obtain ⟨n, rfl, -⟩ := cm_sh_some hk
  show base ≤ B n
  rw [hB.1]; omega
theorem cs_iast (hB : cm_B B base) (hwf : cm_Wf G) {i k v : Int} (hk0 : 0 ≤ k) (hi : 0 ≤ i ∧ i < cm_al 1 G M k) (hd : decode q.2.1 pc = .ok (.iastore, 1)) (K : cm_WW l D cA B base ro q (pc + 1) ls st G (cm_up M k i v) r G' M') : cm_WW l D cA B base ro q pc ls ((0, v) :: (0, i) :: (2, k) :: st) G M r G' M' := by
  intro p e R s m args below meth c H locs Ls N0 S0 Qc hX hL hW hS h1 h2 h3 h4 hQ
  have hX' := hX
  obtain ⟨hx, hb, hml, hr, hown, hts, hlk, hin, hSt, hdp, hlc⟩ := hX
  obtain ⟨n, hn, hin'⟩ := cm_al_sh hk0 hi.1 hi.2
  have hv := cm_vin hi.1 hin' (cm_wf_at hwf hn)
  have hcl := cm_clamp hi.1 (by have := cm_wf_at hwf hn; simp only at this; omega)
  rw [List.map_cons, List.map_cons, List.map_cons, cm_v0, cm_v0, cm_v2 B (by omega)]
  refine W.iast hx hb (cm_cell1 hW (by decide) (by decide) hn) ((hSt.1.2 0 _ rfl).1 n (fun j => .int (Int32.ofInt (M k j)))) (fun q => by cases q) (by show ¬ (_ < 0 ∨ (arrV _ _ _).slots.size ≤ _); rw [arrV_size]; exact hv) rfl rfl hd fun H1 e1 z oq => ?_
  rw [hcl] at e1 ⊢
  exact K p e R s m args below meth c H1 _ Ls N0 S0 Qc hX' hL (cm_arr_put hB (by decide) (by decide) rfl hi.1 hW hn e1 z oq) (hS.put z oq (cm_base hB hn)) h1 h2 h3 h4 hQ
theorem cs_cast (hB : cm_B B base) (hwf : cm_Wf G) {i k v : Int} (hk0 : 0 ≤ k) (hi : 0 ≤ i ∧ i < cm_al 2 G M k) (hv0 : 0 ≤ v ∧ v < 65536) (hd : decode q.2.1 pc = .ok (.castore, 1)) (K : cm_WW l D cA B base ro q (pc + 1) ls st G (cm_up M k i v) r G' M') : cm_WW l D cA B base ro q pc ls ((0, v) :: (0, i) :: (2, k) :: st) G M r G' M' := by
  intro p e R s m args below meth c H locs Ls N0 S0 Qc hX hL hW hS h1 h2 h3 h4 hQ
  have hX' := hX
  obtain ⟨hx, hb, hml, hr, hown, hts, hlk, hin, hSt, hdp, hlc⟩ := hX
  obtain ⟨n, hn, hin'⟩ := cm_al_sh hk0 hi.1 hi.2
  have hv := cm_vin hi.1 hin' (cm_wf_at hwf hn)
  have hcl := cm_clamp hi.1 (by have := cm_wf_at hwf hn; simp only at this; omega)
  rw [List.map_cons, List.map_cons, List.map_cons, cm_v0, cm_v0, cm_v2 B (by omega)]
  refine W.cast hx hb (cm_cell1 hW (by decide) (by decide) hn) ((hSt.1.2 1 _ rfl).1 n (fun j => .int (Int32.ofInt (M k j)))) (fun q => by cases q) (by show ¬ (_ < 0 ∨ (arrV _ _ _).slots.size ≤ _); rw [arrV_size]; exact hv) rfl rfl hd fun H1 e1 z oq => ?_
  rw [hcl] at e1 ⊢
  have hc : vp_nar .char (Int32.ofInt v) = Int32.ofInt v := by
    rw [vp_nar_char, ← cm_char hv0]
    apply Int32.toInt.inj
    congr 1
    apply congrArg UInt32.toInt32
    apply UInt32.toNat.inj
    rw [UInt32.toNat_mod]
    simp
  have e1' : H1[B k]? = some ((vp_cell (cA 2) (n, .inl (fun j => Int32.ofInt (M k j)))).setSlot i.toNat (.int (Int32.ofInt v))) := by
    rw [e1]
    have : narrow .char (.int (Int32.ofInt v)) = .int (Int32.ofInt v) := by
      show Value.int (vp_nar .char (Int32.ofInt v)) = _
      rw [hc]
    rw [this]
  exact K p e R s m args below meth c H1 _ Ls N0 S0 Qc hX' hL (cm_arr_put hB (by decide) (by decide) rfl hi.1 hW hn e1' z oq) (hS.put z oq (cm_base hB hn)) h1 h2 h3 h4 hQ
theorem cs_zast (hB : cm_B B base) (hwf : cm_Wf G) {i k v : Int} (hk0 : 0 ≤ k) (hi : 0 ≤ i ∧ i < cm_al 3 G M k) (hv0 : v = 0 ∨ v = 1) (hd : decode q.2.1 pc = .ok (.bastore, 1)) (K : cm_WW l D cA B base ro q (pc + 1) ls st G (cm_up M k i v) r G' M') : cm_WW l D cA B base ro q pc ls ((0, v) :: (0, i) :: (2, k) :: st) G M r G' M' := by
  intro p e R s m args below meth c H locs Ls N0 S0 Qc hX hL hW hS h1 h2 h3 h4 hQ
  have hX' := hX
  obtain ⟨hx, hb, hml, hr, hown, hts, hlk, hin, hSt, hdp, hlc⟩ := hX
  obtain ⟨n, hn, hin'⟩ := cm_al_sh hk0 hi.1 hi.2
  have hv := cm_vin hi.1 hin' (cm_wf_at hwf hn)
  have hcl := cm_clamp hi.1 (by have := cm_wf_at hwf hn; simp only at this; omega)
  rw [List.map_cons, List.map_cons, List.map_cons, cm_v0, cm_v0, cm_v2 B (by omega)]
  refine W.zast hx hb (cm_cell1 hW (by decide) (by decide) hn) ((hSt.1.2 2 _ rfl).1 n (fun j => .int (Int32.ofInt (M k j)))) (fun q => by cases q) (by show ¬ (_ < 0 ∨ (arrV _ _ _).slots.size ≤ _); rw [arrV_size]; exact hv) rfl rfl hd fun H1 e1 z oq => ?_
  rw [hcl] at e1 ⊢
  have e1' : H1[B k]? = some ((vp_cell (cA 3) (n, .inl (fun j => Int32.ofInt (M k j)))).setSlot i.toNat (.int (Int32.ofInt v))) := by
    rw [e1]
    rcases hv0 with rfl | rfl <;> rfl
  exact K p e R s m args below meth c H1 _ Ls N0 S0 Qc hX' hL (cm_arr_put hB (by decide) (by decide) rfl hi.1 hW hn e1' z oq) (hS.put z oq (cm_base hB hn)) h1 h2 h3 h4 hQ
theorem cs_aast (hB : cm_B B base) (hwf : cm_Wf G) {i k v : Int} (hk0 : 0 ≤ k) (hi : 0 ≤ i ∧ i < cm_al 4 G M k) (hv0 : cm_sh G v = some (0, 1)) (hd : decode q.2.1 pc = .ok (.aastore, 1)) (K : cm_WW l D cA B base ro q (pc + 1) ls st (G.1, cm_up G.2 k i v) M r G' M') : cm_WW l D cA B base ro q pc ls ((2, v) :: (0, i) :: (2, k) :: st) G M r G' M' := by
  intro p e R s m args below meth c H locs Ls N0 S0 Qc hX hL hW hS h1 h2 h3 h4 hQ
  have hX' := hX
  obtain ⟨hx, hb, hml, hr, hown, hts, hlk, hin, hSt, hdp, hlc⟩ := hX
  obtain ⟨n, hn, hin'⟩ := cm_al_sh hk0 hi.1 hi.2
  have hv := cm_vin hi.1 hin' (cm_wf_at hwf hn)
  have hcl := cm_clamp hi.1 (by have := cm_wf_at hwf hn; simp only at this; omega)
  have hvlt := (cm_sh_lt hv0).1
  rw [List.map_cons, List.map_cons, List.map_cons, cm_v2 B (x := v) (by omega), cm_v0, cm_v2 B (x := k) (by omega)]
  have hlt : (Int32.ofInt i).toNatClampNeg < n := Nat.not_le.mp fun q => hv (Or.inr q)
  have hn0 : ¬ Int32.ofInt i < 0 := fun q => hv (Or.inl q)
  obtain ⟨r', hr', cellV, g1, g2, g3, -⟩ := cm_cell0 hW hv0
  cases (show vwCl[1]? = some (RX1, TX1, 6) from rfl).symm.trans hr'
  have hcls := (hSt.1.1 1 _ hr').2
  obtain ⟨kA, comp, k1, k2, k3, -⟩ := (hSt.1.2 3 _ rfl).2
  have hcomp : comp = D.1 1 := Option.some.inj (k3.symm.trans hcls.1)
  subst hcomp
  obtain ⟨kC, hkC, -⟩ := hcls.2
  refine W.aast hx hb (cm_cell4 hW hn) (fun q h => by cases h) (fun h => by cases h) k1 k2 rfl hkC ⟨hn0, by show _ < (arrV _ _ _).slots.size; rw [arrV_size]; exact hlt⟩ g1 (fun q h => by rw [g3] at h; cases h) (by rw [g2]; exact hkC) (by rw [g2]; exact va_assign hcls) rfl rfl hd fun H1 e1 z oq => ?_
  rw [hcl] at e1 ⊢
  have hW1 : cm_W D cA B base (G.1, cm_up G.2 k i v) M H1 := by
    refine hW.put hB hn z oq ?_ rfl (fun j hj => ⟨rfl, by funext b; show cm_up _ _ _ _ _ _ = _; unfold cm_up; rw [if_neg (fun h => hj h.1)]⟩)
    show H1[B k]? = some (vp_cell (cA 4) (n, .inr (.inr (.inr (.inr (cm_rr B (cm_up G.2 k i v k)))))))
    rw [e1, vp_cell_q, vp_cell_q, arrV_store]
    congr 2
    funext j
    unfold updV cm_rr
    by_cases hj : j = i.toNat
    · rw [if_pos hj, show ((j : Nat) : Int) = i by omega, cm_up_s, if_neg (by omega)]; rfl
    · rw [if_neg hj, cm_up_n _ (Or.inr (by omega))]
  exact K p e R s m args below meth c H1 _ Ls N0 S0 Qc hX' hL hW1 (hS.put z oq (cm_base hB hn)) h1 h2 h3 h4 hQ
theorem cs_alen (hB : cm_B B base) (hro : cm_Ro ro M) (hd : decode q.2.1 pc = .ok (.arraylength, 1)) (K : cm_WW l D cA B base ro q (pc + 1) ls ((0, M (-2) (-1)) :: st) G M r G' M') : cm_WW l D cA B base ro q pc ls ((2, -2) :: st) G M r G' M' := by
  intro p e R s m args below meth c H locs Ls N0 S0 Qc hX hL hW hS h1 h2 h3 h4 hQ
  have kk := K p e R s m args below meth c H locs Ls N0 S0 Qc hX hL hW hS h1 h2 h3 h4 hQ
  obtain ⟨hx, hb, hml, hr, hown, hts, hlk, hin, hSt, hdp, hlc⟩ := hX
  obtain ⟨L, l1, l2, l3⟩ := hSt.2.2.2.1
  rw [List.map_cons, cm_v0, hro (-2) (by decide), l2, Int32.ofInt_eq_ofNat] at kk
  rw [List.map_cons, cm_v2 B (by decide)]
  have hb2 := hB.2 (-2) (by decide)
  exact va_slen hx hb l3 (by have := hSt.2.2.2.2; omega) (by simp only [cm_A]; omega) hS hd kk
end ARMS2
