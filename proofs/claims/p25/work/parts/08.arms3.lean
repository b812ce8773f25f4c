/-! ===== the same: new cells, copies, calls ===== -/
theorem cm_row_s (f : Int → Int → Int) (k v b : Int) : cm_row f k v k b = v := if_pos rfl
theorem cm_row_n (f : Int → Int → Int) {k v a : Int} (h : a ≠ k) : cm_row f k v a = f a := by funext b; exact if_neg h
section ARMS3
variable {l : Launch} {D : va_G} {cA : Nat → ClassId} {B : Int → Nat} {base : Nat} {ro : Int → Int → Int} {q : cm_MI} {pc : Nat} {ls : List (Option cm_V)} {st : List cm_V} {G : cm_G} {M : cm_M} {r : Option cm_V} {G' : cm_G} {M' : cm_M}
theorem cm_sl_app {G1 : cm_G} {e : Nat × Nat} (h : G1.1 = G.1 ++ [e]) : cm_sl G1 = cm_sl G + cm_sz e := by
  unfold cm_sl
  rw [h, List.map_append, List.sum_append]
  simp
theorem cm_S.grow {A : Nat → Prop} {H0 H H1 : Heap} {locs : List Loc} (h : va_S A H0 H locs) (z : H1.size = H.size + 1) (o : ∀ q, q < H.size → H1[q]? = H[q]?) : va_S A H0 H1 locs :=
  ⟨Nat.le_trans h.1 (by omega), fun x h1 h2 => (o x (Nat.lt_of_lt_of_le h1 h.1)).trans (h.2.1 x h1 h2), h.2.2⟩
theorem cs_new (hB : cm_B B base) {ix ci : Nat} (hf : cm_as cm_cls (cm_ci q) ix = some ci) (hlen : G.1.length + 1 ≤ G'.1.length) (hsl : cm_sl G + cm_sz (0, ci) ≤ cm_sl G') (hd : decode q.2.1 pc = .ok (.new ix, 3))
    (K : cm_WW l D cA B base ro q (pc + 3) ls ((2, (G.1.length : Int)) :: st) (G.1 ++ [(0, ci)], cm_row G.2 (G.1.length : Int) (-1)) (cm_row M (G.1.length : Int) 0) r G' M') : cm_WW l D cA B base ro q pc ls st G M r G' M' := by
  intro p e R s m args below meth c H locs Ls N0 S0 Qc hX hL hW hS h1 h2 h3 h4 hQ
  have hX' := hX
  obtain ⟨hx, hb, hml, hr, hown, hts, hlk, hin, hSt, hdp, hlc⟩ := hX
  obtain ⟨hci, hlink⟩ := cm_cls_ok _ (cm_as_mem hf)
  obtain ⟨rc, ty, hrc, hty, hname, hws, hparse, hnm, hinst, hinit, -, hkinds, hdecl⟩ := cm_cl_ok ci hci
  have hKn := hSt.1.1 ci _ hrc
  have hz : cm_sz (0, ci) = rc.2.2 := cm_nf_of hrc
  simp only at hlink
  rw [← hname] at hlink
  refine W.newcK hx hb hown (hts _ hlink) (hts _ hinst) (hts _ hinit) rfl hd (by omega) (by omega) hKn.2.1 rfl fun H1 kC hkC e1 z1 o1 => ?_
  have hW1 : cm_W D cA B base (G.1 ++ [(0, ci)], cm_row G.2 (G.1.length : Int) (-1)) (cm_row M (G.1.length : Int) 0) H1 := by
    refine hW.push hB z1 o1 ?_ rfl (fun j hj => ⟨cm_row_n _ hj, cm_row_n _ hj⟩)
    show va_at D vwCl (H.size, .inr (ci, cm_fs B ci _ _)) H1
    refine ⟨_, hrc, (u_born ty hts hws hKn hkC e1 hparse).to (fun j hj => ?_)⟩
    have hjn : j < cm_nf ci := by rw [cm_nf_of hrc]; exact hj
    unfold vp_V
    rw [List.getD_eq_getElem?_getD, cm_fs_at B _ _ hjn]
    unfold cm_fv
    rcases hkinds j hj with ⟨h6, h7⟩ | ⟨h6, ⟨x, h7⟩ | ⟨x, h7⟩⟩
    · rw [if_pos h6, h7, cm_row_s]; rfl
    · rw [if_neg (by rw [h6]; decide), h7]
      show _ = cm_v B (2, cm_row G.2 _ (-1) _ _)
      rw [cm_row_s]; rfl
    · rw [if_neg (by rw [h6]; decide), h7]
      show _ = cm_v B (2, cm_row G.2 _ (-1) _ _)
      rw [cm_row_s]; rfl
  have hl1 : (G.1 ++ [((0 : Nat), ci)]).length = G.1.length + 1 := by simp
  have hs1 : cm_sl (G.1 ++ [(0, ci)], cm_row G.2 (G.1.length : Int) (-1)) = cm_sl G + cm_sz (0, ci) := cm_sl_app rfl
  have kk := K p e R s m args below meth c H1 locs Ls N0 S0 Qc hX' hL hW1 (cm_S.grow hS z1 o1) (by rw [hl1]; omega) (by rw [hs1]; omega) h3 h4 hQ
  rw [List.map_cons, cm_v2 B (by omega), hB.1, ← hW.1, hl1, hs1, hz, show G.1.length + 1 - N0 = G.1.length - N0 + 1 by omega, show cm_sl G + rc.2.2 - S0 = cm_sl G - S0 + rc.2.2 by omega] at kk
  exact kk
theorem cm_newarr (hB : cm_B B base) {u : Nat} {t : ArrayType} {ty : FieldType} (h0 : u ≠ 0) (h4 : u ≠ 4) (hty : newarray.typeOf t = ty) (hac : Cond.arrayClass ty ∈ cm_T) (hkt : ∃ j : Nat, (cm_ty4 cA)[j]? = some (cA u, ty)) (hnm : ∀ U : State, ∀ cB : ClassId, va_RA U cB ty → U.vm.findClass ("[" ++ ty.toString) = some cB) (hdv : defaultValue ty = .int 0) (hcb : componentBytes ty ≤ 4) {n : Int} (hn : 0 ≤ n ∧ n ≤ 1000) (hlen : G.1.length + 1 ≤ G'.1.length) (hsl : cm_sl G + n.toNat ≤ cm_sl G') (hd : decode q.2.1 pc = .ok (.newarray t, 2))
    (K : cm_WW l D cA B base ro q (pc + 2) ls ((2, (G.1.length : Int)) :: st) (G.1 ++ [(u, n.toNat)], G.2) (cm_row M (G.1.length : Int) 0) r G' M') : cm_WW l D cA B base ro q pc ls ((0, n) :: st) G M r G' M' := by
  intro p e R s m args below meth c H locs Ls N0 S0 Qc hX hL hW hS h1 h2 h3 h4' hQ
  have hX' := hX
  obtain ⟨hx, hb, hml, hr, hown, hts, hlk, hin, hSt, hdp, hlc⟩ := hX
  obtain ⟨t0, ht0⟩ := hkt
  have hz : cm_sz (u, n.toNat) = n.toNat := if_neg h0
  subst hty
  refine va_newaK hx hb (hts _ hac) rfl hd rfl (cm_nneg hn.1 (by omega)) (cm_clamp hn.1 (by omega)) (by
    have : n.toNat ≤ 1000 := by omega
    calc n.toNat * componentBytes (newarray.typeOf t) ≤ 1000 * 4 := Nat.mul_le_mul this hcb
      _ ≤ 536870912 := by decide) (by omega) (by omega) rfl fun H1 cB e1 z1 o1 hAr hNm => ?_
  have hcB : cB = cA u := by
    have := hnm s _ (hSt.1.2 t0 _ ht0).2
    exact Option.some.inj (hNm.symm.trans this)
  subst hcB
  have hW1 : cm_W D cA B base (G.1 ++ [(u, n.toNat)], G.2) (cm_row M (G.1.length : Int) 0) H1 := by
    refine hW.push hB z1 o1 ?_ rfl (fun j hj => ⟨cm_row_n _ hj, rfl⟩)
    unfold cm_c
    rw [if_neg h0, if_neg h4]
    show H1[H.size]? = some (vp_cell (cA u) (n.toNat, .inl _))
    rw [e1, vp_cell_i, hdv]
    congr 2
    funext j
    rw [cm_row_s]
    rfl
  have hl1 : (G.1 ++ [(u, n.toNat)]).length = G.1.length + 1 := by simp
  have hs1 : cm_sl (G.1 ++ [(u, n.toNat)], G.2) = cm_sl G + n.toNat := by rw [cm_sl_app rfl, hz]
  have kk := K p e R s m args below meth c H1 locs Ls N0 S0 Qc hX' hL hW1 (cm_S.grow hS z1 o1) (by rw [hl1]; omega) (by rw [hs1]; omega) h3 h4' hQ
  rw [List.map_cons, cm_v2 B (by omega), hB.1, ← hW.1, hl1, hs1, show G.1.length + 1 - N0 = G.1.length - N0 + 1 by omega, show cm_sl G + n.toNat - S0 = cm_sl G - S0 + n.toNat by omega] at kk
  exact kk
theorem cs_newarray (hB : cm_B B base) {u : Nat} {t : ArrayType} {n : Int} (hu : cm_ty1 t = some u) (hn : 0 ≤ n ∧ n ≤ 1000) (hlen : G.1.length + 1 ≤ G'.1.length) (hsl : cm_sl G + n.toNat ≤ cm_sl G') (hd : decode q.2.1 pc = .ok (.newarray t, 2))
    (K : cm_WW l D cA B base ro q (pc + 2) ls ((2, (G.1.length : Int)) :: st) (G.1 ++ [(u, n.toNat)], G.2) (cm_row M (G.1.length : Int) 0) r G' M') : cm_WW l D cA B base ro q pc ls ((0, n) :: st) G M r G' M' := by
  cases t <;> simp only [cm_ty1, Option.some.injEq, reduceCtorEq] at hu
  · subst hu
    exact cm_newarr (t := .boolean) (ty := .boolean) hB (by decide) (by decide) rfl cm_ac3 ⟨2, rfl⟩ (fun _ _ h => h) rfl (by decide) hn hlen hsl hd K
  · subst hu
    exact cm_newarr (t := .char) (ty := .char) hB (by decide) (by decide) rfl cm_ac2 ⟨1, rfl⟩ (fun _ _ h => h) rfl (by decide) hn hlen hsl hd K
  · subst hu
    exact cm_newarr (t := .int) (ty := .int) hB (by decide) (by decide) rfl cm_ac1 ⟨0, rfl⟩ (fun _ _ h => h) rfl (by decide) hn hlen hsl hd K
theorem cs_anewarray (hB : cm_B B base) {ix : Nat} {n : Int} (hf : cm_as cm_cls (cm_ci q) ix = some 1) (hn : 0 ≤ n ∧ n ≤ 1000) (hlen : G.1.length + 1 ≤ G'.1.length) (hsl : cm_sl G + n.toNat ≤ cm_sl G') (hd : decode q.2.1 pc = .ok (.anewarray ix, 3))
    (K : cm_WW l D cA B base ro q (pc + 3) ls ((2, (G.1.length : Int)) :: st) (G.1 ++ [(4, n.toNat)], cm_row G.2 (G.1.length : Int) (-1)) M r G' M') : cm_WW l D cA B base ro q pc ls ((0, n) :: st) G M r G' M' := by
  intro p e R s m args below meth c H locs Ls N0 S0 Qc hX hL hW hS h1 h2 h3 h4' hQ
  have hX' := hX
  obtain ⟨hx, hb, hml, hr, hown, hts, hlk, hin, hSt, hdp, hlc⟩ := hX
  obtain ⟨hci, hlink⟩ := cm_cls_ok _ (cm_as_mem hf)
  have hcl := cm_clamp hn.1 (by omega : n < 2147483648)
  refine W.anew hx hb hown (hts _ hlink) (va_AO.use hSt.2.1.2.2.2) rfl hd rfl (cm_nneg hn.1 (by omega)) (by rw [hcl]; omega) (by omega) (by rw [hcl]; omega) fun cB kA comp f1 f2 f3 f4 => ?_
  rw [hcl]
  have hcB : cB = cA 4 := by
    obtain ⟨_, _, _, _, _, g4⟩ := (hSt.1.2 3 _ rfl).2
    exact Option.some.inj (f1.symm.trans g4)
  subst hcB
  generalize hH1 : H.push ({ cls := cA 4, slots := Array.replicate n.toNat .null, vm := .none } : Cell) = H1
  have z1 : H1.size = H.size + 1 := by rw [← hH1, Array.size_push]
  have e1 : H1[H.size]? = some (arrV (cA 4) n.toNat (fun _ => .null)) := by rw [← hH1, Array.getElem?_push_size, ← arrV_new]
  have o1 : ∀ q : Nat, q < H.size → H1[q]? = H[q]? := fun q hq => by rw [← hH1, Array.getElem?_push, if_neg (Nat.ne_of_lt hq)]
  have hW1 : cm_W D cA B base (G.1 ++ [(4, n.toNat)], cm_row G.2 (G.1.length : Int) (-1)) M H1 := by
    refine hW.push hB z1 o1 ?_ rfl (fun j hj => ⟨rfl, cm_row_n _ hj⟩)
    show H1[H.size]? = some (vp_cell (cA 4) (n.toNat, .inr (.inr (.inr (.inr _)))))
    rw [e1, vp_cell_q]
    congr 2
    funext j
    unfold cm_rr
    show _ = va_rf (if cm_row G.2 _ (-1) _ _ = -1 then _ else _)
    rw [cm_row_s]
    rfl
  have hl1 : (G.1 ++ [((4 : Nat), n.toNat)]).length = G.1.length + 1 := by simp
  have hs1 : cm_sl (G.1 ++ [(4, n.toNat)], cm_row G.2 (G.1.length : Int) (-1)) = cm_sl G + n.toNat := by rw [cm_sl_app (G := G) (e := (4, n.toNat)) rfl]; rfl
  have kk := K p e R s m args below meth c H1 locs Ls N0 S0 Qc hX' hL hW1 (cm_S.grow hS z1 o1) (by rw [hl1]; omega) (by rw [hs1]; omega) h3 h4' hQ
  rw [List.map_cons, cm_v2 B (by omega), hB.1, ← hW.1, hl1, hs1, show G.1.length + 1 - N0 = G.1.length - N0 + 1 by omega, show cm_sl G + n.toNat - S0 = cm_sl G - S0 + n.toNat by omega] at kk
  exact kk
theorem cm_cats (B : Int → Nat) (st : List cm_V) : ((st.map (cm_v B)).map fun v => v.category).sum = cm_sum st := by
  unfold cm_sum
  rw [List.map_map]
  congr 1
  apply List.map_congr_left
  intro v _
  exact cm_v_cat B v
theorem cs_max {ix nst : Nat} {a b : Int} (hf : cm_as cm_call (cm_ci q) ix = some (nst, 1001)) (ha : cm_in a) (hb' : cm_in b) (hs8 : cm_sum st ≤ 8) (hdq : 1 ≤ cm_dp q ∧ 21 ≤ cm_lc q) (hlen : G.1.length ≤ G'.1.length) (hsl : cm_sl G ≤ cm_sl G') (hd : decode q.2.1 pc = .ok (.invokestatic ix, 3))
    (K : cm_WW l D cA B base ro q (pc + 3) ls ((0, if a < b then b else a) :: st) G M r G' M') : cm_WW l D cA B base ro q pc ls ((0, b) :: (0, a) :: st) G M r G' M' := by
  intro p e R s m args below meth c H locs Ls N0 S0 Qc hX hL hW hS h1 h2 h3 h4 hQ
  have kk := K p e R s m args below meth c H locs Ls N0 S0 Qc hX hL hW hS h1 h2 h3 h4 hQ
  obtain ⟨hx, hb, hml, hr, hown, hts, hlk, hin, hSt, hdp, hlc⟩ := hX
  have hl := (cm_call_ok _ (cm_as_mem hf)).2.2.1 rfl
  have e1 : (if Int32.ofInt a < Int32.ofInt b then Int32.ofInt b else Int32.ofInt a) = Int32.ofInt (if a < b then b else a) := by
    by_cases h : a < b
    · rw [if_pos h, if_pos ((cm_lt ha hb').mpr h)]
    · rw [if_neg h, if_neg (fun z => h ((cm_lt ha hb').mp z))]
  rw [List.map_cons, cm_v0, ← e1] at kk
  exact va_mmax hx hb (by rw [hml, hL.size]) hown (hts _ hl) (hts _ cm_xs) (hts _ cm_xi) (hts _ cm_xc) (by omega) (by rw [cm_cats]; omega) (by omega) (by omega) hd kk
theorem cs_objInit {ix nst : Nat} {k : Int} (hk : 0 ≤ k) (hf : cm_as cm_call (cm_ci q) ix = some (nst, 1000)) (hdq : 1 ≤ cm_dp q ∧ 12 ≤ cm_lc q) (hd : decode q.2.1 pc = .ok (.invokespecial ix, 3))
    (K : cm_WW l D cA B base ro q (pc + 3) ls [] G M r G' M') : cm_WW l D cA B base ro q pc ls [(2, k)] G M r G' M' := by
  intro p e R s m args below meth c H locs Ls N0 S0 Qc hX hL hW hS h1 h2 h3 h4 hQ
  have kk := K p e R s m args below meth c H locs Ls N0 S0 Qc hX hL hW hS h1 h2 h3 h4 hQ
  obtain ⟨hx, hb, hml, hr, hown, hts, hlk, hin, hSt, hdp, hlc⟩ := hX
  have hl := (cm_call_ok _ (cm_as_mem hf)).2.1 rfl
  rw [List.map_cons, cm_v2 B (by omega)]
  refine W.objInit hx hb hown (hts _ hl) (hts _ cm_oi) (hts _ cm_oc) rfl (by rw [hml]; exact hL.size) rfl hd (by omega) (by show 2 * 0 + 0 + 12 ≤ _; omega) ?_
  exact kk
theorem cm_nn {z : Int32} (hz : ¬ z < 0) : z.toInt = (z.toNatClampNeg : Int) := by
  have hz0 : (0 : Int) ≤ z.toInt := by
    have := Int32.not_lt.mp hz
    simpa using Int32.le_iff_toInt_le.mp this
  show z.toInt = ((z.toInt.toNat : Nat) : Int)
  omega
theorem cs_copy (hB : cm_B B base) (hro : cm_Ro ro M) (hwf : cm_Wf G) {ix nst : Nat} {k1 sp k2 dp n : Int} (hf : cm_as cm_call (cm_ci q) ix = some (nst, 1002)) (hg : 0 ≤ k2 ∧ 1 ≤ n ∧ 0 ≤ dp ∧ 0 ≤ sp ∧ (0 ≤ k1 ∨ k1 = -3) ∧ dp + n ≤ cm_al 1 G M k2 ∧ sp + n ≤ cm_al 1 G M k1 ∧ cm_sum st ≤ 8) (hdq : 1 ≤ cm_dp q ∧ 39 ≤ cm_lc q) (hd : decode q.2.1 pc = .ok (.invokestatic ix, 3))
    (K : cm_WW l D cA B base ro q (pc + 3) ls st G (cm_cpy M k1 sp k2 dp n) r G' M') : cm_WW l D cA B base ro q pc ls ((0, n) :: (0, dp) :: (2, k2) :: (0, sp) :: (2, k1) :: st) G M r G' M' := by
  intro p e R s m args below meth c H locs Ls N0 S0 Qc hX hL hW hS h1 h2 h3 h4 hQ
  have hX' := hX
  obtain ⟨hx, hb, hml, hr, hown, hts, hlk, hin, hSt, hdp, hlc⟩ := hX
  have hl := (cm_call_ok _ (cm_as_mem hf)).2.2.2.1 rfl
  obtain ⟨g1, hn1, g3, g4, g5, g6, g7, g8⟩ := hg
  have g2 : 0 ≤ n := by omega
  obtain ⟨n2, hn2, hin2⟩ := cm_al_sh (t := 1) (G := G) (M := M) (i := dp + n - 1) g1 (by omega) (by omega)
  have hw2 := cm_wf_at hwf hn2
  simp only at hw2
  -- the source cell and its numbers
  have hsrc : ∃ (cs : Cell) (L : Nat), H[B k1]? = some cs ∧ s.isArrayOf cs .int ∧ cs.vm ≠ .unknown ∧ L ≤ cs.slots.size ∧ sp + n ≤ L ∧ L < 2 ^ 31 ∧ ∀ j : Nat, j < L → cs.slots[j]? = some (.int (Int32.ofInt (M k1 j))) := by
    rcases g5 with hk1 | rfl
    · obtain ⟨n1, hn1', hin1⟩ := cm_al_sh (t := 1) (G := G) (M := M) (i := sp + n - 1) hk1 (by omega) (by omega)
      have hw1 := cm_wf_at hwf hn1'
      refine ⟨_, n1, cm_cell1 hW (by decide) (by decide) hn1', (hSt.1.2 0 _ rfl).1 n1 (fun j => .int (Int32.ofInt (M k1 j))), (fun h => by cases h), Nat.le_of_eq (arrV_size _ _ _).symm, by omega, hw1, fun j hj => arrV_read _ _ hj⟩
    · obtain ⟨cell, c1, c2, c3, c4, c5, c6, c7⟩ := (hSt.2.2.1 (-3) (Or.inl rfl)).2
      have hs3 : sp + n ≤ 3 := g7
      refine ⟨cell, 3, by rw [hS.2.1 _ (Array.getElem?_eq_some_iff.mp c1).1 c7]; exact c1, c2, c3, c4, hs3, by decide, fun j hj => ?_⟩
      rw [c6 j hj, hro (-3) (by decide)]
  obtain ⟨cs, L, s1, s2, s3, s4, s5, s6, s7⟩ := hsrc
  have e1 : cm_v B (2, k1) = .ref (B k1) := cm_v2 B (by omega)
  have e2 : cm_v B (2, k2) = .ref (B k2) := cm_v2 B (by omega)
  rw [List.map_cons, List.map_cons, List.map_cons, List.map_cons, List.map_cons, cm_v0, cm_v0, cm_v0, e1, e2]
  have c1n : (Int32.ofInt n).toNatClampNeg = n.toNat := cm_clamp g2 (by omega)
  have c1d : (Int32.ofInt dp).toNatClampNeg = dp.toNat := cm_clamp g3 (by omega)
  have c1s : (Int32.ofInt sp).toNatClampNeg = sp.toNat := cm_clamp g4 (by omega)
  have i1 := cm_nneg g4 (by omega : sp < 2147483648)
  have i2 := cm_nneg g3 (by omega : dp < 2147483648)
  have i3 := cm_nneg g2 (by omega : n < 2147483648)
  intro T hT X
  have hc1 : H[B k2]? = some (vp_cell (cA 1) (n2, .inl (fun j => Int32.ofInt (M k2 j)))) := cm_cell1 hW (by decide) (by decide) hn2
  obtain ⟨hs2, k0, hk0, cm0, hkk0⟩ := s2
  obtain ⟨-, k1', hk1', cm1, hkk1⟩ := (hSt.1.2 0 _ rfl).1 n2 (fun j => .int (Int32.ofInt (M k2 j)))
  obtain ⟨vm', X', step⟩ := X.arraycopy hx hown (hts _ hl) (hts _ cm_an) (hts _ cm_as') (hts _ cm_ai) (src := B k1) (dst := B k2) (cs := cs) (cd := vp_cell (cA 1) (n2, .inl (fun j => Int32.ofInt (M k2 j)))) (srcPos := Int32.ofInt sp) (destPos := Int32.ofInt dp) (n := Int32.ofInt n) (by rw [hT]; exact s1) (by rw [hT]; exact hc1)
    hs2 (fun _ h => by cases h) s3 (fun h => by cases h) hk0 hk1' hkk0 hkk1 (by rfl) i1 i2 i3
    (by rw [cm_nn i1, cm_nn i3, c1n, c1s]; omega)
    (by rw [cm_nn i2, cm_nn i3, c1n, c1d]; show ¬ _ > ((arrV (cA 1) n2 (fun j => .int (Int32.ofInt (M k2 j)))).slots.size : Int); rw [arrV_size]; omega)
    (fun vm₁ _ i hi => by
      rw [c1n] at hi
      have e : cs.slots.getD ((Int32.ofInt sp).toNatClampNeg + i) .null = .int (Int32.ofInt (M k1 ((sp.toNat + i : Nat) : Int))) := by
        rw [c1s, Array.getD_eq_getD_getElem?, s7 _ (by omega)]
        rfl
      refine ⟨?_, ?_⟩
      · rw [e]
        rfl
      · rw [e]
        exact trivial)
    (g := F0 m pc Ls (.int (Int32.ofInt n) :: .int (Int32.ofInt dp) :: .ref (B k2) :: .int (Int32.ofInt sp) :: .ref (B k1) :: st.map (cm_v B))) rfl (by rw [hml]; exact hL.size) (rest := st.map (cm_v B)) rfl (by rw [hb]; exact hd) (by omega) (by
      have : nativeFrameWords "java/lang/System" "arraycopy" 5 = 7 := by decide +kernel
      rw [cm_cats, this]
      show 2 * 0 + _ + _ ≤ _
      omega)
  have e3 : copied cs (vp_cell (cA 1) (n2, .inl (fun j => Int32.ofInt (M k2 j)))) (Int32.ofInt sp) (Int32.ofInt dp) (Int32.ofInt n) = vp_cell (cA 1) (n2, .inl (va_cpy (fun j => Int32.ofInt (M k1 j)) (fun j => Int32.ofInt (M k2 j)) sp.toNat dp.toNat n.toNat)) := by
    rw [vp_cell_i, vp_cell_i]
    unfold copied
    rw [c1n, c1d, c1s]
    exact va_copiedX (fun z => .int z) cs (cA 1) (fun j : Nat => Int32.ofInt (M k1 j)) (fun j : Nat => Int32.ofInt (M k2 j)) s7 (by omega)
  rw [e3] at X' step
  have hlt : B k2 < H.size := (Array.getElem?_eq_some_iff.mp hc1).1
  have hheap : ((T.setVm vm').setCell (B k2) (vp_cell (cA 1) (n2, .inl (va_cpy (fun j => Int32.ofInt (M k1 j)) (fun j => Int32.ofInt (M k2 j)) sp.toNat dp.toNat n.toNat)))).heap = H.setIfInBounds (B k2) (vp_cell (cA 1) (n2, .inl (va_cpy (fun j => Int32.ofInt (M k1 j)) (fun j => Int32.ofInt (M k2 j)) sp.toNat dp.toNat n.toNat))) := by rw [← hT]; rfl
  have oq : ∀ q : Nat, q ≠ B k2 → (H.setIfInBounds (B k2) (vp_cell (cA 1) (n2, .inl (va_cpy (fun j => Int32.ofInt (M k1 j)) (fun j => Int32.ofInt (M k2 j)) sp.toNat dp.toNat n.toNat))))[q]? = H[q]? := fun q hq => by simp [Array.getElem?_setIfInBounds, Ne.symm hq]
  have hW1 : cm_W D cA B base G (cm_cpy M k1 sp k2 dp n) (H.setIfInBounds (B k2) (vp_cell (cA 1) (n2, .inl (va_cpy (fun j => Int32.ofInt (M k1 j)) (fun j => Int32.ofInt (M k2 j)) sp.toNat dp.toNat n.toNat)))) := by
    refine hW.put hB hn2 (by simp) oq ?_ rfl (fun j hj => ⟨by funext b; unfold cm_cpy; rw [if_neg (fun h => hj h.1)], rfl⟩)
    show (H.setIfInBounds (B k2) _)[B k2]? = some (vp_cell (cA 1) (n2, .inl _))
    rw [show (H.setIfInBounds (B k2) (vp_cell (cA 1) (n2, .inl (va_cpy (fun j => Int32.ofInt (M k1 j)) (fun j => Int32.ofInt (M k2 j)) sp.toNat dp.toNat n.toNat))))[B k2]? = some _ by simp [Array.getElem?_setIfInBounds, hlt]; rfl]
    congr 4
    funext j
    unfold va_cpy cm_cpy
    by_cases hj : dp.toNat ≤ j ∧ j < dp.toNat + n.toNat
    · rw [if_pos hj, if_pos ⟨rfl, by omega, by omega⟩]
      show Int32.ofInt (M k1 ((sp.toNat + (j - dp.toNat) : Nat) : Int)) = _
      rw [show ((sp.toNat + (j - dp.toNat) : Nat) : Int) = sp + (j - dp) by omega]
    · rw [if_neg hj, if_neg (by omega)]
  obtain ⟨t, a1, b1⟩ := K p e R s m args below meth c _ _ Ls N0 S0 Qc hX' hL hW1 ⟨by simp; exact hS.1, fun q g1 g2 => by
      rw [oq q (fun e => g2 (by rw [e]; exact cm_base hB hn2))]
      exact hS.2.1 q g1 g2, fun q hq => by
      rcases List.mem_append.mp hq with h | h
      · exact hS.2.2 q h
      · obtain ⟨z, -, hz⟩ := List.mem_map.mp h
        rw [← hz]
        exact cm_base hB hn2⟩ h1 h2 h3 h4 hQ _ hheap X'
  exact ⟨t, step t a1, b1⟩
end ARMS3
