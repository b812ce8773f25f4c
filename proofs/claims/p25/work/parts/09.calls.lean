/-! ===== CALLS ===== -/
def cm_rk1 (q : cm_MI) (ix : Nat) : Bool := match cm_as cm_call (cm_ci q) ix with
  | some (_, n) => if n = 1000 then decide (1 ≤ cm_dp q ∧ 12 ≤ cm_lc q) else if n = 1001 then decide (1 ≤ cm_dp q ∧ 21 ≤ cm_lc q) else if n = 1002 then decide (1 ≤ cm_dp q ∧ 39 ≤ cm_lc q) else match cm_P[n]? with
    | some q' => decide (cm_dp q'.1 + 1 ≤ cm_dp q ∧ 8 + (cm_ml q'.1 + 11) + cm_lc q'.1 ≤ cm_lc q)
    | none => false
  | none => false
def cm_rk (q : cm_MI) (i : Instr) : Bool := match i with
  | .invokevirtual ix => cm_rk1 q ix
  | .invokestatic ix => cm_rk1 q ix
  | .invokespecial ix => cm_rk1 q ix
  | _ => true
set_option maxRecDepth 100000 in
theorem cm_rk_all : (cm_P.all (fun q => (q.2).all (fun e => cm_rk q.1 e.2.1))) = true := by decide +kernel
theorem cm_rk_ok {μ pc : Nat} {q : cm_Q} {i : Instr × Nat} (hq : cm_P[μ]? = some q) (h : cm_at q.2 pc = some i) : cm_rk q.1 i.1 = true :=
  List.all_eq_true.mp (List.all_eq_true.mp cm_rk_all q (List.mem_of_getElem? hq)) _ (cm_at_mem h)
section ARMS4
variable {l : Launch} {D : va_G} {cA : Nat → ClassId} {B : Int → Nat} {base : Nat} {ro : Int → Int → Int} {q : cm_MI} {pc : Nat} {ls : List (Option cm_V)} {st : List cm_V} {G : cm_G} {M : cm_M} {r : Option cm_V} {G' : cm_G} {M' : cm_M}
abbrev cm_Pre (D : va_G) (cA : Nat → ClassId) (B : Int → Nat) (base : Nat) (ro : Int → Int → Int) (G : cm_G) (M : cm_M) : State → Prop := fun U => cm_W D cA B base G M U.heap ∧ cm_S D cA B base ro U
abbrev cm_Post (D : va_G) (cA : Nat → ClassId) (B : Int → Nat) (base : Nat) (v : Option Value) (G : cm_G) (M : cm_M) : State → Outcome → State → Prop := fun st o t => o = .returned v ∧ cm_W D cA B base G M t.heap ∧ va_F (cm_A base) st t
abbrev cm_Rm (q' : cm_MI) (G G1 : cm_G) : Room := { frames := cm_dp q', cells := G1.1.length - G.1.length, slots := cm_sl G1 - cm_sl G, locals := cm_lc q' }
theorem cm_met {q' : cm_MI} (hok : cm_ok q') {as : List cm_V} {r1 : Option cm_V} {G1 : cm_G} {M1 : cm_M} (ht : as.map (fun v => v.1) = cm_tg q') (hs : cm_sum as ≤ cm_ml q') (K : cm_WW l D cA B base ro q' 0 (cm_ent (cm_ml q') as) [] G M r1 G1 M1) :
    Met l q'.1 (cm_wd q' :: cm_T) (cm_Rm q' G G1) (va_Pc (as.map (cm_v B)) (cm_Pre D cA B base ro G M)) (fun _ => cm_Post D cA B base (r1.map (cm_v B)) G1 M1) (G1.1.length - G.1.length) (cm_sl G1 - cm_sl G) (cm_A base) := by
  obtain ⟨k1, k2, k3, k4, k5, k6, k7, k8, k9, k10, k11⟩ := hok
  refine Met.ofW (cc := q'.2.1) (maxL := cm_ml q') (ret := cm_rt q') k7 rfl ?_
  intro p e s m args below meth c s₁ B' hml hv
  obtain ⟨rfl, hW, hSt⟩ := hv
  have hfc : s.vm.findClass q'.1.cls = some m.cls := findClass_of_methodNamed B'.named
  have hts := atoms_spec (ws := cm_wd q' :: cm_T) B'.pre
  have hX : cm_X D cA B base ro q' p (headSpec (cm_wd q' :: cm_T) (cm_Rm q' G G1)).room s m (as.map (cm_v B)).toArray meth c :=
    ⟨B'.exec, B'.bytes, hml, B'.returns, by rw [← k8]; exact hfc, fun w hw => hts w (List.mem_cons_of_mem _ hw), B'.notSynchronized, fun h => by rw [(name_of_methodNamed B'.named B'.method).1]; exact (k5 h).2.1, hSt, Nat.le_refl _, Nat.le_refl _⟩
  rw [lg_entry_eq]
  have k := K p e _ s m _ below meth c s.heap [] _ G.1.length (cm_sl G) (fun _ => cm_Post D cA B base (r1.map (cm_v B)) G1 M1) hX (cm_ent_L B q' as ht hs k9) hW va_S.rf (Nat.le_refl _) (Nat.le_refl _) (Nat.le_refl _) (Nat.le_refl _) (fun t _ h1 h2 => ⟨rfl, h1, h2⟩)
  rw [Nat.sub_self, Nat.sub_self] at k
  exact k
theorem cm_after {p : Program} {e : Env} {R : Room} {s : State} {m : MethodId} {args : Array Value} {below : List Frame} {meth : Method} {c : Code} {H : Heap} {locs : List Loc} {cells slots mc ms : Nat} {Q : State → Prop} {Ls : Array Slot} {st0 rest : List Value} {v : Option Value} {G1 : cm_G} {M1 : cm_M}
    (hr : va_Run p l e R s m args below meth c H locs cells slots mc ms (F0 m pc Ls st0) rest (cm_Post D cA B base v G1 M1) (cm_A base)) (hS : va_S (cm_A base) s.heap H locs)
    (kk : ∀ (H1 : Heap) (locs1 : List Loc), cm_W D cA B base G1 M1 H1 → va_S (cm_A base) s.heap H1 locs1 → W p l e R s m args below meth c H1 locs1 (cells + mc) (slots + ms) Q (F0 m (pc + 3) Ls (v.toList ++ rest))) : W p l e R s m args below meth c H locs cells slots Q (F0 m pc Ls st0) := by
  intro T hT X
  obtain ⟨v', st₀, t, T', L, h0, X', hL, e1, e2, ⟨hv, hw, hz, hk⟩, st⟩ := hr T hT X
  cases hv
  rw [h0] at hz hk
  obtain ⟨t2, a1, b1⟩ := kk T'.heap (locs ++ L) (by rw [e1]; exact hw)
    ⟨Nat.le_trans hS.1 (by rw [e1]; exact hz), fun q h1 h2 => by rw [e1, hk q (Nat.lt_of_lt_of_le h1 hS.1) h2]; exact hS.2.1 q h1 h2, fun q hq => by
      rcases List.mem_append.mp hq with h | h
      · exact hS.2.2 q h
      · exact hL q h⟩ T' rfl X'
  exact ⟨t2, st t2 a1, b1⟩
theorem cm_gin {ws : List Cond} (h : ∀ w ∈ ws, w ∈ cm_T) : GoodIn cm_T ws := fun w hw => ⟨h w hw, cm_T_good (h w hw)⟩
theorem cm_blind (av : List Value) : FrameBlind (va_Pc av (cm_Pre D cA B base ro G M)) := fun a U g mk ⟨h1, h2, h3⟩ => ⟨h1, h2, h3.blind g mk a⟩
/-- what a call gives, whichever way it goes -/
theorem cm_goes {q' : cm_MI} {rest : List cm_V} {r1 : Option cm_V} {G1 : cm_G} {M1 : cm_M} (hpre : G.1.length ≤ G1.1.length ∧ cm_sl G ≤ cm_sl G1) (hpost : G1.1.length ≤ G'.1.length ∧ cm_sl G1 ≤ cm_sl G')
    (K : cm_WW l D cA B base ro q (pc + 3) ls (r1.toList ++ rest) G1 M1 r G' M')
    (hrun : ∀ (p : Program) (e : Env) (R : Room) (s : State) (m : MethodId) (args : Array Value) (below : List Frame) (meth : Method) (c : Code) (H : Heap) (locs : List Loc) (Ls : Array Slot) (cells slots : Nat), cm_X D cA B base ro q p R s m args meth c → cm_L B q Ls ls → cm_W D cA B base G M H → va_S (cm_A base) s.heap H locs → cells + (G1.1.length - G.1.length) ≤ R.cells → slots + (cm_sl G1 - cm_sl G) ≤ R.slots →
      va_Run p l e R s m args below meth c H locs cells slots (G1.1.length - G.1.length) (cm_sl G1 - cm_sl G) (F0 m pc Ls (st.map (cm_v B))) (rest.map (cm_v B)) (cm_Post D cA B base (r1.map (cm_v B)) G1 M1) (cm_A base)) : cm_WW l D cA B base ro q pc ls st G M r G' M' := by
  intro p e R s m args below meth c H locs Ls N0 S0 Qc hX hL hW hS h1 h2 h3 h4 hQ
  refine cm_after (hrun p e R s m args below meth c H locs Ls _ _ hX hL hW hS (by omega) (by omega)) hS (fun H1 locs1 hW1 hS1 => ?_)
  have k := K p e R s m args below meth c H1 locs1 Ls N0 S0 Qc hX hL hW1 hS1 (by omega) (by omega) h3 h4 hQ
  rw [show G1.1.length - N0 = G.1.length - N0 + (G1.1.length - G.1.length) by omega, show cm_sl G1 - S0 = cm_sl G - S0 + (cm_sl G1 - cm_sl G) by omega, List.map_append] at k
  have e1 : (r1.toList).map (cm_v B) = (r1.map (cm_v B)).toList := by cases r1 <;> rfl
  rw [e1] at k
  exact k
theorem cm_recv (hB : cm_B B base) {s : State} {H : Heap} (hSt : cm_S D cA B base ro s) (hW : cm_W D cA B base G M H) {q' : cm_MI} (hok : cm_ok q') (hkd : cm_kd q' ≠ 1) {k : Int} (hk : cm_sh G k = some (0, cm_ci q')) : ∃ cell : Cell, H[B k]? = some cell ∧ cell.vm.isStatics = false ∧ s.vm.findClass q'.1.cls = some cell.cls := by
  obtain ⟨rc, hrc, hn⟩ := hok.2.2.2.2.2.2.2.2.2.2 hkd
  have := va_recv hSt.1 (cm_P1 (cm_cell0 hW hk)) hrc (q0 := 0) rfl
  rwa [hn] at this
theorem cs_callV (hB : cm_B B base) {ix n : Nat} {q' : cm_Q} {k : Int} {as rest : List cm_V} {r1 : Option cm_V} {G1 : cm_G} {M1 : cm_M} (hf : cm_as cm_call (cm_ci q) ix = some (0, n)) (hq' : cm_P[n]? = some q') (hn : n < 1000) (hkd : cm_kd q'.1 = 0) (hk : cm_sh G k = some (0, cm_ci q'.1)) (hst : st = as.reverse ++ (2, k) :: rest) (ht : ((2, k) :: as).map (fun v => v.1) = cm_tg q'.1) (hr8 : cm_sum rest ≤ 8) (hs : cm_sum ((2, k) :: as) ≤ cm_ml q'.1)
    (hdq : cm_dp q'.1 + 1 ≤ cm_dp q ∧ 8 + (cm_ml q'.1 + 11) + cm_lc q'.1 ≤ cm_lc q) (hd : decode q.2.1 pc = .ok (.invokevirtual ix, 3)) (hpre : G.1.length ≤ G1.1.length ∧ cm_sl G ≤ cm_sl G1) (hpost : G1.1.length ≤ G'.1.length ∧ cm_sl G1 ≤ cm_sl G')
    (C : cm_WW l D cA B base ro q'.1 0 (cm_ent (cm_ml q'.1) ((2, k) :: as)) [] G M r1 G1 M1) (K : cm_WW l D cA B base ro q (pc + 3) ls (r1.toList ++ rest) G1 M1 r G' M') : cm_WW l D cA B base ro q pc ls st G M r G' M' := by
  refine cm_goes (rest := rest) (q' := q'.1) hpre hpost K ?_
  intro p e R s m args below meth c H locs Ls cells slots hX hL hW hS hc1 hc2
  obtain ⟨hx, hb, hml, hr, hown, hts, hlk, hin, hSt, hdp, hlc⟩ := hX
  obtain ⟨q'', hq'', hok, hl, -⟩ := (cm_call_ok _ (cm_as_mem hf)).1 hn
  cases hq'.symm.trans hq''
  have hl := hl rfl
  have hok' := hok
  obtain ⟨k1, k2, k3, k4, k5, k6, k7, k8, k9, k10, k11⟩ := hok
  have e2 : cm_v B (2, k) = .ref (B k) := cm_v2 B (by have := (cm_sh_lt hk).1; omega)
  have hM := cm_met hok' ht hs C
  have hlen : (as.map (cm_v B)).length = (cm_tg q'.1).length - 1 := by
    rw [← ht]
    simp
  have hwn : ∀ w ∈ wsV (cm_cn (cm_ci q)) ix q'.1.1.cls q'.1.1 (cm_wd q'.1 :: cm_T), w ∈ cm_T := by
    intro w hw
    unfold wsV at hw
    simp only [List.cons_append, List.nil_append, List.mem_cons] at hw
    rcases hw with rfl | rfl | rfl | rfl | rfl | hw
    · exact hl
    · exact (k3 hkd).1
    · exact (k3 hkd).2
    · exact k2
    · exact k1
    · exact hw
  have hrun := va_runV (e := e) (below := below) (meth := meth) (H := H) (locs := locs) (cells := cells) (slots := slots) (As := as.map (cm_v B)) (rest := rest.map (cm_v B)) (b := B k) (g := F0 m pc Ls (st.map (cm_v B))) ⟨hx, hb, hml, hown, hts⟩ hM (cwV ((cm_tg q'.1).length - 1) hts (cm_gin hwn) rfl rfl rfl ⟨rfl, k6.1, k6.2.1, by rw [k6.2.2, hkd]; rfl⟩ ⟨by show cm_dp q'.1 + 1 ≤ _; omega, by show 8 + (cm_ml q'.1 + 11) + cm_lc q'.1 ≤ _; omega⟩)
    ⟨cm_blind _, cm_recv hB hSt hW hok' (by rw [hkd]; decide) hk, fun U hU hWm => ⟨by rw [List.map_cons, e2], by rw [hU]; exact hW, hSt.moved hB hWm (by rw [hU]; exact hS)⟩⟩ rfl hlen hL.size (by rw [hst]; simp [F0, e2]) (lv_room (by rw [cm_cats]; exact hr8)) hd ⟨hc1, hc2⟩
  exact hrun
theorem cs_callI (hB : cm_B B base) {ix nst n : Nat} {q' : cm_Q} {k : Int} {as rest : List cm_V} {r1 : Option cm_V} {G1 : cm_G} {M1 : cm_M} (hf : cm_as cm_call (cm_ci q) ix = some (nst, n)) (hq' : cm_P[n]? = some q') (hn : n < 1000) (hkd : cm_kd q'.1 = 2) (hk : cm_sh G k = some (0, cm_ci q'.1)) (hst : st = as.reverse ++ (2, k) :: rest) (ht : ((2, k) :: as).map (fun v => v.1) = cm_tg q'.1) (hr8 : cm_sum rest ≤ 8) (hs : cm_sum ((2, k) :: as) ≤ cm_ml q'.1)
    (hdq : cm_dp q'.1 + 1 ≤ cm_dp q ∧ 8 + (cm_ml q'.1 + 11) + cm_lc q'.1 ≤ cm_lc q) (hd : decode q.2.1 pc = .ok (.invokespecial ix, 3)) (hpre : G.1.length ≤ G1.1.length ∧ cm_sl G ≤ cm_sl G1) (hpost : G1.1.length ≤ G'.1.length ∧ cm_sl G1 ≤ cm_sl G')
    (C : cm_WW l D cA B base ro q'.1 0 (cm_ent (cm_ml q'.1) ((2, k) :: as)) [] G M r1 G1 M1) (K : cm_WW l D cA B base ro q (pc + 3) ls (r1.toList ++ rest) G1 M1 r G' M') : cm_WW l D cA B base ro q pc ls st G M r G' M' := by
  refine cm_goes (rest := rest) (q' := q'.1) hpre hpost K ?_
  intro p e R s m args below meth c H locs Ls cells slots hX hL hW hS hc1 hc2
  obtain ⟨hx, hb, hml, hr, hown, hts, hlk, hin, hSt, hdp, hlc⟩ := hX
  obtain ⟨q'', hq'', hok, hl, hnl⟩ := (cm_call_ok _ (cm_as_mem hf)).1 hn
  cases hq'.symm.trans hq''
  have hok' := hok
  obtain ⟨k1, k2, k3, k4, k5, k6, k7, k8, k9, k10, k11⟩ := hok
  have e2 : cm_v B (2, k) = .ref (B k) := cm_v2 B (by have := (cm_sh_lt hk).1; omega)
  have hM := cm_met hok' ht hs C
  have hlen : (as.map (cm_v B)).length = (cm_tg q'.1).length - 1 := by
    rw [← ht]
    simp
  have hwn : ∀ w ∈ cm_wd q'.1 :: cm_T, w ∈ cm_T := by
    intro w hw
    rcases List.mem_cons.mp hw with rfl | hw
    · exact k1
    · exact hw
  have hret := (k5 hkd).2.2
  have hR : cm_dp q'.1 + 1 ≤ R.frames ∧ 8 + (cm_ml q'.1 + 11) + cm_lc q'.1 ≤ R.locals := ⟨by omega, by omega⟩
  have hpp : PreS s H (va_Pc (((2, k) :: as).map (cm_v B)) (cm_Pre D cA B base ro G M)) (.ref (B k) :: as.map (cm_v B)) := ⟨cm_blind _, fun U hU hWm => ⟨by rw [List.map_cons, e2], by rw [hU]; exact hW, hSt.moved hB hWm (by rw [hU]; exact hS)⟩⟩
  have hws : cm_wd q'.1 :: cm_T = Cond.code q'.1.1 q'.1.2.1 (cm_ml q'.1) none :: cm_T := by unfold cm_wd; rw [hret]
  by_cases hnst : nst = 0
  · have hrun := va_runI (e := e) (below := below) (meth := meth) (H := H) (locs := locs) (cells := cells) (slots := slots) (As := as.map (cm_v B)) (rest := rest.map (cm_v B)) (b := B k) (g := F0 m pc Ls (st.map (cm_v B))) ⟨hx, hb, hml, hown, hts⟩ hM (cwI ((cm_tg q'.1).length - 1) hts (cm_gin hwn) hws rfl rfl (hts _ k2) (hts _ (hl hnst)) (hts _ (k5 hkd).1) (k5 hkd).2.1 ⟨k6.1, k6.2.1, by rw [k6.2.2, hkd]; rfl⟩ hR)
      hpp rfl hlen hL.size (by rw [hst]; simp [F0, e2]) (lv_room (by rw [cm_cats]; exact hr8)) hd ⟨hc1, hc2⟩
    exact hrun
  · have hin3 := hnl hnst
    simp only [List.mem_cons, Prod.mk.injEq, List.not_mem_nil, or_false] at hin3
    rcases hin3 with ⟨h1, h2, h3⟩ | ⟨h1, h2, h3⟩
    · rw [h1] at hown
      subst h2 h3
      cases (show cm_P[0]? = some (mi_0, ins_0) from rfl).symm.trans hq'
      have hrun := va_runIN (e := e) (below := below) (meth := meth) (H := H) (locs := locs) (cells := cells) (slots := slots) (As := as.map (cm_v B)) (rest := rest.map (cm_v B)) (b := B k) (g := F0 m pc Ls (st.map (cm_v B))) ⟨hx, hb, hml, hown, hts⟩ hM ⟨va_cnB ((cm_tg mi_0).length - 1) hts (cm_gin hwn) hws rfl rfl hSt.2.1.1 (hts _ k2) ⟨k6.1, k6.2.1, by rw [k6.2.2, hkd]; rfl⟩ hR, (k5 hkd).2.1, hts _ (k5 hkd).1⟩
        hpp rfl hlen hL.size (by rw [hst]; simp [F0, e2]) (lv_room (by rw [cm_cats]; exact hr8)) hd ⟨hc1, hc2⟩
      exact hrun
    · rw [h1] at hown
      subst h2 h3
      cases (show cm_P[43]? = some (mi_43, ins_43) from rfl).symm.trans hq'
      have hrun := va_runIN (e := e) (below := below) (meth := meth) (H := H) (locs := locs) (cells := cells) (slots := slots) (As := as.map (cm_v B)) (rest := rest.map (cm_v B)) (b := B k) (g := F0 m pc Ls (st.map (cm_v B))) ⟨hx, hb, hml, hown, hts⟩ hM ⟨va_cnB ((cm_tg mi_43).length - 1) hts (cm_gin hwn) hws rfl rfl hSt.2.1.2.1 (hts _ k2) ⟨k6.1, k6.2.1, by rw [k6.2.2, hkd]; rfl⟩ hR, (k5 hkd).2.1, hts _ (k5 hkd).1⟩
        hpp rfl hlen hL.size (by rw [hst]; simp [F0, e2]) (lv_room (by rw [cm_cats]; exact hr8)) hd ⟨hc1, hc2⟩
      exact hrun
theorem cs_callS (hB : cm_B B base) {ix nst n : Nat} {q' : cm_Q} {as rest : List cm_V} {r1 : Option cm_V} {G1 : cm_G} {M1 : cm_M} (hf : cm_as cm_call (cm_ci q) ix = some (nst, n)) (hq' : cm_P[n]? = some q') (hn : n < 1000) (hkd : cm_kd q'.1 = 1) (hst : st = as.reverse ++ rest) (ht : as.map (fun v => v.1) = cm_tg q'.1) (hr8 : cm_sum rest ≤ 8) (hs : cm_sum as ≤ cm_ml q'.1)
    (hdq : cm_dp q'.1 + 1 ≤ cm_dp q ∧ 8 + (cm_ml q'.1 + 11) + cm_lc q'.1 ≤ cm_lc q) (hd : decode q.2.1 pc = .ok (.invokestatic ix, 3)) (hpre : G.1.length ≤ G1.1.length ∧ cm_sl G ≤ cm_sl G1) (hpost : G1.1.length ≤ G'.1.length ∧ cm_sl G1 ≤ cm_sl G')
    (C : cm_WW l D cA B base ro q'.1 0 (cm_ent (cm_ml q'.1) as) [] G M r1 G1 M1) (K : cm_WW l D cA B base ro q (pc + 3) ls (r1.toList ++ rest) G1 M1 r G' M') : cm_WW l D cA B base ro q pc ls st G M r G' M' := by
  refine cm_goes (rest := rest) (q' := q'.1) hpre hpost K ?_
  intro p e R s m args below meth c H locs Ls cells slots hX hL hW hS hc1 hc2
  obtain ⟨hx, hb, hml, hr, hown, hts, hlk, hin, hSt, hdp, hlc⟩ := hX
  obtain ⟨q'', hq'', hok, hl, hnl⟩ := (cm_call_ok _ (cm_as_mem hf)).1 hn
  cases hq'.symm.trans hq''
  have hok' := hok
  obtain ⟨k1, k2, k3, k4, k5, k6, k7, k8, k9, k10, k11⟩ := hok
  have hM := cm_met hok' ht hs C
  have hlen : (as.map (cm_v B)).length = (cm_tg q'.1).length := by
    rw [← ht]
    simp
  have hwt : ∀ w ∈ cm_wd q'.1 :: cm_T, w ∈ cm_T := by
    intro w hw
    rcases List.mem_cons.mp hw with rfl | hw
    · exact k1
    · exact hw
  have hR : cm_dp q'.1 + 1 ≤ R.frames ∧ 8 + (cm_ml q'.1 + 11) + cm_lc q'.1 ≤ R.locals := ⟨by omega, by omega⟩
  have hpp : PreS s H (va_Pc (as.map (cm_v B)) (cm_Pre D cA B base ro G M)) (as.map (cm_v B)) := ⟨cm_blind _, fun U hU hWm => ⟨rfl, by rw [hU]; exact hW, hSt.moved hB hWm (by rw [hU]; exact hS)⟩⟩
  have hpn : (parseMethodDescriptor q'.1.1.desc).map (fun d => d.parameters.length) = some (cm_tg q'.1).length := by rw [k6.2.2, hkd]; rfl
  by_cases hnst : nst = 0
  · have hwn : ∀ w ∈ va_wsS (cm_cn (cm_ci q)) ix q'.1.1 (cm_wd q'.1 :: cm_T), w ∈ cm_T := by
      intro w hw
      unfold va_wsS at hw
      simp only [List.cons_append, List.nil_append, List.mem_cons] at hw
      rcases hw with rfl | rfl | rfl | rfl | hw
      · exact hl hnst
      · exact k4 hkd
      · exact k2
      · exact k1
      · exact hw
    have hrun := va_runS (e := e) (below := below) (meth := meth) (H := H) (locs := locs) (cells := cells) (slots := slots) (As := as.map (cm_v B)) (rest := rest.map (cm_v B)) (g := F0 m pc Ls (st.map (cm_v B))) ⟨hx, hb, hml, hown, hts⟩ hM (va_cwS ((cm_tg q'.1).length) hts (cm_gin hwn) rfl rfl rfl ⟨k6.1, k6.2.1, hpn⟩ hR)
      hpp rfl hlen hL.size (by rw [hst]; simp [F0]) (lv_room (by rw [cm_cats]; exact hr8)) hd ⟨hc1, hc2⟩
    exact hrun
  · have hin3 := hnl hnst
    simp only [List.mem_cons, Prod.mk.injEq, List.not_mem_nil, or_false] at hin3
    rcases hin3 with ⟨h1, h2, h3⟩ | ⟨h1, h2, h3⟩
    · rw [h3] at hq'
      cases (show cm_P[0]? = some (mi_0, ins_0) from rfl).symm.trans hq'
      cases hkd
    · rw [h3] at hq'
      cases (show cm_P[43]? = some (mi_43, ins_43) from rfl).symm.trans hq'
      cases hkd
end ARMS4
