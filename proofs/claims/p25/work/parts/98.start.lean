/-! THE CLAIM OUT OF ONE WALK OF THE LAW'S BODY. Your part is whole_start (and what it stands on); all else here is the same for every law, but numbers. -/
def R_law : String := "CreditScrollLaw"
def lw_P (b : Addr) (xs : List Int32) (args : Array Value) (s : State) : Prop := args = #[.ref b] ∧ s.IntsAt b xs ∧ xs.length ≤ 260 ∧ (Jvm.Cond.and given_1 narrow_1).before args s = true
def lw_Q (_ : Array Value) (s : State) (o : Outcome) (t : State) : Prop := o = .returned (some (.int 1)) ∧ Framed s o t [] 600000 7302250
def lw_Z (below : List Frame) (a : Array Value) (s : State) : State → Prop := fun t => ∃ o, t.status = .running ∧ Ended t below o ∧ lw_Q a s o t
/-- the law's own end, with 1 on the stack, nothing written that was there before, its room as the claim has it -/
theorem lw_ret {p : Program} {l : Launch} {e : Env} {s : State} {m : MethodId} {below : List Frame} {meth : Method} {c : Code} {b : Nat} (hx : p.tables.exec = Jvm.exec) (hb : c.code = code) (hr : meth.sig.returnType = ret) (hlocks : meth.locks = false) {pc : Nat} {H : Heap} {ls : Array Slot} (hdg : decode code pc = .ok (.ireturn, 1)) : W p l e room_1 s m #[Value.ref b] below meth c H [] 600000 7302250 (lw_Z below #[Value.ref b] s) (F0 m pc ls [.int 1]) := by
  intro T hT X
  obtain ⟨fs, hret, hrun, hended, hW, hframe⟩ := X.leave (v := some (.int 1)) (hlocks := hlocks) (fun h => by rw [hr] at h; cases h)
  have hmeth' : T.vm.method? m = some meth := X.method'
  refine ⟨T.setFrames fs, ?_, .returned (some (.int 1)), hrun, hended, rfl, ⟨_, rfl⟩, hW, hframe⟩
  jvm_step X.here [X.here.top, hx, hb, hdg, hmeth', hr, ret, narrow_b1]
  (try refine ⟨rfl, ?_⟩); (try refine ⟨rfl, ?_⟩)
  first | (intro acts; rw [hret _ acts rfl rfl rfl]) | rw [hret _ _ rfl rfl rfl]
  exact Steps.refl _
/-- what holds at the law's entry: the machine, the code, the tables' words (any of lw_tbl by 'hts w (by decide +kernel)'), the script of L ints xs at the cell b, what the Statement gives of the start (any of its parts by flat_of_before) -/
def lw_At (p : Program) (s : State) (m : MethodId) (meth : Method) (c : Code) (b L : Nat) (xs : Nat → Int32) : Prop :=
  p.tables.exec = Jvm.exec ∧ c.code = code ∧ meth.sig.returnType = ret ∧ c.maxLocals = 14 ∧ s.vm.findClass R_law = some m.cls ∧ (∀ w ∈ lw_tbl, w.before #[Value.ref b] s = true) ∧ va_X b L xs s s.heap ∧ b < s.heap.size ∧ meth.locks = false ∧ (Jvm.Cond.and given_1 narrow_1).before #[Value.ref b] s = true
-- ===== FROM THE SMALL MACHINE TO THE LAW'S WALK =====
def cm_Bf (base b t3 t4 t5 : Nat) (k : Int) : Nat := if 0 ≤ k then base + k.toNat else if k = -3 then t3 else if k = -4 then t4 else if k = -5 then t5 else b
theorem cm_tabOf {b : Nat} {s : State} {nm : String} {f : Nat → Int32} {x0 x1 x2 : Int32} (A : Nat → Prop) (e0 : f 0 = x0) (e1 : f 1 = x1) (e2 : f 2 = x2) (hA : ∀ a : Nat, a < s.heap.size → ¬ A a) (hl : (Cond.laysStatic RX5 nm "[I").before #[Value.ref b] s = true) (hini : (Cond.initialized RX5).before #[Value.ref b] s = true) (harr : (Cond.arrayOf (.static RX5 nm "[I") .int).before #[Value.ref b] s = true) (hlen : (Cond.eq (.length (.static RX5 nm "[I")) (.int 3)).before #[Value.ref b] s = true)
    (h0 : (Cond.eq (.elem (.static RX5 nm "[I") (.int 0)) (.int x0)).before #[Value.ref b] s = true) (h1 : (Cond.eq (.elem (.static RX5 nm "[I") (.int 1)) (.int x1)).before #[Value.ref b] s = true) (h2 : (Cond.eq (.elem (.static RX5 nm "[I") (.int 2)) (.int x2)).before #[Value.ref b] s = true) :
    ∃ t : Nat, va_Z RX5 nm "[I" (.ref t) A s s.heap ∧ va_T .int t 3 (fun j => .int (f j)) A s s.heap ∧ t < s.heap.size := by
  obtain ⟨t, ht, hT⟩ := va_Tof (N := 3) (f := fun j => .int (f j)) (by decide) harr (va_eqt hlen) (fun j hj => by
    match j, hj with
    | 0, _ => rw [e0]; exact va_eqt h0
    | 1, _ => rw [e1]; exact va_eqt h1
    | 2, _ => rw [e2]; exact va_eqt h2
    | j + 3, hj => exact absurd hj (by omega)) hA
  have hlt : t < s.heap.size := by
    obtain ⟨cell, h1, -⟩ := hT
    exact (Array.getElem?_eq_some_iff.mp h1).1
  exact ⟨t, va_Zref hl hini ht hA, hT, hlt⟩
theorem cm_arrK {s : State} {ty : FieldType} {args : Array Value} (h : (Cond.arrayClass ty).before args s = true) : ∃ cA : ClassId, ArrOfT s cA ty ∧ s.vm.findClass ("[" ++ ty.toString) = some cA := by
  obtain ⟨cA, kA, comp, h1, h2, h3⟩ := Cond.arrayClass_spec h
  exact ⟨cA, fun n z => ⟨fun k h => (by cases h), kA, h2, comp, h3⟩, h1⟩
set_option maxHeartbeats 4000000 in
set_option maxRecDepth 100000 in
theorem whole_start {p : Program} {e : Env} {s : State} {m : MethodId} {below : List Frame} {meth : Method} {c : Code} (l : Launch) (hflags : l.flags = flags0) {b L : Nat} {xs : Nat → Int32} (hL : L ≤ 260) (C0 : lw_At p s m meth c b L xs) : W p l e room_1 s m #[Value.ref b] below meth c s.heap [] 0 0 (lw_Z below #[Value.ref b] s) (entryFrame m ([Value.ref b] : List Value).toArray 14) := by
  obtain ⟨hx, hb, hr, hml, hown, hts0, hX, hbl, hlocks, hgv⟩ := C0
  have hts : ∀ w ∈ cm_T, w.before #[Value.ref b] s = true := fun w hw => hts0 w (List.mem_filter.mp hw).1
  have hs := flat_of_before _ hgv
  have hA : ∀ a : Nat, a < s.heap.size → ¬ cm_A s.heap.size a := fun a h => Nat.not_le.mpr h
  have hini : (Cond.initialized RX5).before #[Value.ref b] s = true := hts _ (mo_55).2.1
  obtain ⟨t3, z3, T3, l3⟩ := cm_tabOf (nm := "FIRST_SETTINGS") (f := fun j => Int32.ofInt (cm_ro L xs (-3) j)) (cm_A s.heap.size) (by simp [cm_ro]) (by simp [cm_ro]) (by simp [cm_ro]) hA (hts0 _ (List.mem_of_getElem? (i := 44) (by decide +kernel))) hini (hs _ (by decide +kernel)) (hs _ (by decide +kernel)) (hs (Cond.eq (.elem (.static "CreditScroll" "FIRST_SETTINGS" "[I") (.int 0)) (.int 10)) (by decide +kernel)) (hs (Cond.eq (.elem (.static "CreditScroll" "FIRST_SETTINGS" "[I") (.int 1)) (.int 5)) (by decide +kernel)) (hs (Cond.eq (.elem (.static "CreditScroll" "FIRST_SETTINGS" "[I") (.int 2)) (.int 3)) (by decide +kernel))
  obtain ⟨t4, z4, T4, l4⟩ := cm_tabOf (nm := "LEAST_SETTINGS") (f := fun j => Int32.ofInt (cm_ro L xs (-4) j)) (cm_A s.heap.size) (by simp [cm_ro]) (by simp [cm_ro]) (by simp [cm_ro]) hA (hts0 _ (List.mem_of_getElem? (i := 191) (by decide +kernel))) hini (hs _ (by decide +kernel)) (hs _ (by decide +kernel)) (hs (Cond.eq (.elem (.static "CreditScroll" "LEAST_SETTINGS" "[I") (.int 0)) (.int 4)) (by decide +kernel)) (hs (Cond.eq (.elem (.static "CreditScroll" "LEAST_SETTINGS" "[I") (.int 1)) (.int 1)) (by decide +kernel)) (hs (Cond.eq (.elem (.static "CreditScroll" "LEAST_SETTINGS" "[I") (.int 2)) (.int 1)) (by decide +kernel))
  obtain ⟨t5, z5, T5, l5⟩ := cm_tabOf (nm := "MOST_SETTINGS") (f := fun j => Int32.ofInt (cm_ro L xs (-5) j)) (cm_A s.heap.size) (by simp [cm_ro]) (by simp [cm_ro]) (by simp [cm_ro]) hA (hts0 _ (List.mem_of_getElem? (i := 193) (by decide +kernel))) hini (hs _ (by decide +kernel)) (hs _ (by decide +kernel)) (hs (Cond.eq (.elem (.static "CreditScroll" "MOST_SETTINGS" "[I") (.int 0)) (.int 20)) (by decide +kernel)) (hs (Cond.eq (.elem (.static "CreditScroll" "MOST_SETTINGS" "[I") (.int 1)) (.int 30)) (by decide +kernel)) (hs (Cond.eq (.elem (.static "CreditScroll" "MOST_SETTINGS" "[I") (.int 2)) (.int 4)) (by decide +kernel))
  -- classes
  have hcl : ∀ ci : Nat, ∃ x : ClassId × (Nat → Nat), ∀ r, vwCl[ci]? = some r → u_Kn s r.1 r.2.1 r.2.2 x.1 x.2 := by
    intro ci
    by_cases h : ci < 6
    · obtain ⟨r, ty, hr, hty, hname, hws, hparse, hnm, hinst, hrest⟩ := cm_cl_ok ci h
      obtain ⟨cC, iS, hKn⟩ := u_known hts hws (hts _ hinst)
      exact ⟨(cC, iS), fun r' hr' => by cases hr.symm.trans hr'; exact hKn⟩
    · refine ⟨(0, fun _ => 0), fun r' hr' => ?_⟩
      have := (List.getElem?_eq_some_iff.mp hr').1
      exact absurd this h
  obtain ⟨D, hD⟩ := Classical.axiomOfChoice hcl
  obtain ⟨a1, a1a, a1b⟩ := cm_arrK (hts _ cm_ac1)
  obtain ⟨a2, a2a, a2b⟩ := cm_arrK (hts _ cm_ac2)
  obtain ⟨a3, a3a, a3b⟩ := cm_arrK (hts _ cm_ac3)
  have hov : va_AO RX1 s := va_AO.of (hts0 _ (List.mem_of_getElem? (i := 135) (by decide +kernel)))
  obtain ⟨comp, a4, k4, o1, o2, o3, o4, o5⟩ := Cond.arrayOver_spec hov
  have hK : va_K (fun ci => (D ci).1, fun ci => (D ci).2) vwCl (cm_ty4 (fun t => if t = 1 then a1 else if t = 2 then a2 else if t = 3 then a3 else a4)) s := by
    refine ⟨fun ci r h => hD ci r h, fun k q h => ?_⟩
    match k, h with
    | 0, h => cases h; exact ⟨a1a, a1b⟩
    | 1, h => cases h; exact ⟨a2a, a2b⟩
    | 2, h => cases h; exact ⟨a3a, a3b⟩
    | 3, h => cases h; exact ⟨fun n z => ⟨fun k h => (by cases h), k4, o3, comp, o4⟩, k4, comp, o3, o4, o1, o5⟩
    | k + 4, h => cases h
  have hB : cm_B (cm_Bf s.heap.size b t3 t4 t5) s.heap.size := by
    refine ⟨fun k => ?_, fun k hk => ?_⟩
    · unfold cm_Bf
      rw [if_pos (by omega)]
      simp
    · unfold cm_Bf
      rw [if_neg (by omega)]
      split
      · exact l3
      · split
        · exact l4
        · split
          · exact l5
          · exact hbl
  have hS : cm_S (fun ci => (D ci).1, fun ci => (D ci).2) (fun t => if t = 1 then a1 else if t = 2 then a2 else if t = 3 then a3 else a4) (cm_Bf s.heap.size b t3 t4 t5) s.heap.size (cm_ro L xs) s := by
    refine ⟨hK, ⟨va_Nw.of rfl (hts0 _ (List.mem_of_getElem? (i := 33) (by decide +kernel))), va_Nw.of rfl (hts0 _ (List.mem_of_getElem? (i := 114) (by decide +kernel))), va_Nw.of rfl (hts0 _ (List.mem_of_getElem? (i := 43) (by decide +kernel))), hov⟩, fun k hk => ?_, ⟨L, by omega, rfl, ?_⟩, Nat.le_refl _⟩
    · rcases hk with rfl | rfl | rfl
      · exact ⟨z3, T3⟩
      · exact ⟨z4, T4⟩
      · exact ⟨z5, T5⟩
    · have e1 : (fun j : Nat => Int32.ofInt (cm_ro L xs (-2) j)) = xs := by
        funext j
        unfold cm_ro
        rw [if_pos rfl, if_neg (by omega)]
        show Int32.ofInt (xs j).toInt = _
        rw [Int32.ofInt_toInt]
      rw [e1]
      exact hX
  obtain ⟨n, G', M', hrun, hg1, hg2⟩ := cm_pure L xs hL
  have hro : cm_Ro (cm_ro L xs) (cm_ro L xs) := fun k _ j => rfl
  obtain ⟨-, -, -, K⟩ := cm_sound (l := l) (D := (fun ci => (D ci).1, fun ci => (D ci).2)) (cA := fun t => if t = 1 then a1 else if t = 2 then a2 else if t = 3 then a3 else a4) hB n 74 (mi_74, ins_74) 0 _ _ _ _ _ _ _ rfl hrun hro (fun e he => absurd he List.not_mem_nil)
  have hXX : cm_X (fun ci => (D ci).1, fun ci => (D ci).2) (fun t => if t = 1 then a1 else if t = 2 then a2 else if t = 3 then a3 else a4) (cm_Bf s.heap.size b t3 t4 t5) s.heap.size (cm_ro L xs) mi_74 p room_1 s m #[Value.ref b] meth c :=
    ⟨hx, hb, hml, hr, hown, hts, hlocks, fun h => absurd h (by decide), hS, by decide, by decide⟩
  have hLL := cm_ent_L (cm_Bf s.heap.size b t3 t4 t5) mi_74 [(2, -2)] rfl (by decide) (by decide)
  have k := K p e room_1 s m #[Value.ref b] below meth c s.heap [] _ 0 0 (fun _ _ o _ => o = .returned (some (.int 1))) hXX hLL ⟨rfl, fun k e h => by cases h⟩ va_S.rf (Nat.le_refl _) (Nat.le_refl _) hg1 hg2 (fun t _ _ _ => rfl)
  rw [lg_entry_eq]
  intro T hT X
  obtain ⟨t, q1, o, q2, q3, q4, LL, ⟨f1, f2, f3⟩, f4⟩ := k T hT X
  refine ⟨t, q1, o, q2, q3, q4, f1, f2, ?_⟩
  exact (State.sameButNew.drop_fresh (L := []) f3 f4).mono hg1 hg2
-- ===== YOUR PART ENDS =====
set_option maxHeartbeats 4000000 in
theorem lw_walk (l : Launch) (hflags : l.flags = flags0) (b : Addr) (xs : List Int32) : MetFree l x (headSpec (Jvm.Cond.code x code maxLocals ret :: tables_1) room_1) (lw_P b xs) (fun _ _ _ _ _ => True) lw_Q := by
  refine MetFree.of_bodyS (code := code) (maxLocals := maxLocals) (ret := ret) (by decide) ?_ ?_
  · intro args s m h hn
    obtain ⟨meth, c, h1, h2, h3, h4, h5, h6, -, -⟩ := Cond.code_spec hn (atoms_spec (ws := Jvm.Cond.code x code maxLocals ret :: tables_1) h _ List.mem_cons_self)
    exact ⟨meth, c, h1, h2, h3, h4, h5, h6⟩
  · intro p e s m args below meth c s₁ B hml0 hP _
    obtain ⟨rfl, hx, hbd, hgv⟩ := hP
    obtain ⟨scr, harrAt, hlist, hof, hsmall⟩ := hx
    obtain ⟨hcb, hkn, -, -⟩ := State.arrayAt?_spec harrAt
    have hown : s.vm.findClass R_law = some m.cls := findClass_of_methodNamed B.named
    have hts0 : ∀ c ∈ (Jvm.Cond.code x code maxLocals ret :: tables_1), c.before #[Value.ref b] s = true := atoms_spec (ws := Jvm.Cond.code x code maxLocals ret :: tables_1) B.pre
    have hts : ∀ w ∈ lw_tbl, w.before #[Value.ref b] s = true := k2_hts_sels lw_privs (fun w hw => hts0 w (List.mem_cons_of_mem _ hw)) lw_privs_ok
    have hml : c.maxLocals = 14 := B.maxLocals_eq (hts0 _ List.mem_cons_self)
    have X₀ : Stand p l e room_1 s m #[Value.ref b] below meth c s₁ [] 0 0 := Stand.of_body B
    have hh0 : s₁.heap = s.heap := by rw [B.state]; rfl
    have hsz : scr.slots.size = xs.length := by rw [← Array.length_toList, hlist, List.length_map]
    have hval : ∀ j : Nat, j < xs.length → scr.slots[j]? = some (.int (xs.getD j 0)) := fun j hj => by
      rw [← Array.getElem?_toList, hlist]
      simp [hj]
    have hbl : b < s.heap.size := (Array.getElem?_eq_some_iff.mp hcb).1
    have hX : va_X b xs.length (fun j => xs.getD j 0) s s.heap := ⟨scr, hcb, hof, hkn, hsz, hval⟩
    have K : W p l e room_1 s m #[Value.ref b] below meth c s₁.heap [] 0 0 (lw_Z below #[Value.ref b] s) (entryFrame m ([Value.ref b] : List Value).toArray 14) := by
      rw [hh0]
      exact whole_start l hflags hbd ⟨B.exec, B.bytes, B.returns, hml, hown, hts, hX, hbl, B.notSynchronized, hgv⟩
    obtain ⟨t, a1, o, b1, b2, b3⟩ := K s₁ rfl X₀
    exact ⟨t, o, a1, b1, b2, b3⟩
theorem lw_pre_spec {args : Array Value} {s : State} (h : (Jvm.Cond.and given_1 narrow_1).before args s = true) (hr : rest_1_c.before args s = true) : ∃ (b : Addr) (xs : List Int32), lw_P b xs args s := by
  have hs := flat_of_before _ h
  have hq := flat_of_before _ hr
  have hc : (Cond.count 1).before args s = true := hs _ (by decide +kernel)
  have harr : (Cond.arrayOf (.arg 0) .int).before args s = true := hs _ (by decide +kernel)
  have hle : (Cond.le (.length (.arg 0)) (.int 260)).before args s = true := hs _ (by decide +kernel)
  have hlen : (Cond.isInt (.length (.arg 0))).before args s = true := hq _ (by decide +kernel)
  have hall : (Cond.all (.arg 0) (.isInt (.elem (.arg 0) (.index 0)))).before args s = true := hq _ (by decide +kernel)
  obtain ⟨b, xs, hb, hx⟩ := State.ints_of_pre rfl harr hlen hall
  have hsm : xs.length < 2 ^ 31 := hx.choose_spec.2.2.2
  have hev : (Term.length (.arg 0)).eval args s none [] s = some (.int xs.length.toInt32) := hx.length_eval hb
  have hv := Cond.le_ints hev (show (Term.int 260).eval args s none [] s = some (.int 260) from rfl)
  have hd : xs.length.toInt32 ≤ 260 := by
    simpa [Cond.before, Cond.holds, hv] using hle
  have hN : xs.length ≤ 260 := (Int32.ofNat_le_ofNat hsm (by decide)).mp (show Int32.ofNat xs.length ≤ Int32.ofNat 260 from hd)
  exact ⟨b, xs, Cond.one_arg hc (show args[0]? = some (.ref b) from hb), hx, hN, h⟩
theorem lw_comes (l : Launch) (hflags : l.flags = flags0) : Comes l x (Jvm.Cond.code x code maxLocals ret :: tables_1) room_1 (fun tb e args s => Calls_1 tb e args s ∧ rest_1 tb e args s ∧ Pre_1 tb e args s)
    (fun _ _ args s o t => lw_Q args s o t) := by
  intro p e ha hc hk s m args below hf hfit hheap happ hpre
  obtain ⟨b, xs, hP⟩ := lw_pre_spec hpre.2.2 hpre.2.1
  obtain ⟨k, o, h1, h2, h3, hQ⟩ := lw_walk l hflags b xs p e ha hc hk s m args below hf ((Spec.applies_iff_loose hf).mp happ).1 hP trivial
  exact ⟨k, o, h1, h2, h3, hQ⟩
theorem lw_frame {s t : State} {o : Outcome} {args : Array Value} (h : Framed s o t [] 600000 7302250) :
    Framed s o t (fieldLocs frame_1_writes args s ++ arrayLocs frame_1_arrays args s ++ staticLocs frame_1_statics s) 600000 7302250 := h
theorem lw_limb (L : Cond) (hL : ∀ (args : Array Value) (s t : State), L.after args s (.returned (some (.int 1))) t = true) :
    ArmFor flags0 classFile x code maxLocals ret World_1 tables_1 room_1 Calls_1 rest_1 Pre_1
      (fun tb e a s o t => postC L tb e a s o t ∧ Framed s o t (fieldLocs frame_1_writes a s ++ arrayLocs frame_1_arrays a s ++ staticLocs frame_1_statics s) 600000 7302250) := by
  intro l hflags _ _ p e ha hc hk s m args below hf hfit hheap happ hpre
  obtain ⟨k, o, h1, h2, h3, rfl, hF⟩ := lw_comes l hflags p e ha hc hk s m args below hf hfit hheap happ hpre
  exact ⟨k, _, h1, h2, h3, hL args s _, lw_frame hF⟩
theorem i_vc : Claimed_1_1 ∧ Claimed_1_2 := ⟨lw_limb limb_1_1 (fun args s t => by simp [limb_1_1, Cond.after, Cond.holds, Cond.value]), lw_limb limb_1_2 (fun args s t => Cond.after_iff.mpr (by
  first | (rw [show limb_1_2 = Cond.eq .result (.int 1) from rfl, Cond.eq_ints (x := 1) (y := 1) rfl rfl]; simp; done) | (simp [limb_1_2, Cond.value, Term.eval]; done)))⟩
