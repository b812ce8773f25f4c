/-! ===== EACH INSTRUCTION OF THE SMALL MACHINE IS THE MACHINE'S: the plain ones ===== -/
def cm_sz (e : Nat × Nat) : Nat := if e.1 = 0 then cm_nf e.2 else e.2
def cm_sl (G : cm_G) : Nat := (G.1.map cm_sz).sum
def cm_Wf (G : cm_G) : Prop := ∀ e ∈ G.1, e.2 < 2 ^ 31
def cm_X (D : va_G) (cA : Nat → ClassId) (B : Int → Nat) (base : Nat) (ro : Int → Int → Int) (q : cm_MI) (p : Program) (R : Room) (s : State) (m : MethodId) (args : Array Value) (meth : Method) (c : Code) : Prop :=
  p.tables.exec = Jvm.exec ∧ c.code = q.2.1 ∧ c.maxLocals = cm_ml q ∧ meth.sig.returnType = cm_rt q ∧ s.vm.findClass (cm_cn (cm_ci q)) = some m.cls ∧ (∀ w ∈ cm_T, w.before args s = true) ∧ meth.locks = false ∧ (cm_kd q = 2 → meth.name = "<init>") ∧ cm_S D cA B base ro s ∧ cm_dp q ≤ R.frames ∧ cm_lc q ≤ R.locals
def cm_WW (l : Launch) (D : va_G) (cA : Nat → ClassId) (B : Int → Nat) (base : Nat) (ro : Int → Int → Int) (q : cm_MI) (pc : Nat) (ls : List (Option cm_V)) (st : List cm_V) (G : cm_G) (M : cm_M) (r : Option cm_V) (G' : cm_G) (M' : cm_M) : Prop :=
  ∀ (p : Program) (e : Env) (R : Room) (s : State) (m : MethodId) (args : Array Value) (below : List Frame) (meth : Method) (c : Code) (H : Heap) (locs : List Loc) (Ls : Array Slot) (N0 S0 : Nat) (Qc : Array Value → State → Outcome → State → Prop),
    cm_X D cA B base ro q p R s m args meth c → cm_L B q Ls ls → cm_W D cA B base G M H → va_S (cm_A base) s.heap H locs → N0 ≤ G.1.length → S0 ≤ cm_sl G → G'.1.length - N0 ≤ R.cells → cm_sl G' - S0 ≤ R.slots →
    (∀ t : State, s.WarmedH t.vm → cm_W D cA B base G' M' t.heap → va_F (cm_A base) s t → Qc args s (.returned (r.map (cm_v B))) t) →
    W p l e R s m args below meth c H locs (G.1.length - N0) (cm_sl G - S0) (MQ below Qc args s (G'.1.length - N0) (cm_sl G' - S0) (cm_A base)) (F0 m pc Ls (st.map (cm_v B)))
section ARMS
variable {l : Launch} {D : va_G} {cA : Nat → ClassId} {B : Int → Nat} {base : Nat} {ro : Int → Int → Int} {q : cm_MI} {pc : Nat} {ls : List (Option cm_V)} {st : List cm_V} {G : cm_G} {M : cm_M} {r : Option cm_V} {G' : cm_G} {M' : cm_M}
theorem cs_iconst {n : Int} (hd : decode q.2.1 pc = .ok (.iconst n, 1)) (K : cm_WW l D cA B base ro q (pc + 1) ls ((0, n) :: st) G M r G' M') : cm_WW l D cA B base ro q pc ls st G M r G' M' := by
  intro p e R s m args below meth c H locs Ls N0 S0 Qc hX hL hW hS h1 h2 h3 h4 hQ
  exact lv_iconst hX.1 hX.2.1 hd rfl (K p e R s m args below meth c H locs Ls N0 S0 Qc hX hL hW hS h1 h2 h3 h4 hQ)
theorem cs_bipush {n : Int} (hn : -128 ≤ n ∧ n ≤ 127) (hd : decode q.2.1 pc = .ok (.bipush n, 2)) (K : cm_WW l D cA B base ro q (pc + 2) ls ((0, n) :: st) G M r G' M') : cm_WW l D cA B base ro q pc ls st G M r G' M' := by
  intro p e R s m args below meth c H locs Ls N0 S0 Qc hX hL hW hS h1 h2 h3 h4 hQ
  have e1 : (Int8.ofInt n).toInt32 = Int32.ofInt n := by
    apply Int32.toInt.inj
    rw [Int8.toInt_toInt32, Int8.toInt_ofInt_of_le (by omega) (by omega), cm_ti ⟨by omega, by omega⟩]
  exact lv_bipush hX.1 hX.2.1 hd e1 (K p e R s m args below meth c H locs Ls N0 S0 Qc hX hL hW hS h1 h2 h3 h4 hQ)
theorem cs_sipush {n : Int} (hn : -32768 ≤ n ∧ n ≤ 32767) (hd : decode q.2.1 pc = .ok (.sipush n, 3)) (K : cm_WW l D cA B base ro q (pc + 3) ls ((0, n) :: st) G M r G' M') : cm_WW l D cA B base ro q pc ls st G M r G' M' := by
  intro p e R s m args below meth c H locs Ls N0 S0 Qc hX hL hW hS h1 h2 h3 h4 hQ
  have e1 : (Int16.ofInt n).toInt32 = Int32.ofInt n := by
    apply Int32.toInt.inj
    rw [Int16.toInt_toInt32, Int16.toInt_ofInt_of_le (by omega) (by omega), cm_ti ⟨by omega, by omega⟩]
  exact lv_sipush hX.1 hX.2.1 hd e1 (K p e R s m args below meth c H locs Ls N0 S0 Qc hX hL hW hS h1 h2 h3 h4 hQ)
theorem cs_lconst {n : Fin 2} (hd : decode q.2.1 pc = .ok (.lconst n, 1)) (K : cm_WW l D cA B base ro q (pc + 1) ls ((1, (n : Nat)) :: st) G M r G' M') : cm_WW l D cA B base ro q pc ls st G M r G' M' := by
  intro p e R s m args below meth c H locs Ls N0 S0 Qc hX hL hW hS h1 h2 h3 h4 hQ
  exact lv_lconst hX.1 hX.2.1 hd (Int64.ofInt_eq_ofNat).symm (K p e R s m args below meth c H locs Ls N0 S0 Qc hX hL hW hS h1 h2 h3 h4 hQ)
theorem cs_ldc2 {ix : Nat} {v : Int} (hv : cm_as cm_lng (cm_ci q) ix = some v) (hd : decode q.2.1 pc = .ok (.ldc2_w ix, 3)) (K : cm_WW l D cA B base ro q (pc + 3) ls ((1, v) :: st) G M r G' M') : cm_WW l D cA B base ro q pc ls st G M r G' M' := by
  intro p e R s m args below meth c H locs Ls N0 S0 Qc hX hL hW hS h1 h2 h3 h4 hQ
  exact lv_ldc2 hX.1 hX.2.1 hX.2.2.2.2.1 (hX.2.2.2.2.2.1 _ (cm_lng_ok _ (cm_as_mem hv))) hd (K p e R s m args below meth c H locs Ls N0 S0 Qc hX hL hW hS h1 h2 h3 h4 hQ)
theorem cs_ldc {ix : Nat} {v : Int} (hv : cm_as cm_icn (cm_ci q) ix = some v) (hd : decode q.2.1 pc = .ok (.ldc ix, 2)) (K : cm_WW l D cA B base ro q (pc + 2) ls ((0, v) :: st) G M r G' M') : cm_WW l D cA B base ro q pc ls st G M r G' M' := by
  intro p e R s m args below meth c H locs Ls N0 S0 Qc hX hL hW hS h1 h2 h3 h4 hQ
  exact lv_ldc hX.1 hX.2.1 hX.2.2.2.2.1 (hX.2.2.2.2.2.1 _ (cm_icn_ok _ (cm_as_mem hv))) hd (K p e R s m args below meth c H locs Ls N0 S0 Qc hX hL hW hS h1 h2 h3 h4 hQ)
theorem cs_iload_n {k : Fin 4} {x : Int} (hl : ls[(k : Nat)]? = some (some (0, x))) (hd : decode q.2.1 pc = .ok (.iload_n k, 1)) (K : cm_WW l D cA B base ro q (pc + 1) ls ((0, x) :: st) G M r G' M') : cm_WW l D cA B base ro q pc ls st G M r G' M' := by
  intro p e R s m args below meth c H locs Ls N0 S0 Qc hX hL hW hS h1 h2 h3 h4 hQ
  exact lv_iload_n hX.1 hX.2.1 hd rfl (hL.at hl) (K p e R s m args below meth c H locs Ls N0 S0 Qc hX hL hW hS h1 h2 h3 h4 hQ)
theorem cs_iload {k : Nat} {x : Int} (hl : ls[k]? = some (some (0, x))) (hd : decode q.2.1 pc = .ok (.iload k, 2)) (K : cm_WW l D cA B base ro q (pc + 2) ls ((0, x) :: st) G M r G' M') : cm_WW l D cA B base ro q pc ls st G M r G' M' := by
  intro p e R s m args below meth c H locs Ls N0 S0 Qc hX hL hW hS h1 h2 h3 h4 hQ
  exact lv_iload hX.1 hX.2.1 hd (hL.at hl) (K p e R s m args below meth c H locs Ls N0 S0 Qc hX hL hW hS h1 h2 h3 h4 hQ)
theorem cs_lload_n {k : Fin 4} {x : Int} (hl : ls[(k : Nat)]? = some (some (1, x))) (hd : decode q.2.1 pc = .ok (.lload_n k, 1)) (K : cm_WW l D cA B base ro q (pc + 1) ls ((1, x) :: st) G M r G' M') : cm_WW l D cA B base ro q pc ls st G M r G' M' := by
  intro p e R s m args below meth c H locs Ls N0 S0 Qc hX hL hW hS h1 h2 h3 h4 hQ
  exact lv_lload_n hX.1 hX.2.1 hd rfl (hL.at hl) (K p e R s m args below meth c H locs Ls N0 S0 Qc hX hL hW hS h1 h2 h3 h4 hQ)
theorem cs_lload {k : Nat} {x : Int} (hl : ls[k]? = some (some (1, x))) (hd : decode q.2.1 pc = .ok (.lload k, 2)) (K : cm_WW l D cA B base ro q (pc + 2) ls ((1, x) :: st) G M r G' M') : cm_WW l D cA B base ro q pc ls st G M r G' M' := by
  intro p e R s m args below meth c H locs Ls N0 S0 Qc hX hL hW hS h1 h2 h3 h4 hQ
  exact lv_lload hX.1 hX.2.1 hd (hL.at hl) (K p e R s m args below meth c H locs Ls N0 S0 Qc hX hL hW hS h1 h2 h3 h4 hQ)
theorem cs_aload_n {k : Fin 4} {x : Int} (hl : ls[(k : Nat)]? = some (some (2, x))) (hd : decode q.2.1 pc = .ok (.aload_n k, 1)) (K : cm_WW l D cA B base ro q (pc + 1) ls ((2, x) :: st) G M r G' M') : cm_WW l D cA B base ro q pc ls st G M r G' M' := by
  intro p e R s m args below meth c H locs Ls N0 S0 Qc hX hL hW hS h1 h2 h3 h4 hQ
  have e1 := hL.at hl
  have k := K p e R s m args below meth c H locs Ls N0 S0 Qc hX hL hW hS h1 h2 h3 h4 hQ
  rw [List.map_cons] at k
  by_cases hx : x = -1
  · subst hx
    exact lv_aload_nN hX.1 hX.2.1 hd rfl e1 k
  · rw [cm_v2 B hx] at e1 k
    exact lv_aload_n hX.1 hX.2.1 hd rfl e1 k
theorem cs_aload {k : Nat} {x : Int} (hl : ls[k]? = some (some (2, x))) (hd : decode q.2.1 pc = .ok (.aload k, 2)) (K : cm_WW l D cA B base ro q (pc + 2) ls ((2, x) :: st) G M r G' M') : cm_WW l D cA B base ro q pc ls st G M r G' M' := by
  intro p e R s m args below meth c H locs Ls N0 S0 Qc hX hL hW hS h1 h2 h3 h4 hQ
  have e1 := hL.at hl
  have k := K p e R s m args below meth c H locs Ls N0 S0 Qc hX hL hW hS h1 h2 h3 h4 hQ
  rw [List.map_cons] at k
  by_cases hx : x = -1
  · subst hx
    exact lv_aloadN hX.1 hX.2.1 hd e1 k
  · rw [cm_v2 B hx] at e1 k
    exact lv_aload hX.1 hX.2.1 hd e1 k
theorem cs_istore_n {k : Fin 4} {x : Int} (hlt : (k : Nat) < ls.length) (hp : cm_pl q k = false) (hd : decode q.2.1 pc = .ok (.istore_n k, 1)) (K : cm_WW l D cA B base ro q (pc + 1) (ls.set k (some (0, x))) st G M r G' M') : cm_WW l D cA B base ro q pc ls ((0, x) :: st) G M r G' M' := by
  intro p e R s m args below meth c H locs Ls N0 S0 Qc hX hL hW hS h1 h2 h3 h4 hQ
  obtain ⟨hlen, ⟨lv, hl, hm⟩, hg⟩ := hL
  exact lv_istore_n hX.1 hX.2.1 hd rfl hl (by omega) rfl (fun Ls' hl' => K p e R s m args below meth c H locs Ls' N0 S0 Qc hX (cm_L.set hlen hm hg hp (by simp) hl') hW hS h1 h2 h3 h4 hQ)
theorem cs_istore {k : Nat} {x : Int} (hlt : k < ls.length) (hp : cm_pl q k = false) (hd : decode q.2.1 pc = .ok (.istore k, 2)) (K : cm_WW l D cA B base ro q (pc + 2) (ls.set k (some (0, x))) st G M r G' M') : cm_WW l D cA B base ro q pc ls ((0, x) :: st) G M r G' M' := by
  intro p e R s m args below meth c H locs Ls N0 S0 Qc hX hL hW hS h1 h2 h3 h4 hQ
  obtain ⟨hlen, ⟨lv, hl, hm⟩, hg⟩ := hL
  exact lv_istore hX.1 hX.2.1 hd hl (by omega) rfl (fun Ls' hl' => K p e R s m args below meth c H locs Ls' N0 S0 Qc hX (cm_L.set hlen hm hg hp (by simp) hl') hW hS h1 h2 h3 h4 hQ)
theorem cs_astore_n {k : Fin 4} {x : Int} (hx : x ≠ -1) (hlt : (k : Nat) < ls.length) (hp : cm_pl q k = false) (hd : decode q.2.1 pc = .ok (.astore_n k, 1)) (K : cm_WW l D cA B base ro q (pc + 1) (ls.set k (some (2, x))) st G M r G' M') : cm_WW l D cA B base ro q pc ls ((2, x) :: st) G M r G' M' := by
  intro p e R s m args below meth c H locs Ls N0 S0 Qc hX hL hW hS h1 h2 h3 h4 hQ
  obtain ⟨hlen, ⟨lv, hl, hm⟩, hg⟩ := hL
  rw [List.map_cons, cm_v2 B hx]
  exact lv_astore_n hX.1 hX.2.1 hd rfl hl (by omega) rfl (fun Ls' hl' => K p e R s m args below meth c H locs Ls' N0 S0 Qc hX (cm_L.set hlen hm hg hp (by simp) (by rw [cm_v2 B hx]; exact hl')) hW hS h1 h2 h3 h4 hQ)
theorem cs_astore {k : Nat} {x : Int} (hx : x ≠ -1) (hlt : k < ls.length) (hp : cm_pl q k = false) (hd : decode q.2.1 pc = .ok (.astore k, 2)) (K : cm_WW l D cA B base ro q (pc + 2) (ls.set k (some (2, x))) st G M r G' M') : cm_WW l D cA B base ro q pc ls ((2, x) :: st) G M r G' M' := by
  intro p e R s m args below meth c H locs Ls N0 S0 Qc hX hL hW hS h1 h2 h3 h4 hQ
  obtain ⟨hlen, ⟨lv, hl, hm⟩, hg⟩ := hL
  rw [List.map_cons, cm_v2 B hx]
  exact lv_astore hX.1 hX.2.1 hd hl (by omega) rfl (fun Ls' hl' => K p e R s m args below meth c H locs Ls' N0 S0 Qc hX (cm_L.set hlen hm hg hp (by simp) (by rw [cm_v2 B hx]; exact hl')) hW hS h1 h2 h3 h4 hQ)
theorem cs_lstore {k : Nat} {x : Int} (hlt : k + 1 < ls.length) (hp : cm_pl q k = false) (hi : k ∈ cm_lg q) (hd : decode q.2.1 pc = .ok (.lstore k, 2)) (K : cm_WW l D cA B base ro q (pc + 2) ((ls.set k (some (1, x))).set (k + 1) none) st G M r G' M') : cm_WW l D cA B base ro q pc ls ((1, x) :: st) G M r G' M' := by
  intro p e R s m args below meth c H locs Ls N0 S0 Qc hX hL hW hS h1 h2 h3 h4 hQ
  obtain ⟨hlen, ⟨lv, hl, hm⟩, hg⟩ := hL
  exact lv_lstore hX.1 hX.2.1 hd hl (by omega) rfl (fun Ls' hl' => K p e R s m args below meth c H locs Ls' N0 S0 Qc hX (cm_L.setL hlen hm hg hp hi hl') hW hS h1 h2 h3 h4 hQ)
theorem cs_iinc {k : Nat} {n x : Int} (hk : ls[k]? = some (some (0, x))) (hp : cm_pl q k = false) (hd : decode q.2.1 pc = .ok (.iinc k n, 3)) (K : cm_WW l D cA B base ro q (pc + 3) (ls.set k (some (0, x + n))) st G M r G' M') : cm_WW l D cA B base ro q pc ls st G M r G' M' := by
  intro p e R s m args below meth c H locs Ls N0 S0 Qc hX hL hW hS h1 h2 h3 h4 hQ
  obtain ⟨hlen, ⟨lv, hl, hm⟩, hg⟩ := hL
  have hlt : k < ls.length := (List.getElem?_eq_some_iff.mp hk).1
  obtain ⟨j, hj⟩ := List.getElem?_of_mem (hm k _ hk)
  exact lv_iinc hX.1 hX.2.1 hd hl hj (Int32.ofInt_add x n).symm (by omega) rfl (fun Ls' hl' => K p e R s m args below meth c H locs Ls' N0 S0 Qc hX (cm_L.set (v := (0, x + n)) hlen hm hg hp (by simp) hl') hW hS h1 h2 h3 h4 hQ)
theorem cs_iadd {a b : Int} (hd : decode q.2.1 pc = .ok (.iadd, 1)) (K : cm_WW l D cA B base ro q (pc + 1) ls ((0, a + b) :: st) G M r G' M') : cm_WW l D cA B base ro q pc ls ((0, b) :: (0, a) :: st) G M r G' M' := by
  intro p e R s m args below meth c H locs Ls N0 S0 Qc hX hL hW hS h1 h2 h3 h4 hQ
  have k := K p e R s m args below meth c H locs Ls N0 S0 Qc hX hL hW hS h1 h2 h3 h4 hQ
  rw [List.map_cons, cm_v0, Int32.ofInt_add] at k
  exact lv_iadd hX.1 hX.2.1 hd k
theorem cs_isub {a b : Int} (hd : decode q.2.1 pc = .ok (.isub, 1)) (K : cm_WW l D cA B base ro q (pc + 1) ls ((0, a - b) :: st) G M r G' M') : cm_WW l D cA B base ro q pc ls ((0, b) :: (0, a) :: st) G M r G' M' := by
  intro p e R s m args below meth c H locs Ls N0 S0 Qc hX hL hW hS h1 h2 h3 h4 hQ
  have k := K p e R s m args below meth c H locs Ls N0 S0 Qc hX hL hW hS h1 h2 h3 h4 hQ
  rw [List.map_cons, cm_v0, Int32.ofInt_sub] at k
  exact lv_isub hX.1 hX.2.1 hd k
theorem cs_imul {a b : Int} (hd : decode q.2.1 pc = .ok (.imul, 1)) (K : cm_WW l D cA B base ro q (pc + 1) ls ((0, a * b) :: st) G M r G' M') : cm_WW l D cA B base ro q pc ls ((0, b) :: (0, a) :: st) G M r G' M' := by
  intro p e R s m args below meth c H locs Ls N0 S0 Qc hX hL hW hS h1 h2 h3 h4 hQ
  have k := K p e R s m args below meth c H locs Ls N0 S0 Qc hX hL hW hS h1 h2 h3 h4 hQ
  rw [List.map_cons, cm_v0, Int32.ofInt_mul] at k
  exact lv_imul hX.1 hX.2.1 hd k
theorem cs_iand {a b : Int} (hd : decode q.2.1 pc = .ok (.iand, 1)) (K : cm_WW l D cA B base ro q (pc + 1) ls ((0, cm_iand a b) :: st) G M r G' M') : cm_WW l D cA B base ro q pc ls ((0, b) :: (0, a) :: st) G M r G' M' := by
  intro p e R s m args below meth c H locs Ls N0 S0 Qc hX hL hW hS h1 h2 h3 h4 hQ
  have k := K p e R s m args below meth c H locs Ls N0 S0 Qc hX hL hW hS h1 h2 h3 h4 hQ
  rw [List.map_cons, cm_v0, cm_iand, Int32.ofInt_toInt] at k
  exact lv_iand hX.1 hX.2.1 hd k
theorem cs_ishr {a b : Int} (hd : decode q.2.1 pc = .ok (.ishr, 1)) (K : cm_WW l D cA B base ro q (pc + 1) ls ((0, cm_ishr a b) :: st) G M r G' M') : cm_WW l D cA B base ro q pc ls ((0, b) :: (0, a) :: st) G M r G' M' := by
  intro p e R s m args below meth c H locs Ls N0 S0 Qc hX hL hW hS h1 h2 h3 h4 hQ
  have k := K p e R s m args below meth c H locs Ls N0 S0 Qc hX hL hW hS h1 h2 h3 h4 hQ
  rw [List.map_cons, cm_v0, cm_ishr, Int32.ofInt_toInt] at k
  exact lv_ishr hX.1 hX.2.1 hd k
theorem cm_divI {a b : Int} (ha : cm_in a) (hb : cm_in b) (h0 : 0 < b) : Int32.ofInt a / Int32.ofInt b = Int32.ofInt (a.tdiv b) := by
  have h1 : cm_in (a.tdiv b) := by
    have h2 := Int.natAbs_tdiv_le_natAbs a b
    have ha1 := ha.1
    have ha2 := ha.2
    by_cases hz : a = -2147483648
    · subst hz
      have : Int.tdiv (-2147483648) b ≤ 0 := by
        rw [Int.neg_tdiv]
        have := Int.tdiv_nonneg (a := 2147483648) (b := b) (by decide) (by omega)
        omega
      constructor <;> omega
    · constructor <;> omega
  apply Int32.toInt.inj
  rw [Int32.toInt_div_of_ne_right _ _ (by
    intro h
    have := congrArg Int32.toInt h
    rw [cm_ti hb] at this
    have e : (-1 : Int32).toInt = -1 := by decide
    rw [e] at this
    omega), cm_ti ha, cm_ti hb, cm_ti h1]
theorem cs_idiv {a b : Int} (ha : cm_in a) (hb : cm_in b) (h0 : 0 < b) (hd : decode q.2.1 pc = .ok (.idiv, 1)) (K : cm_WW l D cA B base ro q (pc + 1) ls ((0, a.tdiv b) :: st) G M r G' M') : cm_WW l D cA B base ro q pc ls ((0, b) :: (0, a) :: st) G M r G' M' := by
  intro p e R s m args below meth c H locs Ls N0 S0 Qc hX hL hW hS h1 h2 h3 h4 hQ
  have k := K p e R s m args below meth c H locs Ls N0 S0 Qc hX hL hW hS h1 h2 h3 h4 hQ
  rw [List.map_cons, cm_v0, ← cm_divI ha hb h0] at k
  exact lv_idiv hX.1 hX.2.1 hd (fun h => by
    have h5 : Int32.ofInt b = Int32.ofInt 0 := h
    rw [cm_inj hb ⟨by decide, by decide⟩] at h5
    omega) k
theorem cs_irem {a b : Int} (ha : cm_in a) (hb : cm_in b) (h0 : 0 < b) (hd : decode q.2.1 pc = .ok (.irem, 1)) (K : cm_WW l D cA B base ro q (pc + 1) ls ((0, a.tmod b) :: st) G M r G' M') : cm_WW l D cA B base ro q pc ls ((0, b) :: (0, a) :: st) G M r G' M' := by
  intro p e R s m args below meth c H locs Ls N0 S0 Qc hX hL hW hS h1 h2 h3 h4 hQ
  have k := K p e R s m args below meth c H locs Ls N0 S0 Qc hX hL hW hS h1 h2 h3 h4 hQ
  have e1 : Int32.ofInt a - Int32.ofInt a / Int32.ofInt b * Int32.ofInt b = Int32.ofInt (a.tmod b) := by
    rw [cm_divI ha hb h0, ← Int32.ofInt_mul, ← Int32.ofInt_sub]
    congr 1
    have := Int.tmod_add_mul_tdiv a b
    rw [Int.mul_comm] at this
    omega
  rw [List.map_cons, cm_v0, ← e1] at k
  exact lv_irem hX.1 hX.2.1 hd (fun h => by
    have h5 : Int32.ofInt b = Int32.ofInt 0 := h
    rw [cm_inj hb ⟨by decide, by decide⟩] at h5
    omega) k
theorem cs_land {a b : Int} (hd : decode q.2.1 pc = .ok (.land, 1)) (K : cm_WW l D cA B base ro q (pc + 1) ls ((1, cm_land a b) :: st) G M r G' M') : cm_WW l D cA B base ro q pc ls ((1, b) :: (1, a) :: st) G M r G' M' := by
  intro p e R s m args below meth c H locs Ls N0 S0 Qc hX hL hW hS h1 h2 h3 h4 hQ
  have k := K p e R s m args below meth c H locs Ls N0 S0 Qc hX hL hW hS h1 h2 h3 h4 hQ
  rw [List.map_cons, cm_v1, cm_land, Int64.ofInt_toInt] at k
  exact lv_land hX.1 hX.2.1 hd k
theorem cs_lor {a b : Int} (hd : decode q.2.1 pc = .ok (.lor, 1)) (K : cm_WW l D cA B base ro q (pc + 1) ls ((1, cm_lor a b) :: st) G M r G' M') : cm_WW l D cA B base ro q pc ls ((1, b) :: (1, a) :: st) G M r G' M' := by
  intro p e R s m args below meth c H locs Ls N0 S0 Qc hX hL hW hS h1 h2 h3 h4 hQ
  have k := K p e R s m args below meth c H locs Ls N0 S0 Qc hX hL hW hS h1 h2 h3 h4 hQ
  rw [List.map_cons, cm_v1, cm_lor, Int64.ofInt_toInt] at k
  exact lv_lor hX.1 hX.2.1 hd k
theorem cs_lushr {a b : Int} (hd : decode q.2.1 pc = .ok (.lushr, 1)) (K : cm_WW l D cA B base ro q (pc + 1) ls ((1, cm_lushr a b) :: st) G M r G' M') : cm_WW l D cA B base ro q pc ls ((0, b) :: (1, a) :: st) G M r G' M' := by
  intro p e R s m args below meth c H locs Ls N0 S0 Qc hX hL hW hS h1 h2 h3 h4 hQ
  have k := K p e R s m args below meth c H locs Ls N0 S0 Qc hX hL hW hS h1 h2 h3 h4 hQ
  rw [List.map_cons, cm_v1, cm_lushr, Int64.ofInt_toInt] at k
  exact lv_lushr hX.1 hX.2.1 hd rfl k
theorem cs_lshl {a b : Int} (hd : decode q.2.1 pc = .ok (.lshl, 1)) (K : cm_WW l D cA B base ro q (pc + 1) ls ((1, cm_lshl a b) :: st) G M r G' M') : cm_WW l D cA B base ro q pc ls ((0, b) :: (1, a) :: st) G M r G' M' := by
  intro p e R s m args below meth c H locs Ls N0 S0 Qc hX hL hW hS h1 h2 h3 h4 hQ
  have k := K p e R s m args below meth c H locs Ls N0 S0 Qc hX hL hW hS h1 h2 h3 h4 hQ
  rw [List.map_cons, cm_v1, cm_lshl, Int64.ofInt_toInt] at k
  exact lv_lshl hX.1 hX.2.1 hd rfl k
theorem cs_l2i {a : Int} (hd : decode q.2.1 pc = .ok (.l2i, 1)) (K : cm_WW l D cA B base ro q (pc + 1) ls ((0, cm_l2i a) :: st) G M r G' M') : cm_WW l D cA B base ro q pc ls ((1, a) :: st) G M r G' M' := by
  intro p e R s m args below meth c H locs Ls N0 S0 Qc hX hL hW hS h1 h2 h3 h4 hQ
  have k := K p e R s m args below meth c H locs Ls N0 S0 Qc hX hL hW hS h1 h2 h3 h4 hQ
  rw [List.map_cons, cm_v0, cm_l2i, Int32.ofInt_toInt] at k
  exact lv_l2i hX.1 hX.2.1 hd rfl k
theorem cs_i2l {a : Int} (hd : decode q.2.1 pc = .ok (.i2l, 1)) (K : cm_WW l D cA B base ro q (pc + 1) ls ((1, cm_i2l a) :: st) G M r G' M') : cm_WW l D cA B base ro q pc ls ((0, a) :: st) G M r G' M' := by
  intro p e R s m args below meth c H locs Ls N0 S0 Qc hX hL hW hS h1 h2 h3 h4 hQ
  have k := K p e R s m args below meth c H locs Ls N0 S0 Qc hX hL hW hS h1 h2 h3 h4 hQ
  rw [List.map_cons, cm_v1, cm_i2l, Int64.ofInt_toInt] at k
  exact lv_i2l hX.1 hX.2.1 hd rfl k
theorem cm_char {a : Int} (ha : 0 ≤ a ∧ a < 65536) : ((Int32.ofInt a).toUInt32 % 65536).toInt32 = Int32.ofInt a := by
  obtain ⟨n, rfl⟩ : ∃ n : Nat, a = n := ⟨a.toNat, by omega⟩
  have hn : n < 65536 := by omega
  apply Int32.toInt.inj
  rw [cm_ti ⟨by omega, by omega⟩]
  have e1 : (Int32.ofInt (n : Int)).toUInt32 = UInt32.ofNat n := by
    rw [Int32.ofInt_eq_ofNat]
    rfl
  have e2 : UInt32.ofNat n % 65536 = UInt32.ofNat n := by
    apply UInt32.toNat.inj
    rw [UInt32.toNat_mod, UInt32.toNat_ofNat']
    show n % 4294967296 % 65536 = n % 4294967296
    omega
  rw [e1, e2]
  show (Int32.ofNat n).toInt = _
  rw [← Int32.ofInt_eq_ofNat, cm_ti ⟨by omega, by omega⟩]
theorem cs_i2c {a : Int} (ha : 0 ≤ a ∧ a < 65536) (hd : decode q.2.1 pc = .ok (.i2c, 1)) (K : cm_WW l D cA B base ro q (pc + 1) ls ((0, a) :: st) G M r G' M') : cm_WW l D cA B base ro q pc ls ((0, a) :: st) G M r G' M' := by
  intro p e R s m args below meth c H locs Ls N0 S0 Qc hX hL hW hS h1 h2 h3 h4 hQ
  exact lv_i2c hX.1 hX.2.1 hd (cm_char ha) (K p e R s m args below meth c H locs Ls N0 S0 Qc hX hL hW hS h1 h2 h3 h4 hQ)
theorem cs_lcmp {a b : Int} (hd : decode q.2.1 pc = .ok (.lcmp, 1)) (K : cm_WW l D cA B base ro q (pc + 1) ls ((0, cm_lcmp a b) :: st) G M r G' M') : cm_WW l D cA B base ro q pc ls ((1, b) :: (1, a) :: st) G M r G' M' := by
  intro p e R s m args below meth c H locs Ls N0 S0 Qc hX hL hW hS h1 h2 h3 h4 hQ
  have k := K p e R s m args below meth c H locs Ls N0 S0 Qc hX hL hW hS h1 h2 h3 h4 hQ
  rw [List.map_cons, cm_v0, cm_lcmp, Int32.ofInt_toInt] at k
  exact W.lcmp hX.1 hX.2.1 hd k
theorem cm_cat1 {v : cm_V} (h : v.1 ≠ 1) : (cm_v B v).category = 1 := by rw [cm_v_cat, cm_cat, if_neg h]
theorem cs_dup {v : cm_V} (hv : v.1 ≠ 1) (hd : decode q.2.1 pc = .ok (.dup, 1)) (K : cm_WW l D cA B base ro q (pc + 1) ls (v :: v :: st) G M r G' M') : cm_WW l D cA B base ro q pc ls (v :: st) G M r G' M' := by
  intro p e R s m args below meth c H locs Ls N0 S0 Qc hX hL hW hS h1 h2 h3 h4 hQ
  exact lv_dup hX.1 hX.2.1 hd (cm_cat1 hv) (K p e R s m args below meth c H locs Ls N0 S0 Qc hX hL hW hS h1 h2 h3 h4 hQ)
theorem cs_dup2 {v w : cm_V} (hv : v.1 ≠ 1) (hw : w.1 ≠ 1) (hd : decode q.2.1 pc = .ok (.dup2, 1)) (K : cm_WW l D cA B base ro q (pc + 1) ls (v :: w :: v :: w :: st) G M r G' M') : cm_WW l D cA B base ro q pc ls (v :: w :: st) G M r G' M' := by
  intro p e R s m args below meth c H locs Ls N0 S0 Qc hX hL hW hS h1 h2 h3 h4 hQ
  exact lv_dup2_11 hX.1 hX.2.1 hd (cm_cat1 hv) (cm_cat1 hw) (K p e R s m args below meth c H locs Ls N0 S0 Qc hX hL hW hS h1 h2 h3 h4 hQ)
theorem cs_pop {v : cm_V} (hv : v.1 ≠ 1) (hd : decode q.2.1 pc = .ok (.pop, 1)) (K : cm_WW l D cA B base ro q (pc + 1) ls st G M r G' M') : cm_WW l D cA B base ro q pc ls (v :: st) G M r G' M' := by
  intro p e R s m args below meth c H locs Ls N0 S0 Qc hX hL hW hS h1 h2 h3 h4 hQ
  exact lv_pop hX.1 hX.2.1 hd (cm_cat1 hv) (K p e R s m args below meth c H locs Ls N0 S0 Qc hX hL hW hS h1 h2 h3 h4 hQ)
theorem cs_goto {off : Int} {tgt : Nat} (ht : (pc : Int) + off = tgt) (hd : decode q.2.1 pc = .ok (.goto off, 3)) (K : cm_WW l D cA B base ro q tgt ls st G M r G' M') : cm_WW l D cA B base ro q pc ls st G M r G' M' := by
  intro p e R s m args below meth c H locs Ls N0 S0 Qc hX hL hW hS h1 h2 h3 h4 hQ
  exact lv_goto hX.1 hX.2.1 hd ht (K p e R s m args below meth c H locs Ls N0 S0 Qc hX hL hW hS h1 h2 h3 h4 hQ)
theorem cs_icmp {cd : Jvm.ClassFile.Cond} {off a b : Int} {tgt : Nat} (ha : cm_in a) (hb : cm_in b) (ht : (pc : Int) + off = tgt) (hd : decode q.2.1 pc = .ok (.if_icmp cd off, 3)) (Kt : cm_cmp cd a b = true → cm_WW l D cA B base ro q tgt ls st G M r G' M') (Kf : ¬ cm_cmp cd a b = true → cm_WW l D cA B base ro q (pc + 3) ls st G M r G' M') : cm_WW l D cA B base ro q pc ls ((0, b) :: (0, a) :: st) G M r G' M' := by
  intro p e R s m args below meth c H locs Ls N0 S0 Qc hX hL hW hS h1 h2 h3 h4 hQ
  have kt := fun h => Kt h p e R s m args below meth c H locs Ls N0 S0 Qc hX hL hW hS h1 h2 h3 h4 hQ
  have kf := fun h => Kf h p e R s m args below meth c H locs Ls N0 S0 Qc hX hL hW hS h1 h2 h3 h4 hQ
  rw [List.map_cons, List.map_cons, cm_v0, cm_v0]
  cases cd <;> simp only [cm_cmp, decide_eq_true_eq, Bool.not_eq_true', decide_eq_false_iff_not] at kt kf
  · exact lv_icmp_eq hX.1 hX.2.1 hd ht (fun h => kt ((cm_inj ha hb).mp h)) (fun h => kf (fun z => h ((cm_inj ha hb).mpr z)))
  · exact lv_icmp_ne hX.1 hX.2.1 hd ht (fun h => kt (fun z => h ((cm_inj ha hb).mpr z))) (fun h => kf (fun z => z ((cm_inj ha hb).mp h)))
  · exact lv_icmp_lt hX.1 hX.2.1 hd ht (fun h => kt ((cm_lt ha hb).mp h)) (fun h => kf (fun z => h ((cm_lt ha hb).mpr z)))
  · exact lv_icmp_ge hX.1 hX.2.1 hd ht (fun h => kt (by have := (cm_le hb ha).mp h; omega)) (fun h => kf (fun z => h ((cm_le hb ha).mpr (by omega))))
  · exact lv_icmp_gt hX.1 hX.2.1 hd ht (fun h => kt ((cm_lt hb ha).mp h)) (fun h => kf (fun z => h ((cm_lt hb ha).mpr z)))
  · exact lv_icmp_le hX.1 hX.2.1 hd ht (fun h => kt (by have := (cm_le ha hb).mp h; omega)) (fun h => kf (fun z => h ((cm_le ha hb).mpr (by omega))))
theorem cs_if {cd : Jvm.ClassFile.Cond} {off a : Int} {tgt : Nat} (ha : cm_in a) (ht : (pc : Int) + off = tgt) (hd : decode q.2.1 pc = .ok (.ifCond cd off, 3)) (Kt : cm_cmp cd a 0 = true → cm_WW l D cA B base ro q tgt ls st G M r G' M') (Kf : ¬ cm_cmp cd a 0 = true → cm_WW l D cA B base ro q (pc + 3) ls st G M r G' M') : cm_WW l D cA B base ro q pc ls ((0, a) :: st) G M r G' M' := by
  intro p e R s m args below meth c H locs Ls N0 S0 Qc hX hL hW hS h1 h2 h3 h4 hQ
  have kt := fun h => Kt h p e R s m args below meth c H locs Ls N0 S0 Qc hX hL hW hS h1 h2 h3 h4 hQ
  have kf := fun h => Kf h p e R s m args below meth c H locs Ls N0 S0 Qc hX hL hW hS h1 h2 h3 h4 hQ
  have hb : cm_in 0 := ⟨by decide, by decide⟩
  rw [List.map_cons, cm_v0]
  cases cd <;> simp only [cm_cmp, decide_eq_true_eq, Bool.not_eq_true', decide_eq_false_iff_not] at kt kf
  · exact lv_if_eq hX.1 hX.2.1 hd ht (fun h => kt ((cm_inj ha hb).mp h)) (fun h => kf (fun z => h ((cm_inj ha hb).mpr z)))
  · exact lv_if_ne hX.1 hX.2.1 hd ht (fun h => kt (fun z => h ((cm_inj ha hb).mpr z))) (fun h => kf (fun z => z ((cm_inj ha hb).mp h)))
  · exact lv_if_lt hX.1 hX.2.1 hd ht (fun h => kt ((cm_lt ha hb).mp h)) (fun h => kf (fun z => h ((cm_lt ha hb).mpr z)))
  · exact lv_if_ge hX.1 hX.2.1 hd ht (fun h => kt (by have := (cm_le hb ha).mp h; omega)) (fun h => kf (fun z => h ((cm_le hb ha).mpr (by omega))))
  · exact lv_if_gt hX.1 hX.2.1 hd ht (fun h => kt ((cm_lt hb ha).mp h)) (fun h => kf (fun z => h ((cm_lt hb ha).mpr z)))
  · exact lv_if_le hX.1 hX.2.1 hd ht (fun h => kt (by have := (cm_le ha hb).mp h; omega)) (fun h => kf (fun z => h ((cm_le ha hb).mpr (by omega))))
theorem cs_table {d lo hi x : Int} {offs : Array Int} {len tgt : Nat} (hx : cm_in x) (ho : x < lo ∨ hi < x ∨ (x - lo).toNat < offs.size) (ht : (pc : Int) + cm_tab d lo hi offs x = tgt) (hd : decode q.2.1 pc = .ok (.tableswitch d lo hi offs, len)) (K : cm_WW l D cA B base ro q tgt ls st G M r G' M') : cm_WW l D cA B base ro q pc ls ((0, x) :: st) G M r G' M' := by
  intro p e R s m args below meth c H locs Ls N0 S0 Qc hX hL hW hS h1 h2 h3 h4 hQ
  have k := K p e R s m args below meth c H locs Ls N0 S0 Qc hX hL hW hS h1 h2 h3 h4 hQ
  rw [List.map_cons, cm_v0]
  unfold cm_tab at ht
  by_cases hc : x < lo ∨ hi < x
  · rw [if_pos hc] at ht
    exact lv_tableOut hX.1 hX.2.1 hd (by rw [cm_ti hx]; exact hc) ht k
  · rw [if_neg hc] at ht
    have hlt : (x - lo).toNat < offs.size := by
      rcases ho with h | h | h
      · exact absurd (Or.inl h) hc
      · exact absurd (Or.inr h) hc
      · exact h
    refine lv_tableIn hX.1 hX.2.1 hd (by rw [cm_ti hx]; exact fun h => hc (Or.inl h)) (by rw [cm_ti hx]; exact fun h => hc (Or.inr h)) (off := offs.toList.getD (x - lo).toNat d) ?_ ht k
    rw [cm_ti hx, ← Array.getElem?_toList, List.getD_eq_getElem?_getD, List.getElem?_eq_getElem (by simpa using hlt)]
    rfl
theorem cs_lookup {d x : Int} {ps : Array (Int × Int)} {len tgt : Nat} (hx : cm_in x) (hp : (ps.toList.zip (ps.toList.drop 1)).all (fun (a, next) => a.1 < next.1) = true) (ht : (pc : Int) + cm_lk d ps.toList x = tgt) (hd : decode q.2.1 pc = .ok (.lookupswitch d ps, len)) (K : cm_WW l D cA B base ro q tgt ls st G M r G' M') : cm_WW l D cA B base ro q pc ls ((0, x) :: st) G M r G' M' := by
  intro p e R s m args below meth c H locs Ls N0 S0 Qc hX hL hW hS h1 h2 h3 h4 hQ
  have k := K p e R s m args below meth c H locs Ls N0 S0 Qc hX hL hW hS h1 h2 h3 h4 hQ
  rw [List.map_cons, cm_v0]
  exact lv_lookup hX.1 hX.2.1 hd hp rfl (by rw [cm_ti hx]; exact ht) k
/-! returns -/
theorem cs_ireturn {v : Int} (hr : cm_rt q = some .int) (hd : decode q.2.1 pc = .ok (.ireturn, 1)) : cm_WW l D cA B base ro q pc ls [(0, v)] G M (some (0, v)) G M := by
  intro p e R s m args below meth c H locs Ls N0 S0 Qc hX hL hW hS h1 h2 h3 h4 hQ
  exact W.iret hX.1 hX.2.1 (hX.2.2.2.1.trans hr) (fun t ht hw => hQ t hw (by rw [ht]; exact hW) (hS.F ht)) hS.2.2 hd (hlocks := hX.2.2.2.2.2.2.1)
theorem cs_zreturn {v : Int} (hv : v = 0 ∨ v = 1) (hr : cm_rt q = some .boolean) (hd : decode q.2.1 pc = .ok (.ireturn, 1)) : cm_WW l D cA B base ro q pc ls [(0, v)] G M (some (0, v)) G M := by
  intro p e R s m args below meth c H locs Ls N0 S0 Qc hX hL hW hS h1 h2 h3 h4 hQ
  exact W.zret hX.1 hX.2.1 (hX.2.2.2.1.trans hr) (by rcases hv with rfl | rfl <;> decide) (fun t ht hw => hQ t hw (by rw [ht]; exact hW) (hS.F ht)) hS.2.2 hd (hlocks := hX.2.2.2.2.2.2.1)
theorem cs_return (hr : cm_rt q = none) (hd : decode q.2.1 pc = .ok (.return_, 1)) : cm_WW l D cA B base ro q pc ls [] G M none G M := by
  intro p e R s m args below meth c H locs Ls N0 S0 Qc hX hL hW hS h1 h2 h3 h4 hQ
  exact W.vret hX.1 hX.2.1 (hX.2.2.2.1.trans hr) (fun t ht hw => hQ t hw (by rw [ht]; exact hW) (hS.F ht)) hS.2.2 hd (hlocks := hX.2.2.2.2.2.2.1)
end ARMS
