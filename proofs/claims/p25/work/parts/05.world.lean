/-! ===== THE WORLD OF THE SMALL MACHINE IN THE HEAP ===== -/
def cm_v (B : Int → Nat) (v : cm_V) : Value := if v.1 = 0 then .int (Int32.ofInt v.2) else if v.1 = 1 then .long (Int64.ofInt v.2) else if v.2 = -1 then .null else .ref (B v.2)
theorem cm_v0 (B : Int → Nat) (x : Int) : cm_v B (0, x) = .int (Int32.ofInt x) := rfl
theorem cm_v1 (B : Int → Nat) (x : Int) : cm_v B (1, x) = .long (Int64.ofInt x) := rfl
theorem cm_v2 (B : Int → Nat) {x : Int} (h : x ≠ -1) : cm_v B (2, x) = .ref (B x) := by simp [cm_v, h]
theorem cm_v_cat (B : Int → Nat) (v : cm_V) : (cm_v B v).category = cm_cat v := by
  unfold cm_v cm_cat
  by_cases h0 : v.1 = 0
  · simp [h0, Value.category]
  · by_cases h1 : v.1 = 1
    · simp [h1, Value.category]
    · simp only [h0, h1, if_false]
      split <;> rfl
def cm_nf (ci : Nat) : Nat := match vwCl[ci]? with
  | some r => r.2.2
  | none => 0
def cm_fv (B : Int → Nat) (ci : Nat) (f g : Int → Int) (j : Nat) : Value := if cm_fk ci j = some 0 then .int (Int32.ofInt (f j)) else cm_v B (2, g j)
def cm_fs (B : Int → Nat) (ci : Nat) (f g : Int → Int) : List Value := (List.range (cm_nf ci)).map (cm_fv B ci f g)
def cm_rr (B : Int → Nat) (g : Int → Int) (j : Nat) : Option Nat := if g j = -1 then none else some (B (g j))
def cm_c (B : Int → Nat) (cA : Nat → ClassId) (e : Nat × Nat) (f g : Int → Int) : va_E :=
  if e.1 = 0 then .inr (e.2, cm_fs B e.2 f g) else if e.1 = 4 then .inl (cA 4, e.2, .inr (.inr (.inr (.inr (cm_rr B g))))) else .inl (cA e.1, e.2, .inl (fun j => Int32.ofInt (f j)))
def cm_W (D : va_G) (cA : Nat → ClassId) (B : Int → Nat) (base : Nat) (G : cm_G) (M : cm_M) (H : Heap) : Prop :=
  H.size = base + G.1.length ∧ ∀ (k : Nat) (e : Nat × Nat), G.1[k]? = some e → va_at D vwCl (B k, cm_c B cA e (M k) (G.2 k)) H
abbrev cm_A (base : Nat) : Nat → Prop := fun q => base ≤ q
def cm_ty4 (cA : Nat → ClassId) : List (ClassId × FieldType) := [(cA 1, .int), (cA 2, .char), (cA 3, .boolean), (cA 4, .object RX1)]
/-- numbers of the static tables and the script -/
def cm_Ro (ro : Int → Int → Int) (M : cm_M) : Prop := ∀ k, k < 0 → ∀ j, M k j = ro k j
def cm_B (B : Int → Nat) (base : Nat) : Prop := (∀ k : Nat, B k = base + k) ∧ ∀ k : Int, k < 0 → B k < base
def cm_tab1 (k : Int) : String := if k = -3 then "FIRST_SETTINGS" else if k = -4 then "LEAST_SETTINGS" else "MOST_SETTINGS"
/-- what a state's tables and old cells say, everywhere in the run -/
def cm_S (D : va_G) (cA : Nat → ClassId) (B : Int → Nat) (base : Nat) (ro : Int → Int → Int) (U : State) : Prop :=
  va_K D vwCl (cm_ty4 cA) U ∧
  (va_Nw (.methodLinkNest RX5 9 yX0_init RX5) U ∧ va_Nw (.methodLinkNest RX5 29 yX3_init RX5) U ∧ va_Nw (.fieldLinkNest RX1 27 RX5 "FIRST_SETTINGS" "[I" RX5) U ∧ va_AO RX1 U) ∧
  (∀ k : Int, k = -3 ∨ k = -4 ∨ k = -5 → va_Z RX5 (cm_tab1 k) "[I" (.ref (B k)) (cm_A base) U U.heap ∧ va_T .int (B k) 3 (fun j => .int (Int32.ofInt (ro k j))) (cm_A base) U U.heap) ∧
  (∃ L : Nat, L < 2 ^ 31 ∧ ro (-2) (-1) = L ∧ va_X (B (-2)) L (fun j => Int32.ofInt (ro (-2) j)) U U.heap) ∧ base ≤ U.heap.size
theorem cm_S.moved {D : va_G} {cA : Nat → ClassId} {B : Int → Nat} {base : Nat} {ro : Int → Int → Int} {s U : State} {locs : List Loc} (hB : cm_B B base) (h : cm_S D cA B base ro s) (hW : s.WarmedH U.vm) (hS : va_S (cm_A base) s.heap U.heap locs) : cm_S D cA B base ro U := by
  obtain ⟨h1, ⟨n1, n2, n3, n4⟩, h3, ⟨L, l1, l2, l3⟩, h5⟩ := h
  refine ⟨h1.moved hW.alike, ⟨n1.warmM hW, n2.warmM hW, n3.warmF hW, n4.moved hW.alike⟩, fun k hk => ⟨((h3 k hk).1.moved hW.alike).kept hS.2.1, ((h3 k hk).2.moved hW.alike).kept hS.2.1⟩, ⟨L, l1, l2, (l3.moved hW.alike).kept (hS.2.1 _ (by have := hB.2 (-2) (by decide); omega) (by have := hB.2 (-2) (by decide); simp only [cm_A]; omega))⟩, Nat.le_trans h5 hS.1⟩
theorem cm_S.blind {D : va_G} {cA : Nat → ClassId} {B : Int → Nat} {base : Nat} {ro : Int → Int → Int} {U : State} (h : cm_S D cA B base ro U) (g : JFrame) (mk : MethodId) (a : Array Value) : cm_S D cA B base ro (U.calling g mk a) := by
  obtain ⟨h1, ⟨n1, n2, n3, n4⟩, h3, ⟨L, l1, l2, l3⟩, h5⟩ := h
  have hv : U.vm = (U.calling g mk a).vm := rfl
  have hA : U.vm.Alike (U.calling g mk a).vm := Vm.Alike.refl U.vm
  exact ⟨h1.moved hA, ⟨n1.same rfl hv, n2.same rfl hv, n3.same rfl hv, n4.moved hA⟩, fun k hk => ⟨(h3 k hk).1.moved hA, (h3 k hk).2.moved hA⟩, ⟨L, l1, l2, l3.moved hA⟩, h5⟩
/-! locals -/
def cm_L (B : Int → Nat) (q : cm_MI) (Ls : Array Slot) (ls : List (Option cm_V)) : Prop :=
  ls.length = cm_ml q ∧ (∃ l, lv_has Ls (cm_ml q) l ∧ ∀ (i : Nat) (v : cm_V), ls[i]? = some (some v) → (i, cm_v B v) ∈ l) ∧ ∀ (i : Nat) (x : Int), ls[i]? = some (some (1, x)) → i ∈ cm_lg q
theorem cm_L.at {B : Int → Nat} {q : cm_MI} {Ls : Array Slot} {ls : List (Option cm_V)} (h : cm_L B q Ls ls) {i : Nat} {v : cm_V} (hi : ls[i]? = some (some v)) : Ls[i]? = some (.val (cm_v B v)) := by
  obtain ⟨-, ⟨l, hl, hm⟩, -⟩ := h
  exact hl.2.2 _ (hm i v hi)
theorem cm_L.size {B : Int → Nat} {q : cm_MI} {Ls : Array Slot} {ls : List (Option cm_V)} (h : cm_L B q Ls ls) : Ls.size = cm_ml q := by
  obtain ⟨-, ⟨l, hl, -⟩, -⟩ := h
  exact hl.1
/-- behind a store of one slot -/
theorem cm_L.set {B : Int → Nat} {q : cm_MI} {ls : List (Option cm_V)} {l : List (Nat × Value)} {i : Nat} {v : cm_V} (hlen : ls.length = cm_ml q) (hm : ∀ (i : Nat) (v : cm_V), ls[i]? = some (some v) → (i, cm_v B v) ∈ l) (hg : ∀ (i : Nat) (x : Int), ls[i]? = some (some (1, x)) → i ∈ cm_lg q)
    (hp : cm_pl q i = false) (hv : v.1 ≠ 1) {Ls' : Array Slot} (hl' : lv_has Ls' (cm_ml q) ((i, cm_v B v) :: l.filter (fun r => !(r.1 == i) && !(r.1 + 1 == i && r.2.category == 2)))) : cm_L B q Ls' (ls.set i (some v)) := by
  refine ⟨by rw [List.length_set]; exact hlen, ⟨_, hl', fun j w hj => ?_⟩, fun j x hj => ?_⟩
  · by_cases hji : j = i
    · subst hji
      have hlt : j < ls.length := by
        have := (List.getElem?_eq_some_iff.mp hj).1
        rwa [List.length_set] at this
      rw [List.getElem?_set_self hlt] at hj
      cases hj
      exact List.mem_cons_self
    · rw [List.getElem?_set_ne (Ne.symm hji)] at hj
      refine List.mem_cons_of_mem _ (List.mem_filter.mpr ⟨hm j w hj, ?_⟩)
      have h1 : (j == i) = false := by simp [hji]
      have h2 : (j + 1 == i && (cm_v B w).category == 2) = false := by
        by_cases hc : j + 1 = i
        · have hw : ¬ (cm_v B w).category = 2 := by
            rw [cm_v_cat]
            unfold cm_cat
            split
            · rename_i h1
              obtain ⟨t, x⟩ := w
              simp only at h1
              subst h1
              exfalso
              have := hg j x hj
              simp only [cm_pl, decide_eq_false_iff_not] at hp
              exact hp ⟨by omega, by rw [show i - 1 = j by omega]; exact this⟩
            · decide
          simp [hw]
        · simp [hc]
      simp [h1, h2]
  · by_cases hji : j = i
    · subst hji
      have hlt : j < ls.length := by
        have := (List.getElem?_eq_some_iff.mp hj).1
        rwa [List.length_set] at this
      rw [List.getElem?_set_self hlt] at hj
      cases hj
      exact absurd rfl hv
    · rw [List.getElem?_set_ne (Ne.symm hji)] at hj
      exact hg j x hj
/-- behind a store of a long -/
theorem cm_L.setL {B : Int → Nat} {q : cm_MI} {ls : List (Option cm_V)} {l : List (Nat × Value)} {i : Nat} {x : Int} (hlen : ls.length = cm_ml q) (hm : ∀ (i : Nat) (v : cm_V), ls[i]? = some (some v) → (i, cm_v B v) ∈ l) (hg : ∀ (i : Nat) (x : Int), ls[i]? = some (some (1, x)) → i ∈ cm_lg q)
    (hp : cm_pl q i = false) (hi : i ∈ cm_lg q) {Ls' : Array Slot} (hl' : lv_has Ls' (cm_ml q) ((i, cm_v B (1, x)) :: l.filter (fun r => !(r.1 == i) && (!(r.1 == i + 1) && !(r.1 + 1 == i && r.2.category == 2))))) : cm_L B q Ls' ((ls.set i (some (1, x))).set (i + 1) none) := by
  have key : ∀ (j : Nat) (w : cm_V), ((ls.set i (some (1, x))).set (i + 1) none)[j]? = some (some w) → (j = i ∧ w = (1, x)) ∨ (j ≠ i ∧ j ≠ i + 1 ∧ ls[j]? = some (some w)) := by
    intro j w hj
    by_cases h2 : j = i + 1
    · subst h2
      have hlt : i + 1 < (ls.set i (some ((1, x) : cm_V))).length := by
        have := (List.getElem?_eq_some_iff.mp hj).1
        rwa [List.length_set] at this
      rw [List.getElem?_set_self hlt] at hj
      cases hj
    · rw [List.getElem?_set_ne (Ne.symm h2)] at hj
      by_cases h1 : j = i
      · subst h1
        have hlt : j < ls.length := by
          have := (List.getElem?_eq_some_iff.mp hj).1
          rwa [List.length_set] at this
        rw [List.getElem?_set_self hlt] at hj
        cases hj
        exact Or.inl ⟨rfl, rfl⟩
      · rw [List.getElem?_set_ne (Ne.symm h1)] at hj
        exact Or.inr ⟨h1, h2, hj⟩
  refine ⟨by rw [List.length_set, List.length_set]; exact hlen, ⟨_, hl', fun j w hj => ?_⟩, fun j y hj => ?_⟩
  · rcases key j w hj with ⟨rfl, rfl⟩ | ⟨h1, h2, h3⟩
    · exact List.mem_cons_self
    · refine List.mem_cons_of_mem _ (List.mem_filter.mpr ⟨hm j w h3, ?_⟩)
      have e1 : (j == i) = false := by simp [h1]
      have e3 : (j == i + 1) = false := by simp [h2]
      have e2 : (j + 1 == i && (cm_v B w).category == 2) = false := by
        by_cases hc : j + 1 = i
        · have hw : ¬ (cm_v B w).category = 2 := by
            rw [cm_v_cat]
            unfold cm_cat
            split
            · rename_i h1
              obtain ⟨t, y⟩ := w
              simp only at h1
              subst h1
              exfalso
              have := hg j y h3
              simp only [cm_pl, decide_eq_false_iff_not] at hp
              exact hp ⟨by omega, by rw [show i - 1 = j by omega]; exact this⟩
            · decide
          simp [hw]
        · simp [hc]
      simp [e1, e2, e3]
  · rcases key j (1, y) hj with ⟨rfl, -⟩ | ⟨h1, h2, h3⟩
    · exact hi
    · exact hg j y h3
/-! entry -/
theorem cm_ent_len (L : Nat) (as : List cm_V) (h : cm_sum as ≤ L) : (cm_ent L as).length = L := by
  have e : (as.flatMap (fun v : cm_V => if v.1 = 1 then [some v, none] else [some v])).length = cm_sum as := by
    clear h
    induction as with
    | nil => rfl
    | cons v l ih =>
      rw [List.flatMap_cons, List.length_append, ih]
      simp only [cm_sum, List.map_cons, List.sum_cons, cm_cat]
      split <;> simp
  unfold cm_ent
  rw [List.length_append, e, List.length_replicate]
  omega
theorem cm_ent_sl (B : Int → Nat) (as : List cm_V) : (lg_sl (as.map (cm_v B))).length = cm_sum as := by
  induction as with
  | nil => rfl
  | cons v l ih =>
    unfold lg_sl at ih ⊢
    rw [List.map_cons, List.flatMap_cons, List.length_append, ih, cm_v_cat]
    simp only [cm_sum, List.map_cons, List.sum_cons, cm_cat]
    by_cases h : v.1 = 1 <;> simp [h]
theorem cm_ent_at (B : Int → Nat) : ∀ (as : List cm_V) (o : Nat) (n i : Nat) (v : cm_V), ((as.flatMap (fun v : cm_V => if v.1 = 1 then [some v, none] else [some v])) ++ List.replicate n none)[i]? = some (some v) → (o + i, cm_v B v) ∈ lv_args o (as.map (cm_v B)) ∧ (v.1 = 1 → o + i ∈ cm_lpos o (as.map (fun v => v.1)))
  | [], o, n, i, v, h => by
    rw [List.flatMap_nil, List.nil_append, List.getElem?_replicate] at h
    split at h <;> cases h
  | a :: as, o, n, i, v, h => by
    rw [List.flatMap_cons, List.append_assoc] at h
    rw [List.map_cons, List.map_cons]
    unfold lv_args cm_lpos
    rw [cm_v_cat]
    by_cases ha : a.1 = 1
    · rw [if_pos ha] at h
      have hc : cm_cat a = 2 := by simp [cm_cat, ha]
      rw [if_pos hc, if_pos ha]
      match i with
      | 0 =>
        cases h
        exact ⟨List.mem_cons_self, fun _ => List.mem_cons_self⟩
      | 1 => cases h
      | i + 2 =>
        have h' : ((as.flatMap (fun v : cm_V => if v.1 = 1 then [some v, none] else [some v])) ++ List.replicate n none)[i]? = some (some v) := h
        obtain ⟨h1, h2⟩ := cm_ent_at B as (o + 2) n i v h'
        rw [show o + 2 + i = o + (i + 2) by omega] at h1 h2
        exact ⟨List.mem_cons_of_mem _ h1, fun e => List.mem_cons_of_mem _ (h2 e)⟩
    · rw [if_neg ha] at h
      have hc : ¬ cm_cat a = 2 := by simp [cm_cat, ha]
      rw [if_neg hc, if_neg ha]
      match i with
      | 0 =>
        cases h
        exact ⟨List.mem_cons_self, fun e => absurd e ha⟩
      | i + 1 =>
        have h' : ((as.flatMap (fun v : cm_V => if v.1 = 1 then [some v, none] else [some v])) ++ List.replicate n none)[i]? = some (some v) := h
        obtain ⟨h1, h2⟩ := cm_ent_at B as (o + 1) n i v h'
        rw [show o + 1 + i = o + (i + 1) by omega] at h1 h2
        exact ⟨List.mem_cons_of_mem _ h1, h2⟩
theorem cm_ent_L (B : Int → Nat) (q : cm_MI) (as : List cm_V) (ht : as.map (fun v => v.1) = cm_tg q) (hs : cm_sum as ≤ cm_ml q) (hg : ∀ i ∈ cm_lpos 0 (cm_tg q), i ∈ cm_lg q) : cm_L B q ((lg_sl (as.map (cm_v B)) ++ List.replicate (cm_ml q - (lg_sl (as.map (cm_v B))).length) Slot.unset).toArray) (cm_ent (cm_ml q) as) := by
  refine ⟨cm_ent_len _ _ hs, ⟨_, lv_entry (as.map (cm_v B)) (by rw [cm_ent_sl]; exact hs), fun i v h => ?_⟩, fun i x h => ?_⟩
  · have := (cm_ent_at B as 0 _ i v h).1
    rwa [Nat.zero_add] at this
  · have := (cm_ent_at B as 0 _ i (1, x) h).2 rfl
    rw [Nat.zero_add, ht] at this
    exact hg i this
/-! cells -/
theorem cm_sh_some {G : cm_G} {k : Int} {e : Nat × Nat} (h : cm_sh G k = some e) : ∃ n : Nat, k = n ∧ G.1[n]? = some e := by
  unfold cm_sh at h
  by_cases hk : k < 0
  · rw [if_pos hk] at h; cases h
  · rw [if_neg hk] at h
    exact ⟨k.toNat, by omega, h⟩
theorem cm_sh_lt {G : cm_G} {k : Int} {e : Nat × Nat} (h : cm_sh G k = some e) : 0 ≤ k ∧ k < G.1.length := by
  obtain ⟨n, rfl, h1⟩ := cm_sh_some h
  have := (List.getElem?_eq_some_iff.mp h1).1
  omega
theorem cm_W.cell {D : va_G} {cA : Nat → ClassId} {B : Int → Nat} {base : Nat} {G : cm_G} {M : cm_M} {H : Heap} (h : cm_W D cA B base G M H) {k : Int} {e : Nat × Nat} (hk : cm_sh G k = some e) : va_at D vwCl (B k, cm_c B cA e (M k) (G.2 k)) H := by
  obtain ⟨n, rfl, h1⟩ := cm_sh_some hk
  exact h.2 n e h1
theorem cm_P1 {D : va_G} {cl : List vw_C} {H : Heap} {a : Nat} {e : va_E} (h : va_at D cl (a, e) H) : va_P D cl [(a, e)] H := by
  intro k q hq
  match k, hq with
  | 0, hq => cases hq; exact h
  | k + 1, hq => cases hq
/-- behind a write to one cell -/
theorem cm_W.put {D : va_G} {cA : Nat → ClassId} {B : Int → Nat} {base : Nat} (hB : cm_B B base) {G G' : cm_G} {M M' : cm_M} {H H1 : Heap} (h : cm_W D cA B base G M H) {k : Int} {e : Nat × Nat} (hk : cm_sh G k = some e) (hz : H1.size = H.size) (oq : ∀ q, q ≠ B k → H1[q]? = H[q]?)
    (hc : va_at D vwCl (B k, cm_c B cA e (M' k) (G'.2 k)) H1) (hG : G'.1 = G.1) (hM : ∀ j, j ≠ k → M' j = M j ∧ G'.2 j = G.2 j) : cm_W D cA B base G' M' H1 := by
  obtain ⟨n, rfl, h1⟩ := cm_sh_some hk
  refine ⟨by rw [hz, hG]; exact h.1, fun j e' hj => ?_⟩
  rw [hG] at hj
  by_cases hjn : j = n
  · subst hjn
    rw [hj] at h1
    cases h1
    exact hc
  · have hne : (j : Int) ≠ (n : Int) := by omega
    rw [(hM j hne).1, (hM j hne).2]
    refine (h.2 j e' hj).kept (oq _ ?_)
    show B j ≠ B n
    rw [hB.1, hB.1]
    omega
/-- behind a new cell -/
theorem cm_W.push {D : va_G} {cA : Nat → ClassId} {B : Int → Nat} {base : Nat} (hB : cm_B B base) {G G' : cm_G} {M M' : cm_M} {H H1 : Heap} (h : cm_W D cA B base G M H) {e : Nat × Nat} (hz : H1.size = H.size + 1) (oq : ∀ q, q < H.size → H1[q]? = H[q]?)
    (hc : va_at D vwCl (H.size, cm_c B cA e (M' G.1.length) (G'.2 G.1.length)) H1) (hG : G'.1 = G.1 ++ [e]) (hM : ∀ j, j ≠ (G.1.length : Int) → M' j = M j ∧ G'.2 j = G.2 j) : cm_W D cA B base G' M' H1 := by
  refine ⟨by rw [hz, hG, h.1, List.length_append]; simp; omega, fun j e' hj => ?_⟩
  rw [hG] at hj
  by_cases hjn : j < G.1.length
  · rw [List.getElem?_append_left hjn] at hj
    have hne : (j : Int) ≠ (G.1.length : Int) := by omega
    rw [(hM j hne).1, (hM j hne).2]
    refine (h.2 j e' hj).kept (oq _ ?_)
    show B j < H.size
    rw [hB.1, h.1]
    omega
  · rw [List.getElem?_append_right (by omega)] at hj
    have hz : j - G.1.length < 1 := (List.getElem?_eq_some_iff.mp hj).1
    have hj0 : j = G.1.length := by omega
    subst hj0
    rw [Nat.sub_self] at hj
    cases hj
    have e1 : B (G.1.length : Int) = H.size := by rw [hB.1, h.1]
    rw [e1]
    exact hc
/-! numbers -/
theorem cm_ti {x : Int} (h : cm_in x) : (Int32.ofInt x).toInt = x := Int32.toInt_ofInt_of_le h.1 (by have := h.2; omega)
theorem cm_inj {x y : Int} (hx : cm_in x) (hy : cm_in y) : Int32.ofInt x = Int32.ofInt y ↔ x = y := by
  constructor
  · intro h
    have := congrArg Int32.toInt h
    rwa [cm_ti hx, cm_ti hy] at this
  · intro h; rw [h]
theorem cm_lt {x y : Int} (hx : cm_in x) (hy : cm_in y) : Int32.ofInt x < Int32.ofInt y ↔ x < y := by
  rw [Int32.lt_iff_toInt_lt, cm_ti hx, cm_ti hy]
theorem cm_le {x y : Int} (hx : cm_in x) (hy : cm_in y) : Int32.ofInt x ≤ Int32.ofInt y ↔ x ≤ y := by
  rw [Int32.le_iff_toInt_le, cm_ti hx, cm_ti hy]
theorem cm_clamp {x : Int} (h0 : 0 ≤ x) (h : x < 2147483648) : (Int32.ofInt x).toNatClampNeg = x.toNat := by
  show (Int32.ofInt x).toInt.toNat = _
  rw [cm_ti ⟨by omega, h⟩]
theorem cm_nneg {x : Int} (h0 : 0 ≤ x) (h : x < 2147483648) : ¬ Int32.ofInt x < 0 := by
  have e : (0 : Int32) = Int32.ofInt 0 := rfl
  rw [e, cm_lt ⟨by omega, h⟩ ⟨by decide, by decide⟩]
  omega
theorem cm_vin {x : Int} {n : Nat} (h0 : 0 ≤ x) (h : x < n) (hn : n < 2 ^ 31) : vp_in (Int32.ofInt x) n := by
  rw [vp_in_iff, cm_ti ⟨by omega, by omega⟩]
  exact ⟨h0, h⟩
