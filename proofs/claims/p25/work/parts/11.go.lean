/-! ===== STEPPING IN THE SMALL MACHINE ===== -/
/-- from here the small machine comes to an answer of which Q holds -/
def Go (μ pc : Nat) (ls : List (Option cm_V)) (st : List cm_V) (G : cm_G) (M : cm_M) (Q : Option cm_V → cm_G → cm_M → Prop) : Prop := ∃ (n0 : Nat) (r : Option cm_V) (G' : cm_G) (M' : cm_M), (∀ n, n0 ≤ n → cm_run n μ pc ls st G M = some (r, G', M')) ∧ Q r G' M'
section GO
variable {μ pc : Nat} {q : cm_Q} {ls : List (Option cm_V)} {st : List cm_V} {G : cm_G} {M : cm_M} {Q : Option cm_V → cm_G → cm_M → Prop}
theorem Go.imp {Q' : Option cm_V → cm_G → cm_M → Prop} (h : Go μ pc ls st G M Q) (hi : ∀ r G' M', Q r G' M' → Q' r G' M') : Go μ pc ls st G M Q' := by
  obtain ⟨n0, r, G1, M1, h1, h2⟩ := h
  exact ⟨n0, r, G1, M1, h1, hi _ _ _ h2⟩
theorem cm_run_at {i : Instr × Nat} (hq : cm_P[μ]? = some q) (hi : cm_at q.2 pc = some i) (n : Nat) : cm_run (n + 1) μ pc ls st G M = cm_do (cm_run n) μ q.1 i pc ls st G M := by
  rw [cm_run_s]
  unfold cm_step
  rw [hq]
  simp only
  rw [hi]
theorem go_of {μ' pc' : Nat} {ls' : List (Option cm_V)} {st' : List cm_V} {G' : cm_G} {M' : cm_M} (h : ∀ n, cm_run (n + 1) μ pc ls st G M = cm_run n μ' pc' ls' st' G' M') : Go μ pc ls st G M Q ↔ Go μ' pc' ls' st' G' M' Q := by
  constructor
  · rintro ⟨n0, r, G1, M1, h1, h2⟩
    exact ⟨n0, r, G1, M1, fun n hn => by rw [← h n]; exact h1 (n + 1) (by omega), h2⟩
  · rintro ⟨n0, r, G1, M1, h1, h2⟩
    refine ⟨n0 + 1, r, G1, M1, fun n hn => ?_, h2⟩
    obtain ⟨m, rfl⟩ : ∃ m, n = m + 1 := ⟨n - 1, by omega⟩
    rw [h m]
    exact h1 m (by omega)
theorem go_no (h : ∀ n, cm_run (n + 1) μ pc ls st G M = none) : ¬ Go μ pc ls st G M Q := by
  rintro ⟨n0, r, G1, M1, h1, -⟩
  have := h1 (n0 + 1) (by omega)
  rw [h n0] at this
  cases this
theorem go_if {g : Prop} {μ' pc' : Nat} {ls' : List (Option cm_V)} {st' : List cm_V} {G' : cm_G} {M' : cm_M} (h : g → ∀ n, cm_run (n + 1) μ pc ls st G M = cm_run n μ' pc' ls' st' G' M') (h0 : ¬ g → ∀ n, cm_run (n + 1) μ pc ls st G M = none) : Go μ pc ls st G M Q ↔ g ∧ Go μ' pc' ls' st' G' M' Q := by
  by_cases hg : g
  · rw [go_of (Q := Q) (h hg)]
    exact ⟨fun x => ⟨hg, x⟩, fun x => x.2⟩
  · exact ⟨fun x => absurd x (go_no (h0 hg)), fun x => absurd x.1 hg⟩
/-- a fork -/
theorem go_fork {g c : Prop} {μ' p1 p2 : Nat} {l1 : List (Option cm_V)} {s1 : List cm_V} {G' : cm_G} {M' : cm_M} (h1 : g → c → ∀ n, cm_run (n + 1) μ pc ls st G M = cm_run n μ' p1 l1 s1 G' M') (h2 : g → ¬ c → ∀ n, cm_run (n + 1) μ pc ls st G M = cm_run n μ' p2 l1 s1 G' M') (h0 : ¬ g → ∀ n, cm_run (n + 1) μ pc ls st G M = none) : Go μ pc ls st G M Q ↔ g ∧ (c → Go μ' p1 l1 s1 G' M' Q) ∧ (¬ c → Go μ' p2 l1 s1 G' M' Q) := by
  by_cases hg : g
  · by_cases hc : c
    · rw [go_of (Q := Q) (h1 hg hc)]
      exact ⟨fun x => ⟨hg, fun _ => x, fun z => absurd hc z⟩, fun x => x.2.1 hc⟩
    · rw [go_of (Q := Q) (h2 hg hc)]
      exact ⟨fun x => ⟨hg, fun z => absurd z hc, fun _ => x⟩, fun x => x.2.2 hc⟩
  · exact ⟨fun x => absurd x (go_no (h0 hg)), fun x => absurd x.1 hg⟩
theorem go_iconst (hq : cm_P[μ]? = some q) {n : Int} (hi : cm_at q.2 pc = some (.iconst n, 1)) : Go μ pc ls st G M Q ↔ Go μ (pc + 1) ls ((0, n) :: st) G M Q := go_of (fun n => by rw [cm_run_at hq hi]; rfl)
theorem go_bipush (hq : cm_P[μ]? = some q) {n : Int} (hi : cm_at q.2 pc = some (.bipush n, 2)) (hn : -128 ≤ n ∧ n ≤ 127) : Go μ pc ls st G M Q ↔ Go μ (pc + 2) ls ((0, n) :: st) G M Q := go_of (fun m => by rw [cm_run_at hq hi]; exact if_pos hn)
theorem go_sipush (hq : cm_P[μ]? = some q) {n : Int} (hi : cm_at q.2 pc = some (.sipush n, 3)) (hn : -32768 ≤ n ∧ n ≤ 32767) : Go μ pc ls st G M Q ↔ Go μ (pc + 3) ls ((0, n) :: st) G M Q := go_of (fun m => by rw [cm_run_at hq hi]; exact if_pos hn)
theorem go_lconst (hq : cm_P[μ]? = some q) {n : Fin 2} (hi : cm_at q.2 pc = some (.lconst n, 1)) : Go μ pc ls st G M Q ↔ Go μ (pc + 1) ls ((1, (n : Nat)) :: st) G M Q := go_of (fun n => by rw [cm_run_at hq hi]; rfl)
theorem go_ldc2 (hq : cm_P[μ]? = some q) {ix : Nat} {v : Int} (hi : cm_at q.2 pc = some (.ldc2_w ix, 3)) (hv : cm_as cm_lng (cm_ci q.1) ix = some v) : Go μ pc ls st G M Q ↔ Go μ (pc + 3) ls ((1, v) :: st) G M Q := go_of (fun n => by rw [cm_run_at hq hi]; show (match cm_as cm_lng (cm_ci q.1) ix with | some v => cm_run n μ (pc + 3) ls ((1, v) :: st) G M | none => none) = _; rw [hv])
theorem go_ldc (hq : cm_P[μ]? = some q) {ix : Nat} {v : Int} (hi : cm_at q.2 pc = some (.ldc ix, 2)) (hv : cm_as cm_icn (cm_ci q.1) ix = some v) : Go μ pc ls st G M Q ↔ Go μ (pc + 2) ls ((0, v) :: st) G M Q := go_of (fun n => by rw [cm_run_at hq hi]; show (match cm_as cm_icn (cm_ci q.1) ix with | some v => cm_run n μ (pc + 2) ls ((0, v) :: st) G M | none => none) = _; rw [hv])
theorem go_ld (hq : cm_P[μ]? = some q) {t k w : Nat} {x : Int} {i : Instr × Nat} (hi : cm_at q.2 pc = some i) (he : ∀ f, cm_do f μ q.1 i pc ls st G M = cm_ld t k f μ pc w ls st G M) (hl : ls[k]? = some (some (t, x))) : Go μ pc ls st G M Q ↔ Go μ (pc + w) ls ((t, x) :: st) G M Q := go_of (fun n => by rw [cm_run_at hq hi, he]; unfold cm_ld; rw [hl]; exact if_pos rfl)
theorem go_iload_n (hq : cm_P[μ]? = some q) {k : Fin 4} {x : Int} (hi : cm_at q.2 pc = some (.iload_n k, 1)) (hl : ls[(k : Nat)]? = some (some (0, x))) : Go μ pc ls st G M Q ↔ Go μ (pc + 1) ls ((0, x) :: st) G M Q := go_ld hq hi (fun _ => rfl) hl
theorem go_iload (hq : cm_P[μ]? = some q) {k : Nat} {x : Int} (hi : cm_at q.2 pc = some (.iload k, 2)) (hl : ls[k]? = some (some (0, x))) : Go μ pc ls st G M Q ↔ Go μ (pc + 2) ls ((0, x) :: st) G M Q := go_ld hq hi (fun _ => rfl) hl
theorem go_lload_n (hq : cm_P[μ]? = some q) {k : Fin 4} {x : Int} (hi : cm_at q.2 pc = some (.lload_n k, 1)) (hl : ls[(k : Nat)]? = some (some (1, x))) : Go μ pc ls st G M Q ↔ Go μ (pc + 1) ls ((1, x) :: st) G M Q := go_ld hq hi (fun _ => rfl) hl
theorem go_lload (hq : cm_P[μ]? = some q) {k : Nat} {x : Int} (hi : cm_at q.2 pc = some (.lload k, 2)) (hl : ls[k]? = some (some (1, x))) : Go μ pc ls st G M Q ↔ Go μ (pc + 2) ls ((1, x) :: st) G M Q := go_ld hq hi (fun _ => rfl) hl
theorem go_aload_n (hq : cm_P[μ]? = some q) {k : Fin 4} {x : Int} (hi : cm_at q.2 pc = some (.aload_n k, 1)) (hl : ls[(k : Nat)]? = some (some (2, x))) : Go μ pc ls st G M Q ↔ Go μ (pc + 1) ls ((2, x) :: st) G M Q := go_ld hq hi (fun _ => rfl) hl
theorem go_aload (hq : cm_P[μ]? = some q) {k : Nat} {x : Int} (hi : cm_at q.2 pc = some (.aload k, 2)) (hl : ls[k]? = some (some (2, x))) : Go μ pc ls st G M Q ↔ Go μ (pc + 2) ls ((2, x) :: st) G M Q := go_ld hq hi (fun _ => rfl) hl
theorem go_st (hq : cm_P[μ]? = some q) {t k w : Nat} {x : Int} {i : Instr × Nat} (hi : cm_at q.2 pc = some i) (he : ∀ f, cm_do f μ q.1 i pc ls ((t, x) :: st) G M = cm_st t k f μ q.1 pc w ls ((t, x) :: st) G M) (ht : t = 0) (hs : k < ls.length ∧ cm_pl q.1 k = false ∧ k ∉ cm_lg q.1) : Go μ pc ls ((t, x) :: st) G M Q ↔ Go μ (pc + w) (ls.set k (some (t, x))) st G M Q := go_of (fun n => by rw [cm_run_at hq hi, he]; unfold cm_st; exact if_pos ⟨rfl, hs.1, hs.2.1, hs.2.2, fun h => by rw [ht] at h; cases h⟩)
theorem go_istore_n (hq : cm_P[μ]? = some q) {k : Fin 4} {x : Int} (hi : cm_at q.2 pc = some (.istore_n k, 1)) (hs : (k : Nat) < ls.length ∧ cm_pl q.1 k = false ∧ (k : Nat) ∉ cm_lg q.1) : Go μ pc ls ((0, x) :: st) G M Q ↔ Go μ (pc + 1) (ls.set k (some (0, x))) st G M Q := go_st hq hi (fun _ => rfl) rfl hs
theorem go_istore (hq : cm_P[μ]? = some q) {k : Nat} {x : Int} (hi : cm_at q.2 pc = some (.istore k, 2)) (hs : k < ls.length ∧ cm_pl q.1 k = false ∧ k ∉ cm_lg q.1) : Go μ pc ls ((0, x) :: st) G M Q ↔ Go μ (pc + 2) (ls.set k (some (0, x))) st G M Q := go_st hq hi (fun _ => rfl) rfl hs
theorem go_astore_n (hq : cm_P[μ]? = some q) {k : Fin 4} {x : Int} (hi : cm_at q.2 pc = some (.astore_n k, 1)) (hs : (k : Nat) < ls.length ∧ cm_pl q.1 k = false ∧ (k : Nat) ∉ cm_lg q.1) : Go μ pc ls ((2, x) :: st) G M Q ↔ x ≠ -1 ∧ Go μ (pc + 1) (ls.set k (some (2, x))) st G M Q := go_if (fun hx n => by rw [cm_run_at hq hi]; exact if_pos ⟨rfl, hs.1, hs.2.1, hs.2.2, fun _ => hx⟩) (fun hx n => by rw [cm_run_at hq hi]; exact if_neg (fun h => hx (h.2.2.2.2 rfl)))
theorem go_astore (hq : cm_P[μ]? = some q) {k : Nat} {x : Int} (hi : cm_at q.2 pc = some (.astore k, 2)) (hs : k < ls.length ∧ cm_pl q.1 k = false ∧ k ∉ cm_lg q.1) : Go μ pc ls ((2, x) :: st) G M Q ↔ x ≠ -1 ∧ Go μ (pc + 2) (ls.set k (some (2, x))) st G M Q := go_if (fun hx n => by rw [cm_run_at hq hi]; exact if_pos ⟨rfl, hs.1, hs.2.1, hs.2.2, fun _ => hx⟩) (fun hx n => by rw [cm_run_at hq hi]; exact if_neg (fun h => hx (h.2.2.2.2 rfl)))
theorem go_lstore (hq : cm_P[μ]? = some q) {k : Nat} {x : Int} (hi : cm_at q.2 pc = some (.lstore k, 2)) (hs : k + 1 < ls.length ∧ cm_pl q.1 k = false ∧ k ∈ cm_lg q.1 ∧ (k + 1) ∉ cm_lg q.1) : Go μ pc ls ((1, x) :: st) G M Q ↔ Go μ (pc + 2) ((ls.set k (some (1, x))).set (k + 1) none) st G M Q := go_of (fun n => by rw [cm_run_at hq hi]; exact if_pos hs)
theorem go_iinc (hq : cm_P[μ]? = some q) {k : Nat} {c x : Int} (hi : cm_at q.2 pc = some (.iinc k c, 3)) (hl : ls[k]? = some (some (0, x))) (hs : cm_pl q.1 k = false ∧ k ∉ cm_lg q.1) : Go μ pc ls st G M Q ↔ Go μ (pc + 3) (ls.set k (some (0, x + c))) st G M Q := go_of (fun n => by
  rw [cm_run_at hq hi]
  show (match ls[k]? with | some (some (0, x)) => _ | _ => none) = _
  rw [hl]
  exact if_pos hs)
theorem go_iadd (hq : cm_P[μ]? = some q) {a b : Int} (hi : cm_at q.2 pc = some (.iadd, 1)) : Go μ pc ls ((0, b) :: (0, a) :: st) G M Q ↔ Go μ (pc + 1) ls ((0, a + b) :: st) G M Q := go_of (fun n => by rw [cm_run_at hq hi]; rfl)
theorem go_isub (hq : cm_P[μ]? = some q) {a b : Int} (hi : cm_at q.2 pc = some (.isub, 1)) : Go μ pc ls ((0, b) :: (0, a) :: st) G M Q ↔ Go μ (pc + 1) ls ((0, a - b) :: st) G M Q := go_of (fun n => by rw [cm_run_at hq hi]; rfl)
theorem go_imul (hq : cm_P[μ]? = some q) {a b : Int} (hi : cm_at q.2 pc = some (.imul, 1)) : Go μ pc ls ((0, b) :: (0, a) :: st) G M Q ↔ Go μ (pc + 1) ls ((0, a * b) :: st) G M Q := go_of (fun n => by rw [cm_run_at hq hi]; rfl)
theorem go_iand (hq : cm_P[μ]? = some q) {a b : Int} (hi : cm_at q.2 pc = some (.iand, 1)) : Go μ pc ls ((0, b) :: (0, a) :: st) G M Q ↔ Go μ (pc + 1) ls ((0, cm_iand a b) :: st) G M Q := go_of (fun n => by rw [cm_run_at hq hi]; rfl)
theorem go_ishr (hq : cm_P[μ]? = some q) {a b : Int} (hi : cm_at q.2 pc = some (.ishr, 1)) : Go μ pc ls ((0, b) :: (0, a) :: st) G M Q ↔ Go μ (pc + 1) ls ((0, cm_ishr a b) :: st) G M Q := go_of (fun n => by rw [cm_run_at hq hi]; rfl)
theorem go_idiv (hq : cm_P[μ]? = some q) {a b : Int} (hi : cm_at q.2 pc = some (.idiv, 1)) : Go μ pc ls ((0, b) :: (0, a) :: st) G M Q ↔ (cm_in a ∧ cm_in b ∧ 0 < b) ∧ Go μ (pc + 1) ls ((0, a.tdiv b) :: st) G M Q := go_if (fun h n => by rw [cm_run_at hq hi]; exact if_pos h) (fun h n => by rw [cm_run_at hq hi]; exact if_neg h)
theorem go_irem (hq : cm_P[μ]? = some q) {a b : Int} (hi : cm_at q.2 pc = some (.irem, 1)) : Go μ pc ls ((0, b) :: (0, a) :: st) G M Q ↔ (cm_in a ∧ cm_in b ∧ 0 < b) ∧ Go μ (pc + 1) ls ((0, a.tmod b) :: st) G M Q := go_if (fun h n => by rw [cm_run_at hq hi]; exact if_pos h) (fun h n => by rw [cm_run_at hq hi]; exact if_neg h)
theorem go_land (hq : cm_P[μ]? = some q) {a b : Int} (hi : cm_at q.2 pc = some (.land, 1)) : Go μ pc ls ((1, b) :: (1, a) :: st) G M Q ↔ Go μ (pc + 1) ls ((1, cm_land a b) :: st) G M Q := go_of (fun n => by rw [cm_run_at hq hi]; rfl)
theorem go_lor (hq : cm_P[μ]? = some q) {a b : Int} (hi : cm_at q.2 pc = some (.lor, 1)) : Go μ pc ls ((1, b) :: (1, a) :: st) G M Q ↔ Go μ (pc + 1) ls ((1, cm_lor a b) :: st) G M Q := go_of (fun n => by rw [cm_run_at hq hi]; rfl)
theorem go_lushr (hq : cm_P[μ]? = some q) {a b : Int} (hi : cm_at q.2 pc = some (.lushr, 1)) : Go μ pc ls ((0, b) :: (1, a) :: st) G M Q ↔ Go μ (pc + 1) ls ((1, cm_lushr a b) :: st) G M Q := go_of (fun n => by rw [cm_run_at hq hi]; rfl)
theorem go_lshl (hq : cm_P[μ]? = some q) {a b : Int} (hi : cm_at q.2 pc = some (.lshl, 1)) : Go μ pc ls ((0, b) :: (1, a) :: st) G M Q ↔ Go μ (pc + 1) ls ((1, cm_lshl a b) :: st) G M Q := go_of (fun n => by rw [cm_run_at hq hi]; rfl)
theorem go_l2i (hq : cm_P[μ]? = some q) {a : Int} (hi : cm_at q.2 pc = some (.l2i, 1)) : Go μ pc ls ((1, a) :: st) G M Q ↔ Go μ (pc + 1) ls ((0, cm_l2i a) :: st) G M Q := go_of (fun n => by rw [cm_run_at hq hi]; rfl)
theorem go_i2l (hq : cm_P[μ]? = some q) {a : Int} (hi : cm_at q.2 pc = some (.i2l, 1)) : Go μ pc ls ((0, a) :: st) G M Q ↔ Go μ (pc + 1) ls ((1, cm_i2l a) :: st) G M Q := go_of (fun n => by rw [cm_run_at hq hi]; rfl)
theorem go_i2c (hq : cm_P[μ]? = some q) {a : Int} (hi : cm_at q.2 pc = some (.i2c, 1)) : Go μ pc ls ((0, a) :: st) G M Q ↔ (0 ≤ a ∧ a < 65536) ∧ Go μ (pc + 1) ls ((0, a) :: st) G M Q := go_if (fun h n => by rw [cm_run_at hq hi]; exact if_pos h) (fun h n => by rw [cm_run_at hq hi]; exact if_neg h)
theorem go_lcmp (hq : cm_P[μ]? = some q) {a b : Int} (hi : cm_at q.2 pc = some (.lcmp, 1)) : Go μ pc ls ((1, b) :: (1, a) :: st) G M Q ↔ Go μ (pc + 1) ls ((0, cm_lcmp a b) :: st) G M Q := go_of (fun n => by rw [cm_run_at hq hi]; rfl)
theorem go_dup0 (hq : cm_P[μ]? = some q) {x : Int} (hi : cm_at q.2 pc = some (.dup, 1)) : Go μ pc ls ((0, x) :: st) G M Q ↔ Go μ (pc + 1) ls ((0, x) :: (0, x) :: st) G M Q := go_of (fun n => by rw [cm_run_at hq hi]; rfl)
theorem go_dup2 (hq : cm_P[μ]? = some q) {x : Int} (hi : cm_at q.2 pc = some (.dup, 1)) : Go μ pc ls ((2, x) :: st) G M Q ↔ Go μ (pc + 1) ls ((2, x) :: (2, x) :: st) G M Q := go_of (fun n => by rw [cm_run_at hq hi]; rfl)
theorem go_dup2_02 (hq : cm_P[μ]? = some q) {x y : Int} (hi : cm_at q.2 pc = some (.dup2, 1)) : Go μ pc ls ((0, x) :: (2, y) :: st) G M Q ↔ Go μ (pc + 1) ls ((0, x) :: (2, y) :: (0, x) :: (2, y) :: st) G M Q := go_of (fun n => by rw [cm_run_at hq hi]; rfl)
theorem go_pop0 (hq : cm_P[μ]? = some q) {x : Int} (hi : cm_at q.2 pc = some (.pop, 1)) : Go μ pc ls ((0, x) :: st) G M Q ↔ Go μ (pc + 1) ls st G M Q := go_of (fun n => by rw [cm_run_at hq hi]; rfl)
theorem go_goto (hq : cm_P[μ]? = some q) {off : Int} {tgt : Nat} (hi : cm_at q.2 pc = some (.goto off, 3)) (ht : (pc : Int) + off = tgt) : Go μ pc ls st G M Q ↔ Go μ tgt ls st G M Q := go_of (fun n => by
  rw [cm_run_at hq hi]
  show cm_go _ _ _ _ _ _ _ _ = _
  unfold cm_go
  rw [ht, if_pos (by omega)]
  simp)
theorem go_icmp (hq : cm_P[μ]? = some q) {cd : Jvm.ClassFile.Cond} {off a b : Int} {tgt : Nat} (hi : cm_at q.2 pc = some (.if_icmp cd off, 3)) (ht : (pc : Int) + off = tgt) : Go μ pc ls ((0, b) :: (0, a) :: st) G M Q ↔ (cm_in a ∧ cm_in b) ∧ (cm_cmp cd a b = true → Go μ tgt ls st G M Q) ∧ (¬ cm_cmp cd a b = true → Go μ (pc + 3) ls st G M Q) := by
  have e1 : ((pc : Int) + off).toNat = tgt := by omega
  refine go_fork (fun hg hc n => ?_) (fun hg hc n => ?_) (fun hg n => ?_)
  · rw [cm_run_at hq hi]
    rw [show cm_do (cm_run n) μ q.1 (.if_icmp cd off, 3) pc ls ((0, b) :: (0, a) :: st) G M = if cm_in a ∧ cm_in b ∧ 0 ≤ (pc : Int) + off then (if cm_cmp cd a b = true then cm_run n μ ((pc : Int) + off).toNat ls st G M else cm_run n μ (pc + 3) ls st G M) else none from rfl]
    rw [if_pos ⟨hg.1, hg.2, by omega⟩, if_pos hc, e1]
  · rw [cm_run_at hq hi]
    rw [show cm_do (cm_run n) μ q.1 (.if_icmp cd off, 3) pc ls ((0, b) :: (0, a) :: st) G M = if cm_in a ∧ cm_in b ∧ 0 ≤ (pc : Int) + off then (if cm_cmp cd a b = true then cm_run n μ ((pc : Int) + off).toNat ls st G M else cm_run n μ (pc + 3) ls st G M) else none from rfl]
    rw [if_pos ⟨hg.1, hg.2, by omega⟩, if_neg hc]
  · rw [cm_run_at hq hi]
    rw [show cm_do (cm_run n) μ q.1 (.if_icmp cd off, 3) pc ls ((0, b) :: (0, a) :: st) G M = if cm_in a ∧ cm_in b ∧ 0 ≤ (pc : Int) + off then (if cm_cmp cd a b = true then cm_run n μ ((pc : Int) + off).toNat ls st G M else cm_run n μ (pc + 3) ls st G M) else none from rfl]
    rw [if_neg (fun h => hg ⟨h.1, h.2.1⟩)]
theorem go_ifc (hq : cm_P[μ]? = some q) {cd : Jvm.ClassFile.Cond} {off a : Int} {tgt : Nat} (hi : cm_at q.2 pc = some (.ifCond cd off, 3)) (ht : (pc : Int) + off = tgt) : Go μ pc ls ((0, a) :: st) G M Q ↔ cm_in a ∧ (cm_cmp cd a 0 = true → Go μ tgt ls st G M Q) ∧ (¬ cm_cmp cd a 0 = true → Go μ (pc + 3) ls st G M Q) := by
  have e1 : ((pc : Int) + off).toNat = tgt := by omega
  refine go_fork (fun hg hc n => ?_) (fun hg hc n => ?_) (fun hg n => ?_)
  · rw [cm_run_at hq hi]
    rw [show cm_do (cm_run n) μ q.1 (.ifCond cd off, 3) pc ls ((0, a) :: st) G M = if cm_in a ∧ 0 ≤ (pc : Int) + off then (if cm_cmp cd a 0 = true then cm_run n μ ((pc : Int) + off).toNat ls st G M else cm_run n μ (pc + 3) ls st G M) else none from rfl]
    rw [if_pos ⟨hg, by omega⟩, if_pos hc, e1]
  · rw [cm_run_at hq hi]
    rw [show cm_do (cm_run n) μ q.1 (.ifCond cd off, 3) pc ls ((0, a) :: st) G M = if cm_in a ∧ 0 ≤ (pc : Int) + off then (if cm_cmp cd a 0 = true then cm_run n μ ((pc : Int) + off).toNat ls st G M else cm_run n μ (pc + 3) ls st G M) else none from rfl]
    rw [if_pos ⟨hg, by omega⟩, if_neg hc]
  · rw [cm_run_at hq hi]
    rw [show cm_do (cm_run n) μ q.1 (.ifCond cd off, 3) pc ls ((0, a) :: st) G M = if cm_in a ∧ 0 ≤ (pc : Int) + off then (if cm_cmp cd a 0 = true then cm_run n μ ((pc : Int) + off).toNat ls st G M else cm_run n μ (pc + 3) ls st G M) else none from rfl]
    rw [if_neg (fun h => hg h.1)]
/-! the six compares, in plain words -/
theorem go_icmp_eq (hq : cm_P[μ]? = some q) {off a b : Int} {tgt : Nat} (hi : cm_at q.2 pc = some (.if_icmp .eq off, 3)) (ht : (pc : Int) + off = tgt) : Go μ pc ls ((0, b) :: (0, a) :: st) G M Q ↔ (cm_in a ∧ cm_in b) ∧ (a = b → Go μ tgt ls st G M Q) ∧ (¬ a = b → Go μ (pc + 3) ls st G M Q) := by
  rw [go_icmp hq hi ht]; simp only [cm_cmp, decide_eq_true_eq]
theorem go_icmp_ne (hq : cm_P[μ]? = some q) {off a b : Int} {tgt : Nat} (hi : cm_at q.2 pc = some (.if_icmp .ne off, 3)) (ht : (pc : Int) + off = tgt) : Go μ pc ls ((0, b) :: (0, a) :: st) G M Q ↔ (cm_in a ∧ cm_in b) ∧ (¬ a = b → Go μ tgt ls st G M Q) ∧ (a = b → Go μ (pc + 3) ls st G M Q) := by
  rw [go_icmp hq hi ht]; simp only [cm_cmp, Bool.not_eq_true', decide_eq_false_iff_not, Decidable.not_not]
theorem go_icmp_lt (hq : cm_P[μ]? = some q) {off a b : Int} {tgt : Nat} (hi : cm_at q.2 pc = some (.if_icmp .lt off, 3)) (ht : (pc : Int) + off = tgt) : Go μ pc ls ((0, b) :: (0, a) :: st) G M Q ↔ (cm_in a ∧ cm_in b) ∧ (a < b → Go μ tgt ls st G M Q) ∧ (¬ a < b → Go μ (pc + 3) ls st G M Q) := by
  rw [go_icmp hq hi ht]; simp only [cm_cmp, decide_eq_true_eq]
theorem go_icmp_ge (hq : cm_P[μ]? = some q) {off a b : Int} {tgt : Nat} (hi : cm_at q.2 pc = some (.if_icmp .ge off, 3)) (ht : (pc : Int) + off = tgt) : Go μ pc ls ((0, b) :: (0, a) :: st) G M Q ↔ (cm_in a ∧ cm_in b) ∧ (¬ a < b → Go μ tgt ls st G M Q) ∧ (a < b → Go μ (pc + 3) ls st G M Q) := by
  rw [go_icmp hq hi ht]; simp only [cm_cmp, Bool.not_eq_true', decide_eq_false_iff_not, Decidable.not_not]
theorem go_icmp_gt (hq : cm_P[μ]? = some q) {off a b : Int} {tgt : Nat} (hi : cm_at q.2 pc = some (.if_icmp .gt off, 3)) (ht : (pc : Int) + off = tgt) : Go μ pc ls ((0, b) :: (0, a) :: st) G M Q ↔ (cm_in a ∧ cm_in b) ∧ (b < a → Go μ tgt ls st G M Q) ∧ (¬ b < a → Go μ (pc + 3) ls st G M Q) := by
  rw [go_icmp hq hi ht]; simp only [cm_cmp, decide_eq_true_eq]
theorem go_icmp_le (hq : cm_P[μ]? = some q) {off a b : Int} {tgt : Nat} (hi : cm_at q.2 pc = some (.if_icmp .le off, 3)) (ht : (pc : Int) + off = tgt) : Go μ pc ls ((0, b) :: (0, a) :: st) G M Q ↔ (cm_in a ∧ cm_in b) ∧ (¬ b < a → Go μ tgt ls st G M Q) ∧ (b < a → Go μ (pc + 3) ls st G M Q) := by
  rw [go_icmp hq hi ht]; simp only [cm_cmp, Bool.not_eq_true', decide_eq_false_iff_not, Decidable.not_not]
theorem go_if_eq (hq : cm_P[μ]? = some q) {off a : Int} {tgt : Nat} (hi : cm_at q.2 pc = some (.ifCond .eq off, 3)) (ht : (pc : Int) + off = tgt) : Go μ pc ls ((0, a) :: st) G M Q ↔ cm_in a ∧ (a = 0 → Go μ tgt ls st G M Q) ∧ (¬ a = 0 → Go μ (pc + 3) ls st G M Q) := by
  rw [go_ifc hq hi ht]; simp only [cm_cmp, decide_eq_true_eq]
theorem go_if_ne (hq : cm_P[μ]? = some q) {off a : Int} {tgt : Nat} (hi : cm_at q.2 pc = some (.ifCond .ne off, 3)) (ht : (pc : Int) + off = tgt) : Go μ pc ls ((0, a) :: st) G M Q ↔ cm_in a ∧ (¬ a = 0 → Go μ tgt ls st G M Q) ∧ (a = 0 → Go μ (pc + 3) ls st G M Q) := by
  rw [go_ifc hq hi ht]; simp only [cm_cmp, Bool.not_eq_true', decide_eq_false_iff_not, Decidable.not_not]
theorem go_if_lt (hq : cm_P[μ]? = some q) {off a : Int} {tgt : Nat} (hi : cm_at q.2 pc = some (.ifCond .lt off, 3)) (ht : (pc : Int) + off = tgt) : Go μ pc ls ((0, a) :: st) G M Q ↔ cm_in a ∧ (a < 0 → Go μ tgt ls st G M Q) ∧ (¬ a < 0 → Go μ (pc + 3) ls st G M Q) := by
  rw [go_ifc hq hi ht]; simp only [cm_cmp, decide_eq_true_eq]
theorem go_if_ge (hq : cm_P[μ]? = some q) {off a : Int} {tgt : Nat} (hi : cm_at q.2 pc = some (.ifCond .ge off, 3)) (ht : (pc : Int) + off = tgt) : Go μ pc ls ((0, a) :: st) G M Q ↔ cm_in a ∧ (¬ a < 0 → Go μ tgt ls st G M Q) ∧ (a < 0 → Go μ (pc + 3) ls st G M Q) := by
  rw [go_ifc hq hi ht]; simp only [cm_cmp, Bool.not_eq_true', decide_eq_false_iff_not, Decidable.not_not]
theorem go_if_gt (hq : cm_P[μ]? = some q) {off a : Int} {tgt : Nat} (hi : cm_at q.2 pc = some (.ifCond .gt off, 3)) (ht : (pc : Int) + off = tgt) : Go μ pc ls ((0, a) :: st) G M Q ↔ cm_in a ∧ (0 < a → Go μ tgt ls st G M Q) ∧ (¬ 0 < a → Go μ (pc + 3) ls st G M Q) := by
  rw [go_ifc hq hi ht]; simp only [cm_cmp, decide_eq_true_eq]
theorem go_if_le (hq : cm_P[μ]? = some q) {off a : Int} {tgt : Nat} (hi : cm_at q.2 pc = some (.ifCond .le off, 3)) (ht : (pc : Int) + off = tgt) : Go μ pc ls ((0, a) :: st) G M Q ↔ cm_in a ∧ (¬ 0 < a → Go μ tgt ls st G M Q) ∧ (0 < a → Go μ (pc + 3) ls st G M Q) := by
  rw [go_ifc hq hi ht]; simp only [cm_cmp, Bool.not_eq_true', decide_eq_false_iff_not, Decidable.not_not]
/-! switches: an answer at a time -/
theorem go_table (hq : cm_P[μ]? = some q) {d lo hi' x : Int} {offs : Array Int} {len tgt : Nat} (hi : cm_at q.2 pc = some (.tableswitch d lo hi' offs, len)) (hx : cm_in x) (hs : x < lo ∨ hi' < x ∨ (x - lo).toNat < offs.size) (ht : (pc : Int) + cm_tab d lo hi' offs x = tgt) (K : Go μ tgt ls st G M Q) : Go μ pc ls ((0, x) :: st) G M Q := by
  refine (go_of (fun n => ?_)).mpr K
  rw [cm_run_at hq hi]
  show (if cm_in x ∧ (x < lo ∨ hi' < x ∨ (x - lo).toNat < offs.size) then cm_go _ _ _ _ _ _ _ _ else none) = _
  rw [if_pos ⟨hx, hs⟩]
  unfold cm_go
  rw [ht, if_pos (by omega)]
  simp
theorem go_lookup (hq : cm_P[μ]? = some q) {d x : Int} {ps : Array (Int × Int)} {len tgt : Nat} (hi : cm_at q.2 pc = some (.lookupswitch d ps, len)) (hx : cm_in x) (hs : (ps.toList.zip (ps.toList.drop 1)).all (fun (a, next) => a.1 < next.1) = true) (ht : (pc : Int) + cm_lk d ps.toList x = tgt) (K : Go μ tgt ls st G M Q) : Go μ pc ls ((0, x) :: st) G M Q := by
  refine (go_of (fun n => ?_)).mpr K
  rw [cm_run_at hq hi]
  show (if cm_in x ∧ _ then cm_go _ _ _ _ _ _ _ _ else none) = _
  rw [if_pos ⟨hx, hs⟩]
  unfold cm_go
  rw [ht, if_pos (by omega)]
  simp
/-! fields -/
theorem go_get0 (hq : cm_P[μ]? = some q) {ix ci j : Nat} {k : Int} (hi : cm_at q.2 pc = some (.getfield ix, 3)) (hf : cm_as cm_fld (cm_ci q.1) ix = some (ci, j)) (ht : cm_fk ci j = some 0) : Go μ pc ls ((2, k) :: st) G M Q ↔ cm_sh G k = some (0, ci) ∧ Go μ (pc + 3) ls ((0, M k j) :: st) G M Q := by
  refine go_if (fun h n => ?_) (fun h n => ?_) <;> rw [cm_run_at hq hi] <;> show cm_get _ _ _ _ _ _ _ _ _ = _ <;> unfold cm_get <;> rw [hf] <;> simp only
  · rw [if_pos h, ht]; rfl
  · rw [if_neg h]
theorem go_get2 (hq : cm_P[μ]? = some q) {ix ci j : Nat} {k : Int} (hi : cm_at q.2 pc = some (.getfield ix, 3)) (hf : cm_as cm_fld (cm_ci q.1) ix = some (ci, j)) (ht : cm_fk ci j = some 2) : Go μ pc ls ((2, k) :: st) G M Q ↔ cm_sh G k = some (0, ci) ∧ Go μ (pc + 3) ls ((2, G.2 k j) :: st) G M Q := by
  refine go_if (fun h n => ?_) (fun h n => ?_) <;> rw [cm_run_at hq hi] <;> show cm_get _ _ _ _ _ _ _ _ _ = _ <;> unfold cm_get <;> rw [hf] <;> simp only
  · rw [if_pos h, ht]; rfl
  · rw [if_neg h]
theorem go_put0 (hq : cm_P[μ]? = some q) {ix ci j : Nat} {k v : Int} (hi : cm_at q.2 pc = some (.putfield ix, 3)) (hf : cm_as cm_fld (cm_ci q.1) ix = some (ci, j)) (ht : cm_fk ci j = some 0) (hfin : cm_fin ci j = false) : Go μ pc ls ((0, v) :: (2, k) :: st) G M Q ↔ cm_sh G k = some (0, ci) ∧ Go μ (pc + 3) ls st G (cm_up M k j v) Q := by
  refine go_if (fun h n => ?_) (fun h n => ?_) <;> rw [cm_run_at hq hi] <;> show cm_put _ _ _ _ _ _ _ _ _ = _ <;> unfold cm_put <;> rw [hf] <;> simp only
  · rw [if_pos ⟨h, ht, fun z => by rw [hfin] at z; cases z⟩, if_pos trivial]
  · rw [if_neg (fun z => h z.1)]
theorem go_put2 (hq : cm_P[μ]? = some q) {ix ci j : Nat} {k v : Int} (hi : cm_at q.2 pc = some (.putfield ix, 3)) (hf : cm_as cm_fld (cm_ci q.1) ix = some (ci, j)) (ht : cm_fk ci j = some 2) (hfin : cm_kd q.1 = 2 ∧ cm_ci q.1 = ci) : Go μ pc ls ((2, v) :: (2, k) :: st) G M Q ↔ (cm_sh G k = some (0, ci) ∧ 0 ≤ v) ∧ Go μ (pc + 3) ls st (G.1, cm_up G.2 k j v) M Q := by
  refine go_if (fun h n => ?_) (fun h n => ?_) <;> rw [cm_run_at hq hi] <;> show cm_put _ _ _ _ _ _ _ _ _ = _ <;> unfold cm_put <;> rw [hf] <;> simp only
  · rw [if_pos ⟨h.1, ht, fun _ => hfin⟩, if_neg (by decide), if_pos ⟨trivial, h.2⟩]
  · by_cases h1 : cm_sh G k = some (0, ci)
    · rw [if_pos ⟨h1, ht, fun _ => hfin⟩, if_neg (by decide), if_neg (fun z => h ⟨h1, z.2⟩)]
    · rw [if_neg (fun z => h1 z.1)]
theorem go_gets (hq : cm_P[μ]? = some q) {ix nst : Nat} {k : Int} (hi : cm_at q.2 pc = some (.getstatic ix, 3)) (hf : cm_as cm_sta (cm_ci q.1) ix = some (nst, k)) : Go μ pc ls st G M Q ↔ Go μ (pc + 3) ls ((2, k) :: st) G M Q := go_of (fun n => by
  rw [cm_run_at hq hi]
  show (match cm_as cm_sta (cm_ci q.1) ix with | some (_, k) => _ | none => none) = _
  rw [hf])
/-! arrays -/
theorem go_ald (hq : cm_P[μ]? = some q) {t : Nat} {i k : Int} {ins : Instr × Nat} (hi : cm_at q.2 pc = some ins) (he : ∀ f, cm_do f μ q.1 ins pc ls ((0, i) :: (2, k) :: st) G M = cm_ald f t μ pc ls ((0, i) :: (2, k) :: st) G M) : Go μ pc ls ((0, i) :: (2, k) :: st) G M Q ↔ (0 ≤ i ∧ i < cm_al t G M k) ∧ Go μ (pc + 1) ls ((0, M k i) :: st) G M Q :=
  go_if (fun h n => by rw [cm_run_at hq hi, he]; exact if_pos h) (fun h n => by rw [cm_run_at hq hi, he]; exact if_neg h)
theorem go_iald (hq : cm_P[μ]? = some q) {i k : Int} (hi : cm_at q.2 pc = some (.iaload, 1)) : Go μ pc ls ((0, i) :: (2, k) :: st) G M Q ↔ (0 ≤ i ∧ i < cm_al 1 G M k) ∧ Go μ (pc + 1) ls ((0, M k i) :: st) G M Q := go_ald hq hi (fun _ => rfl)
theorem go_cald (hq : cm_P[μ]? = some q) {i k : Int} (hi : cm_at q.2 pc = some (.caload, 1)) : Go μ pc ls ((0, i) :: (2, k) :: st) G M Q ↔ (0 ≤ i ∧ i < cm_al 2 G M k) ∧ Go μ (pc + 1) ls ((0, M k i) :: st) G M Q := go_ald hq hi (fun _ => rfl)
theorem go_bald (hq : cm_P[μ]? = some q) {i k : Int} (hi : cm_at q.2 pc = some (.baload, 1)) : Go μ pc ls ((0, i) :: (2, k) :: st) G M Q ↔ (0 ≤ i ∧ i < cm_al 3 G M k) ∧ Go μ (pc + 1) ls ((0, M k i) :: st) G M Q := go_ald hq hi (fun _ => rfl)
theorem go_iast (hq : cm_P[μ]? = some q) {v i k : Int} (hi : cm_at q.2 pc = some (.iastore, 1)) : Go μ pc ls ((0, v) :: (0, i) :: (2, k) :: st) G M Q ↔ (0 ≤ k ∧ 0 ≤ i ∧ i < cm_al 1 G M k) ∧ Go μ (pc + 1) ls st G (cm_up M k i v) Q :=
  go_if (fun h n => by rw [cm_run_at hq hi]; exact if_pos ⟨h.1, h.2.1, h.2.2, rfl⟩) (fun h n => by rw [cm_run_at hq hi]; exact if_neg (fun z => h ⟨z.1, z.2.1, z.2.2.1⟩))
theorem go_cast (hq : cm_P[μ]? = some q) {v i k : Int} (hi : cm_at q.2 pc = some (.castore, 1)) : Go μ pc ls ((0, v) :: (0, i) :: (2, k) :: st) G M Q ↔ (0 ≤ k ∧ 0 ≤ i ∧ i < cm_al 2 G M k ∧ 0 ≤ v ∧ v < 65536) ∧ Go μ (pc + 1) ls st G (cm_up M k i v) Q :=
  go_if (fun h n => by rw [cm_run_at hq hi]; exact if_pos ⟨h.1, h.2.1, h.2.2.1, decide_eq_true h.2.2.2⟩) (fun h n => by rw [cm_run_at hq hi]; exact if_neg (fun z => h ⟨z.1, z.2.1, z.2.2.1, of_decide_eq_true z.2.2.2⟩))
theorem go_bast (hq : cm_P[μ]? = some q) {v i k : Int} (hi : cm_at q.2 pc = some (.bastore, 1)) : Go μ pc ls ((0, v) :: (0, i) :: (2, k) :: st) G M Q ↔ (0 ≤ k ∧ 0 ≤ i ∧ i < cm_al 3 G M k ∧ (v = 0 ∨ v = 1)) ∧ Go μ (pc + 1) ls st G (cm_up M k i v) Q :=
  go_if (fun h n => by rw [cm_run_at hq hi]; exact if_pos ⟨h.1, h.2.1, h.2.2.1, decide_eq_true h.2.2.2⟩) (fun h n => by rw [cm_run_at hq hi]; exact if_neg (fun z => h ⟨z.1, z.2.1, z.2.2.1, of_decide_eq_true z.2.2.2⟩))
theorem go_aald (hq : cm_P[μ]? = some q) {i k : Int} (hi : cm_at q.2 pc = some (.aaload, 1)) : Go μ pc ls ((0, i) :: (2, k) :: st) G M Q ↔ (0 ≤ k ∧ 0 ≤ i ∧ i < cm_al 4 G M k) ∧ Go μ (pc + 1) ls ((2, G.2 k i) :: st) G M Q :=
  go_if (fun h n => by rw [cm_run_at hq hi]; exact if_pos h) (fun h n => by rw [cm_run_at hq hi]; exact if_neg h)
theorem go_aast (hq : cm_P[μ]? = some q) {v i k : Int} (hi : cm_at q.2 pc = some (.aastore, 1)) : Go μ pc ls ((2, v) :: (0, i) :: (2, k) :: st) G M Q ↔ (0 ≤ k ∧ 0 ≤ i ∧ i < cm_al 4 G M k ∧ cm_sh G v = some (0, 1)) ∧ Go μ (pc + 1) ls st (G.1, cm_up G.2 k i v) M Q :=
  go_if (fun h n => by rw [cm_run_at hq hi]; exact if_pos h) (fun h n => by rw [cm_run_at hq hi]; exact if_neg h)
theorem go_alen (hq : cm_P[μ]? = some q) (hi : cm_at q.2 pc = some (.arraylength, 1)) : Go μ pc ls ((2, -2) :: st) G M Q ↔ Go μ (pc + 1) ls ((0, M (-2) (-1)) :: st) G M Q := go_of (fun n => by rw [cm_run_at hq hi]; rfl)
theorem go_newarr (hq : cm_P[μ]? = some q) {t : ArrayType} {u : Nat} {n : Int} (hi : cm_at q.2 pc = some (.newarray t, 2)) (hu : cm_ty1 t = some u) : Go μ pc ls ((0, n) :: st) G M Q ↔ (0 ≤ n ∧ n ≤ 1000) ∧ Go μ (pc + 2) ls ((2, (G.1.length : Int)) :: st) (G.1 ++ [(u, n.toNat)], G.2) (cm_row M (G.1.length : Int) 0) Q := by
  refine go_if (fun h m => ?_) (fun h m => ?_) <;> rw [cm_run_at hq hi] <;> show (match (0, n) :: st, cm_ty1 t with | (0, n) :: st, some u => _ | _, _ => none) = _ <;> rw [hu]
  · exact if_pos h
  · exact if_neg h
theorem go_anew (hq : cm_P[μ]? = some q) {ix : Nat} {n : Int} (hi : cm_at q.2 pc = some (.anewarray ix, 3)) (hu : cm_as cm_cls (cm_ci q.1) ix = some 1) : Go μ pc ls ((0, n) :: st) G M Q ↔ (0 ≤ n ∧ n ≤ 1000) ∧ Go μ (pc + 3) ls ((2, (G.1.length : Int)) :: st) (G.1 ++ [(4, n.toNat)], cm_row G.2 (G.1.length : Int) (-1)) M Q := by
  refine go_if (fun h m => ?_) (fun h m => ?_) <;> rw [cm_run_at hq hi] <;> show (match (0, n) :: st, cm_as cm_cls (cm_ci q.1) ix with | (0, n) :: st, some 1 => _ | _, _ => none) = _ <;> rw [hu]
  · exact if_pos h
  · exact if_neg h
theorem go_new (hq : cm_P[μ]? = some q) {ix ci : Nat} (hi : cm_at q.2 pc = some (.new ix, 3)) (hu : cm_as cm_cls (cm_ci q.1) ix = some ci) : Go μ pc ls st G M Q ↔ Go μ (pc + 3) ls ((2, (G.1.length : Int)) :: st) (G.1 ++ [(0, ci)], cm_row G.2 (G.1.length : Int) (-1)) (cm_row M (G.1.length : Int) 0) Q := go_of (fun m => by
  rw [cm_run_at hq hi]
  show (match cm_as cm_cls (cm_ci q.1) ix with | some ci => _ | none => none) = _
  rw [hu])
/-! returns -/
theorem go_end {r : Option cm_V} (h : ∀ n, cm_run (n + 1) μ pc ls st G M = some (r, G, M)) : Go μ pc ls st G M Q ↔ Q r G M := by
  constructor
  · rintro ⟨n0, r1, G1, M1, h1, h2⟩
    have := h1 (n0 + 1) (by omega)
    rw [h n0] at this
    cases this
    exact h2
  · refine fun x => ⟨1, r, G, M, fun n hn => ?_, x⟩
    obtain ⟨m, rfl⟩ : ∃ m, n = m + 1 := ⟨n - 1, by omega⟩
    exact h m
theorem go_ireturn (hq : cm_P[μ]? = some q) {v : Int} (hi : cm_at q.2 pc = some (.ireturn, 1)) (hr : cm_rt q.1 = some .int) : Go μ pc ls [(0, v)] G M Q ↔ Q (some (0, v)) G M := go_end (fun n => by
  rw [cm_run_at hq hi]
  show (match [((0 : Nat), v)], cm_rt q.1 with | [(0, v)], some .int => _ | [(0, v)], some .boolean => _ | _, _ => none) = _
  rw [hr]
  rfl)
theorem go_zreturn (hq : cm_P[μ]? = some q) {v : Int} (hi : cm_at q.2 pc = some (.ireturn, 1)) (hr : cm_rt q.1 = some .boolean) : Go μ pc ls [(0, v)] G M Q ↔ (v = 0 ∨ v = 1) ∧ Q (some (0, v)) G M := by
  have e : ∀ n, cm_run (n + 1) μ pc ls [(0, v)] G M = if v = 0 ∨ v = 1 then some (some (0, v), G, M) else none := fun n => by
    rw [cm_run_at hq hi]
    show (match [((0 : Nat), v)], cm_rt q.1 with | [(0, v)], some .int => _ | [(0, v)], some .boolean => _ | _, _ => none) = _
    rw [hr]
    rfl
  by_cases hv : v = 0 ∨ v = 1
  · rw [go_end (Q := Q) (fun n => (e n).trans (if_pos hv))]
    exact ⟨fun x => ⟨hv, x⟩, fun x => x.2⟩
  · exact ⟨fun x => absurd x (go_no (fun n => (e n).trans (if_neg hv))), fun x => absurd x.1 hv⟩
theorem go_return (hq : cm_P[μ]? = some q) (hi : cm_at q.2 pc = some (.return_, 1)) (hr : cm_rt q.1 = none) : Go μ pc ls [] G M Q ↔ Q none G M := go_end (fun n => by
  rw [cm_run_at hq hi]
  show (match ([] : List cm_V), cm_rt q.1 with | [], none => _ | _, _ => none) = _
  rw [hr])
/-! calls -/
theorem go_cl {n' : Nat} {q' : cm_MI} {as rest : List cm_V} (hlen : as.length = (cm_tg q').length) (htg : as.reverse.map (fun v => v.1) = cm_tg q') (h8 : cm_sum rest ≤ 8) (hsum : cm_sum as.reverse ≤ cm_ml q') (h : ∀ n, cm_run (n + 1) μ pc ls (as ++ rest) G M = cm_cl (cm_run n) n' q' (as ++ rest) G M (fun v rest G' M' => cm_run n μ (pc + 3) ls (v.toList ++ rest) G' M'))
    (K : Go n' 0 (cm_ent (cm_ml q') as.reverse) [] G M (fun v G' M' => Go μ (pc + 3) ls (v.toList ++ rest) G' M' Q)) : Go μ pc ls (as ++ rest) G M Q := by
  obtain ⟨n1, r1, G1, M1, h1, n2, r2, G2, M2, h2, h3⟩ := K
  refine ⟨max n1 n2 + 1, r2, G2, M2, fun n hn => ?_, h3⟩
  obtain ⟨m, rfl⟩ : ∃ m, n = m + 1 := ⟨n - 1, by omega⟩
  rw [h m]
  unfold cm_cl
  have e1 : (as ++ rest).take (cm_tg q').length = as := List.take_left' hlen
  have e2 : (as ++ rest).drop (cm_tg q').length = rest := List.drop_left' hlen
  simp only
  rw [e1, e2, if_pos ⟨htg, h8, hsum⟩, h1 m (by omega)]
  exact h2 m (by omega)
theorem go_callV (hq : cm_P[μ]? = some q) {ix nst n' : Nat} {q' : cm_Q} {k : Int} {as rest : List cm_V} (hi : cm_at q.2 pc = some (.invokevirtual ix, 3)) (hf : cm_as cm_call (cm_ci q.1) ix = some (nst, n')) (hq' : cm_P[n']? = some q') (hkd : cm_kd q'.1 = 0) (hlen : as.length = (cm_tg q'.1).length) (htg : as.reverse.map (fun v => v.1) = cm_tg q'.1) (hsum : cm_sum as.reverse ≤ cm_ml q'.1) (hk : (as ++ rest)[(cm_tg q'.1).length - 1]? = some (2, k)) (h8 : cm_sum rest ≤ 8) (hsh : cm_sh G k = some (0, cm_ci q'.1))
    (K : Go n' 0 (cm_ent (cm_ml q'.1) as.reverse) [] G M (fun v G' M' => Go μ (pc + 3) ls (v.toList ++ rest) G' M' Q)) : Go μ pc ls (as ++ rest) G M Q := by
  refine go_cl hlen htg h8 hsum (fun n => ?_) K
  have hrc : cm_rcb G q'.1 (as ++ rest) = true := by
    unfold cm_rcb
    rw [hk]
    exact decide_eq_true hsh
  rw [cm_run_at hq hi]
  show (match cm_as cm_call (cm_ci q.1) ix with | some (_, n) => _ | none => none) = _
  rw [hf]
  simp only
  rw [hq']
  exact if_pos ⟨hkd, hrc⟩
theorem go_callI (hq : cm_P[μ]? = some q) {ix nst n' : Nat} {q' : cm_Q} {k : Int} {as rest : List cm_V} (hi : cm_at q.2 pc = some (.invokespecial ix, 3)) (hf : cm_as cm_call (cm_ci q.1) ix = some (nst, n')) (hn : n' ≠ 1000) (hq' : cm_P[n']? = some q') (hkd : cm_kd q'.1 = 2) (hlen : as.length = (cm_tg q'.1).length) (htg : as.reverse.map (fun v => v.1) = cm_tg q'.1) (hsum : cm_sum as.reverse ≤ cm_ml q'.1) (hk : (as ++ rest)[(cm_tg q'.1).length - 1]? = some (2, k)) (h8 : cm_sum rest ≤ 8) (hsh : cm_sh G k = some (0, cm_ci q'.1))
    (K : Go n' 0 (cm_ent (cm_ml q'.1) as.reverse) [] G M (fun v G' M' => Go μ (pc + 3) ls (v.toList ++ rest) G' M' Q)) : Go μ pc ls (as ++ rest) G M Q := by
  refine go_cl hlen htg h8 hsum (fun n => ?_) K
  have hrc : cm_rcb G q'.1 (as ++ rest) = true := by
    unfold cm_rcb
    rw [hk]
    exact decide_eq_true hsh
  rw [cm_run_at hq hi]
  show (match cm_as cm_call (cm_ci q.1) ix with | some (_, n) => _ | none => none) = _
  rw [hf]
  simp only
  rw [if_neg hn, hq']
  exact if_pos ⟨hkd, hrc⟩
theorem go_callS (hq : cm_P[μ]? = some q) {ix nst n' : Nat} {q' : cm_Q} {as rest : List cm_V} (hi : cm_at q.2 pc = some (.invokestatic ix, 3)) (hf : cm_as cm_call (cm_ci q.1) ix = some (nst, n')) (hn : n' ≠ 1001 ∧ n' ≠ 1002) (hq' : cm_P[n']? = some q') (hkd : cm_kd q'.1 = 1) (hlen : as.length = (cm_tg q'.1).length) (htg : as.reverse.map (fun v => v.1) = cm_tg q'.1) (hsum : cm_sum as.reverse ≤ cm_ml q'.1) (h8 : cm_sum rest ≤ 8)
    (K : Go n' 0 (cm_ent (cm_ml q'.1) as.reverse) [] G M (fun v G' M' => Go μ (pc + 3) ls (v.toList ++ rest) G' M' Q)) : Go μ pc ls (as ++ rest) G M Q := by
  refine go_cl hlen htg h8 hsum (fun n => ?_) K
  rw [cm_run_at hq hi]
  show (match cm_as cm_call (cm_ci q.1) ix with | some (_, n) => _ | none => none) = _
  rw [hf]
  simp only
  rw [if_neg hn.1, if_neg hn.2, hq']
  exact if_pos hkd
theorem go_obj (hq : cm_P[μ]? = some q) {ix nst : Nat} {k : Int} (hi : cm_at q.2 pc = some (.invokespecial ix, 3)) (hf : cm_as cm_call (cm_ci q.1) ix = some (nst, 1000)) : Go μ pc ls [(2, k)] G M Q ↔ 0 ≤ k ∧ Go μ (pc + 3) ls [] G M Q := by
  have e : ∀ n, cm_run (n + 1) μ pc ls [(2, k)] G M = if 0 ≤ k then cm_run n μ (pc + 3) ls [] G M else none := fun n => by
    rw [cm_run_at hq hi]
    show (match cm_as cm_call (cm_ci q.1) ix with | some (_, n) => _ | none => none) = _
    rw [hf]
    rfl
  exact go_if (fun h n => (e n).trans (if_pos h)) (fun h n => (e n).trans (if_neg h))
theorem go_max (hq : cm_P[μ]? = some q) {ix nst : Nat} {a b : Int} (hi : cm_at q.2 pc = some (.invokestatic ix, 3)) (hf : cm_as cm_call (cm_ci q.1) ix = some (nst, 1001)) : Go μ pc ls ((0, b) :: (0, a) :: st) G M Q ↔ (cm_in a ∧ cm_in b ∧ cm_sum st ≤ 8) ∧ Go μ (pc + 3) ls ((0, if a < b then b else a) :: st) G M Q := by
  have e : ∀ n, cm_run (n + 1) μ pc ls ((0, b) :: (0, a) :: st) G M = if cm_in a ∧ cm_in b ∧ cm_sum st ≤ 8 then cm_run n μ (pc + 3) ls ((0, if a < b then b else a) :: st) G M else none := fun n => by
    rw [cm_run_at hq hi]
    show (match cm_as cm_call (cm_ci q.1) ix with | some (_, n) => _ | none => none) = _
    rw [hf]
    rfl
  exact go_if (fun h n => (e n).trans (if_pos h)) (fun h n => (e n).trans (if_neg h))
theorem go_copy (hq : cm_P[μ]? = some q) {ix nst : Nat} {k1 sp k2 dp n : Int} (hi : cm_at q.2 pc = some (.invokestatic ix, 3)) (hf : cm_as cm_call (cm_ci q.1) ix = some (nst, 1002)) : Go μ pc ls ((0, n) :: (0, dp) :: (2, k2) :: (0, sp) :: (2, k1) :: st) G M Q ↔ (0 ≤ k2 ∧ 1 ≤ n ∧ 0 ≤ dp ∧ 0 ≤ sp ∧ (0 ≤ k1 ∨ k1 = -3) ∧ dp + n ≤ cm_al 1 G M k2 ∧ sp + n ≤ cm_al 1 G M k1 ∧ cm_sum st ≤ 8) ∧ Go μ (pc + 3) ls st G (cm_cpy M k1 sp k2 dp n) Q := by
  have e : ∀ m, cm_run (m + 1) μ pc ls ((0, n) :: (0, dp) :: (2, k2) :: (0, sp) :: (2, k1) :: st) G M = if 0 ≤ k2 ∧ 1 ≤ n ∧ 0 ≤ dp ∧ 0 ≤ sp ∧ (0 ≤ k1 ∨ k1 = -3) ∧ dp + n ≤ cm_al 1 G M k2 ∧ sp + n ≤ cm_al 1 G M k1 ∧ cm_sum st ≤ 8 then cm_run m μ (pc + 3) ls st G (cm_cpy M k1 sp k2 dp n) else none := fun m => by
    rw [cm_run_at hq hi]
    show (match cm_as cm_call (cm_ci q.1) ix with | some (_, n) => _ | none => none) = _
    rw [hf]
    rfl
  exact go_if (fun h n => (e n).trans (if_pos h)) (fun h n => (e n).trans (if_neg h))
end GO
