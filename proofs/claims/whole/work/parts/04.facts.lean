/-! ===== what the tables say of the methods, calls and fields ===== -/
def cm_T : List Cond := lw_tbl.filter goodWord
theorem cm_T_in {w : Cond} (i : Nat) (h : lw_tbl[i]? = some w) (hg : goodWord w = true) : w ∈ cm_T := List.mem_filter.mpr ⟨List.mem_of_getElem? h, hg⟩
theorem cm_T_good {w : Cond} (h : w ∈ cm_T) : (w.onTables && w.keeps) = true ∨ ∃ ty, w = .arrayClass ty := good_of_word (List.mem_filter.mp h).2
def cm_wd (q : cm_MI) : Cond := .code q.1 q.2.1 (cm_ml q) (cm_rt q)
def cm_lpos : Nat → List Nat → List Nat
  | _, [] => []
  | p, t :: l => if t = 1 then p :: cm_lpos (p + 2) l else cm_lpos (p + 1) l
/-- class numbers to names (7: the law) -/
def cm_cn : Nat → String
  | 0 => RX0 | 1 => RX1 | 2 => RX2 | 3 => RX3 | 4 => RX4 | 5 => RX5 | 6 => RX6 | _ => RL
def cm_ok (q : cm_MI) : Prop := cm_wd q ∈ cm_T ∧ .initialized q.1.cls ∈ cm_T ∧ (cm_kd q = 0 → .instanceMethod q.1 ∈ cm_T ∧ .selects q.1.cls q.1 q.1 ∈ cm_T) ∧ (cm_kd q = 1 → .static q.1 ∈ cm_T) ∧ (cm_kd q = 2 → .instanceMethod q.1 ∈ cm_T ∧ q.1.name = "<init>" ∧ cm_rt q = none) ∧
  (q.1.cls ≠ "java/lang/invoke/MethodHandle" ∧ q.1.cls ≠ "java/lang/invoke/VarHandle" ∧ (parseMethodDescriptor q.1.desc).map (fun d => d.parameters.length) = some ((cm_tg q).length - (if cm_kd q = 1 then 0 else 1))) ∧ plainName q.1.cls = true ∧ q.1.cls = cm_cn (cm_ci q) ∧ (∀ i ∈ cm_lpos 0 (cm_tg q), i ∈ cm_lg q) ∧ (cm_kd q ≠ 1 → ∃ l, cm_tg q = 2 :: l) ∧ (cm_kd q ≠ 1 → ∃ r, vwCl[cm_ci q]? = some r ∧ r.1 = q.1.cls)
set_option maxRecDepth 100000 in
theorem mo_0 : cm_ok mi_0 := ⟨cm_T_in 68 (by decide +kernel) (by decide +kernel), cm_T_in 48 (by decide +kernel) (by decide +kernel), fun h => absurd h (by decide), fun h => absurd h (by decide), fun _ => ⟨cm_T_in 67 (by decide +kernel) (by decide +kernel), rfl, rfl⟩, ⟨by decide +kernel, by decide +kernel, by decide +kernel⟩, by decide +kernel, rfl, by decide +kernel, fun _ => ⟨_, rfl⟩, fun _ => ⟨_, rfl, rfl⟩⟩
set_option maxRecDepth 100000 in
theorem mo_1 : cm_ok mi_1 := ⟨cm_T_in 284 (by decide +kernel) (by decide +kernel), cm_T_in 48 (by decide +kernel) (by decide +kernel), fun _ => ⟨cm_T_in 282 (by decide +kernel) (by decide +kernel), cm_T_in 283 (by decide +kernel) (by decide +kernel)⟩, fun h => absurd h (by decide), fun h => absurd h (by decide), ⟨by decide +kernel, by decide +kernel, by decide +kernel⟩, by decide +kernel, rfl, by decide +kernel, fun _ => ⟨_, rfl⟩, fun _ => ⟨_, rfl, rfl⟩⟩
set_option maxRecDepth 100000 in
theorem mo_2 : cm_ok mi_2 := ⟨cm_T_in 288 (by decide +kernel) (by decide +kernel), cm_T_in 48 (by decide +kernel) (by decide +kernel), fun _ => ⟨cm_T_in 287 (by decide +kernel) (by decide +kernel), cm_T_in 1 (by decide +kernel) (by decide +kernel)⟩, fun h => absurd h (by decide), fun h => absurd h (by decide), ⟨by decide +kernel, by decide +kernel, by decide +kernel⟩, by decide +kernel, rfl, by decide +kernel, fun _ => ⟨_, rfl⟩, fun _ => ⟨_, rfl, rfl⟩⟩
set_option maxRecDepth 100000 in
theorem mo_3 : cm_ok mi_3 := ⟨cm_T_in 296 (by decide +kernel) (by decide +kernel), cm_T_in 48 (by decide +kernel) (by decide +kernel), fun _ => ⟨cm_T_in 295 (by decide +kernel) (by decide +kernel), cm_T_in 2 (by decide +kernel) (by decide +kernel)⟩, fun h => absurd h (by decide), fun h => absurd h (by decide), ⟨by decide +kernel, by decide +kernel, by decide +kernel⟩, by decide +kernel, rfl, by decide +kernel, fun _ => ⟨_, rfl⟩, fun _ => ⟨_, rfl, rfl⟩⟩
set_option maxRecDepth 100000 in
theorem mo_4 : cm_ok mi_4 := ⟨cm_T_in 304 (by decide +kernel) (by decide +kernel), cm_T_in 48 (by decide +kernel) (by decide +kernel), fun _ => ⟨cm_T_in 303 (by decide +kernel) (by decide +kernel), cm_T_in 4 (by decide +kernel) (by decide +kernel)⟩, fun h => absurd h (by decide), fun h => absurd h (by decide), ⟨by decide +kernel, by decide +kernel, by decide +kernel⟩, by decide +kernel, rfl, by decide +kernel, fun _ => ⟨_, rfl⟩, fun _ => ⟨_, rfl, rfl⟩⟩
set_option maxRecDepth 100000 in
theorem mo_5 : cm_ok mi_5 := ⟨cm_T_in 300 (by decide +kernel) (by decide +kernel), cm_T_in 48 (by decide +kernel) (by decide +kernel), fun _ => ⟨cm_T_in 299 (by decide +kernel) (by decide +kernel), cm_T_in 3 (by decide +kernel) (by decide +kernel)⟩, fun h => absurd h (by decide), fun h => absurd h (by decide), ⟨by decide +kernel, by decide +kernel, by decide +kernel⟩, by decide +kernel, rfl, by decide +kernel, fun _ => ⟨_, rfl⟩, fun _ => ⟨_, rfl, rfl⟩⟩
set_option maxRecDepth 100000 in
theorem mo_6 : cm_ok mi_6 := ⟨cm_T_in 312 (by decide +kernel) (by decide +kernel), cm_T_in 48 (by decide +kernel) (by decide +kernel), fun _ => ⟨cm_T_in 311 (by decide +kernel) (by decide +kernel), cm_T_in 6 (by decide +kernel) (by decide +kernel)⟩, fun h => absurd h (by decide), fun h => absurd h (by decide), ⟨by decide +kernel, by decide +kernel, by decide +kernel⟩, by decide +kernel, rfl, by decide +kernel, fun _ => ⟨_, rfl⟩, fun _ => ⟨_, rfl, rfl⟩⟩
set_option maxRecDepth 100000 in
theorem mo_7 : cm_ok mi_7 := ⟨cm_T_in 316 (by decide +kernel) (by decide +kernel), cm_T_in 48 (by decide +kernel) (by decide +kernel), fun _ => ⟨cm_T_in 315 (by decide +kernel) (by decide +kernel), cm_T_in 7 (by decide +kernel) (by decide +kernel)⟩, fun h => absurd h (by decide), fun h => absurd h (by decide), ⟨by decide +kernel, by decide +kernel, by decide +kernel⟩, by decide +kernel, rfl, by decide +kernel, fun _ => ⟨_, rfl⟩, fun _ => ⟨_, rfl, rfl⟩⟩
set_option maxRecDepth 100000 in
theorem mo_8 : cm_ok mi_8 := ⟨cm_T_in 320 (by decide +kernel) (by decide +kernel), cm_T_in 48 (by decide +kernel) (by decide +kernel), fun _ => ⟨cm_T_in 319 (by decide +kernel) (by decide +kernel), cm_T_in 8 (by decide +kernel) (by decide +kernel)⟩, fun h => absurd h (by decide), fun h => absurd h (by decide), ⟨by decide +kernel, by decide +kernel, by decide +kernel⟩, by decide +kernel, rfl, by decide +kernel, fun _ => ⟨_, rfl⟩, fun _ => ⟨_, rfl, rfl⟩⟩
set_option maxRecDepth 100000 in
theorem mo_9 : cm_ok mi_9 := ⟨cm_T_in 308 (by decide +kernel) (by decide +kernel), cm_T_in 48 (by decide +kernel) (by decide +kernel), fun _ => ⟨cm_T_in 307 (by decide +kernel) (by decide +kernel), cm_T_in 5 (by decide +kernel) (by decide +kernel)⟩, fun h => absurd h (by decide), fun h => absurd h (by decide), ⟨by decide +kernel, by decide +kernel, by decide +kernel⟩, by decide +kernel, rfl, by decide +kernel, fun _ => ⟨_, rfl⟩, fun _ => ⟨_, rfl, rfl⟩⟩
set_option maxRecDepth 100000 in
theorem mo_10 : cm_ok mi_10 := ⟨cm_T_in 324 (by decide +kernel) (by decide +kernel), cm_T_in 48 (by decide +kernel) (by decide +kernel), fun _ => ⟨cm_T_in 322 (by decide +kernel) (by decide +kernel), cm_T_in 323 (by decide +kernel) (by decide +kernel)⟩, fun h => absurd h (by decide), fun h => absurd h (by decide), ⟨by decide +kernel, by decide +kernel, by decide +kernel⟩, by decide +kernel, rfl, by decide +kernel, fun _ => ⟨_, rfl⟩, fun _ => ⟨_, rfl, rfl⟩⟩
set_option maxRecDepth 100000 in
theorem mo_11 : cm_ok mi_11 := ⟨cm_T_in 454 (by decide +kernel) (by decide +kernel), cm_T_in 48 (by decide +kernel) (by decide +kernel), fun _ => ⟨cm_T_in 453 (by decide +kernel) (by decide +kernel), cm_T_in 18 (by decide +kernel) (by decide +kernel)⟩, fun h => absurd h (by decide), fun h => absurd h (by decide), ⟨by decide +kernel, by decide +kernel, by decide +kernel⟩, by decide +kernel, rfl, by decide +kernel, fun _ => ⟨_, rfl⟩, fun _ => ⟨_, rfl, rfl⟩⟩
set_option maxRecDepth 100000 in
theorem mo_12 : cm_ok mi_12 := ⟨cm_T_in 450 (by decide +kernel) (by decide +kernel), cm_T_in 48 (by decide +kernel) (by decide +kernel), fun _ => ⟨cm_T_in 448 (by decide +kernel) (by decide +kernel), cm_T_in 449 (by decide +kernel) (by decide +kernel)⟩, fun h => absurd h (by decide), fun h => absurd h (by decide), ⟨by decide +kernel, by decide +kernel, by decide +kernel⟩, by decide +kernel, rfl, by decide +kernel, fun _ => ⟨_, rfl⟩, fun _ => ⟨_, rfl, rfl⟩⟩
set_option maxRecDepth 100000 in
theorem mo_13 : cm_ok mi_13 := ⟨cm_T_in 458 (by decide +kernel) (by decide +kernel), cm_T_in 48 (by decide +kernel) (by decide +kernel), fun _ => ⟨cm_T_in 456 (by decide +kernel) (by decide +kernel), cm_T_in 457 (by decide +kernel) (by decide +kernel)⟩, fun h => absurd h (by decide), fun h => absurd h (by decide), ⟨by decide +kernel, by decide +kernel, by decide +kernel⟩, by decide +kernel, rfl, by decide +kernel, fun _ => ⟨_, rfl⟩, fun _ => ⟨_, rfl, rfl⟩⟩
set_option maxRecDepth 100000 in
theorem mo_14 : cm_ok mi_14 := ⟨cm_T_in 438 (by decide +kernel) (by decide +kernel), cm_T_in 48 (by decide +kernel) (by decide +kernel), fun _ => ⟨cm_T_in 437 (by decide +kernel) (by decide +kernel), cm_T_in 17 (by decide +kernel) (by decide +kernel)⟩, fun h => absurd h (by decide), fun h => absurd h (by decide), ⟨by decide +kernel, by decide +kernel, by decide +kernel⟩, by decide +kernel, rfl, by decide +kernel, fun _ => ⟨_, rfl⟩, fun _ => ⟨_, rfl, rfl⟩⟩
set_option maxRecDepth 100000 in
theorem mo_15 : cm_ok mi_15 := ⟨cm_T_in 434 (by decide +kernel) (by decide +kernel), cm_T_in 48 (by decide +kernel) (by decide +kernel), fun _ => ⟨cm_T_in 432 (by decide +kernel) (by decide +kernel), cm_T_in 433 (by decide +kernel) (by decide +kernel)⟩, fun h => absurd h (by decide), fun h => absurd h (by decide), ⟨by decide +kernel, by decide +kernel, by decide +kernel⟩, by decide +kernel, rfl, by decide +kernel, fun _ => ⟨_, rfl⟩, fun _ => ⟨_, rfl, rfl⟩⟩
set_option maxRecDepth 100000 in
theorem mo_16 : cm_ok mi_16 := ⟨cm_T_in 442 (by decide +kernel) (by decide +kernel), cm_T_in 48 (by decide +kernel) (by decide +kernel), fun _ => ⟨cm_T_in 440 (by decide +kernel) (by decide +kernel), cm_T_in 441 (by decide +kernel) (by decide +kernel)⟩, fun h => absurd h (by decide), fun h => absurd h (by decide), ⟨by decide +kernel, by decide +kernel, by decide +kernel⟩, by decide +kernel, rfl, by decide +kernel, fun _ => ⟨_, rfl⟩, fun _ => ⟨_, rfl, rfl⟩⟩
set_option maxRecDepth 100000 in
theorem mo_17 : cm_ok mi_17 := ⟨cm_T_in 446 (by decide +kernel) (by decide +kernel), cm_T_in 48 (by decide +kernel) (by decide +kernel), fun _ => ⟨cm_T_in 444 (by decide +kernel) (by decide +kernel), cm_T_in 445 (by decide +kernel) (by decide +kernel)⟩, fun h => absurd h (by decide), fun h => absurd h (by decide), ⟨by decide +kernel, by decide +kernel, by decide +kernel⟩, by decide +kernel, rfl, by decide +kernel, fun _ => ⟨_, rfl⟩, fun _ => ⟨_, rfl, rfl⟩⟩
set_option maxRecDepth 100000 in
theorem mo_18 : cm_ok mi_18 := ⟨cm_T_in 420 (by decide +kernel) (by decide +kernel), cm_T_in 48 (by decide +kernel) (by decide +kernel), fun _ => ⟨cm_T_in 418 (by decide +kernel) (by decide +kernel), cm_T_in 419 (by decide +kernel) (by decide +kernel)⟩, fun h => absurd h (by decide), fun h => absurd h (by decide), ⟨by decide +kernel, by decide +kernel, by decide +kernel⟩, by decide +kernel, rfl, by decide +kernel, fun _ => ⟨_, rfl⟩, fun _ => ⟨_, rfl, rfl⟩⟩
set_option maxRecDepth 100000 in
theorem mo_19 : cm_ok mi_19 := ⟨cm_T_in 416 (by decide +kernel) (by decide +kernel), cm_T_in 48 (by decide +kernel) (by decide +kernel), fun _ => ⟨cm_T_in 414 (by decide +kernel) (by decide +kernel), cm_T_in 415 (by decide +kernel) (by decide +kernel)⟩, fun h => absurd h (by decide), fun h => absurd h (by decide), ⟨by decide +kernel, by decide +kernel, by decide +kernel⟩, by decide +kernel, rfl, by decide +kernel, fun _ => ⟨_, rfl⟩, fun _ => ⟨_, rfl, rfl⟩⟩
set_option maxRecDepth 100000 in
theorem mo_20 : cm_ok mi_20 := ⟨cm_T_in 409 (by decide +kernel) (by decide +kernel), cm_T_in 48 (by decide +kernel) (by decide +kernel), fun _ => ⟨cm_T_in 408 (by decide +kernel) (by decide +kernel), cm_T_in 15 (by decide +kernel) (by decide +kernel)⟩, fun h => absurd h (by decide), fun h => absurd h (by decide), ⟨by decide +kernel, by decide +kernel, by decide +kernel⟩, by decide +kernel, rfl, by decide +kernel, fun _ => ⟨_, rfl⟩, fun _ => ⟨_, rfl, rfl⟩⟩
set_option maxRecDepth 100000 in
theorem mo_21 : cm_ok mi_21 := ⟨cm_T_in 405 (by decide +kernel) (by decide +kernel), cm_T_in 48 (by decide +kernel) (by decide +kernel), fun _ => ⟨cm_T_in 403 (by decide +kernel) (by decide +kernel), cm_T_in 404 (by decide +kernel) (by decide +kernel)⟩, fun h => absurd h (by decide), fun h => absurd h (by decide), ⟨by decide +kernel, by decide +kernel, by decide +kernel⟩, by decide +kernel, rfl, by decide +kernel, fun _ => ⟨_, rfl⟩, fun _ => ⟨_, rfl, rfl⟩⟩
set_option maxRecDepth 100000 in
theorem mo_22 : cm_ok mi_22 := ⟨cm_T_in 488 (by decide +kernel) (by decide +kernel), cm_T_in 48 (by decide +kernel) (by decide +kernel), fun _ => ⟨cm_T_in 486 (by decide +kernel) (by decide +kernel), cm_T_in 487 (by decide +kernel) (by decide +kernel)⟩, fun h => absurd h (by decide), fun h => absurd h (by decide), ⟨by decide +kernel, by decide +kernel, by decide +kernel⟩, by decide +kernel, rfl, by decide +kernel, fun _ => ⟨_, rfl⟩, fun _ => ⟨_, rfl, rfl⟩⟩
set_option maxRecDepth 100000 in
theorem mo_23 : cm_ok mi_23 := ⟨cm_T_in 470 (by decide +kernel) (by decide +kernel), cm_T_in 48 (by decide +kernel) (by decide +kernel), fun _ => ⟨cm_T_in 468 (by decide +kernel) (by decide +kernel), cm_T_in 469 (by decide +kernel) (by decide +kernel)⟩, fun h => absurd h (by decide), fun h => absurd h (by decide), ⟨by decide +kernel, by decide +kernel, by decide +kernel⟩, by decide +kernel, rfl, by decide +kernel, fun _ => ⟨_, rfl⟩, fun _ => ⟨_, rfl, rfl⟩⟩
set_option maxRecDepth 100000 in
theorem mo_24 : cm_ok mi_24 := ⟨cm_T_in 479 (by decide +kernel) (by decide +kernel), cm_T_in 48 (by decide +kernel) (by decide +kernel), fun _ => ⟨cm_T_in 477 (by decide +kernel) (by decide +kernel), cm_T_in 478 (by decide +kernel) (by decide +kernel)⟩, fun h => absurd h (by decide), fun h => absurd h (by decide), ⟨by decide +kernel, by decide +kernel, by decide +kernel⟩, by decide +kernel, rfl, by decide +kernel, fun _ => ⟨_, rfl⟩, fun _ => ⟨_, rfl, rfl⟩⟩
set_option maxRecDepth 100000 in
theorem mo_25 : cm_ok mi_25 := ⟨cm_T_in 500 (by decide +kernel) (by decide +kernel), cm_T_in 48 (by decide +kernel) (by decide +kernel), fun _ => ⟨cm_T_in 498 (by decide +kernel) (by decide +kernel), cm_T_in 499 (by decide +kernel) (by decide +kernel)⟩, fun h => absurd h (by decide), fun h => absurd h (by decide), ⟨by decide +kernel, by decide +kernel, by decide +kernel⟩, by decide +kernel, rfl, by decide +kernel, fun _ => ⟨_, rfl⟩, fun _ => ⟨_, rfl, rfl⟩⟩
set_option maxRecDepth 100000 in
theorem mo_26 : cm_ok mi_26 := ⟨cm_T_in 74 (by decide +kernel) (by decide +kernel), cm_T_in 49 (by decide +kernel) (by decide +kernel), fun h => absurd h (by decide), fun h => absurd h (by decide), fun _ => ⟨cm_T_in 73 (by decide +kernel) (by decide +kernel), rfl, rfl⟩, ⟨by decide +kernel, by decide +kernel, by decide +kernel⟩, by decide +kernel, rfl, by decide +kernel, fun _ => ⟨_, rfl⟩, fun _ => ⟨_, rfl, rfl⟩⟩
set_option maxRecDepth 100000 in
theorem mo_27 : cm_ok mi_27 := ⟨cm_T_in 241 (by decide +kernel) (by decide +kernel), cm_T_in 49 (by decide +kernel) (by decide +kernel), fun _ => ⟨cm_T_in 239 (by decide +kernel) (by decide +kernel), cm_T_in 240 (by decide +kernel) (by decide +kernel)⟩, fun h => absurd h (by decide), fun h => absurd h (by decide), ⟨by decide +kernel, by decide +kernel, by decide +kernel⟩, by decide +kernel, rfl, by decide +kernel, fun _ => ⟨_, rfl⟩, fun _ => ⟨_, rfl, rfl⟩⟩
set_option maxRecDepth 100000 in
theorem mo_28 : cm_ok mi_28 := ⟨cm_T_in 245 (by decide +kernel) (by decide +kernel), cm_T_in 49 (by decide +kernel) (by decide +kernel), fun _ => ⟨cm_T_in 243 (by decide +kernel) (by decide +kernel), cm_T_in 244 (by decide +kernel) (by decide +kernel)⟩, fun h => absurd h (by decide), fun h => absurd h (by decide), ⟨by decide +kernel, by decide +kernel, by decide +kernel⟩, by decide +kernel, rfl, by decide +kernel, fun _ => ⟨_, rfl⟩, fun _ => ⟨_, rfl, rfl⟩⟩
set_option maxRecDepth 100000 in
theorem mo_29 : cm_ok mi_29 := ⟨cm_T_in 249 (by decide +kernel) (by decide +kernel), cm_T_in 49 (by decide +kernel) (by decide +kernel), fun _ => ⟨cm_T_in 247 (by decide +kernel) (by decide +kernel), cm_T_in 248 (by decide +kernel) (by decide +kernel)⟩, fun h => absurd h (by decide), fun h => absurd h (by decide), ⟨by decide +kernel, by decide +kernel, by decide +kernel⟩, by decide +kernel, rfl, by decide +kernel, fun _ => ⟨_, rfl⟩, fun _ => ⟨_, rfl, rfl⟩⟩
set_option maxRecDepth 100000 in
theorem mo_30 : cm_ok mi_30 := ⟨cm_T_in 273 (by decide +kernel) (by decide +kernel), cm_T_in 49 (by decide +kernel) (by decide +kernel), fun _ => ⟨cm_T_in 271 (by decide +kernel) (by decide +kernel), cm_T_in 272 (by decide +kernel) (by decide +kernel)⟩, fun h => absurd h (by decide), fun h => absurd h (by decide), ⟨by decide +kernel, by decide +kernel, by decide +kernel⟩, by decide +kernel, rfl, by decide +kernel, fun _ => ⟨_, rfl⟩, fun _ => ⟨_, rfl, rfl⟩⟩
set_option maxRecDepth 100000 in
theorem mo_31 : cm_ok mi_31 := ⟨cm_T_in 292 (by decide +kernel) (by decide +kernel), cm_T_in 49 (by decide +kernel) (by decide +kernel), fun _ => ⟨cm_T_in 290 (by decide +kernel) (by decide +kernel), cm_T_in 291 (by decide +kernel) (by decide +kernel)⟩, fun h => absurd h (by decide), fun h => absurd h (by decide), ⟨by decide +kernel, by decide +kernel, by decide +kernel⟩, by decide +kernel, rfl, by decide +kernel, fun _ => ⟨_, rfl⟩, fun _ => ⟨_, rfl, rfl⟩⟩
set_option maxRecDepth 100000 in
theorem mo_32 : cm_ok mi_32 := ⟨cm_T_in 328 (by decide +kernel) (by decide +kernel), cm_T_in 49 (by decide +kernel) (by decide +kernel), fun _ => ⟨cm_T_in 326 (by decide +kernel) (by decide +kernel), cm_T_in 327 (by decide +kernel) (by decide +kernel)⟩, fun h => absurd h (by decide), fun h => absurd h (by decide), ⟨by decide +kernel, by decide +kernel, by decide +kernel⟩, by decide +kernel, rfl, by decide +kernel, fun _ => ⟨_, rfl⟩, fun _ => ⟨_, rfl, rfl⟩⟩
set_option maxRecDepth 100000 in
theorem mo_33 : cm_ok mi_33 := ⟨cm_T_in 343 (by decide +kernel) (by decide +kernel), cm_T_in 49 (by decide +kernel) (by decide +kernel), fun _ => ⟨cm_T_in 341 (by decide +kernel) (by decide +kernel), cm_T_in 342 (by decide +kernel) (by decide +kernel)⟩, fun h => absurd h (by decide), fun h => absurd h (by decide), ⟨by decide +kernel, by decide +kernel, by decide +kernel⟩, by decide +kernel, rfl, by decide +kernel, fun _ => ⟨_, rfl⟩, fun _ => ⟨_, rfl, rfl⟩⟩
set_option maxRecDepth 100000 in
theorem mo_34 : cm_ok mi_34 := ⟨cm_T_in 332 (by decide +kernel) (by decide +kernel), cm_T_in 49 (by decide +kernel) (by decide +kernel), fun _ => ⟨cm_T_in 331 (by decide +kernel) (by decide +kernel), cm_T_in 9 (by decide +kernel) (by decide +kernel)⟩, fun h => absurd h (by decide), fun h => absurd h (by decide), ⟨by decide +kernel, by decide +kernel, by decide +kernel⟩, by decide +kernel, rfl, by decide +kernel, fun _ => ⟨_, rfl⟩, fun _ => ⟨_, rfl, rfl⟩⟩
set_option maxRecDepth 100000 in
theorem mo_35 : cm_ok mi_35 := ⟨cm_T_in 335 (by decide +kernel) (by decide +kernel), cm_T_in 49 (by decide +kernel) (by decide +kernel), fun h => absurd h (by decide), fun _ => cm_T_in 334 (by decide +kernel) (by decide +kernel), fun h => absurd h (by decide), ⟨by decide +kernel, by decide +kernel, by decide +kernel⟩, by decide +kernel, rfl, by decide +kernel, fun h => absurd rfl h, fun h => absurd rfl h⟩
set_option maxRecDepth 100000 in
theorem mo_36 : cm_ok mi_36 := ⟨cm_T_in 356 (by decide +kernel) (by decide +kernel), cm_T_in 49 (by decide +kernel) (by decide +kernel), fun _ => ⟨cm_T_in 354 (by decide +kernel) (by decide +kernel), cm_T_in 355 (by decide +kernel) (by decide +kernel)⟩, fun h => absurd h (by decide), fun h => absurd h (by decide), ⟨by decide +kernel, by decide +kernel, by decide +kernel⟩, by decide +kernel, rfl, by decide +kernel, fun _ => ⟨_, rfl⟩, fun _ => ⟨_, rfl, rfl⟩⟩
set_option maxRecDepth 100000 in
theorem mo_37 : cm_ok mi_37 := ⟨cm_T_in 352 (by decide +kernel) (by decide +kernel), cm_T_in 49 (by decide +kernel) (by decide +kernel), fun _ => ⟨cm_T_in 350 (by decide +kernel) (by decide +kernel), cm_T_in 351 (by decide +kernel) (by decide +kernel)⟩, fun h => absurd h (by decide), fun h => absurd h (by decide), ⟨by decide +kernel, by decide +kernel, by decide +kernel⟩, by decide +kernel, rfl, by decide +kernel, fun _ => ⟨_, rfl⟩, fun _ => ⟨_, rfl, rfl⟩⟩
set_option maxRecDepth 100000 in
theorem mo_38 : cm_ok mi_38 := ⟨cm_T_in 401 (by decide +kernel) (by decide +kernel), cm_T_in 49 (by decide +kernel) (by decide +kernel), fun _ => ⟨cm_T_in 399 (by decide +kernel) (by decide +kernel), cm_T_in 400 (by decide +kernel) (by decide +kernel)⟩, fun h => absurd h (by decide), fun h => absurd h (by decide), ⟨by decide +kernel, by decide +kernel, by decide +kernel⟩, by decide +kernel, rfl, by decide +kernel, fun _ => ⟨_, rfl⟩, fun _ => ⟨_, rfl, rfl⟩⟩
set_option maxRecDepth 100000 in
theorem mo_39 : cm_ok mi_39 := ⟨cm_T_in 466 (by decide +kernel) (by decide +kernel), cm_T_in 49 (by decide +kernel) (by decide +kernel), fun _ => ⟨cm_T_in 464 (by decide +kernel) (by decide +kernel), cm_T_in 465 (by decide +kernel) (by decide +kernel)⟩, fun h => absurd h (by decide), fun h => absurd h (by decide), ⟨by decide +kernel, by decide +kernel, by decide +kernel⟩, by decide +kernel, rfl, by decide +kernel, fun _ => ⟨_, rfl⟩, fun _ => ⟨_, rfl, rfl⟩⟩
set_option maxRecDepth 100000 in
theorem mo_40 : cm_ok mi_40 := ⟨cm_T_in 475 (by decide +kernel) (by decide +kernel), cm_T_in 49 (by decide +kernel) (by decide +kernel), fun _ => ⟨cm_T_in 473 (by decide +kernel) (by decide +kernel), cm_T_in 474 (by decide +kernel) (by decide +kernel)⟩, fun h => absurd h (by decide), fun h => absurd h (by decide), ⟨by decide +kernel, by decide +kernel, by decide +kernel⟩, by decide +kernel, rfl, by decide +kernel, fun _ => ⟨_, rfl⟩, fun _ => ⟨_, rfl, rfl⟩⟩
set_option maxRecDepth 100000 in
theorem mo_41 : cm_ok mi_41 := ⟨cm_T_in 496 (by decide +kernel) (by decide +kernel), cm_T_in 49 (by decide +kernel) (by decide +kernel), fun _ => ⟨cm_T_in 494 (by decide +kernel) (by decide +kernel), cm_T_in 495 (by decide +kernel) (by decide +kernel)⟩, fun h => absurd h (by decide), fun h => absurd h (by decide), ⟨by decide +kernel, by decide +kernel, by decide +kernel⟩, by decide +kernel, rfl, by decide +kernel, fun _ => ⟨_, rfl⟩, fun _ => ⟨_, rfl, rfl⟩⟩
set_option maxRecDepth 100000 in
theorem mo_42 : cm_ok mi_42 := ⟨cm_T_in 167 (by decide +kernel) (by decide +kernel), cm_T_in 52 (by decide +kernel) (by decide +kernel), fun h => absurd h (by decide), fun h => absurd h (by decide), fun _ => ⟨cm_T_in 166 (by decide +kernel) (by decide +kernel), rfl, rfl⟩, ⟨by decide +kernel, by decide +kernel, by decide +kernel⟩, by decide +kernel, rfl, by decide +kernel, fun _ => ⟨_, rfl⟩, fun _ => ⟨_, rfl, rfl⟩⟩
set_option maxRecDepth 100000 in
theorem mo_43 : cm_ok mi_43 := ⟨cm_T_in 237 (by decide +kernel) (by decide +kernel), cm_T_in 52 (by decide +kernel) (by decide +kernel), fun _ => ⟨cm_T_in 235 (by decide +kernel) (by decide +kernel), cm_T_in 236 (by decide +kernel) (by decide +kernel)⟩, fun h => absurd h (by decide), fun h => absurd h (by decide), ⟨by decide +kernel, by decide +kernel, by decide +kernel⟩, by decide +kernel, rfl, by decide +kernel, fun _ => ⟨_, rfl⟩, fun _ => ⟨_, rfl, rfl⟩⟩
set_option maxRecDepth 100000 in
theorem mo_44 : cm_ok mi_44 := ⟨cm_T_in 537 (by decide +kernel) (by decide +kernel), cm_T_in 52 (by decide +kernel) (by decide +kernel), fun _ => ⟨cm_T_in 535 (by decide +kernel) (by decide +kernel), cm_T_in 536 (by decide +kernel) (by decide +kernel)⟩, fun h => absurd h (by decide), fun h => absurd h (by decide), ⟨by decide +kernel, by decide +kernel, by decide +kernel⟩, by decide +kernel, rfl, by decide +kernel, fun _ => ⟨_, rfl⟩, fun _ => ⟨_, rfl, rfl⟩⟩
set_option maxRecDepth 100000 in
theorem mo_45 : cm_ok mi_45 := ⟨cm_T_in 149 (by decide +kernel) (by decide +kernel), cm_T_in 51 (by decide +kernel) (by decide +kernel), fun h => absurd h (by decide), fun h => absurd h (by decide), fun _ => ⟨cm_T_in 148 (by decide +kernel) (by decide +kernel), rfl, rfl⟩, ⟨by decide +kernel, by decide +kernel, by decide +kernel⟩, by decide +kernel, rfl, by decide +kernel, fun _ => ⟨_, rfl⟩, fun _ => ⟨_, rfl, rfl⟩⟩
set_option maxRecDepth 100000 in
theorem mo_46 : cm_ok mi_46 := ⟨cm_T_in 516 (by decide +kernel) (by decide +kernel), cm_T_in 51 (by decide +kernel) (by decide +kernel), fun _ => ⟨cm_T_in 514 (by decide +kernel) (by decide +kernel), cm_T_in 515 (by decide +kernel) (by decide +kernel)⟩, fun h => absurd h (by decide), fun h => absurd h (by decide), ⟨by decide +kernel, by decide +kernel, by decide +kernel⟩, by decide +kernel, rfl, by decide +kernel, fun _ => ⟨_, rfl⟩, fun _ => ⟨_, rfl, rfl⟩⟩
set_option maxRecDepth 100000 in
theorem mo_47 : cm_ok mi_47 := ⟨cm_T_in 521 (by decide +kernel) (by decide +kernel), cm_T_in 51 (by decide +kernel) (by decide +kernel), fun _ => ⟨cm_T_in 519 (by decide +kernel) (by decide +kernel), cm_T_in 520 (by decide +kernel) (by decide +kernel)⟩, fun h => absurd h (by decide), fun h => absurd h (by decide), ⟨by decide +kernel, by decide +kernel, by decide +kernel⟩, by decide +kernel, rfl, by decide +kernel, fun _ => ⟨_, rfl⟩, fun _ => ⟨_, rfl, rfl⟩⟩
set_option maxRecDepth 100000 in
theorem mo_48 : cm_ok mi_48 := ⟨cm_T_in 364 (by decide +kernel) (by decide +kernel), cm_T_in 51 (by decide +kernel) (by decide +kernel), fun _ => ⟨cm_T_in 362 (by decide +kernel) (by decide +kernel), cm_T_in 363 (by decide +kernel) (by decide +kernel)⟩, fun h => absurd h (by decide), fun h => absurd h (by decide), ⟨by decide +kernel, by decide +kernel, by decide +kernel⟩, by decide +kernel, rfl, by decide +kernel, fun _ => ⟨_, rfl⟩, fun _ => ⟨_, rfl, rfl⟩⟩
set_option maxRecDepth 100000 in
theorem mo_49 : cm_ok mi_49 := ⟨cm_T_in 368 (by decide +kernel) (by decide +kernel), cm_T_in 51 (by decide +kernel) (by decide +kernel), fun _ => ⟨cm_T_in 367 (by decide +kernel) (by decide +kernel), cm_T_in 10 (by decide +kernel) (by decide +kernel)⟩, fun h => absurd h (by decide), fun h => absurd h (by decide), ⟨by decide +kernel, by decide +kernel, by decide +kernel⟩, by decide +kernel, rfl, by decide +kernel, fun _ => ⟨_, rfl⟩, fun _ => ⟨_, rfl, rfl⟩⟩
set_option maxRecDepth 100000 in
theorem mo_50 : cm_ok mi_50 := ⟨cm_T_in 386 (by decide +kernel) (by decide +kernel), cm_T_in 51 (by decide +kernel) (by decide +kernel), fun _ => ⟨cm_T_in 385 (by decide +kernel) (by decide +kernel), cm_T_in 14 (by decide +kernel) (by decide +kernel)⟩, fun h => absurd h (by decide), fun h => absurd h (by decide), ⟨by decide +kernel, by decide +kernel, by decide +kernel⟩, by decide +kernel, rfl, by decide +kernel, fun _ => ⟨_, rfl⟩, fun _ => ⟨_, rfl, rfl⟩⟩
set_option maxRecDepth 100000 in
theorem mo_51 : cm_ok mi_51 := ⟨cm_T_in 372 (by decide +kernel) (by decide +kernel), cm_T_in 51 (by decide +kernel) (by decide +kernel), fun _ => ⟨cm_T_in 371 (by decide +kernel) (by decide +kernel), cm_T_in 11 (by decide +kernel) (by decide +kernel)⟩, fun h => absurd h (by decide), fun h => absurd h (by decide), ⟨by decide +kernel, by decide +kernel, by decide +kernel⟩, by decide +kernel, rfl, by decide +kernel, fun _ => ⟨_, rfl⟩, fun _ => ⟨_, rfl, rfl⟩⟩
set_option maxRecDepth 100000 in
theorem mo_52 : cm_ok mi_52 := ⟨cm_T_in 380 (by decide +kernel) (by decide +kernel), cm_T_in 51 (by decide +kernel) (by decide +kernel), fun _ => ⟨cm_T_in 379 (by decide +kernel) (by decide +kernel), cm_T_in 13 (by decide +kernel) (by decide +kernel)⟩, fun h => absurd h (by decide), fun h => absurd h (by decide), ⟨by decide +kernel, by decide +kernel, by decide +kernel⟩, by decide +kernel, rfl, by decide +kernel, fun _ => ⟨_, rfl⟩, fun _ => ⟨_, rfl, rfl⟩⟩
set_option maxRecDepth 100000 in
theorem mo_53 : cm_ok mi_53 := ⟨cm_T_in 376 (by decide +kernel) (by decide +kernel), cm_T_in 51 (by decide +kernel) (by decide +kernel), fun _ => ⟨cm_T_in 375 (by decide +kernel) (by decide +kernel), cm_T_in 12 (by decide +kernel) (by decide +kernel)⟩, fun h => absurd h (by decide), fun h => absurd h (by decide), ⟨by decide +kernel, by decide +kernel, by decide +kernel⟩, by decide +kernel, rfl, by decide +kernel, fun _ => ⟨_, rfl⟩, fun _ => ⟨_, rfl, rfl⟩⟩
set_option maxRecDepth 100000 in
theorem mo_54 : cm_ok mi_54 := ⟨cm_T_in 187 (by decide +kernel) (by decide +kernel), cm_T_in 53 (by decide +kernel) (by decide +kernel), fun h => absurd h (by decide), fun h => absurd h (by decide), fun _ => ⟨cm_T_in 186 (by decide +kernel) (by decide +kernel), rfl, rfl⟩, ⟨by decide +kernel, by decide +kernel, by decide +kernel⟩, by decide +kernel, rfl, by decide +kernel, fun _ => ⟨_, rfl⟩, fun _ => ⟨_, rfl, rfl⟩⟩
set_option maxRecDepth 100000 in
theorem mo_55 : cm_ok mi_55 := ⟨cm_T_in 60 (by decide +kernel) (by decide +kernel), cm_T_in 47 (by decide +kernel) (by decide +kernel), fun h => absurd h (by decide), fun h => absurd h (by decide), fun _ => ⟨cm_T_in 59 (by decide +kernel) (by decide +kernel), rfl, rfl⟩, ⟨by decide +kernel, by decide +kernel, by decide +kernel⟩, by decide +kernel, rfl, by decide +kernel, fun _ => ⟨_, rfl⟩, fun _ => ⟨_, rfl, rfl⟩⟩
set_option maxRecDepth 100000 in
theorem mo_56 : cm_ok mi_56 := ⟨cm_T_in 226 (by decide +kernel) (by decide +kernel), cm_T_in 47 (by decide +kernel) (by decide +kernel), fun _ => ⟨cm_T_in 224 (by decide +kernel) (by decide +kernel), cm_T_in 225 (by decide +kernel) (by decide +kernel)⟩, fun h => absurd h (by decide), fun h => absurd h (by decide), ⟨by decide +kernel, by decide +kernel, by decide +kernel⟩, by decide +kernel, rfl, by decide +kernel, fun _ => ⟨_, rfl⟩, fun _ => ⟨_, rfl, rfl⟩⟩
set_option maxRecDepth 100000 in
theorem mo_57 : cm_ok mi_57 := ⟨cm_T_in 253 (by decide +kernel) (by decide +kernel), cm_T_in 47 (by decide +kernel) (by decide +kernel), fun _ => ⟨cm_T_in 251 (by decide +kernel) (by decide +kernel), cm_T_in 252 (by decide +kernel) (by decide +kernel)⟩, fun h => absurd h (by decide), fun h => absurd h (by decide), ⟨by decide +kernel, by decide +kernel, by decide +kernel⟩, by decide +kernel, rfl, by decide +kernel, fun _ => ⟨_, rfl⟩, fun _ => ⟨_, rfl, rfl⟩⟩
set_option maxRecDepth 100000 in
theorem mo_58 : cm_ok mi_58 := ⟨cm_T_in 265 (by decide +kernel) (by decide +kernel), cm_T_in 47 (by decide +kernel) (by decide +kernel), fun _ => ⟨cm_T_in 263 (by decide +kernel) (by decide +kernel), cm_T_in 264 (by decide +kernel) (by decide +kernel)⟩, fun h => absurd h (by decide), fun h => absurd h (by decide), ⟨by decide +kernel, by decide +kernel, by decide +kernel⟩, by decide +kernel, rfl, by decide +kernel, fun _ => ⟨_, rfl⟩, fun _ => ⟨_, rfl, rfl⟩⟩
set_option maxRecDepth 100000 in
theorem mo_59 : cm_ok mi_59 := ⟨cm_T_in 269 (by decide +kernel) (by decide +kernel), cm_T_in 47 (by decide +kernel) (by decide +kernel), fun _ => ⟨cm_T_in 267 (by decide +kernel) (by decide +kernel), cm_T_in 268 (by decide +kernel) (by decide +kernel)⟩, fun h => absurd h (by decide), fun h => absurd h (by decide), ⟨by decide +kernel, by decide +kernel, by decide +kernel⟩, by decide +kernel, rfl, by decide +kernel, fun _ => ⟨_, rfl⟩, fun _ => ⟨_, rfl, rfl⟩⟩
set_option maxRecDepth 100000 in
theorem mo_60 : cm_ok mi_60 := ⟨cm_T_in 280 (by decide +kernel) (by decide +kernel), cm_T_in 47 (by decide +kernel) (by decide +kernel), fun _ => ⟨cm_T_in 278 (by decide +kernel) (by decide +kernel), cm_T_in 279 (by decide +kernel) (by decide +kernel)⟩, fun h => absurd h (by decide), fun h => absurd h (by decide), ⟨by decide +kernel, by decide +kernel, by decide +kernel⟩, by decide +kernel, rfl, by decide +kernel, fun _ => ⟨_, rfl⟩, fun _ => ⟨_, rfl, rfl⟩⟩
set_option maxRecDepth 100000 in
theorem mo_61 : cm_ok mi_61 := ⟨cm_T_in 339 (by decide +kernel) (by decide +kernel), cm_T_in 47 (by decide +kernel) (by decide +kernel), fun _ => ⟨cm_T_in 337 (by decide +kernel) (by decide +kernel), cm_T_in 338 (by decide +kernel) (by decide +kernel)⟩, fun h => absurd h (by decide), fun h => absurd h (by decide), ⟨by decide +kernel, by decide +kernel, by decide +kernel⟩, by decide +kernel, rfl, by decide +kernel, fun _ => ⟨_, rfl⟩, fun _ => ⟨_, rfl, rfl⟩⟩
set_option maxRecDepth 100000 in
theorem mo_62 : cm_ok mi_62 := ⟨cm_T_in 348 (by decide +kernel) (by decide +kernel), cm_T_in 47 (by decide +kernel) (by decide +kernel), fun _ => ⟨cm_T_in 346 (by decide +kernel) (by decide +kernel), cm_T_in 347 (by decide +kernel) (by decide +kernel)⟩, fun h => absurd h (by decide), fun h => absurd h (by decide), ⟨by decide +kernel, by decide +kernel, by decide +kernel⟩, by decide +kernel, rfl, by decide +kernel, fun _ => ⟨_, rfl⟩, fun _ => ⟨_, rfl, rfl⟩⟩
set_option maxRecDepth 100000 in
theorem mo_63 : cm_ok mi_63 := ⟨cm_T_in 360 (by decide +kernel) (by decide +kernel), cm_T_in 47 (by decide +kernel) (by decide +kernel), fun _ => ⟨cm_T_in 358 (by decide +kernel) (by decide +kernel), cm_T_in 359 (by decide +kernel) (by decide +kernel)⟩, fun h => absurd h (by decide), fun h => absurd h (by decide), ⟨by decide +kernel, by decide +kernel, by decide +kernel⟩, by decide +kernel, rfl, by decide +kernel, fun _ => ⟨_, rfl⟩, fun _ => ⟨_, rfl, rfl⟩⟩
set_option maxRecDepth 100000 in
theorem mo_64 : cm_ok mi_64 := ⟨cm_T_in 392 (by decide +kernel) (by decide +kernel), cm_T_in 47 (by decide +kernel) (by decide +kernel), fun _ => ⟨cm_T_in 390 (by decide +kernel) (by decide +kernel), cm_T_in 391 (by decide +kernel) (by decide +kernel)⟩, fun h => absurd h (by decide), fun h => absurd h (by decide), ⟨by decide +kernel, by decide +kernel, by decide +kernel⟩, by decide +kernel, rfl, by decide +kernel, fun _ => ⟨_, rfl⟩, fun _ => ⟨_, rfl, rfl⟩⟩
set_option maxRecDepth 100000 in
theorem mo_65 : cm_ok mi_65 := ⟨cm_T_in 397 (by decide +kernel) (by decide +kernel), cm_T_in 47 (by decide +kernel) (by decide +kernel), fun _ => ⟨cm_T_in 395 (by decide +kernel) (by decide +kernel), cm_T_in 396 (by decide +kernel) (by decide +kernel)⟩, fun h => absurd h (by decide), fun h => absurd h (by decide), ⟨by decide +kernel, by decide +kernel, by decide +kernel⟩, by decide +kernel, rfl, by decide +kernel, fun _ => ⟨_, rfl⟩, fun _ => ⟨_, rfl, rfl⟩⟩
set_option maxRecDepth 100000 in
theorem mo_66 : cm_ok mi_66 := ⟨cm_T_in 430 (by decide +kernel) (by decide +kernel), cm_T_in 47 (by decide +kernel) (by decide +kernel), fun _ => ⟨cm_T_in 428 (by decide +kernel) (by decide +kernel), cm_T_in 429 (by decide +kernel) (by decide +kernel)⟩, fun h => absurd h (by decide), fun h => absurd h (by decide), ⟨by decide +kernel, by decide +kernel, by decide +kernel⟩, by decide +kernel, rfl, by decide +kernel, fun _ => ⟨_, rfl⟩, fun _ => ⟨_, rfl, rfl⟩⟩
set_option maxRecDepth 100000 in
theorem mo_67 : cm_ok mi_67 := ⟨cm_T_in 462 (by decide +kernel) (by decide +kernel), cm_T_in 47 (by decide +kernel) (by decide +kernel), fun _ => ⟨cm_T_in 460 (by decide +kernel) (by decide +kernel), cm_T_in 461 (by decide +kernel) (by decide +kernel)⟩, fun h => absurd h (by decide), fun h => absurd h (by decide), ⟨by decide +kernel, by decide +kernel, by decide +kernel⟩, by decide +kernel, rfl, by decide +kernel, fun _ => ⟨_, rfl⟩, fun _ => ⟨_, rfl, rfl⟩⟩
set_option maxRecDepth 100000 in
theorem mo_68 : cm_ok mi_68 := ⟨cm_T_in 483 (by decide +kernel) (by decide +kernel), cm_T_in 47 (by decide +kernel) (by decide +kernel), fun _ => ⟨cm_T_in 481 (by decide +kernel) (by decide +kernel), cm_T_in 482 (by decide +kernel) (by decide +kernel)⟩, fun h => absurd h (by decide), fun h => absurd h (by decide), ⟨by decide +kernel, by decide +kernel, by decide +kernel⟩, by decide +kernel, rfl, by decide +kernel, fun _ => ⟨_, rfl⟩, fun _ => ⟨_, rfl, rfl⟩⟩
set_option maxRecDepth 100000 in
theorem mo_69 : cm_ok mi_69 := ⟨cm_T_in 492 (by decide +kernel) (by decide +kernel), cm_T_in 47 (by decide +kernel) (by decide +kernel), fun _ => ⟨cm_T_in 490 (by decide +kernel) (by decide +kernel), cm_T_in 491 (by decide +kernel) (by decide +kernel)⟩, fun h => absurd h (by decide), fun h => absurd h (by decide), ⟨by decide +kernel, by decide +kernel, by decide +kernel⟩, by decide +kernel, rfl, by decide +kernel, fun _ => ⟨_, rfl⟩, fun _ => ⟨_, rfl, rfl⟩⟩
set_option maxRecDepth 100000 in
theorem mo_70 : cm_ok mi_70 := ⟨cm_T_in 504 (by decide +kernel) (by decide +kernel), cm_T_in 47 (by decide +kernel) (by decide +kernel), fun _ => ⟨cm_T_in 502 (by decide +kernel) (by decide +kernel), cm_T_in 503 (by decide +kernel) (by decide +kernel)⟩, fun h => absurd h (by decide), fun h => absurd h (by decide), ⟨by decide +kernel, by decide +kernel, by decide +kernel⟩, by decide +kernel, rfl, by decide +kernel, fun _ => ⟨_, rfl⟩, fun _ => ⟨_, rfl, rfl⟩⟩
set_option maxRecDepth 100000 in
theorem mo_71 : cm_ok mi_71 := ⟨cm_T_in 508 (by decide +kernel) (by decide +kernel), cm_T_in 47 (by decide +kernel) (by decide +kernel), fun _ => ⟨cm_T_in 506 (by decide +kernel) (by decide +kernel), cm_T_in 507 (by decide +kernel) (by decide +kernel)⟩, fun h => absurd h (by decide), fun h => absurd h (by decide), ⟨by decide +kernel, by decide +kernel, by decide +kernel⟩, by decide +kernel, rfl, by decide +kernel, fun _ => ⟨_, rfl⟩, fun _ => ⟨_, rfl, rfl⟩⟩
set_option maxRecDepth 100000 in
theorem mo_72 : cm_ok mi_72 := ⟨cm_T_in 512 (by decide +kernel) (by decide +kernel), cm_T_in 47 (by decide +kernel) (by decide +kernel), fun _ => ⟨cm_T_in 510 (by decide +kernel) (by decide +kernel), cm_T_in 511 (by decide +kernel) (by decide +kernel)⟩, fun h => absurd h (by decide), fun h => absurd h (by decide), ⟨by decide +kernel, by decide +kernel, by decide +kernel⟩, by decide +kernel, rfl, by decide +kernel, fun _ => ⟨_, rfl⟩, fun _ => ⟨_, rfl, rfl⟩⟩
set_option maxRecDepth 100000 in
theorem mo_73 : cm_ok mi_73 := ⟨cm_T_in 525 (by decide +kernel) (by decide +kernel), cm_T_in 47 (by decide +kernel) (by decide +kernel), fun _ => ⟨cm_T_in 523 (by decide +kernel) (by decide +kernel), cm_T_in 524 (by decide +kernel) (by decide +kernel)⟩, fun h => absurd h (by decide), fun h => absurd h (by decide), ⟨by decide +kernel, by decide +kernel, by decide +kernel⟩, by decide +kernel, rfl, by decide +kernel, fun _ => ⟨_, rfl⟩, fun _ => ⟨_, rfl, rfl⟩⟩
set_option maxRecDepth 100000 in
theorem mo_74 : cm_ok mi_74 := ⟨cm_T_in 529 (by decide +kernel) (by decide +kernel), cm_T_in 47 (by decide +kernel) (by decide +kernel), fun _ => ⟨cm_T_in 527 (by decide +kernel) (by decide +kernel), cm_T_in 528 (by decide +kernel) (by decide +kernel)⟩, fun h => absurd h (by decide), fun h => absurd h (by decide), ⟨by decide +kernel, by decide +kernel, by decide +kernel⟩, by decide +kernel, rfl, by decide +kernel, fun _ => ⟨_, rfl⟩, fun _ => ⟨_, rfl, rfl⟩⟩
set_option maxRecDepth 100000 in
theorem mo_75 : cm_ok mi_75 := ⟨cm_T_in 533 (by decide +kernel) (by decide +kernel), cm_T_in 47 (by decide +kernel) (by decide +kernel), fun _ => ⟨cm_T_in 531 (by decide +kernel) (by decide +kernel), cm_T_in 532 (by decide +kernel) (by decide +kernel)⟩, fun h => absurd h (by decide), fun h => absurd h (by decide), ⟨by decide +kernel, by decide +kernel, by decide +kernel⟩, by decide +kernel, rfl, by decide +kernel, fun _ => ⟨_, rfl⟩, fun _ => ⟨_, rfl, rfl⟩⟩
set_option maxRecDepth 100000 in
theorem mo_76 : cm_ok mi_76 := ⟨cm_T_in 541 (by decide +kernel) (by decide +kernel), cm_T_in 47 (by decide +kernel) (by decide +kernel), fun _ => ⟨cm_T_in 539 (by decide +kernel) (by decide +kernel), cm_T_in 540 (by decide +kernel) (by decide +kernel)⟩, fun h => absurd h (by decide), fun h => absurd h (by decide), ⟨by decide +kernel, by decide +kernel, by decide +kernel⟩, by decide +kernel, rfl, by decide +kernel, fun _ => ⟨_, rfl⟩, fun _ => ⟨_, rfl, rfl⟩⟩
set_option maxRecDepth 100000 in
theorem mo_77 : cm_ok mi_77 := ⟨cm_T_in 548 (by decide +kernel) (by decide +kernel), cm_T_in 47 (by decide +kernel) (by decide +kernel), fun _ => ⟨cm_T_in 546 (by decide +kernel) (by decide +kernel), cm_T_in 547 (by decide +kernel) (by decide +kernel)⟩, fun h => absurd h (by decide), fun h => absurd h (by decide), ⟨by decide +kernel, by decide +kernel, by decide +kernel⟩, by decide +kernel, rfl, by decide +kernel, fun _ => ⟨_, rfl⟩, fun _ => ⟨_, rfl, rfl⟩⟩
set_option maxRecDepth 100000 in
theorem mo_78 : cm_ok mi_78 := ⟨cm_T_in 260 (by decide +kernel) (by decide +kernel), cm_T_in 47 (by decide +kernel) (by decide +kernel), fun _ => ⟨cm_T_in 259 (by decide +kernel) (by decide +kernel), cm_T_in 0 (by decide +kernel) (by decide +kernel)⟩, fun h => absurd h (by decide), fun h => absurd h (by decide), ⟨by decide +kernel, by decide +kernel, by decide +kernel⟩, by decide +kernel, rfl, by decide +kernel, fun _ => ⟨_, rfl⟩, fun _ => ⟨_, rfl, rfl⟩⟩
set_option maxRecDepth 100000 in
theorem mo_79 : cm_ok mi_79 := ⟨cm_T_in 426 (by decide +kernel) (by decide +kernel), cm_T_in 47 (by decide +kernel) (by decide +kernel), fun _ => ⟨cm_T_in 425 (by decide +kernel) (by decide +kernel), cm_T_in 16 (by decide +kernel) (by decide +kernel)⟩, fun h => absurd h (by decide), fun h => absurd h (by decide), ⟨by decide +kernel, by decide +kernel, by decide +kernel⟩, by decide +kernel, rfl, by decide +kernel, fun _ => ⟨_, rfl⟩, fun _ => ⟨_, rfl, rfl⟩⟩
set_option maxRecDepth 100000 in
theorem mo_80 : cm_ok mi_80 := ⟨cm_T_in 233 (by decide +kernel) (by decide +kernel), cm_T_in 47 (by decide +kernel) (by decide +kernel), fun h => absurd h (by decide), fun _ => cm_T_in 232 (by decide +kernel) (by decide +kernel), fun h => absurd h (by decide), ⟨by decide +kernel, by decide +kernel, by decide +kernel⟩, by decide +kernel, rfl, by decide +kernel, fun h => absurd rfl h, fun h => absurd rfl h⟩
set_option maxRecDepth 100000 in
theorem mo_81 : cm_ok mi_81 := ⟨cm_T_in 256 (by decide +kernel) (by decide +kernel), cm_T_in 47 (by decide +kernel) (by decide +kernel), fun h => absurd h (by decide), fun _ => cm_T_in 255 (by decide +kernel) (by decide +kernel), fun h => absurd h (by decide), ⟨by decide +kernel, by decide +kernel, by decide +kernel⟩, by decide +kernel, rfl, by decide +kernel, fun h => absurd rfl h, fun h => absurd rfl h⟩
set_option maxRecDepth 100000 in
theorem mo_82 : cm_ok mi_82 := ⟨cm_T_in 276 (by decide +kernel) (by decide +kernel), cm_T_in 47 (by decide +kernel) (by decide +kernel), fun h => absurd h (by decide), fun _ => cm_T_in 275 (by decide +kernel) (by decide +kernel), fun h => absurd h (by decide), ⟨by decide +kernel, by decide +kernel, by decide +kernel⟩, by decide +kernel, rfl, by decide +kernel, fun h => absurd rfl h, fun h => absurd rfl h⟩
set_option maxRecDepth 100000 in
theorem mo_83 : cm_ok mi_83 := ⟨cm_T_in 544 (by decide +kernel) (by decide +kernel), cm_T_in 47 (by decide +kernel) (by decide +kernel), fun h => absurd h (by decide), fun _ => cm_T_in 543 (by decide +kernel) (by decide +kernel), fun h => absurd h (by decide), ⟨by decide +kernel, by decide +kernel, by decide +kernel⟩, by decide +kernel, rfl, by decide +kernel, fun h => absurd rfl h, fun h => absurd rfl h⟩
set_option maxRecDepth 100000 in
theorem mo_84 : cm_ok mi_84 := ⟨cm_T_in 553 (by decide +kernel) (by decide +kernel), cm_T_in 54 (by decide +kernel) (by decide +kernel), fun h => absurd h (by decide), fun h => absurd h (by decide), fun _ => ⟨cm_T_in 552 (by decide +kernel) (by decide +kernel), rfl, rfl⟩, ⟨by decide +kernel, by decide +kernel, by decide +kernel⟩, by decide +kernel, rfl, by decide +kernel, fun _ => ⟨_, rfl⟩, fun _ => ⟨_, rfl, rfl⟩⟩
set_option maxRecDepth 100000 in
theorem mo_85 : cm_ok mi_85 := ⟨cm_T_in 617 (by decide +kernel) (by decide +kernel), cm_T_in 54 (by decide +kernel) (by decide +kernel), fun h => absurd h (by decide), fun _ => cm_T_in 616 (by decide +kernel) (by decide +kernel), fun h => absurd h (by decide), ⟨by decide +kernel, by decide +kernel, by decide +kernel⟩, by decide +kernel, rfl, by decide +kernel, fun h => absurd rfl h, fun h => absurd rfl h⟩
set_option maxRecDepth 100000 in
theorem mo_86 : cm_ok mi_86 := ⟨cm_T_in 658 (by decide +kernel) (by decide +kernel), cm_T_in 54 (by decide +kernel) (by decide +kernel), fun _ => ⟨cm_T_in 657 (by decide +kernel) (by decide +kernel), cm_T_in 21 (by decide +kernel) (by decide +kernel)⟩, fun h => absurd h (by decide), fun h => absurd h (by decide), ⟨by decide +kernel, by decide +kernel, by decide +kernel⟩, by decide +kernel, rfl, by decide +kernel, fun _ => ⟨_, rfl⟩, fun _ => ⟨_, rfl, rfl⟩⟩
set_option maxRecDepth 100000 in
theorem mo_87 : cm_ok mi_87 := ⟨cm_T_in 642 (by decide +kernel) (by decide +kernel), cm_T_in 54 (by decide +kernel) (by decide +kernel), fun h => absurd h (by decide), fun _ => cm_T_in 641 (by decide +kernel) (by decide +kernel), fun h => absurd h (by decide), ⟨by decide +kernel, by decide +kernel, by decide +kernel⟩, by decide +kernel, rfl, by decide +kernel, fun h => absurd rfl h, fun h => absurd rfl h⟩
set_option maxRecDepth 100000 in
theorem mo_88 : cm_ok mi_88 := ⟨cm_T_in 777 (by decide +kernel) (by decide +kernel), cm_T_in 54 (by decide +kernel) (by decide +kernel), fun h => absurd h (by decide), fun _ => cm_T_in 776 (by decide +kernel) (by decide +kernel), fun h => absurd h (by decide), ⟨by decide +kernel, by decide +kernel, by decide +kernel⟩, by decide +kernel, rfl, by decide +kernel, fun h => absurd rfl h, fun h => absurd rfl h⟩
set_option maxRecDepth 100000 in
theorem mo_89 : cm_ok mi_89 := ⟨cm_T_in 662 (by decide +kernel) (by decide +kernel), cm_T_in 54 (by decide +kernel) (by decide +kernel), fun _ => ⟨cm_T_in 661 (by decide +kernel) (by decide +kernel), cm_T_in 22 (by decide +kernel) (by decide +kernel)⟩, fun h => absurd h (by decide), fun h => absurd h (by decide), ⟨by decide +kernel, by decide +kernel, by decide +kernel⟩, by decide +kernel, rfl, by decide +kernel, fun _ => ⟨_, rfl⟩, fun _ => ⟨_, rfl, rfl⟩⟩
set_option maxRecDepth 100000 in
theorem mo_90 : cm_ok mi_90 := ⟨cm_T_in 706 (by decide +kernel) (by decide +kernel), cm_T_in 54 (by decide +kernel) (by decide +kernel), fun _ => ⟨cm_T_in 705 (by decide +kernel) (by decide +kernel), cm_T_in 30 (by decide +kernel) (by decide +kernel)⟩, fun h => absurd h (by decide), fun h => absurd h (by decide), ⟨by decide +kernel, by decide +kernel, by decide +kernel⟩, by decide +kernel, rfl, by decide +kernel, fun _ => ⟨_, rfl⟩, fun _ => ⟨_, rfl, rfl⟩⟩
set_option maxRecDepth 100000 in
theorem mo_91 : cm_ok mi_91 := ⟨cm_T_in 625 (by decide +kernel) (by decide +kernel), cm_T_in 54 (by decide +kernel) (by decide +kernel), fun _ => ⟨cm_T_in 624 (by decide +kernel) (by decide +kernel), cm_T_in 19 (by decide +kernel) (by decide +kernel)⟩, fun h => absurd h (by decide), fun h => absurd h (by decide), ⟨by decide +kernel, by decide +kernel, by decide +kernel⟩, by decide +kernel, rfl, by decide +kernel, fun _ => ⟨_, rfl⟩, fun _ => ⟨_, rfl, rfl⟩⟩
set_option maxRecDepth 100000 in
theorem mo_92 : cm_ok mi_92 := ⟨cm_T_in 610 (by decide +kernel) (by decide +kernel), cm_T_in 54 (by decide +kernel) (by decide +kernel), fun _ => ⟨cm_T_in 608 (by decide +kernel) (by decide +kernel), cm_T_in 609 (by decide +kernel) (by decide +kernel)⟩, fun h => absurd h (by decide), fun h => absurd h (by decide), ⟨by decide +kernel, by decide +kernel, by decide +kernel⟩, by decide +kernel, rfl, by decide +kernel, fun _ => ⟨_, rfl⟩, fun _ => ⟨_, rfl, rfl⟩⟩
set_option maxRecDepth 100000 in
theorem mo_93 : cm_ok mi_93 := ⟨cm_T_in 614 (by decide +kernel) (by decide +kernel), cm_T_in 54 (by decide +kernel) (by decide +kernel), fun _ => ⟨cm_T_in 612 (by decide +kernel) (by decide +kernel), cm_T_in 613 (by decide +kernel) (by decide +kernel)⟩, fun h => absurd h (by decide), fun h => absurd h (by decide), ⟨by decide +kernel, by decide +kernel, by decide +kernel⟩, by decide +kernel, rfl, by decide +kernel, fun _ => ⟨_, rfl⟩, fun _ => ⟨_, rfl, rfl⟩⟩
set_option maxRecDepth 100000 in
theorem mo_94 : cm_ok mi_94 := ⟨cm_T_in 621 (by decide +kernel) (by decide +kernel), cm_T_in 54 (by decide +kernel) (by decide +kernel), fun _ => ⟨cm_T_in 619 (by decide +kernel) (by decide +kernel), cm_T_in 620 (by decide +kernel) (by decide +kernel)⟩, fun h => absurd h (by decide), fun h => absurd h (by decide), ⟨by decide +kernel, by decide +kernel, by decide +kernel⟩, by decide +kernel, rfl, by decide +kernel, fun _ => ⟨_, rfl⟩, fun _ => ⟨_, rfl, rfl⟩⟩
set_option maxRecDepth 100000 in
theorem mo_95 : cm_ok mi_95 := ⟨cm_T_in 678 (by decide +kernel) (by decide +kernel), cm_T_in 54 (by decide +kernel) (by decide +kernel), fun _ => ⟨cm_T_in 677 (by decide +kernel) (by decide +kernel), cm_T_in 25 (by decide +kernel) (by decide +kernel)⟩, fun h => absurd h (by decide), fun h => absurd h (by decide), ⟨by decide +kernel, by decide +kernel, by decide +kernel⟩, by decide +kernel, rfl, by decide +kernel, fun _ => ⟨_, rfl⟩, fun _ => ⟨_, rfl, rfl⟩⟩
set_option maxRecDepth 100000 in
theorem mo_96 : cm_ok mi_96 := ⟨cm_T_in 674 (by decide +kernel) (by decide +kernel), cm_T_in 54 (by decide +kernel) (by decide +kernel), fun _ => ⟨cm_T_in 673 (by decide +kernel) (by decide +kernel), cm_T_in 24 (by decide +kernel) (by decide +kernel)⟩, fun h => absurd h (by decide), fun h => absurd h (by decide), ⟨by decide +kernel, by decide +kernel, by decide +kernel⟩, by decide +kernel, rfl, by decide +kernel, fun _ => ⟨_, rfl⟩, fun _ => ⟨_, rfl, rfl⟩⟩
set_option maxRecDepth 100000 in
theorem mo_97 : cm_ok mi_97 := ⟨cm_T_in 682 (by decide +kernel) (by decide +kernel), cm_T_in 54 (by decide +kernel) (by decide +kernel), fun _ => ⟨cm_T_in 681 (by decide +kernel) (by decide +kernel), cm_T_in 26 (by decide +kernel) (by decide +kernel)⟩, fun h => absurd h (by decide), fun h => absurd h (by decide), ⟨by decide +kernel, by decide +kernel, by decide +kernel⟩, by decide +kernel, rfl, by decide +kernel, fun _ => ⟨_, rfl⟩, fun _ => ⟨_, rfl, rfl⟩⟩
set_option maxRecDepth 100000 in
theorem mo_98 : cm_ok mi_98 := ⟨cm_T_in 686 (by decide +kernel) (by decide +kernel), cm_T_in 54 (by decide +kernel) (by decide +kernel), fun _ => ⟨cm_T_in 685 (by decide +kernel) (by decide +kernel), cm_T_in 27 (by decide +kernel) (by decide +kernel)⟩, fun h => absurd h (by decide), fun h => absurd h (by decide), ⟨by decide +kernel, by decide +kernel, by decide +kernel⟩, by decide +kernel, rfl, by decide +kernel, fun _ => ⟨_, rfl⟩, fun _ => ⟨_, rfl, rfl⟩⟩
set_option maxRecDepth 100000 in
theorem mo_99 : cm_ok mi_99 := ⟨cm_T_in 670 (by decide +kernel) (by decide +kernel), cm_T_in 54 (by decide +kernel) (by decide +kernel), fun _ => ⟨cm_T_in 669 (by decide +kernel) (by decide +kernel), cm_T_in 23 (by decide +kernel) (by decide +kernel)⟩, fun h => absurd h (by decide), fun h => absurd h (by decide), ⟨by decide +kernel, by decide +kernel, by decide +kernel⟩, by decide +kernel, rfl, by decide +kernel, fun _ => ⟨_, rfl⟩, fun _ => ⟨_, rfl, rfl⟩⟩
set_option maxRecDepth 100000 in
theorem mo_100 : cm_ok mi_100 := ⟨cm_T_in 702 (by decide +kernel) (by decide +kernel), cm_T_in 54 (by decide +kernel) (by decide +kernel), fun _ => ⟨cm_T_in 701 (by decide +kernel) (by decide +kernel), cm_T_in 29 (by decide +kernel) (by decide +kernel)⟩, fun h => absurd h (by decide), fun h => absurd h (by decide), ⟨by decide +kernel, by decide +kernel, by decide +kernel⟩, by decide +kernel, rfl, by decide +kernel, fun _ => ⟨_, rfl⟩, fun _ => ⟨_, rfl, rfl⟩⟩
set_option maxRecDepth 100000 in
theorem mo_101 : cm_ok mi_101 := ⟨cm_T_in 730 (by decide +kernel) (by decide +kernel), cm_T_in 54 (by decide +kernel) (by decide +kernel), fun _ => ⟨cm_T_in 729 (by decide +kernel) (by decide +kernel), cm_T_in 34 (by decide +kernel) (by decide +kernel)⟩, fun h => absurd h (by decide), fun h => absurd h (by decide), ⟨by decide +kernel, by decide +kernel, by decide +kernel⟩, by decide +kernel, rfl, by decide +kernel, fun _ => ⟨_, rfl⟩, fun _ => ⟨_, rfl, rfl⟩⟩
set_option maxRecDepth 100000 in
theorem mo_102 : cm_ok mi_102 := ⟨cm_T_in 726 (by decide +kernel) (by decide +kernel), cm_T_in 54 (by decide +kernel) (by decide +kernel), fun _ => ⟨cm_T_in 725 (by decide +kernel) (by decide +kernel), cm_T_in 33 (by decide +kernel) (by decide +kernel)⟩, fun h => absurd h (by decide), fun h => absurd h (by decide), ⟨by decide +kernel, by decide +kernel, by decide +kernel⟩, by decide +kernel, rfl, by decide +kernel, fun _ => ⟨_, rfl⟩, fun _ => ⟨_, rfl, rfl⟩⟩
set_option maxRecDepth 100000 in
theorem mo_103 : cm_ok mi_103 := ⟨cm_T_in 714 (by decide +kernel) (by decide +kernel), cm_T_in 54 (by decide +kernel) (by decide +kernel), fun _ => ⟨cm_T_in 713 (by decide +kernel) (by decide +kernel), cm_T_in 32 (by decide +kernel) (by decide +kernel)⟩, fun h => absurd h (by decide), fun h => absurd h (by decide), ⟨by decide +kernel, by decide +kernel, by decide +kernel⟩, by decide +kernel, rfl, by decide +kernel, fun _ => ⟨_, rfl⟩, fun _ => ⟨_, rfl, rfl⟩⟩
set_option maxRecDepth 100000 in
theorem mo_104 : cm_ok mi_104 := ⟨cm_T_in 632 (by decide +kernel) (by decide +kernel), cm_T_in 54 (by decide +kernel) (by decide +kernel), fun h => absurd h (by decide), fun _ => cm_T_in 631 (by decide +kernel) (by decide +kernel), fun h => absurd h (by decide), ⟨by decide +kernel, by decide +kernel, by decide +kernel⟩, by decide +kernel, rfl, by decide +kernel, fun h => absurd rfl h, fun h => absurd rfl h⟩
set_option maxRecDepth 100000 in
theorem mo_105 : cm_ok mi_105 := ⟨cm_T_in 635 (by decide +kernel) (by decide +kernel), cm_T_in 54 (by decide +kernel) (by decide +kernel), fun h => absurd h (by decide), fun _ => cm_T_in 634 (by decide +kernel) (by decide +kernel), fun h => absurd h (by decide), ⟨by decide +kernel, by decide +kernel, by decide +kernel⟩, by decide +kernel, rfl, by decide +kernel, fun h => absurd rfl h, fun h => absurd rfl h⟩
set_option maxRecDepth 100000 in
theorem mo_106 : cm_ok mi_106 := ⟨cm_T_in 629 (by decide +kernel) (by decide +kernel), cm_T_in 54 (by decide +kernel) (by decide +kernel), fun _ => ⟨cm_T_in 627 (by decide +kernel) (by decide +kernel), cm_T_in 628 (by decide +kernel) (by decide +kernel)⟩, fun h => absurd h (by decide), fun h => absurd h (by decide), ⟨by decide +kernel, by decide +kernel, by decide +kernel⟩, by decide +kernel, rfl, by decide +kernel, fun _ => ⟨_, rfl⟩, fun _ => ⟨_, rfl, rfl⟩⟩
set_option maxRecDepth 100000 in
theorem mo_107 : cm_ok mi_107 := ⟨cm_T_in 646 (by decide +kernel) (by decide +kernel), cm_T_in 54 (by decide +kernel) (by decide +kernel), fun _ => ⟨cm_T_in 645 (by decide +kernel) (by decide +kernel), cm_T_in 20 (by decide +kernel) (by decide +kernel)⟩, fun h => absurd h (by decide), fun h => absurd h (by decide), ⟨by decide +kernel, by decide +kernel, by decide +kernel⟩, by decide +kernel, rfl, by decide +kernel, fun _ => ⟨_, rfl⟩, fun _ => ⟨_, rfl, rfl⟩⟩
set_option maxRecDepth 100000 in
theorem mo_108 : cm_ok mi_108 := ⟨cm_T_in 639 (by decide +kernel) (by decide +kernel), cm_T_in 54 (by decide +kernel) (by decide +kernel), fun _ => ⟨cm_T_in 637 (by decide +kernel) (by decide +kernel), cm_T_in 638 (by decide +kernel) (by decide +kernel)⟩, fun h => absurd h (by decide), fun h => absurd h (by decide), ⟨by decide +kernel, by decide +kernel, by decide +kernel⟩, by decide +kernel, rfl, by decide +kernel, fun _ => ⟨_, rfl⟩, fun _ => ⟨_, rfl, rfl⟩⟩
set_option maxRecDepth 100000 in
theorem mo_109 : cm_ok mi_109 := ⟨cm_T_in 650 (by decide +kernel) (by decide +kernel), cm_T_in 54 (by decide +kernel) (by decide +kernel), fun _ => ⟨cm_T_in 648 (by decide +kernel) (by decide +kernel), cm_T_in 649 (by decide +kernel) (by decide +kernel)⟩, fun h => absurd h (by decide), fun h => absurd h (by decide), ⟨by decide +kernel, by decide +kernel, by decide +kernel⟩, by decide +kernel, rfl, by decide +kernel, fun _ => ⟨_, rfl⟩, fun _ => ⟨_, rfl, rfl⟩⟩
set_option maxRecDepth 100000 in
theorem mo_110 : cm_ok mi_110 := ⟨cm_T_in 654 (by decide +kernel) (by decide +kernel), cm_T_in 54 (by decide +kernel) (by decide +kernel), fun _ => ⟨cm_T_in 652 (by decide +kernel) (by decide +kernel), cm_T_in 653 (by decide +kernel) (by decide +kernel)⟩, fun h => absurd h (by decide), fun h => absurd h (by decide), ⟨by decide +kernel, by decide +kernel, by decide +kernel⟩, by decide +kernel, rfl, by decide +kernel, fun _ => ⟨_, rfl⟩, fun _ => ⟨_, rfl, rfl⟩⟩
set_option maxRecDepth 100000 in
theorem mo_111 : cm_ok mi_111 := ⟨cm_T_in 690 (by decide +kernel) (by decide +kernel), cm_T_in 54 (by decide +kernel) (by decide +kernel), fun _ => ⟨cm_T_in 689 (by decide +kernel) (by decide +kernel), cm_T_in 28 (by decide +kernel) (by decide +kernel)⟩, fun h => absurd h (by decide), fun h => absurd h (by decide), ⟨by decide +kernel, by decide +kernel, by decide +kernel⟩, by decide +kernel, rfl, by decide +kernel, fun _ => ⟨_, rfl⟩, fun _ => ⟨_, rfl, rfl⟩⟩
set_option maxRecDepth 100000 in
theorem mo_112 : cm_ok mi_112 := ⟨cm_T_in 666 (by decide +kernel) (by decide +kernel), cm_T_in 54 (by decide +kernel) (by decide +kernel), fun _ => ⟨cm_T_in 664 (by decide +kernel) (by decide +kernel), cm_T_in 665 (by decide +kernel) (by decide +kernel)⟩, fun h => absurd h (by decide), fun h => absurd h (by decide), ⟨by decide +kernel, by decide +kernel, by decide +kernel⟩, by decide +kernel, rfl, by decide +kernel, fun _ => ⟨_, rfl⟩, fun _ => ⟨_, rfl, rfl⟩⟩
set_option maxRecDepth 100000 in
theorem mo_113 : cm_ok mi_113 := ⟨cm_T_in 694 (by decide +kernel) (by decide +kernel), cm_T_in 54 (by decide +kernel) (by decide +kernel), fun _ => ⟨cm_T_in 692 (by decide +kernel) (by decide +kernel), cm_T_in 693 (by decide +kernel) (by decide +kernel)⟩, fun h => absurd h (by decide), fun h => absurd h (by decide), ⟨by decide +kernel, by decide +kernel, by decide +kernel⟩, by decide +kernel, rfl, by decide +kernel, fun _ => ⟨_, rfl⟩, fun _ => ⟨_, rfl, rfl⟩⟩
set_option maxRecDepth 100000 in
theorem mo_114 : cm_ok mi_114 := ⟨cm_T_in 710 (by decide +kernel) (by decide +kernel), cm_T_in 54 (by decide +kernel) (by decide +kernel), fun _ => ⟨cm_T_in 709 (by decide +kernel) (by decide +kernel), cm_T_in 31 (by decide +kernel) (by decide +kernel)⟩, fun h => absurd h (by decide), fun h => absurd h (by decide), ⟨by decide +kernel, by decide +kernel, by decide +kernel⟩, by decide +kernel, rfl, by decide +kernel, fun _ => ⟨_, rfl⟩, fun _ => ⟨_, rfl, rfl⟩⟩
set_option maxRecDepth 100000 in
theorem mo_115 : cm_ok mi_115 := ⟨cm_T_in 698 (by decide +kernel) (by decide +kernel), cm_T_in 54 (by decide +kernel) (by decide +kernel), fun _ => ⟨cm_T_in 696 (by decide +kernel) (by decide +kernel), cm_T_in 697 (by decide +kernel) (by decide +kernel)⟩, fun h => absurd h (by decide), fun h => absurd h (by decide), ⟨by decide +kernel, by decide +kernel, by decide +kernel⟩, by decide +kernel, rfl, by decide +kernel, fun _ => ⟨_, rfl⟩, fun _ => ⟨_, rfl, rfl⟩⟩
set_option maxRecDepth 100000 in
theorem mo_116 : cm_ok mi_116 := ⟨cm_T_in 718 (by decide +kernel) (by decide +kernel), cm_T_in 54 (by decide +kernel) (by decide +kernel), fun _ => ⟨cm_T_in 716 (by decide +kernel) (by decide +kernel), cm_T_in 717 (by decide +kernel) (by decide +kernel)⟩, fun h => absurd h (by decide), fun h => absurd h (by decide), ⟨by decide +kernel, by decide +kernel, by decide +kernel⟩, by decide +kernel, rfl, by decide +kernel, fun _ => ⟨_, rfl⟩, fun _ => ⟨_, rfl, rfl⟩⟩
set_option maxRecDepth 100000 in
theorem mo_117 : cm_ok mi_117 := ⟨cm_T_in 722 (by decide +kernel) (by decide +kernel), cm_T_in 54 (by decide +kernel) (by decide +kernel), fun _ => ⟨cm_T_in 720 (by decide +kernel) (by decide +kernel), cm_T_in 721 (by decide +kernel) (by decide +kernel)⟩, fun h => absurd h (by decide), fun h => absurd h (by decide), ⟨by decide +kernel, by decide +kernel, by decide +kernel⟩, by decide +kernel, rfl, by decide +kernel, fun _ => ⟨_, rfl⟩, fun _ => ⟨_, rfl, rfl⟩⟩
set_option maxRecDepth 100000 in
theorem mo_118 : cm_ok mi_118 := ⟨cm_T_in 738 (by decide +kernel) (by decide +kernel), cm_T_in 54 (by decide +kernel) (by decide +kernel), fun _ => ⟨cm_T_in 737 (by decide +kernel) (by decide +kernel), cm_T_in 35 (by decide +kernel) (by decide +kernel)⟩, fun h => absurd h (by decide), fun h => absurd h (by decide), ⟨by decide +kernel, by decide +kernel, by decide +kernel⟩, by decide +kernel, rfl, by decide +kernel, fun _ => ⟨_, rfl⟩, fun _ => ⟨_, rfl, rfl⟩⟩
set_option maxRecDepth 100000 in
theorem mo_119 : cm_ok mi_119 := ⟨cm_T_in 734 (by decide +kernel) (by decide +kernel), cm_T_in 54 (by decide +kernel) (by decide +kernel), fun _ => ⟨cm_T_in 732 (by decide +kernel) (by decide +kernel), cm_T_in 733 (by decide +kernel) (by decide +kernel)⟩, fun h => absurd h (by decide), fun h => absurd h (by decide), ⟨by decide +kernel, by decide +kernel, by decide +kernel⟩, by decide +kernel, rfl, by decide +kernel, fun _ => ⟨_, rfl⟩, fun _ => ⟨_, rfl, rfl⟩⟩
set_option maxRecDepth 100000 in
theorem mo_120 : cm_ok mi_120 := ⟨cm_T_in 750 (by decide +kernel) (by decide +kernel), cm_T_in 54 (by decide +kernel) (by decide +kernel), fun _ => ⟨cm_T_in 749 (by decide +kernel) (by decide +kernel), cm_T_in 37 (by decide +kernel) (by decide +kernel)⟩, fun h => absurd h (by decide), fun h => absurd h (by decide), ⟨by decide +kernel, by decide +kernel, by decide +kernel⟩, by decide +kernel, rfl, by decide +kernel, fun _ => ⟨_, rfl⟩, fun _ => ⟨_, rfl, rfl⟩⟩
set_option maxRecDepth 100000 in
theorem mo_121 : cm_ok mi_121 := ⟨cm_T_in 746 (by decide +kernel) (by decide +kernel), cm_T_in 54 (by decide +kernel) (by decide +kernel), fun _ => ⟨cm_T_in 745 (by decide +kernel) (by decide +kernel), cm_T_in 36 (by decide +kernel) (by decide +kernel)⟩, fun h => absurd h (by decide), fun h => absurd h (by decide), ⟨by decide +kernel, by decide +kernel, by decide +kernel⟩, by decide +kernel, rfl, by decide +kernel, fun _ => ⟨_, rfl⟩, fun _ => ⟨_, rfl, rfl⟩⟩
set_option maxRecDepth 100000 in
theorem mo_122 : cm_ok mi_122 := ⟨cm_T_in 754 (by decide +kernel) (by decide +kernel), cm_T_in 54 (by decide +kernel) (by decide +kernel), fun _ => ⟨cm_T_in 753 (by decide +kernel) (by decide +kernel), cm_T_in 38 (by decide +kernel) (by decide +kernel)⟩, fun h => absurd h (by decide), fun h => absurd h (by decide), ⟨by decide +kernel, by decide +kernel, by decide +kernel⟩, by decide +kernel, rfl, by decide +kernel, fun _ => ⟨_, rfl⟩, fun _ => ⟨_, rfl, rfl⟩⟩
set_option maxRecDepth 100000 in
theorem mo_123 : cm_ok mi_123 := ⟨cm_T_in 742 (by decide +kernel) (by decide +kernel), cm_T_in 54 (by decide +kernel) (by decide +kernel), fun _ => ⟨cm_T_in 740 (by decide +kernel) (by decide +kernel), cm_T_in 741 (by decide +kernel) (by decide +kernel)⟩, fun h => absurd h (by decide), fun h => absurd h (by decide), ⟨by decide +kernel, by decide +kernel, by decide +kernel⟩, by decide +kernel, rfl, by decide +kernel, fun _ => ⟨_, rfl⟩, fun _ => ⟨_, rfl, rfl⟩⟩
set_option maxRecDepth 100000 in
theorem mo_124 : cm_ok mi_124 := ⟨cm_T_in 762 (by decide +kernel) (by decide +kernel), cm_T_in 54 (by decide +kernel) (by decide +kernel), fun _ => ⟨cm_T_in 761 (by decide +kernel) (by decide +kernel), cm_T_in 39 (by decide +kernel) (by decide +kernel)⟩, fun h => absurd h (by decide), fun h => absurd h (by decide), ⟨by decide +kernel, by decide +kernel, by decide +kernel⟩, by decide +kernel, rfl, by decide +kernel, fun _ => ⟨_, rfl⟩, fun _ => ⟨_, rfl, rfl⟩⟩
set_option maxRecDepth 100000 in
theorem mo_125 : cm_ok mi_125 := ⟨cm_T_in 758 (by decide +kernel) (by decide +kernel), cm_T_in 54 (by decide +kernel) (by decide +kernel), fun _ => ⟨cm_T_in 756 (by decide +kernel) (by decide +kernel), cm_T_in 757 (by decide +kernel) (by decide +kernel)⟩, fun h => absurd h (by decide), fun h => absurd h (by decide), ⟨by decide +kernel, by decide +kernel, by decide +kernel⟩, by decide +kernel, rfl, by decide +kernel, fun _ => ⟨_, rfl⟩, fun _ => ⟨_, rfl, rfl⟩⟩
set_option maxRecDepth 100000 in
theorem mo_126 : cm_ok mi_126 := ⟨cm_T_in 770 (by decide +kernel) (by decide +kernel), cm_T_in 54 (by decide +kernel) (by decide +kernel), fun _ => ⟨cm_T_in 769 (by decide +kernel) (by decide +kernel), cm_T_in 40 (by decide +kernel) (by decide +kernel)⟩, fun h => absurd h (by decide), fun h => absurd h (by decide), ⟨by decide +kernel, by decide +kernel, by decide +kernel⟩, by decide +kernel, rfl, by decide +kernel, fun _ => ⟨_, rfl⟩, fun _ => ⟨_, rfl, rfl⟩⟩
set_option maxRecDepth 100000 in
theorem mo_127 : cm_ok mi_127 := ⟨cm_T_in 766 (by decide +kernel) (by decide +kernel), cm_T_in 54 (by decide +kernel) (by decide +kernel), fun _ => ⟨cm_T_in 764 (by decide +kernel) (by decide +kernel), cm_T_in 765 (by decide +kernel) (by decide +kernel)⟩, fun h => absurd h (by decide), fun h => absurd h (by decide), ⟨by decide +kernel, by decide +kernel, by decide +kernel⟩, by decide +kernel, rfl, by decide +kernel, fun _ => ⟨_, rfl⟩, fun _ => ⟨_, rfl, rfl⟩⟩
set_option maxRecDepth 100000 in
theorem mo_128 : cm_ok mi_128 := ⟨cm_T_in 774 (by decide +kernel) (by decide +kernel), cm_T_in 54 (by decide +kernel) (by decide +kernel), fun _ => ⟨cm_T_in 772 (by decide +kernel) (by decide +kernel), cm_T_in 773 (by decide +kernel) (by decide +kernel)⟩, fun h => absurd h (by decide), fun h => absurd h (by decide), ⟨by decide +kernel, by decide +kernel, by decide +kernel⟩, by decide +kernel, rfl, by decide +kernel, fun _ => ⟨_, rfl⟩, fun _ => ⟨_, rfl, rfl⟩⟩
set_option maxRecDepth 100000 in
theorem mo_129 : cm_ok mi_129 := ⟨cm_T_in 781 (by decide +kernel) (by decide +kernel), cm_T_in 54 (by decide +kernel) (by decide +kernel), fun _ => ⟨cm_T_in 779 (by decide +kernel) (by decide +kernel), cm_T_in 780 (by decide +kernel) (by decide +kernel)⟩, fun h => absurd h (by decide), fun h => absurd h (by decide), ⟨by decide +kernel, by decide +kernel, by decide +kernel⟩, by decide +kernel, rfl, by decide +kernel, fun _ => ⟨_, rfl⟩, fun _ => ⟨_, rfl, rfl⟩⟩
set_option maxRecDepth 100000 in
theorem mo_130 : cm_ok mi_130 := ⟨cm_T_in 785 (by decide +kernel) (by decide +kernel), cm_T_in 54 (by decide +kernel) (by decide +kernel), fun _ => ⟨cm_T_in 783 (by decide +kernel) (by decide +kernel), cm_T_in 784 (by decide +kernel) (by decide +kernel)⟩, fun h => absurd h (by decide), fun h => absurd h (by decide), ⟨by decide +kernel, by decide +kernel, by decide +kernel⟩, by decide +kernel, rfl, by decide +kernel, fun _ => ⟨_, rfl⟩, fun _ => ⟨_, rfl, rfl⟩⟩
set_option maxRecDepth 100000 in
theorem mo_131 : cm_ok mi_131 := ⟨cm_T_in 790 (by decide +kernel) (by decide +kernel), cm_T_in 54 (by decide +kernel) (by decide +kernel), fun _ => ⟨cm_T_in 788 (by decide +kernel) (by decide +kernel), cm_T_in 789 (by decide +kernel) (by decide +kernel)⟩, fun h => absurd h (by decide), fun h => absurd h (by decide), ⟨by decide +kernel, by decide +kernel, by decide +kernel⟩, by decide +kernel, rfl, by decide +kernel, fun _ => ⟨_, rfl⟩, fun _ => ⟨_, rfl, rfl⟩⟩
set_option maxRecDepth 100000 in
theorem mo_132 : cm_ok mi_132 := ⟨cm_T_in 806 (by decide +kernel) (by decide +kernel), cm_T_in 54 (by decide +kernel) (by decide +kernel), fun _ => ⟨cm_T_in 805 (by decide +kernel) (by decide +kernel), cm_T_in 43 (by decide +kernel) (by decide +kernel)⟩, fun h => absurd h (by decide), fun h => absurd h (by decide), ⟨by decide +kernel, by decide +kernel, by decide +kernel⟩, by decide +kernel, rfl, by decide +kernel, fun _ => ⟨_, rfl⟩, fun _ => ⟨_, rfl, rfl⟩⟩
set_option maxRecDepth 100000 in
theorem mo_133 : cm_ok mi_133 := ⟨cm_T_in 810 (by decide +kernel) (by decide +kernel), cm_T_in 54 (by decide +kernel) (by decide +kernel), fun _ => ⟨cm_T_in 809 (by decide +kernel) (by decide +kernel), cm_T_in 44 (by decide +kernel) (by decide +kernel)⟩, fun h => absurd h (by decide), fun h => absurd h (by decide), ⟨by decide +kernel, by decide +kernel, by decide +kernel⟩, by decide +kernel, rfl, by decide +kernel, fun _ => ⟨_, rfl⟩, fun _ => ⟨_, rfl, rfl⟩⟩
set_option maxRecDepth 100000 in
theorem mo_134 : cm_ok mi_134 := ⟨cm_T_in 814 (by decide +kernel) (by decide +kernel), cm_T_in 54 (by decide +kernel) (by decide +kernel), fun _ => ⟨cm_T_in 813 (by decide +kernel) (by decide +kernel), cm_T_in 45 (by decide +kernel) (by decide +kernel)⟩, fun h => absurd h (by decide), fun h => absurd h (by decide), ⟨by decide +kernel, by decide +kernel, by decide +kernel⟩, by decide +kernel, rfl, by decide +kernel, fun _ => ⟨_, rfl⟩, fun _ => ⟨_, rfl, rfl⟩⟩
set_option maxRecDepth 100000 in
theorem mo_135 : cm_ok mi_135 := ⟨cm_T_in 802 (by decide +kernel) (by decide +kernel), cm_T_in 54 (by decide +kernel) (by decide +kernel), fun _ => ⟨cm_T_in 801 (by decide +kernel) (by decide +kernel), cm_T_in 42 (by decide +kernel) (by decide +kernel)⟩, fun h => absurd h (by decide), fun h => absurd h (by decide), ⟨by decide +kernel, by decide +kernel, by decide +kernel⟩, by decide +kernel, rfl, by decide +kernel, fun _ => ⟨_, rfl⟩, fun _ => ⟨_, rfl, rfl⟩⟩
set_option maxRecDepth 100000 in
theorem mo_136 : cm_ok mi_136 := ⟨cm_T_in 798 (by decide +kernel) (by decide +kernel), cm_T_in 54 (by decide +kernel) (by decide +kernel), fun _ => ⟨cm_T_in 797 (by decide +kernel) (by decide +kernel), cm_T_in 41 (by decide +kernel) (by decide +kernel)⟩, fun h => absurd h (by decide), fun h => absurd h (by decide), ⟨by decide +kernel, by decide +kernel, by decide +kernel⟩, by decide +kernel, rfl, by decide +kernel, fun _ => ⟨_, rfl⟩, fun _ => ⟨_, rfl, rfl⟩⟩
set_option maxRecDepth 100000 in
theorem mo_137 : cm_ok mi_137 := ⟨cm_T_in 794 (by decide +kernel) (by decide +kernel), cm_T_in 54 (by decide +kernel) (by decide +kernel), fun _ => ⟨cm_T_in 792 (by decide +kernel) (by decide +kernel), cm_T_in 793 (by decide +kernel) (by decide +kernel)⟩, fun h => absurd h (by decide), fun h => absurd h (by decide), ⟨by decide +kernel, by decide +kernel, by decide +kernel⟩, by decide +kernel, rfl, by decide +kernel, fun _ => ⟨_, rfl⟩, fun _ => ⟨_, rfl, rfl⟩⟩
set_option maxRecDepth 100000 in
theorem mo_138 : cm_ok mi_138 := ⟨cm_T_in 818 (by decide +kernel) (by decide +kernel), cm_T_in 54 (by decide +kernel) (by decide +kernel), fun _ => ⟨cm_T_in 816 (by decide +kernel) (by decide +kernel), cm_T_in 817 (by decide +kernel) (by decide +kernel)⟩, fun h => absurd h (by decide), fun h => absurd h (by decide), ⟨by decide +kernel, by decide +kernel, by decide +kernel⟩, by decide +kernel, rfl, by decide +kernel, fun _ => ⟨_, rfl⟩, fun _ => ⟨_, rfl, rfl⟩⟩
/-- the words of a call -/
def cm_cok (e : (Nat × Nat) × (Nat × Nat)) : Prop := (e.2.2 < 1000 → ∃ q, cm_P[e.2.2]? = some q ∧ cm_ok q.1 ∧ (e.2.1 = 0 → .methodLink (cm_cn e.1.1) e.1.2 q.1.1 ∈ cm_T) ∧ (e.2.1 ≠ 0 → (e.1.1, e.1.2, e.2.2) ∈ [(5, 9, 0), (5, 29, 45), (3, 17, 80), (3, 42, 81)])) ∧
  (e.2.2 = 1000 → .methodLink (cm_cn e.1.1) e.1.2 Lib.objectInit ∈ cm_T) ∧ (e.2.2 = 1001 → .methodLink (cm_cn e.1.1) e.1.2 Lib.Math.max.name ∈ cm_T) ∧ (e.2.2 = 1002 → .methodLink (cm_cn e.1.1) e.1.2 arraycopyName ∈ cm_T) ∧ e.2.2 < 1003
set_option maxRecDepth 100000 in
theorem cco_0 : cm_cok ((0, 3), (0, 1000)) := ⟨fun h => absurd h (by decide), fun _ => cm_T_in 69 (by decide +kernel) (by decide +kernel), fun h => absurd h (by decide), fun h => absurd h (by decide), by decide⟩
set_option maxRecDepth 100000 in
theorem cco_1 : cm_cok ((0, 11), (0, 26)) := ⟨fun _ => ⟨(mi_26, ins_26), rfl, mo_26, fun _ => cm_T_in 72 (by decide +kernel) (by decide +kernel), fun h => absurd rfl h⟩, fun h => absurd h (by decide), fun h => absurd h (by decide), fun h => absurd h (by decide), by decide⟩
set_option maxRecDepth 100000 in
theorem cco_2 : cm_cok ((0, 37), (0, 2)) := ⟨fun _ => ⟨(mi_2, ins_2), rfl, mo_2, fun _ => cm_T_in 285 (by decide +kernel) (by decide +kernel), fun h => absurd rfl h⟩, fun h => absurd h (by decide), fun h => absurd h (by decide), fun h => absurd h (by decide), by decide⟩
set_option maxRecDepth 100000 in
theorem cco_3 : cm_cok ((0, 40), (0, 3)) := ⟨fun _ => ⟨(mi_3, ins_3), rfl, mo_3, fun _ => cm_T_in 293 (by decide +kernel) (by decide +kernel), fun h => absurd rfl h⟩, fun h => absurd h (by decide), fun h => absurd h (by decide), fun h => absurd h (by decide), by decide⟩
set_option maxRecDepth 100000 in
theorem cco_4 : cm_cok ((0, 43), (0, 6)) := ⟨fun _ => ⟨(mi_6, ins_6), rfl, mo_6, fun _ => cm_T_in 309 (by decide +kernel) (by decide +kernel), fun h => absurd rfl h⟩, fun h => absurd h (by decide), fun h => absurd h (by decide), fun h => absurd h (by decide), by decide⟩
set_option maxRecDepth 100000 in
theorem cco_5 : cm_cok ((0, 53), (0, 31)) := ⟨fun _ => ⟨(mi_31, ins_31), rfl, mo_31, fun _ => cm_T_in 289 (by decide +kernel) (by decide +kernel), fun h => absurd rfl h⟩, fun h => absurd h (by decide), fun h => absurd h (by decide), fun h => absurd h (by decide), by decide⟩
set_option maxRecDepth 100000 in
theorem cco_6 : cm_cok ((0, 63), (0, 5)) := ⟨fun _ => ⟨(mi_5, ins_5), rfl, mo_5, fun _ => cm_T_in 297 (by decide +kernel) (by decide +kernel), fun h => absurd rfl h⟩, fun h => absurd h (by decide), fun h => absurd h (by decide), fun h => absurd h (by decide), by decide⟩
set_option maxRecDepth 100000 in
theorem cco_7 : cm_cok ((0, 70), (0, 4)) := ⟨fun _ => ⟨(mi_4, ins_4), rfl, mo_4, fun _ => cm_T_in 301 (by decide +kernel) (by decide +kernel), fun h => absurd rfl h⟩, fun h => absurd h (by decide), fun h => absurd h (by decide), fun h => absurd h (by decide), by decide⟩
set_option maxRecDepth 100000 in
theorem cco_8 : cm_cok ((0, 74), (0, 9)) := ⟨fun _ => ⟨(mi_9, ins_9), rfl, mo_9, fun _ => cm_T_in 305 (by decide +kernel) (by decide +kernel), fun h => absurd rfl h⟩, fun h => absurd h (by decide), fun h => absurd h (by decide), fun h => absurd h (by decide), by decide⟩
set_option maxRecDepth 100000 in
theorem cco_9 : cm_cok ((0, 78), (0, 7)) := ⟨fun _ => ⟨(mi_7, ins_7), rfl, mo_7, fun _ => cm_T_in 313 (by decide +kernel) (by decide +kernel), fun h => absurd rfl h⟩, fun h => absurd h (by decide), fun h => absurd h (by decide), fun h => absurd h (by decide), by decide⟩
set_option maxRecDepth 100000 in
theorem cco_10 : cm_cok ((0, 81), (0, 8)) := ⟨fun _ => ⟨(mi_8, ins_8), rfl, mo_8, fun _ => cm_T_in 317 (by decide +kernel) (by decide +kernel), fun h => absurd rfl h⟩, fun h => absurd h (by decide), fun h => absurd h (by decide), fun h => absurd h (by decide), by decide⟩
set_option maxRecDepth 100000 in
theorem cco_11 : cm_cok ((0, 84), (0, 11)) := ⟨fun _ => ⟨(mi_11, ins_11), rfl, mo_11, fun _ => cm_T_in 451 (by decide +kernel) (by decide +kernel), fun h => absurd rfl h⟩, fun h => absurd h (by decide), fun h => absurd h (by decide), fun h => absurd h (by decide), by decide⟩
set_option maxRecDepth 100000 in
theorem cco_12 : cm_cok ((0, 87), (0, 14)) := ⟨fun _ => ⟨(mi_14, ins_14), rfl, mo_14, fun _ => cm_T_in 435 (by decide +kernel) (by decide +kernel), fun h => absurd rfl h⟩, fun h => absurd h (by decide), fun h => absurd h (by decide), fun h => absurd h (by decide), by decide⟩
set_option maxRecDepth 100000 in
theorem cco_13 : cm_cok ((0, 94), (0, 18)) := ⟨fun _ => ⟨(mi_18, ins_18), rfl, mo_18, fun _ => cm_T_in 417 (by decide +kernel) (by decide +kernel), fun h => absurd rfl h⟩, fun h => absurd h (by decide), fun h => absurd h (by decide), fun h => absurd h (by decide), by decide⟩
set_option maxRecDepth 100000 in
theorem cco_14 : cm_cok ((0, 97), (0, 1001)) := ⟨fun h => absurd h (by decide), fun h => absurd h (by decide), fun _ => cm_T_in 410 (by decide +kernel) (by decide +kernel), fun h => absurd h (by decide), by decide⟩
set_option maxRecDepth 100000 in
theorem cco_15 : cm_cok ((0, 102), (0, 20)) := ⟨fun _ => ⟨(mi_20, ins_20), rfl, mo_20, fun _ => cm_T_in 406 (by decide +kernel) (by decide +kernel), fun h => absurd rfl h⟩, fun h => absurd h (by decide), fun h => absurd h (by decide), fun h => absurd h (by decide), by decide⟩
set_option maxRecDepth 100000 in
theorem cco_16 : cm_cok ((0, 105), (0, 19)) := ⟨fun _ => ⟨(mi_19, ins_19), rfl, mo_19, fun _ => cm_T_in 413 (by decide +kernel) (by decide +kernel), fun h => absurd rfl h⟩, fun h => absurd h (by decide), fun h => absurd h (by decide), fun h => absurd h (by decide), by decide⟩
set_option maxRecDepth 100000 in
theorem cco_17 : cm_cok ((0, 108), (0, 21)) := ⟨fun _ => ⟨(mi_21, ins_21), rfl, mo_21, fun _ => cm_T_in 471 (by decide +kernel) (by decide +kernel), fun h => absurd rfl h⟩, fun h => absurd h (by decide), fun h => absurd h (by decide), fun h => absurd h (by decide), by decide⟩
set_option maxRecDepth 100000 in
theorem cco_18 : cm_cok ((1, 3), (0, 1000)) := ⟨fun h => absurd h (by decide), fun _ => cm_T_in 75 (by decide +kernel) (by decide +kernel), fun h => absurd h (by decide), fun h => absurd h (by decide), by decide⟩
set_option maxRecDepth 100000 in
theorem cco_19 : cm_cok ((1, 30), (0, 1002)) := ⟨fun h => absurd h (by decide), fun h => absurd h (by decide), fun h => absurd h (by decide), fun _ => cm_T_in 78 (by decide +kernel) (by decide +kernel), by decide⟩
set_option maxRecDepth 100000 in
theorem cco_20 : cm_cok ((1, 40), (0, 28)) := ⟨fun _ => ⟨(mi_28, ins_28), rfl, mo_28, fun _ => cm_T_in 242 (by decide +kernel) (by decide +kernel), fun h => absurd rfl h⟩, fun h => absurd h (by decide), fun h => absurd h (by decide), fun h => absurd h (by decide), by decide⟩
set_option maxRecDepth 100000 in
theorem cco_21 : cm_cok ((1, 44), (0, 29)) := ⟨fun _ => ⟨(mi_29, ins_29), rfl, mo_29, fun _ => cm_T_in 246 (by decide +kernel) (by decide +kernel), fun h => absurd rfl h⟩, fun h => absurd h (by decide), fun h => absurd h (by decide), fun h => absurd h (by decide), by decide⟩
set_option maxRecDepth 100000 in
theorem cco_22 : cm_cok ((1, 48), (0, 34)) := ⟨fun _ => ⟨(mi_34, ins_34), rfl, mo_34, fun _ => cm_T_in 329 (by decide +kernel) (by decide +kernel), fun h => absurd rfl h⟩, fun h => absurd h (by decide), fun h => absurd h (by decide), fun h => absurd h (by decide), by decide⟩
set_option maxRecDepth 100000 in
theorem cco_23 : cm_cok ((1, 52), (0, 32)) := ⟨fun _ => ⟨(mi_32, ins_32), rfl, mo_32, fun _ => cm_T_in 344 (by decide +kernel) (by decide +kernel), fun h => absurd rfl h⟩, fun h => absurd h (by decide), fun h => absurd h (by decide), fun h => absurd h (by decide), by decide⟩
set_option maxRecDepth 100000 in
theorem cco_24 : cm_cok ((1, 55), (0, 35)) := ⟨fun _ => ⟨(mi_35, ins_35), rfl, mo_35, fun _ => cm_T_in 333 (by decide +kernel) (by decide +kernel), fun h => absurd rfl h⟩, fun h => absurd h (by decide), fun h => absurd h (by decide), fun h => absurd h (by decide), by decide⟩
set_option maxRecDepth 100000 in
theorem cco_25 : cm_cok ((2, 3), (0, 1000)) := ⟨fun h => absurd h (by decide), fun _ => cm_T_in 168 (by decide +kernel) (by decide +kernel), fun h => absurd h (by decide), fun h => absurd h (by decide), by decide⟩
set_option maxRecDepth 100000 in
theorem cco_26 : cm_cok ((2, 17), (0, 26)) := ⟨fun _ => ⟨(mi_26, ins_26), rfl, mo_26, fun _ => cm_T_in 171 (by decide +kernel) (by decide +kernel), fun h => absurd rfl h⟩, fun h => absurd h (by decide), fun h => absurd h (by decide), fun h => absurd h (by decide), by decide⟩
set_option maxRecDepth 100000 in
theorem cco_27 : cm_cok ((2, 25), (0, 27)) := ⟨fun _ => ⟨(mi_27, ins_27), rfl, mo_27, fun _ => cm_T_in 238 (by decide +kernel) (by decide +kernel), fun h => absurd rfl h⟩, fun h => absurd h (by decide), fun h => absurd h (by decide), fun h => absurd h (by decide), by decide⟩
set_option maxRecDepth 100000 in
theorem cco_28 : cm_cok ((3, 3), (0, 1000)) := ⟨fun h => absurd h (by decide), fun _ => cm_T_in 150 (by decide +kernel) (by decide +kernel), fun h => absurd h (by decide), fun h => absurd h (by decide), by decide⟩
set_option maxRecDepth 100000 in
theorem cco_29 : cm_cok ((3, 17), (1, 80)) := ⟨fun _ => ⟨(mi_80, ins_80), rfl, mo_80, fun h => absurd h (by decide), fun _ => by decide⟩, fun h => absurd h (by decide), fun h => absurd h (by decide), fun h => absurd h (by decide), by decide⟩
set_option maxRecDepth 100000 in
theorem cco_30 : cm_cok ((3, 28), (0, 49)) := ⟨fun _ => ⟨(mi_49, ins_49), rfl, mo_49, fun _ => cm_T_in 365 (by decide +kernel) (by decide +kernel), fun h => absurd rfl h⟩, fun h => absurd h (by decide), fun h => absurd h (by decide), fun h => absurd h (by decide), by decide⟩
set_option maxRecDepth 100000 in
theorem cco_31 : cm_cok ((3, 32), (0, 53)) := ⟨fun _ => ⟨(mi_53, ins_53), rfl, mo_53, fun _ => cm_T_in 373 (by decide +kernel) (by decide +kernel), fun h => absurd rfl h⟩, fun h => absurd h (by decide), fun h => absurd h (by decide), fun h => absurd h (by decide), by decide⟩
set_option maxRecDepth 100000 in
theorem cco_32 : cm_cok ((3, 36), (0, 51)) := ⟨fun _ => ⟨(mi_51, ins_51), rfl, mo_51, fun _ => cm_T_in 369 (by decide +kernel) (by decide +kernel), fun h => absurd rfl h⟩, fun h => absurd h (by decide), fun h => absurd h (by decide), fun h => absurd h (by decide), by decide⟩
set_option maxRecDepth 100000 in
theorem cco_33 : cm_cok ((3, 39), (0, 52)) := ⟨fun _ => ⟨(mi_52, ins_52), rfl, mo_52, fun _ => cm_T_in 377 (by decide +kernel) (by decide +kernel), fun h => absurd rfl h⟩, fun h => absurd h (by decide), fun h => absurd h (by decide), fun h => absurd h (by decide), by decide⟩
set_option maxRecDepth 100000 in
theorem cco_34 : cm_cok ((3, 42), (1, 81)) := ⟨fun _ => ⟨(mi_81, ins_81), rfl, mo_81, fun h => absurd h (by decide), fun _ => by decide⟩, fun h => absurd h (by decide), fun h => absurd h (by decide), fun h => absurd h (by decide), by decide⟩
set_option maxRecDepth 100000 in
theorem cco_35 : cm_cok ((3, 46), (0, 50)) := ⟨fun _ => ⟨(mi_50, ins_50), rfl, mo_50, fun _ => cm_T_in 383 (by decide +kernel) (by decide +kernel), fun h => absurd rfl h⟩, fun h => absurd h (by decide), fun h => absurd h (by decide), fun h => absurd h (by decide), by decide⟩
set_option maxRecDepth 100000 in
theorem cco_36 : cm_cok ((3, 50), (0, 29)) := ⟨fun _ => ⟨(mi_29, ins_29), rfl, mo_29, fun _ => cm_T_in 387 (by decide +kernel) (by decide +kernel), fun h => absurd rfl h⟩, fun h => absurd h (by decide), fun h => absurd h (by decide), fun h => absurd h (by decide), by decide⟩
set_option maxRecDepth 100000 in
theorem cco_37 : cm_cok ((4, 3), (0, 1000)) := ⟨fun h => absurd h (by decide), fun _ => cm_T_in 188 (by decide +kernel) (by decide +kernel), fun h => absurd h (by decide), fun h => absurd h (by decide), by decide⟩
set_option maxRecDepth 100000 in
theorem cco_38 : cm_cok ((4, 21), (0, 26)) := ⟨fun _ => ⟨(mi_26, ins_26), rfl, mo_26, fun _ => cm_T_in 190 (by decide +kernel) (by decide +kernel), fun h => absurd rfl h⟩, fun h => absurd h (by decide), fun h => absurd h (by decide), fun h => absurd h (by decide), by decide⟩
set_option maxRecDepth 100000 in
theorem cco_39 : cm_cok ((5, 1), (0, 1000)) := ⟨fun h => absurd h (by decide), fun _ => cm_T_in 61 (by decide +kernel) (by decide +kernel), fun h => absurd h (by decide), fun h => absurd h (by decide), by decide⟩
set_option maxRecDepth 100000 in
theorem cco_40 : cm_cok ((5, 9), (1, 0)) := ⟨fun _ => ⟨(mi_0, ins_0), rfl, mo_0, fun h => absurd h (by decide), fun _ => by decide⟩, fun h => absurd h (by decide), fun h => absurd h (by decide), fun h => absurd h (by decide), by decide⟩
set_option maxRecDepth 100000 in
theorem cco_41 : cm_cok ((5, 29), (1, 45)) := ⟨fun _ => ⟨(mi_45, ins_45), rfl, mo_45, fun h => absurd h (by decide), fun _ => by decide⟩, fun h => absurd h (by decide), fun h => absurd h (by decide), fun h => absurd h (by decide), by decide⟩
set_option maxRecDepth 100000 in
theorem cco_42 : cm_cok ((5, 36), (0, 42)) := ⟨fun _ => ⟨(mi_42, ins_42), rfl, mo_42, fun _ => cm_T_in 165 (by decide +kernel) (by decide +kernel), fun h => absurd rfl h⟩, fun h => absurd h (by decide), fun h => absurd h (by decide), fun h => absurd h (by decide), by decide⟩
set_option maxRecDepth 100000 in
theorem cco_43 : cm_cok ((5, 43), (0, 54)) := ⟨fun _ => ⟨(mi_54, ins_54), rfl, mo_54, fun _ => cm_T_in 185 (by decide +kernel) (by decide +kernel), fun h => absurd rfl h⟩, fun h => absurd h (by decide), fun h => absurd h (by decide), fun h => absurd h (by decide), by decide⟩
set_option maxRecDepth 100000 in
theorem cco_44 : cm_cok ((5, 55), (0, 80)) := ⟨fun _ => ⟨(mi_80, ins_80), rfl, mo_80, fun _ => cm_T_in 231 (by decide +kernel) (by decide +kernel), fun h => absurd rfl h⟩, fun h => absurd h (by decide), fun h => absurd h (by decide), fun h => absurd h (by decide), by decide⟩
set_option maxRecDepth 100000 in
theorem cco_45 : cm_cok ((5, 59), (0, 43)) := ⟨fun _ => ⟨(mi_43, ins_43), rfl, mo_43, fun _ => cm_T_in 234 (by decide +kernel) (by decide +kernel), fun h => absurd rfl h⟩, fun h => absurd h (by decide), fun h => absurd h (by decide), fun h => absurd h (by decide), by decide⟩
set_option maxRecDepth 100000 in
theorem cco_46 : cm_cok ((5, 68), (0, 81)) := ⟨fun _ => ⟨(mi_81, ins_81), rfl, mo_81, fun _ => cm_T_in 254 (by decide +kernel) (by decide +kernel), fun h => absurd rfl h⟩, fun h => absurd h (by decide), fun h => absurd h (by decide), fun h => absurd h (by decide), by decide⟩
set_option maxRecDepth 100000 in
theorem cco_47 : cm_cok ((5, 72), (0, 78)) := ⟨fun _ => ⟨(mi_78, ins_78), rfl, mo_78, fun _ => cm_T_in 257 (by decide +kernel) (by decide +kernel), fun h => absurd rfl h⟩, fun h => absurd h (by decide), fun h => absurd h (by decide), fun h => absurd h (by decide), by decide⟩
set_option maxRecDepth 100000 in
theorem cco_48 : cm_cok ((5, 76), (0, 30)) := ⟨fun _ => ⟨(mi_30, ins_30), rfl, mo_30, fun _ => cm_T_in 270 (by decide +kernel) (by decide +kernel), fun h => absurd rfl h⟩, fun h => absurd h (by decide), fun h => absurd h (by decide), fun h => absurd h (by decide), by decide⟩
set_option maxRecDepth 100000 in
theorem cco_49 : cm_cok ((5, 79), (0, 82)) := ⟨fun _ => ⟨(mi_82, ins_82), rfl, mo_82, fun _ => cm_T_in 274 (by decide +kernel) (by decide +kernel), fun h => absurd rfl h⟩, fun h => absurd h (by decide), fun h => absurd h (by decide), fun h => absurd h (by decide), by decide⟩
set_option maxRecDepth 100000 in
theorem cco_50 : cm_cok ((5, 85), (0, 1)) := ⟨fun _ => ⟨(mi_1, ins_1), rfl, mo_1, fun _ => cm_T_in 281 (by decide +kernel) (by decide +kernel), fun h => absurd rfl h⟩, fun h => absurd h (by decide), fun h => absurd h (by decide), fun h => absurd h (by decide), by decide⟩
set_option maxRecDepth 100000 in
theorem cco_51 : cm_cok ((5, 88), (0, 10)) := ⟨fun _ => ⟨(mi_10, ins_10), rfl, mo_10, fun _ => cm_T_in 321 (by decide +kernel) (by decide +kernel), fun h => absurd rfl h⟩, fun h => absurd h (by decide), fun h => absurd h (by decide), fun h => absurd h (by decide), by decide⟩
set_option maxRecDepth 100000 in
theorem cco_52 : cm_cok ((5, 92), (0, 32)) := ⟨fun _ => ⟨(mi_32, ins_32), rfl, mo_32, fun _ => cm_T_in 325 (by decide +kernel) (by decide +kernel), fun h => absurd rfl h⟩, fun h => absurd h (by decide), fun h => absurd h (by decide), fun h => absurd h (by decide), by decide⟩
set_option maxRecDepth 100000 in
theorem cco_53 : cm_cok ((5, 96), (0, 33)) := ⟨fun _ => ⟨(mi_33, ins_33), rfl, mo_33, fun _ => cm_T_in 340 (by decide +kernel) (by decide +kernel), fun h => absurd rfl h⟩, fun h => absurd h (by decide), fun h => absurd h (by decide), fun h => absurd h (by decide), by decide⟩
set_option maxRecDepth 100000 in
theorem cco_54 : cm_cok ((5, 104), (0, 37)) := ⟨fun _ => ⟨(mi_37, ins_37), rfl, mo_37, fun _ => cm_T_in 349 (by decide +kernel) (by decide +kernel), fun h => absurd rfl h⟩, fun h => absurd h (by decide), fun h => absurd h (by decide), fun h => absurd h (by decide), by decide⟩
set_option maxRecDepth 100000 in
theorem cco_55 : cm_cok ((5, 108), (0, 36)) := ⟨fun _ => ⟨(mi_36, ins_36), rfl, mo_36, fun _ => cm_T_in 353 (by decide +kernel) (by decide +kernel), fun h => absurd rfl h⟩, fun h => absurd h (by decide), fun h => absurd h (by decide), fun h => absurd h (by decide), by decide⟩
set_option maxRecDepth 100000 in
theorem cco_56 : cm_cok ((5, 114), (0, 48)) := ⟨fun _ => ⟨(mi_48, ins_48), rfl, mo_48, fun _ => cm_T_in 361 (by decide +kernel) (by decide +kernel), fun h => absurd rfl h⟩, fun h => absurd h (by decide), fun h => absurd h (by decide), fun h => absurd h (by decide), by decide⟩
set_option maxRecDepth 100000 in
theorem cco_57 : cm_cok ((5, 118), (0, 28)) := ⟨fun _ => ⟨(mi_28, ins_28), rfl, mo_28, fun _ => cm_T_in 388 (by decide +kernel) (by decide +kernel), fun h => absurd rfl h⟩, fun h => absurd h (by decide), fun h => absurd h (by decide), fun h => absurd h (by decide), by decide⟩
set_option maxRecDepth 100000 in
theorem cco_58 : cm_cok ((5, 133), (0, 31)) := ⟨fun _ => ⟨(mi_31, ins_31), rfl, mo_31, fun _ => cm_T_in 393 (by decide +kernel) (by decide +kernel), fun h => absurd rfl h⟩, fun h => absurd h (by decide), fun h => absurd h (by decide), fun h => absurd h (by decide), by decide⟩
set_option maxRecDepth 100000 in
theorem cco_59 : cm_cok ((5, 142), (0, 38)) := ⟨fun _ => ⟨(mi_38, ins_38), rfl, mo_38, fun _ => cm_T_in 398 (by decide +kernel) (by decide +kernel), fun h => absurd rfl h⟩, fun h => absurd h (by decide), fun h => absurd h (by decide), fun h => absurd h (by decide), by decide⟩
set_option maxRecDepth 100000 in
theorem cco_60 : cm_cok ((5, 145), (0, 21)) := ⟨fun _ => ⟨(mi_21, ins_21), rfl, mo_21, fun _ => cm_T_in 402 (by decide +kernel) (by decide +kernel), fun h => absurd rfl h⟩, fun h => absurd h (by decide), fun h => absurd h (by decide), fun h => absurd h (by decide), by decide⟩
set_option maxRecDepth 100000 in
theorem cco_61 : cm_cok ((5, 148), (0, 19)) := ⟨fun _ => ⟨(mi_19, ins_19), rfl, mo_19, fun _ => cm_T_in 421 (by decide +kernel) (by decide +kernel), fun h => absurd rfl h⟩, fun h => absurd h (by decide), fun h => absurd h (by decide), fun h => absurd h (by decide), by decide⟩
set_option maxRecDepth 100000 in
theorem cco_62 : cm_cok ((5, 151), (0, 18)) := ⟨fun _ => ⟨(mi_18, ins_18), rfl, mo_18, fun _ => cm_T_in 422 (by decide +kernel) (by decide +kernel), fun h => absurd rfl h⟩, fun h => absurd h (by decide), fun h => absurd h (by decide), fun h => absurd h (by decide), by decide⟩
set_option maxRecDepth 100000 in
theorem cco_63 : cm_cok ((5, 154), (0, 79)) := ⟨fun _ => ⟨(mi_79, ins_79), rfl, mo_79, fun _ => cm_T_in 423 (by decide +kernel) (by decide +kernel), fun h => absurd rfl h⟩, fun h => absurd h (by decide), fun h => absurd h (by decide), fun h => absurd h (by decide), by decide⟩
set_option maxRecDepth 100000 in
theorem cco_64 : cm_cok ((5, 157), (0, 15)) := ⟨fun _ => ⟨(mi_15, ins_15), rfl, mo_15, fun _ => cm_T_in 431 (by decide +kernel) (by decide +kernel), fun h => absurd rfl h⟩, fun h => absurd h (by decide), fun h => absurd h (by decide), fun h => absurd h (by decide), by decide⟩
set_option maxRecDepth 100000 in
theorem cco_65 : cm_cok ((5, 160), (0, 16)) := ⟨fun _ => ⟨(mi_16, ins_16), rfl, mo_16, fun _ => cm_T_in 439 (by decide +kernel) (by decide +kernel), fun h => absurd rfl h⟩, fun h => absurd h (by decide), fun h => absurd h (by decide), fun h => absurd h (by decide), by decide⟩
set_option maxRecDepth 100000 in
theorem cco_66 : cm_cok ((5, 163), (0, 17)) := ⟨fun _ => ⟨(mi_17, ins_17), rfl, mo_17, fun _ => cm_T_in 443 (by decide +kernel) (by decide +kernel), fun h => absurd rfl h⟩, fun h => absurd h (by decide), fun h => absurd h (by decide), fun h => absurd h (by decide), by decide⟩
set_option maxRecDepth 100000 in
theorem cco_67 : cm_cok ((5, 166), (0, 12)) := ⟨fun _ => ⟨(mi_12, ins_12), rfl, mo_12, fun _ => cm_T_in 447 (by decide +kernel) (by decide +kernel), fun h => absurd rfl h⟩, fun h => absurd h (by decide), fun h => absurd h (by decide), fun h => absurd h (by decide), by decide⟩
set_option maxRecDepth 100000 in
theorem cco_68 : cm_cok ((5, 169), (0, 13)) := ⟨fun _ => ⟨(mi_13, ins_13), rfl, mo_13, fun _ => cm_T_in 455 (by decide +kernel) (by decide +kernel), fun h => absurd rfl h⟩, fun h => absurd h (by decide), fun h => absurd h (by decide), fun h => absurd h (by decide), by decide⟩
set_option maxRecDepth 100000 in
theorem cco_69 : cm_cok ((5, 172), (0, 39)) := ⟨fun _ => ⟨(mi_39, ins_39), rfl, mo_39, fun _ => cm_T_in 463 (by decide +kernel) (by decide +kernel), fun h => absurd rfl h⟩, fun h => absurd h (by decide), fun h => absurd h (by decide), fun h => absurd h (by decide), by decide⟩
set_option maxRecDepth 100000 in
theorem cco_70 : cm_cok ((5, 178), (0, 23)) := ⟨fun _ => ⟨(mi_23, ins_23), rfl, mo_23, fun _ => cm_T_in 467 (by decide +kernel) (by decide +kernel), fun h => absurd rfl h⟩, fun h => absurd h (by decide), fun h => absurd h (by decide), fun h => absurd h (by decide), by decide⟩
set_option maxRecDepth 100000 in
theorem cco_71 : cm_cok ((5, 181), (0, 40)) := ⟨fun _ => ⟨(mi_40, ins_40), rfl, mo_40, fun _ => cm_T_in 472 (by decide +kernel) (by decide +kernel), fun h => absurd rfl h⟩, fun h => absurd h (by decide), fun h => absurd h (by decide), fun h => absurd h (by decide), by decide⟩
set_option maxRecDepth 100000 in
theorem cco_72 : cm_cok ((5, 184), (0, 24)) := ⟨fun _ => ⟨(mi_24, ins_24), rfl, mo_24, fun _ => cm_T_in 476 (by decide +kernel) (by decide +kernel), fun h => absurd rfl h⟩, fun h => absurd h (by decide), fun h => absurd h (by decide), fun h => absurd h (by decide), by decide⟩
set_option maxRecDepth 100000 in
theorem cco_73 : cm_cok ((5, 190), (0, 27)) := ⟨fun _ => ⟨(mi_27, ins_27), rfl, mo_27, fun _ => cm_T_in 484 (by decide +kernel) (by decide +kernel), fun h => absurd rfl h⟩, fun h => absurd h (by decide), fun h => absurd h (by decide), fun h => absurd h (by decide), by decide⟩
set_option maxRecDepth 100000 in
theorem cco_74 : cm_cok ((5, 193), (0, 22)) := ⟨fun _ => ⟨(mi_22, ins_22), rfl, mo_22, fun _ => cm_T_in 485 (by decide +kernel) (by decide +kernel), fun h => absurd rfl h⟩, fun h => absurd h (by decide), fun h => absurd h (by decide), fun h => absurd h (by decide), by decide⟩
set_option maxRecDepth 100000 in
theorem cco_75 : cm_cok ((5, 196), (0, 41)) := ⟨fun _ => ⟨(mi_41, ins_41), rfl, mo_41, fun _ => cm_T_in 493 (by decide +kernel) (by decide +kernel), fun h => absurd rfl h⟩, fun h => absurd h (by decide), fun h => absurd h (by decide), fun h => absurd h (by decide), by decide⟩
set_option maxRecDepth 100000 in
theorem cco_76 : cm_cok ((5, 199), (0, 25)) := ⟨fun _ => ⟨(mi_25, ins_25), rfl, mo_25, fun _ => cm_T_in 497 (by decide +kernel) (by decide +kernel), fun h => absurd rfl h⟩, fun h => absurd h (by decide), fun h => absurd h (by decide), fun h => absurd h (by decide), by decide⟩
set_option maxRecDepth 100000 in
theorem cco_77 : cm_cok ((5, 202), (0, 46)) := ⟨fun _ => ⟨(mi_46, ins_46), rfl, mo_46, fun _ => cm_T_in 513 (by decide +kernel) (by decide +kernel), fun h => absurd rfl h⟩, fun h => absurd h (by decide), fun h => absurd h (by decide), fun h => absurd h (by decide), by decide⟩
set_option maxRecDepth 100000 in
theorem cco_78 : cm_cok ((5, 206), (0, 47)) := ⟨fun _ => ⟨(mi_47, ins_47), rfl, mo_47, fun _ => cm_T_in 518 (by decide +kernel) (by decide +kernel), fun h => absurd rfl h⟩, fun h => absurd h (by decide), fun h => absurd h (by decide), fun h => absurd h (by decide), by decide⟩
set_option maxRecDepth 100000 in
theorem cco_79 : cm_cok ((5, 210), (0, 44)) := ⟨fun _ => ⟨(mi_44, ins_44), rfl, mo_44, fun _ => cm_T_in 534 (by decide +kernel) (by decide +kernel), fun h => absurd rfl h⟩, fun h => absurd h (by decide), fun h => absurd h (by decide), fun h => absurd h (by decide), by decide⟩
set_option maxRecDepth 100000 in
theorem cco_80 : cm_cok ((5, 213), (0, 83)) := ⟨fun _ => ⟨(mi_83, ins_83), rfl, mo_83, fun _ => cm_T_in 542 (by decide +kernel) (by decide +kernel), fun h => absurd rfl h⟩, fun h => absurd h (by decide), fun h => absurd h (by decide), fun h => absurd h (by decide), by decide⟩
set_option maxRecDepth 100000 in
theorem cco_81 : cm_cok ((5, 224), (0, 29)) := ⟨fun _ => ⟨(mi_29, ins_29), rfl, mo_29, fun _ => cm_T_in 261 (by decide +kernel) (by decide +kernel), fun h => absurd rfl h⟩, fun h => absurd h (by decide), fun h => absurd h (by decide), fun h => absurd h (by decide), by decide⟩
set_option maxRecDepth 100000 in
theorem cco_82 : cm_cok ((6, 1), (0, 1000)) := ⟨fun h => absurd h (by decide), fun _ => cm_T_in 554 (by decide +kernel) (by decide +kernel), fun h => absurd h (by decide), fun h => absurd h (by decide), by decide⟩
set_option maxRecDepth 100000 in
theorem cco_83 : cm_cok ((6, 45), (0, 85)) := ⟨fun _ => ⟨(mi_85, ins_85), rfl, mo_85, fun _ => cm_T_in 615 (by decide +kernel) (by decide +kernel), fun h => absurd rfl h⟩, fun h => absurd h (by decide), fun h => absurd h (by decide), fun h => absurd h (by decide), by decide⟩
set_option maxRecDepth 100000 in
theorem cco_84 : cm_cok ((6, 49), (0, 89)) := ⟨fun _ => ⟨(mi_89, ins_89), rfl, mo_89, fun _ => cm_T_in 659 (by decide +kernel) (by decide +kernel), fun h => absurd rfl h⟩, fun h => absurd h (by decide), fun h => absurd h (by decide), fun h => absurd h (by decide), by decide⟩
set_option maxRecDepth 100000 in
theorem cco_85 : cm_cok ((6, 57), (0, 91)) := ⟨fun _ => ⟨(mi_91, ins_91), rfl, mo_91, fun _ => cm_T_in 622 (by decide +kernel) (by decide +kernel), fun h => absurd rfl h⟩, fun h => absurd h (by decide), fun h => absurd h (by decide), fun h => absurd h (by decide), by decide⟩
set_option maxRecDepth 100000 in
theorem cco_86 : cm_cok ((6, 60), (0, 95)) := ⟨fun _ => ⟨(mi_95, ins_95), rfl, mo_95, fun _ => cm_T_in 675 (by decide +kernel) (by decide +kernel), fun h => absurd rfl h⟩, fun h => absurd h (by decide), fun h => absurd h (by decide), fun h => absurd h (by decide), by decide⟩
set_option maxRecDepth 100000 in
theorem cco_87 : cm_cok ((6, 67), (0, 96)) := ⟨fun _ => ⟨(mi_96, ins_96), rfl, mo_96, fun _ => cm_T_in 671 (by decide +kernel) (by decide +kernel), fun h => absurd rfl h⟩, fun h => absurd h (by decide), fun h => absurd h (by decide), fun h => absurd h (by decide), by decide⟩
set_option maxRecDepth 100000 in
theorem cco_88 : cm_cok ((6, 70), (0, 97)) := ⟨fun _ => ⟨(mi_97, ins_97), rfl, mo_97, fun _ => cm_T_in 679 (by decide +kernel) (by decide +kernel), fun h => absurd rfl h⟩, fun h => absurd h (by decide), fun h => absurd h (by decide), fun h => absurd h (by decide), by decide⟩
set_option maxRecDepth 100000 in
theorem cco_89 : cm_cok ((6, 74), (0, 98)) := ⟨fun _ => ⟨(mi_98, ins_98), rfl, mo_98, fun _ => cm_T_in 683 (by decide +kernel) (by decide +kernel), fun h => absurd rfl h⟩, fun h => absurd h (by decide), fun h => absurd h (by decide), fun h => absurd h (by decide), by decide⟩
set_option maxRecDepth 100000 in
theorem cco_90 : cm_cok ((6, 78), (0, 90)) := ⟨fun _ => ⟨(mi_90, ins_90), rfl, mo_90, fun _ => cm_T_in 703 (by decide +kernel) (by decide +kernel), fun h => absurd rfl h⟩, fun h => absurd h (by decide), fun h => absurd h (by decide), fun h => absurd h (by decide), by decide⟩
set_option maxRecDepth 100000 in
theorem cco_91 : cm_cok ((6, 82), (0, 101)) := ⟨fun _ => ⟨(mi_101, ins_101), rfl, mo_101, fun _ => cm_T_in 727 (by decide +kernel) (by decide +kernel), fun h => absurd rfl h⟩, fun h => absurd h (by decide), fun h => absurd h (by decide), fun h => absurd h (by decide), by decide⟩
set_option maxRecDepth 100000 in
theorem cco_92 : cm_cok ((6, 85), (0, 104)) := ⟨fun _ => ⟨(mi_104, ins_104), rfl, mo_104, fun _ => cm_T_in 630 (by decide +kernel) (by decide +kernel), fun h => absurd rfl h⟩, fun h => absurd h (by decide), fun h => absurd h (by decide), fun h => absurd h (by decide), by decide⟩
set_option maxRecDepth 100000 in
theorem cco_93 : cm_cok ((6, 88), (0, 105)) := ⟨fun _ => ⟨(mi_105, ins_105), rfl, mo_105, fun _ => cm_T_in 633 (by decide +kernel) (by decide +kernel), fun h => absurd rfl h⟩, fun h => absurd h (by decide), fun h => absurd h (by decide), fun h => absurd h (by decide), by decide⟩
set_option maxRecDepth 100000 in
theorem cco_94 : cm_cok ((6, 91), (0, 87)) := ⟨fun _ => ⟨(mi_87, ins_87), rfl, mo_87, fun _ => cm_T_in 640 (by decide +kernel) (by decide +kernel), fun h => absurd rfl h⟩, fun h => absurd h (by decide), fun h => absurd h (by decide), fun h => absurd h (by decide), by decide⟩
set_option maxRecDepth 100000 in
theorem cco_95 : cm_cok ((6, 94), (0, 107)) := ⟨fun _ => ⟨(mi_107, ins_107), rfl, mo_107, fun _ => cm_T_in 643 (by decide +kernel) (by decide +kernel), fun h => absurd rfl h⟩, fun h => absurd h (by decide), fun h => absurd h (by decide), fun h => absurd h (by decide), by decide⟩
set_option maxRecDepth 100000 in
theorem cco_96 : cm_cok ((6, 98), (0, 86)) := ⟨fun _ => ⟨(mi_86, ins_86), rfl, mo_86, fun _ => cm_T_in 655 (by decide +kernel) (by decide +kernel), fun h => absurd rfl h⟩, fun h => absurd h (by decide), fun h => absurd h (by decide), fun h => absurd h (by decide), by decide⟩
set_option maxRecDepth 100000 in
theorem cco_97 : cm_cok ((6, 101), (0, 99)) := ⟨fun _ => ⟨(mi_99, ins_99), rfl, mo_99, fun _ => cm_T_in 667 (by decide +kernel) (by decide +kernel), fun h => absurd rfl h⟩, fun h => absurd h (by decide), fun h => absurd h (by decide), fun h => absurd h (by decide), by decide⟩
set_option maxRecDepth 100000 in
theorem cco_98 : cm_cok ((6, 104), (0, 111)) := ⟨fun _ => ⟨(mi_111, ins_111), rfl, mo_111, fun _ => cm_T_in 687 (by decide +kernel) (by decide +kernel), fun h => absurd rfl h⟩, fun h => absurd h (by decide), fun h => absurd h (by decide), fun h => absurd h (by decide), by decide⟩
set_option maxRecDepth 100000 in
theorem cco_99 : cm_cok ((6, 108), (0, 103)) := ⟨fun _ => ⟨(mi_103, ins_103), rfl, mo_103, fun _ => cm_T_in 711 (by decide +kernel) (by decide +kernel), fun h => absurd rfl h⟩, fun h => absurd h (by decide), fun h => absurd h (by decide), fun h => absurd h (by decide), by decide⟩
set_option maxRecDepth 100000 in
theorem cco_100 : cm_cok ((6, 111), (0, 100)) := ⟨fun _ => ⟨(mi_100, ins_100), rfl, mo_100, fun _ => cm_T_in 699 (by decide +kernel) (by decide +kernel), fun h => absurd rfl h⟩, fun h => absurd h (by decide), fun h => absurd h (by decide), fun h => absurd h (by decide), by decide⟩
set_option maxRecDepth 100000 in
theorem cco_101 : cm_cok ((6, 114), (0, 114)) := ⟨fun _ => ⟨(mi_114, ins_114), rfl, mo_114, fun _ => cm_T_in 707 (by decide +kernel) (by decide +kernel), fun h => absurd rfl h⟩, fun h => absurd h (by decide), fun h => absurd h (by decide), fun h => absurd h (by decide), by decide⟩
set_option maxRecDepth 100000 in
theorem cco_102 : cm_cok ((6, 117), (0, 102)) := ⟨fun _ => ⟨(mi_102, ins_102), rfl, mo_102, fun _ => cm_T_in 723 (by decide +kernel) (by decide +kernel), fun h => absurd rfl h⟩, fun h => absurd h (by decide), fun h => absurd h (by decide), fun h => absurd h (by decide), by decide⟩
set_option maxRecDepth 100000 in
theorem cco_103 : cm_cok ((6, 120), (0, 118)) := ⟨fun _ => ⟨(mi_118, ins_118), rfl, mo_118, fun _ => cm_T_in 735 (by decide +kernel) (by decide +kernel), fun h => absurd rfl h⟩, fun h => absurd h (by decide), fun h => absurd h (by decide), fun h => absurd h (by decide), by decide⟩
set_option maxRecDepth 100000 in
theorem cco_104 : cm_cok ((6, 123), (0, 121)) := ⟨fun _ => ⟨(mi_121, ins_121), rfl, mo_121, fun _ => cm_T_in 743 (by decide +kernel) (by decide +kernel), fun h => absurd rfl h⟩, fun h => absurd h (by decide), fun h => absurd h (by decide), fun h => absurd h (by decide), by decide⟩
set_option maxRecDepth 100000 in
theorem cco_105 : cm_cok ((6, 127), (0, 120)) := ⟨fun _ => ⟨(mi_120, ins_120), rfl, mo_120, fun _ => cm_T_in 747 (by decide +kernel) (by decide +kernel), fun h => absurd rfl h⟩, fun h => absurd h (by decide), fun h => absurd h (by decide), fun h => absurd h (by decide), by decide⟩
set_option maxRecDepth 100000 in
theorem cco_106 : cm_cok ((6, 130), (0, 122)) := ⟨fun _ => ⟨(mi_122, ins_122), rfl, mo_122, fun _ => cm_T_in 751 (by decide +kernel) (by decide +kernel), fun h => absurd rfl h⟩, fun h => absurd h (by decide), fun h => absurd h (by decide), fun h => absurd h (by decide), by decide⟩
set_option maxRecDepth 100000 in
theorem cco_107 : cm_cok ((6, 136), (0, 124)) := ⟨fun _ => ⟨(mi_124, ins_124), rfl, mo_124, fun _ => cm_T_in 759 (by decide +kernel) (by decide +kernel), fun h => absurd rfl h⟩, fun h => absurd h (by decide), fun h => absurd h (by decide), fun h => absurd h (by decide), by decide⟩
set_option maxRecDepth 100000 in
theorem cco_108 : cm_cok ((6, 139), (0, 126)) := ⟨fun _ => ⟨(mi_126, ins_126), rfl, mo_126, fun _ => cm_T_in 767 (by decide +kernel) (by decide +kernel), fun h => absurd rfl h⟩, fun h => absurd h (by decide), fun h => absurd h (by decide), fun h => absurd h (by decide), by decide⟩
set_option maxRecDepth 100000 in
theorem cco_109 : cm_cok ((6, 142), (0, 88)) := ⟨fun _ => ⟨(mi_88, ins_88), rfl, mo_88, fun _ => cm_T_in 775 (by decide +kernel) (by decide +kernel), fun h => absurd rfl h⟩, fun h => absurd h (by decide), fun h => absurd h (by decide), fun h => absurd h (by decide), by decide⟩
set_option maxRecDepth 100000 in
theorem cco_110 : cm_cok ((6, 153), (0, 132)) := ⟨fun _ => ⟨(mi_132, ins_132), rfl, mo_132, fun _ => cm_T_in 803 (by decide +kernel) (by decide +kernel), fun h => absurd rfl h⟩, fun h => absurd h (by decide), fun h => absurd h (by decide), fun h => absurd h (by decide), by decide⟩
set_option maxRecDepth 100000 in
theorem cco_111 : cm_cok ((6, 156), (0, 133)) := ⟨fun _ => ⟨(mi_133, ins_133), rfl, mo_133, fun _ => cm_T_in 807 (by decide +kernel) (by decide +kernel), fun h => absurd rfl h⟩, fun h => absurd h (by decide), fun h => absurd h (by decide), fun h => absurd h (by decide), by decide⟩
set_option maxRecDepth 100000 in
theorem cco_112 : cm_cok ((6, 163), (0, 134)) := ⟨fun _ => ⟨(mi_134, ins_134), rfl, mo_134, fun _ => cm_T_in 811 (by decide +kernel) (by decide +kernel), fun h => absurd rfl h⟩, fun h => absurd h (by decide), fun h => absurd h (by decide), fun h => absurd h (by decide), by decide⟩
set_option maxRecDepth 100000 in
theorem cco_113 : cm_cok ((6, 166), (0, 135)) := ⟨fun _ => ⟨(mi_135, ins_135), rfl, mo_135, fun _ => cm_T_in 799 (by decide +kernel) (by decide +kernel), fun h => absurd rfl h⟩, fun h => absurd h (by decide), fun h => absurd h (by decide), fun h => absurd h (by decide), by decide⟩
set_option maxRecDepth 100000 in
theorem cco_114 : cm_cok ((6, 169), (0, 136)) := ⟨fun _ => ⟨(mi_136, ins_136), rfl, mo_136, fun _ => cm_T_in 795 (by decide +kernel) (by decide +kernel), fun h => absurd rfl h⟩, fun h => absurd h (by decide), fun h => absurd h (by decide), fun h => absurd h (by decide), by decide⟩
set_option maxRecDepth 100000 in
theorem cco_115 : cm_cok ((7, 9), (0, 55)) := ⟨fun _ => ⟨(mi_55, ins_55), rfl, mo_55, fun _ => cm_T_in 58 (by decide +kernel) (by decide +kernel), fun h => absurd rfl h⟩, fun h => absurd h (by decide), fun h => absurd h (by decide), fun h => absurd h (by decide), by decide⟩
set_option maxRecDepth 100000 in
theorem cco_116 : cm_cok ((7, 12), (0, 84)) := ⟨fun _ => ⟨(mi_84, ins_84), rfl, mo_84, fun _ => cm_T_in 551 (by decide +kernel) (by decide +kernel), fun h => absurd rfl h⟩, fun h => absurd h (by decide), fun h => absurd h (by decide), fun h => absurd h (by decide), by decide⟩
set_option maxRecDepth 100000 in
theorem cco_117 : cm_cok ((7, 13), (0, 56)) := ⟨fun _ => ⟨(mi_56, ins_56), rfl, mo_56, fun _ => cm_T_in 223 (by decide +kernel) (by decide +kernel), fun h => absurd rfl h⟩, fun h => absurd h (by decide), fun h => absurd h (by decide), fun h => absurd h (by decide), by decide⟩
set_option maxRecDepth 100000 in
theorem cco_118 : cm_cok ((7, 17), (0, 106)) := ⟨fun _ => ⟨(mi_106, ins_106), rfl, mo_106, fun _ => cm_T_in 626 (by decide +kernel) (by decide +kernel), fun h => absurd rfl h⟩, fun h => absurd h (by decide), fun h => absurd h (by decide), fun h => absurd h (by decide), by decide⟩
set_option maxRecDepth 100000 in
theorem cco_119 : cm_cok ((7, 18), (0, 57)) := ⟨fun _ => ⟨(mi_57, ins_57), rfl, mo_57, fun _ => cm_T_in 250 (by decide +kernel) (by decide +kernel), fun h => absurd rfl h⟩, fun h => absurd h (by decide), fun h => absurd h (by decide), fun h => absurd h (by decide), by decide⟩
set_option maxRecDepth 100000 in
theorem cco_120 : cm_cok ((7, 21), (0, 108)) := ⟨fun _ => ⟨(mi_108, ins_108), rfl, mo_108, fun _ => cm_T_in 636 (by decide +kernel) (by decide +kernel), fun h => absurd rfl h⟩, fun h => absurd h (by decide), fun h => absurd h (by decide), fun h => absurd h (by decide), by decide⟩
set_option maxRecDepth 100000 in
theorem cco_121 : cm_cok ((7, 22), (0, 58)) := ⟨fun _ => ⟨(mi_58, ins_58), rfl, mo_58, fun _ => cm_T_in 262 (by decide +kernel) (by decide +kernel), fun h => absurd rfl h⟩, fun h => absurd h (by decide), fun h => absurd h (by decide), fun h => absurd h (by decide), by decide⟩
set_option maxRecDepth 100000 in
theorem cco_122 : cm_cok ((7, 26), (0, 109)) := ⟨fun _ => ⟨(mi_109, ins_109), rfl, mo_109, fun _ => cm_T_in 647 (by decide +kernel) (by decide +kernel), fun h => absurd rfl h⟩, fun h => absurd h (by decide), fun h => absurd h (by decide), fun h => absurd h (by decide), by decide⟩
set_option maxRecDepth 100000 in
theorem cco_123 : cm_cok ((7, 27), (0, 59)) := ⟨fun _ => ⟨(mi_59, ins_59), rfl, mo_59, fun _ => cm_T_in 266 (by decide +kernel) (by decide +kernel), fun h => absurd rfl h⟩, fun h => absurd h (by decide), fun h => absurd h (by decide), fun h => absurd h (by decide), by decide⟩
set_option maxRecDepth 100000 in
theorem cco_124 : cm_cok ((7, 30), (0, 110)) := ⟨fun _ => ⟨(mi_110, ins_110), rfl, mo_110, fun _ => cm_T_in 651 (by decide +kernel) (by decide +kernel), fun h => absurd rfl h⟩, fun h => absurd h (by decide), fun h => absurd h (by decide), fun h => absurd h (by decide), by decide⟩
set_option maxRecDepth 100000 in
theorem cco_125 : cm_cok ((7, 31), (0, 60)) := ⟨fun _ => ⟨(mi_60, ins_60), rfl, mo_60, fun _ => cm_T_in 277 (by decide +kernel) (by decide +kernel), fun h => absurd rfl h⟩, fun h => absurd h (by decide), fun h => absurd h (by decide), fun h => absurd h (by decide), by decide⟩
set_option maxRecDepth 100000 in
theorem cco_126 : cm_cok ((7, 34), (0, 112)) := ⟨fun _ => ⟨(mi_112, ins_112), rfl, mo_112, fun _ => cm_T_in 663 (by decide +kernel) (by decide +kernel), fun h => absurd rfl h⟩, fun h => absurd h (by decide), fun h => absurd h (by decide), fun h => absurd h (by decide), by decide⟩
set_option maxRecDepth 100000 in
theorem cco_127 : cm_cok ((7, 35), (0, 61)) := ⟨fun _ => ⟨(mi_61, ins_61), rfl, mo_61, fun _ => cm_T_in 336 (by decide +kernel) (by decide +kernel), fun h => absurd rfl h⟩, fun h => absurd h (by decide), fun h => absurd h (by decide), fun h => absurd h (by decide), by decide⟩
set_option maxRecDepth 100000 in
theorem cco_128 : cm_cok ((7, 38), (0, 113)) := ⟨fun _ => ⟨(mi_113, ins_113), rfl, mo_113, fun _ => cm_T_in 691 (by decide +kernel) (by decide +kernel), fun h => absurd rfl h⟩, fun h => absurd h (by decide), fun h => absurd h (by decide), fun h => absurd h (by decide), by decide⟩
set_option maxRecDepth 100000 in
theorem cco_129 : cm_cok ((7, 39), (0, 62)) := ⟨fun _ => ⟨(mi_62, ins_62), rfl, mo_62, fun _ => cm_T_in 345 (by decide +kernel) (by decide +kernel), fun h => absurd rfl h⟩, fun h => absurd h (by decide), fun h => absurd h (by decide), fun h => absurd h (by decide), by decide⟩
set_option maxRecDepth 100000 in
theorem cco_130 : cm_cok ((7, 42), (0, 115)) := ⟨fun _ => ⟨(mi_115, ins_115), rfl, mo_115, fun _ => cm_T_in 695 (by decide +kernel) (by decide +kernel), fun h => absurd rfl h⟩, fun h => absurd h (by decide), fun h => absurd h (by decide), fun h => absurd h (by decide), by decide⟩
set_option maxRecDepth 100000 in
theorem cco_131 : cm_cok ((7, 43), (0, 63)) := ⟨fun _ => ⟨(mi_63, ins_63), rfl, mo_63, fun _ => cm_T_in 357 (by decide +kernel) (by decide +kernel), fun h => absurd rfl h⟩, fun h => absurd h (by decide), fun h => absurd h (by decide), fun h => absurd h (by decide), by decide⟩
set_option maxRecDepth 100000 in
theorem cco_132 : cm_cok ((7, 47), (0, 138)) := ⟨fun _ => ⟨(mi_138, ins_138), rfl, mo_138, fun _ => cm_T_in 815 (by decide +kernel) (by decide +kernel), fun h => absurd rfl h⟩, fun h => absurd h (by decide), fun h => absurd h (by decide), fun h => absurd h (by decide), by decide⟩
set_option maxRecDepth 100000 in
theorem cco_133 : cm_cok ((7, 48), (0, 64)) := ⟨fun _ => ⟨(mi_64, ins_64), rfl, mo_64, fun _ => cm_T_in 389 (by decide +kernel) (by decide +kernel), fun h => absurd rfl h⟩, fun h => absurd h (by decide), fun h => absurd h (by decide), fun h => absurd h (by decide), by decide⟩
set_option maxRecDepth 100000 in
theorem cco_134 : cm_cok ((7, 51), (0, 116)) := ⟨fun _ => ⟨(mi_116, ins_116), rfl, mo_116, fun _ => cm_T_in 715 (by decide +kernel) (by decide +kernel), fun h => absurd rfl h⟩, fun h => absurd h (by decide), fun h => absurd h (by decide), fun h => absurd h (by decide), by decide⟩
set_option maxRecDepth 100000 in
theorem cco_135 : cm_cok ((7, 52), (0, 65)) := ⟨fun _ => ⟨(mi_65, ins_65), rfl, mo_65, fun _ => cm_T_in 394 (by decide +kernel) (by decide +kernel), fun h => absurd rfl h⟩, fun h => absurd h (by decide), fun h => absurd h (by decide), fun h => absurd h (by decide), by decide⟩
set_option maxRecDepth 100000 in
theorem cco_136 : cm_cok ((7, 55), (0, 117)) := ⟨fun _ => ⟨(mi_117, ins_117), rfl, mo_117, fun _ => cm_T_in 719 (by decide +kernel) (by decide +kernel), fun h => absurd rfl h⟩, fun h => absurd h (by decide), fun h => absurd h (by decide), fun h => absurd h (by decide), by decide⟩
set_option maxRecDepth 100000 in
theorem cco_137 : cm_cok ((7, 56), (0, 66)) := ⟨fun _ => ⟨(mi_66, ins_66), rfl, mo_66, fun _ => cm_T_in 427 (by decide +kernel) (by decide +kernel), fun h => absurd rfl h⟩, fun h => absurd h (by decide), fun h => absurd h (by decide), fun h => absurd h (by decide), by decide⟩
set_option maxRecDepth 100000 in
theorem cco_138 : cm_cok ((7, 59), (0, 119)) := ⟨fun _ => ⟨(mi_119, ins_119), rfl, mo_119, fun _ => cm_T_in 731 (by decide +kernel) (by decide +kernel), fun h => absurd rfl h⟩, fun h => absurd h (by decide), fun h => absurd h (by decide), fun h => absurd h (by decide), by decide⟩
set_option maxRecDepth 100000 in
theorem cco_139 : cm_cok ((7, 60), (0, 67)) := ⟨fun _ => ⟨(mi_67, ins_67), rfl, mo_67, fun _ => cm_T_in 459 (by decide +kernel) (by decide +kernel), fun h => absurd rfl h⟩, fun h => absurd h (by decide), fun h => absurd h (by decide), fun h => absurd h (by decide), by decide⟩
set_option maxRecDepth 100000 in
theorem cco_140 : cm_cok ((7, 63), (0, 123)) := ⟨fun _ => ⟨(mi_123, ins_123), rfl, mo_123, fun _ => cm_T_in 739 (by decide +kernel) (by decide +kernel), fun h => absurd rfl h⟩, fun h => absurd h (by decide), fun h => absurd h (by decide), fun h => absurd h (by decide), by decide⟩
set_option maxRecDepth 100000 in
theorem cco_141 : cm_cok ((7, 64), (0, 68)) := ⟨fun _ => ⟨(mi_68, ins_68), rfl, mo_68, fun _ => cm_T_in 480 (by decide +kernel) (by decide +kernel), fun h => absurd rfl h⟩, fun h => absurd h (by decide), fun h => absurd h (by decide), fun h => absurd h (by decide), by decide⟩
set_option maxRecDepth 100000 in
theorem cco_142 : cm_cok ((7, 67), (0, 125)) := ⟨fun _ => ⟨(mi_125, ins_125), rfl, mo_125, fun _ => cm_T_in 755 (by decide +kernel) (by decide +kernel), fun h => absurd rfl h⟩, fun h => absurd h (by decide), fun h => absurd h (by decide), fun h => absurd h (by decide), by decide⟩
set_option maxRecDepth 100000 in
theorem cco_143 : cm_cok ((7, 68), (0, 69)) := ⟨fun _ => ⟨(mi_69, ins_69), rfl, mo_69, fun _ => cm_T_in 489 (by decide +kernel) (by decide +kernel), fun h => absurd rfl h⟩, fun h => absurd h (by decide), fun h => absurd h (by decide), fun h => absurd h (by decide), by decide⟩
set_option maxRecDepth 100000 in
theorem cco_144 : cm_cok ((7, 71), (0, 127)) := ⟨fun _ => ⟨(mi_127, ins_127), rfl, mo_127, fun _ => cm_T_in 763 (by decide +kernel) (by decide +kernel), fun h => absurd rfl h⟩, fun h => absurd h (by decide), fun h => absurd h (by decide), fun h => absurd h (by decide), by decide⟩
set_option maxRecDepth 100000 in
theorem cco_145 : cm_cok ((7, 72), (0, 70)) := ⟨fun _ => ⟨(mi_70, ins_70), rfl, mo_70, fun _ => cm_T_in 501 (by decide +kernel) (by decide +kernel), fun h => absurd rfl h⟩, fun h => absurd h (by decide), fun h => absurd h (by decide), fun h => absurd h (by decide), by decide⟩
set_option maxRecDepth 100000 in
theorem cco_146 : cm_cok ((7, 75), (0, 128)) := ⟨fun _ => ⟨(mi_128, ins_128), rfl, mo_128, fun _ => cm_T_in 771 (by decide +kernel) (by decide +kernel), fun h => absurd rfl h⟩, fun h => absurd h (by decide), fun h => absurd h (by decide), fun h => absurd h (by decide), by decide⟩
set_option maxRecDepth 100000 in
theorem cco_147 : cm_cok ((7, 76), (0, 71)) := ⟨fun _ => ⟨(mi_71, ins_71), rfl, mo_71, fun _ => cm_T_in 505 (by decide +kernel) (by decide +kernel), fun h => absurd rfl h⟩, fun h => absurd h (by decide), fun h => absurd h (by decide), fun h => absurd h (by decide), by decide⟩
set_option maxRecDepth 100000 in
theorem cco_148 : cm_cok ((7, 80), (0, 129)) := ⟨fun _ => ⟨(mi_129, ins_129), rfl, mo_129, fun _ => cm_T_in 778 (by decide +kernel) (by decide +kernel), fun h => absurd rfl h⟩, fun h => absurd h (by decide), fun h => absurd h (by decide), fun h => absurd h (by decide), by decide⟩
set_option maxRecDepth 100000 in
theorem cco_149 : cm_cok ((7, 83), (0, 72)) := ⟨fun _ => ⟨(mi_72, ins_72), rfl, mo_72, fun _ => cm_T_in 509 (by decide +kernel) (by decide +kernel), fun h => absurd rfl h⟩, fun h => absurd h (by decide), fun h => absurd h (by decide), fun h => absurd h (by decide), by decide⟩
set_option maxRecDepth 100000 in
theorem cco_150 : cm_cok ((7, 87), (0, 130)) := ⟨fun _ => ⟨(mi_130, ins_130), rfl, mo_130, fun _ => cm_T_in 782 (by decide +kernel) (by decide +kernel), fun h => absurd rfl h⟩, fun h => absurd h (by decide), fun h => absurd h (by decide), fun h => absurd h (by decide), by decide⟩
set_option maxRecDepth 100000 in
theorem cco_151 : cm_cok ((7, 88), (0, 73)) := ⟨fun _ => ⟨(mi_73, ins_73), rfl, mo_73, fun _ => cm_T_in 522 (by decide +kernel) (by decide +kernel), fun h => absurd rfl h⟩, fun h => absurd h (by decide), fun h => absurd h (by decide), fun h => absurd h (by decide), by decide⟩
set_option maxRecDepth 100000 in
theorem cco_152 : cm_cok ((7, 91), (0, 131)) := ⟨fun _ => ⟨(mi_131, ins_131), rfl, mo_131, fun _ => cm_T_in 787 (by decide +kernel) (by decide +kernel), fun h => absurd rfl h⟩, fun h => absurd h (by decide), fun h => absurd h (by decide), fun h => absurd h (by decide), by decide⟩
set_option maxRecDepth 100000 in
theorem cco_153 : cm_cok ((7, 92), (0, 74)) := ⟨fun _ => ⟨(mi_74, ins_74), rfl, mo_74, fun _ => cm_T_in 526 (by decide +kernel) (by decide +kernel), fun h => absurd rfl h⟩, fun h => absurd h (by decide), fun h => absurd h (by decide), fun h => absurd h (by decide), by decide⟩
set_option maxRecDepth 100000 in
theorem cco_154 : cm_cok ((7, 95), (0, 137)) := ⟨fun _ => ⟨(mi_137, ins_137), rfl, mo_137, fun _ => cm_T_in 791 (by decide +kernel) (by decide +kernel), fun h => absurd rfl h⟩, fun h => absurd h (by decide), fun h => absurd h (by decide), fun h => absurd h (by decide), by decide⟩
set_option maxRecDepth 100000 in
theorem cco_155 : cm_cok ((7, 96), (0, 75)) := ⟨fun _ => ⟨(mi_75, ins_75), rfl, mo_75, fun _ => cm_T_in 530 (by decide +kernel) (by decide +kernel), fun h => absurd rfl h⟩, fun h => absurd h (by decide), fun h => absurd h (by decide), fun h => absurd h (by decide), by decide⟩
set_option maxRecDepth 100000 in
theorem cco_156 : cm_cok ((7, 99), (0, 92)) := ⟨fun _ => ⟨(mi_92, ins_92), rfl, mo_92, fun _ => cm_T_in 607 (by decide +kernel) (by decide +kernel), fun h => absurd rfl h⟩, fun h => absurd h (by decide), fun h => absurd h (by decide), fun h => absurd h (by decide), by decide⟩
set_option maxRecDepth 100000 in
theorem cco_157 : cm_cok ((7, 100), (0, 76)) := ⟨fun _ => ⟨(mi_76, ins_76), rfl, mo_76, fun _ => cm_T_in 538 (by decide +kernel) (by decide +kernel), fun h => absurd rfl h⟩, fun h => absurd h (by decide), fun h => absurd h (by decide), fun h => absurd h (by decide), by decide⟩
set_option maxRecDepth 100000 in
theorem cco_158 : cm_cok ((7, 103), (0, 93)) := ⟨fun _ => ⟨(mi_93, ins_93), rfl, mo_93, fun _ => cm_T_in 611 (by decide +kernel) (by decide +kernel), fun h => absurd rfl h⟩, fun h => absurd h (by decide), fun h => absurd h (by decide), fun h => absurd h (by decide), by decide⟩
set_option maxRecDepth 100000 in
theorem cco_159 : cm_cok ((7, 104), (0, 77)) := ⟨fun _ => ⟨(mi_77, ins_77), rfl, mo_77, fun _ => cm_T_in 545 (by decide +kernel) (by decide +kernel), fun h => absurd rfl h⟩, fun h => absurd h (by decide), fun h => absurd h (by decide), fun h => absurd h (by decide), by decide⟩
set_option maxRecDepth 100000 in
theorem cco_160 : cm_cok ((7, 107), (0, 94)) := ⟨fun _ => ⟨(mi_94, ins_94), rfl, mo_94, fun _ => cm_T_in 618 (by decide +kernel) (by decide +kernel), fun h => absurd rfl h⟩, fun h => absurd h (by decide), fun h => absurd h (by decide), fun h => absurd h (by decide), by decide⟩
set_option maxRecDepth 100000 in
theorem cm_call_ok : ∀ e ∈ cm_call, cm_cok e := List.forall_mem_cons.mpr ⟨cco_0, List.forall_mem_cons.mpr ⟨cco_1, List.forall_mem_cons.mpr ⟨cco_2, List.forall_mem_cons.mpr ⟨cco_3, List.forall_mem_cons.mpr ⟨cco_4, List.forall_mem_cons.mpr ⟨cco_5, List.forall_mem_cons.mpr ⟨cco_6, List.forall_mem_cons.mpr ⟨cco_7, List.forall_mem_cons.mpr ⟨cco_8, List.forall_mem_cons.mpr ⟨cco_9, List.forall_mem_cons.mpr ⟨cco_10, List.forall_mem_cons.mpr ⟨cco_11, List.forall_mem_cons.mpr ⟨cco_12, List.forall_mem_cons.mpr ⟨cco_13, List.forall_mem_cons.mpr ⟨cco_14, List.forall_mem_cons.mpr ⟨cco_15, List.forall_mem_cons.mpr ⟨cco_16, List.forall_mem_cons.mpr ⟨cco_17, List.forall_mem_cons.mpr ⟨cco_18, List.forall_mem_cons.mpr ⟨cco_19, List.forall_mem_cons.mpr ⟨cco_20, List.forall_mem_cons.mpr ⟨cco_21, List.forall_mem_cons.mpr ⟨cco_22, List.forall_mem_cons.mpr ⟨cco_23, List.forall_mem_cons.mpr ⟨cco_24, List.forall_mem_cons.mpr ⟨cco_25, List.forall_mem_cons.mpr ⟨cco_26, List.forall_mem_cons.mpr ⟨cco_27, List.forall_mem_cons.mpr ⟨cco_28, List.forall_mem_cons.mpr ⟨cco_29, List.forall_mem_cons.mpr ⟨cco_30, List.forall_mem_cons.mpr ⟨cco_31, List.forall_mem_cons.mpr ⟨cco_32, List.forall_mem_cons.mpr ⟨cco_33, List.forall_mem_cons.mpr ⟨cco_34, List.forall_mem_cons.mpr ⟨cco_35, List.forall_mem_cons.mpr ⟨cco_36, List.forall_mem_cons.mpr ⟨cco_37, List.forall_mem_cons.mpr ⟨cco_38, List.forall_mem_cons.mpr ⟨cco_39, List.forall_mem_cons.mpr ⟨cco_40, List.forall_mem_cons.mpr ⟨cco_41, List.forall_mem_cons.mpr ⟨cco_42, List.forall_mem_cons.mpr ⟨cco_43, List.forall_mem_cons.mpr ⟨cco_44, List.forall_mem_cons.mpr ⟨cco_45, List.forall_mem_cons.mpr ⟨cco_46, List.forall_mem_cons.mpr ⟨cco_47, List.forall_mem_cons.mpr ⟨cco_48, List.forall_mem_cons.mpr ⟨cco_49, List.forall_mem_cons.mpr ⟨cco_50, List.forall_mem_cons.mpr ⟨cco_51, List.forall_mem_cons.mpr ⟨cco_52, List.forall_mem_cons.mpr ⟨cco_53, List.forall_mem_cons.mpr ⟨cco_54, List.forall_mem_cons.mpr ⟨cco_55, List.forall_mem_cons.mpr ⟨cco_56, List.forall_mem_cons.mpr ⟨cco_57, List.forall_mem_cons.mpr ⟨cco_58, List.forall_mem_cons.mpr ⟨cco_59, List.forall_mem_cons.mpr ⟨cco_60, List.forall_mem_cons.mpr ⟨cco_61, List.forall_mem_cons.mpr ⟨cco_62, List.forall_mem_cons.mpr ⟨cco_63, List.forall_mem_cons.mpr ⟨cco_64, List.forall_mem_cons.mpr ⟨cco_65, List.forall_mem_cons.mpr ⟨cco_66, List.forall_mem_cons.mpr ⟨cco_67, List.forall_mem_cons.mpr ⟨cco_68, List.forall_mem_cons.mpr ⟨cco_69, List.forall_mem_cons.mpr ⟨cco_70, List.forall_mem_cons.mpr ⟨cco_71, List.forall_mem_cons.mpr ⟨cco_72, List.forall_mem_cons.mpr ⟨cco_73, List.forall_mem_cons.mpr ⟨cco_74, List.forall_mem_cons.mpr ⟨cco_75, List.forall_mem_cons.mpr ⟨cco_76, List.forall_mem_cons.mpr ⟨cco_77, List.forall_mem_cons.mpr ⟨cco_78, List.forall_mem_cons.mpr ⟨cco_79, List.forall_mem_cons.mpr ⟨cco_80, List.forall_mem_cons.mpr ⟨cco_81, List.forall_mem_cons.mpr ⟨cco_82, List.forall_mem_cons.mpr ⟨cco_83, List.forall_mem_cons.mpr ⟨cco_84, List.forall_mem_cons.mpr ⟨cco_85, List.forall_mem_cons.mpr ⟨cco_86, List.forall_mem_cons.mpr ⟨cco_87, List.forall_mem_cons.mpr ⟨cco_88, List.forall_mem_cons.mpr ⟨cco_89, List.forall_mem_cons.mpr ⟨cco_90, List.forall_mem_cons.mpr ⟨cco_91, List.forall_mem_cons.mpr ⟨cco_92, List.forall_mem_cons.mpr ⟨cco_93, List.forall_mem_cons.mpr ⟨cco_94, List.forall_mem_cons.mpr ⟨cco_95, List.forall_mem_cons.mpr ⟨cco_96, List.forall_mem_cons.mpr ⟨cco_97, List.forall_mem_cons.mpr ⟨cco_98, List.forall_mem_cons.mpr ⟨cco_99, List.forall_mem_cons.mpr ⟨cco_100, List.forall_mem_cons.mpr ⟨cco_101, List.forall_mem_cons.mpr ⟨cco_102, List.forall_mem_cons.mpr ⟨cco_103, List.forall_mem_cons.mpr ⟨cco_104, List.forall_mem_cons.mpr ⟨cco_105, List.forall_mem_cons.mpr ⟨cco_106, List.forall_mem_cons.mpr ⟨cco_107, List.forall_mem_cons.mpr ⟨cco_108, List.forall_mem_cons.mpr ⟨cco_109, List.forall_mem_cons.mpr ⟨cco_110, List.forall_mem_cons.mpr ⟨cco_111, List.forall_mem_cons.mpr ⟨cco_112, List.forall_mem_cons.mpr ⟨cco_113, List.forall_mem_cons.mpr ⟨cco_114, List.forall_mem_cons.mpr ⟨cco_115, List.forall_mem_cons.mpr ⟨cco_116, List.forall_mem_cons.mpr ⟨cco_117, List.forall_mem_cons.mpr ⟨cco_118, List.forall_mem_cons.mpr ⟨cco_119, List.forall_mem_cons.mpr ⟨cco_120, List.forall_mem_cons.mpr ⟨cco_121, List.forall_mem_cons.mpr ⟨cco_122, List.forall_mem_cons.mpr ⟨cco_123, List.forall_mem_cons.mpr ⟨cco_124, List.forall_mem_cons.mpr ⟨cco_125, List.forall_mem_cons.mpr ⟨cco_126, List.forall_mem_cons.mpr ⟨cco_127, List.forall_mem_cons.mpr ⟨cco_128, List.forall_mem_cons.mpr ⟨cco_129, List.forall_mem_cons.mpr ⟨cco_130, List.forall_mem_cons.mpr ⟨cco_131, List.forall_mem_cons.mpr ⟨cco_132, List.forall_mem_cons.mpr ⟨cco_133, List.forall_mem_cons.mpr ⟨cco_134, List.forall_mem_cons.mpr ⟨cco_135, List.forall_mem_cons.mpr ⟨cco_136, List.forall_mem_cons.mpr ⟨cco_137, List.forall_mem_cons.mpr ⟨cco_138, List.forall_mem_cons.mpr ⟨cco_139, List.forall_mem_cons.mpr ⟨cco_140, List.forall_mem_cons.mpr ⟨cco_141, List.forall_mem_cons.mpr ⟨cco_142, List.forall_mem_cons.mpr ⟨cco_143, List.forall_mem_cons.mpr ⟨cco_144, List.forall_mem_cons.mpr ⟨cco_145, List.forall_mem_cons.mpr ⟨cco_146, List.forall_mem_cons.mpr ⟨cco_147, List.forall_mem_cons.mpr ⟨cco_148, List.forall_mem_cons.mpr ⟨cco_149, List.forall_mem_cons.mpr ⟨cco_150, List.forall_mem_cons.mpr ⟨cco_151, List.forall_mem_cons.mpr ⟨cco_152, List.forall_mem_cons.mpr ⟨cco_153, List.forall_mem_cons.mpr ⟨cco_154, List.forall_mem_cons.mpr ⟨cco_155, List.forall_mem_cons.mpr ⟨cco_156, List.forall_mem_cons.mpr ⟨cco_157, List.forall_mem_cons.mpr ⟨cco_158, List.forall_mem_cons.mpr ⟨cco_159, List.forall_mem_cons.mpr ⟨cco_160, fun _ h => absurd h List.not_mem_nil⟩⟩⟩⟩⟩⟩⟩⟩⟩⟩⟩⟩⟩⟩⟩⟩⟩⟩⟩⟩⟩⟩⟩⟩⟩⟩⟩⟩⟩⟩⟩⟩⟩⟩⟩⟩⟩⟩⟩⟩⟩⟩⟩⟩⟩⟩⟩⟩⟩⟩⟩⟩⟩⟩⟩⟩⟩⟩⟩⟩⟩⟩⟩⟩⟩⟩⟩⟩⟩⟩⟩⟩⟩⟩⟩⟩⟩⟩⟩⟩⟩⟩⟩⟩⟩⟩⟩⟩⟩⟩⟩⟩⟩⟩⟩⟩⟩⟩⟩⟩⟩⟩⟩⟩⟩⟩⟩⟩⟩⟩⟩⟩⟩⟩⟩⟩⟩⟩⟩⟩⟩⟩⟩⟩⟩⟩⟩⟩⟩⟩⟩⟩⟩⟩⟩⟩⟩⟩⟩⟩⟩⟩⟩⟩⟩⟩⟩⟩⟩⟩⟩⟩⟩⟩⟩⟩⟩⟩⟩⟩⟩
def cm_dok (q : cm_Q) : Prop := (q.2).all (fun e => decide (decode q.1.2.1 e.1 = .ok e.2)) = true
set_option maxRecDepth 100000 in
theorem cm_P_dok : ∀ q ∈ cm_P, cm_dok q := List.forall_mem_cons.mpr ⟨chk_0, List.forall_mem_cons.mpr ⟨chk_1, List.forall_mem_cons.mpr ⟨chk_2, List.forall_mem_cons.mpr ⟨chk_3, List.forall_mem_cons.mpr ⟨chk_4, List.forall_mem_cons.mpr ⟨chk_5, List.forall_mem_cons.mpr ⟨chk_6, List.forall_mem_cons.mpr ⟨chk_7, List.forall_mem_cons.mpr ⟨chk_8, List.forall_mem_cons.mpr ⟨chk_9, List.forall_mem_cons.mpr ⟨chk_10, List.forall_mem_cons.mpr ⟨chk_11, List.forall_mem_cons.mpr ⟨chk_12, List.forall_mem_cons.mpr ⟨chk_13, List.forall_mem_cons.mpr ⟨chk_14, List.forall_mem_cons.mpr ⟨chk_15, List.forall_mem_cons.mpr ⟨chk_16, List.forall_mem_cons.mpr ⟨chk_17, List.forall_mem_cons.mpr ⟨chk_18, List.forall_mem_cons.mpr ⟨chk_19, List.forall_mem_cons.mpr ⟨chk_20, List.forall_mem_cons.mpr ⟨chk_21, List.forall_mem_cons.mpr ⟨chk_22, List.forall_mem_cons.mpr ⟨chk_23, List.forall_mem_cons.mpr ⟨chk_24, List.forall_mem_cons.mpr ⟨chk_25, List.forall_mem_cons.mpr ⟨chk_26, List.forall_mem_cons.mpr ⟨chk_27, List.forall_mem_cons.mpr ⟨chk_28, List.forall_mem_cons.mpr ⟨chk_29, List.forall_mem_cons.mpr ⟨chk_30, List.forall_mem_cons.mpr ⟨chk_31, List.forall_mem_cons.mpr ⟨chk_32, List.forall_mem_cons.mpr ⟨chk_33, List.forall_mem_cons.mpr ⟨chk_34, List.forall_mem_cons.mpr ⟨chk_35, List.forall_mem_cons.mpr ⟨chk_36, List.forall_mem_cons.mpr ⟨chk_37, List.forall_mem_cons.mpr ⟨chk_38, List.forall_mem_cons.mpr ⟨chk_39, List.forall_mem_cons.mpr ⟨chk_40, List.forall_mem_cons.mpr ⟨chk_41, List.forall_mem_cons.mpr ⟨chk_42, List.forall_mem_cons.mpr ⟨chk_43, List.forall_mem_cons.mpr ⟨chk_44, List.forall_mem_cons.mpr ⟨chk_45, List.forall_mem_cons.mpr ⟨chk_46, List.forall_mem_cons.mpr ⟨chk_47, List.forall_mem_cons.mpr ⟨chk_48, List.forall_mem_cons.mpr ⟨chk_49, List.forall_mem_cons.mpr ⟨chk_50, List.forall_mem_cons.mpr ⟨chk_51, List.forall_mem_cons.mpr ⟨chk_52, List.forall_mem_cons.mpr ⟨chk_53, List.forall_mem_cons.mpr ⟨chk_54, List.forall_mem_cons.mpr ⟨chk_55, List.forall_mem_cons.mpr ⟨chk_56, List.forall_mem_cons.mpr ⟨chk_57, List.forall_mem_cons.mpr ⟨chk_58, List.forall_mem_cons.mpr ⟨chk_59, List.forall_mem_cons.mpr ⟨chk_60, List.forall_mem_cons.mpr ⟨chk_61, List.forall_mem_cons.mpr ⟨chk_62, List.forall_mem_cons.mpr ⟨chk_63, List.forall_mem_cons.mpr ⟨chk_64, List.forall_mem_cons.mpr ⟨chk_65, List.forall_mem_cons.mpr ⟨chk_66, List.forall_mem_cons.mpr ⟨chk_67, List.forall_mem_cons.mpr ⟨chk_68, List.forall_mem_cons.mpr ⟨chk_69, List.forall_mem_cons.mpr ⟨chk_70, List.forall_mem_cons.mpr ⟨chk_71, List.forall_mem_cons.mpr ⟨chk_72, List.forall_mem_cons.mpr ⟨chk_73, List.forall_mem_cons.mpr ⟨chk_74, List.forall_mem_cons.mpr ⟨chk_75, List.forall_mem_cons.mpr ⟨chk_76, List.forall_mem_cons.mpr ⟨chk_77, List.forall_mem_cons.mpr ⟨chk_78, List.forall_mem_cons.mpr ⟨chk_79, List.forall_mem_cons.mpr ⟨chk_80, List.forall_mem_cons.mpr ⟨chk_81, List.forall_mem_cons.mpr ⟨chk_82, List.forall_mem_cons.mpr ⟨chk_83, List.forall_mem_cons.mpr ⟨chk_84, List.forall_mem_cons.mpr ⟨chk_85, List.forall_mem_cons.mpr ⟨chk_86, List.forall_mem_cons.mpr ⟨chk_87, List.forall_mem_cons.mpr ⟨chk_88, List.forall_mem_cons.mpr ⟨chk_89, List.forall_mem_cons.mpr ⟨chk_90, List.forall_mem_cons.mpr ⟨chk_91, List.forall_mem_cons.mpr ⟨chk_92, List.forall_mem_cons.mpr ⟨chk_93, List.forall_mem_cons.mpr ⟨chk_94, List.forall_mem_cons.mpr ⟨chk_95, List.forall_mem_cons.mpr ⟨chk_96, List.forall_mem_cons.mpr ⟨chk_97, List.forall_mem_cons.mpr ⟨chk_98, List.forall_mem_cons.mpr ⟨chk_99, List.forall_mem_cons.mpr ⟨chk_100, List.forall_mem_cons.mpr ⟨chk_101, List.forall_mem_cons.mpr ⟨chk_102, List.forall_mem_cons.mpr ⟨chk_103, List.forall_mem_cons.mpr ⟨chk_104, List.forall_mem_cons.mpr ⟨chk_105, List.forall_mem_cons.mpr ⟨chk_106, List.forall_mem_cons.mpr ⟨chk_107, List.forall_mem_cons.mpr ⟨chk_108, List.forall_mem_cons.mpr ⟨chk_109, List.forall_mem_cons.mpr ⟨chk_110, List.forall_mem_cons.mpr ⟨chk_111, List.forall_mem_cons.mpr ⟨chk_112, List.forall_mem_cons.mpr ⟨chk_113, List.forall_mem_cons.mpr ⟨chk_114, List.forall_mem_cons.mpr ⟨chk_115, List.forall_mem_cons.mpr ⟨chk_116, List.forall_mem_cons.mpr ⟨chk_117, List.forall_mem_cons.mpr ⟨chk_118, List.forall_mem_cons.mpr ⟨chk_119, List.forall_mem_cons.mpr ⟨chk_120, List.forall_mem_cons.mpr ⟨chk_121, List.forall_mem_cons.mpr ⟨chk_122, List.forall_mem_cons.mpr ⟨chk_123, List.forall_mem_cons.mpr ⟨chk_124, List.forall_mem_cons.mpr ⟨chk_125, List.forall_mem_cons.mpr ⟨chk_126, List.forall_mem_cons.mpr ⟨chk_127, List.forall_mem_cons.mpr ⟨chk_128, List.forall_mem_cons.mpr ⟨chk_129, List.forall_mem_cons.mpr ⟨chk_130, List.forall_mem_cons.mpr ⟨chk_131, List.forall_mem_cons.mpr ⟨chk_132, List.forall_mem_cons.mpr ⟨chk_133, List.forall_mem_cons.mpr ⟨chk_134, List.forall_mem_cons.mpr ⟨chk_135, List.forall_mem_cons.mpr ⟨chk_136, List.forall_mem_cons.mpr ⟨chk_137, List.forall_mem_cons.mpr ⟨chk_138, List.forall_mem_cons.mpr ⟨chk_139, fun _ h => absurd h List.not_mem_nil⟩⟩⟩⟩⟩⟩⟩⟩⟩⟩⟩⟩⟩⟩⟩⟩⟩⟩⟩⟩⟩⟩⟩⟩⟩⟩⟩⟩⟩⟩⟩⟩⟩⟩⟩⟩⟩⟩⟩⟩⟩⟩⟩⟩⟩⟩⟩⟩⟩⟩⟩⟩⟩⟩⟩⟩⟩⟩⟩⟩⟩⟩⟩⟩⟩⟩⟩⟩⟩⟩⟩⟩⟩⟩⟩⟩⟩⟩⟩⟩⟩⟩⟩⟩⟩⟩⟩⟩⟩⟩⟩⟩⟩⟩⟩⟩⟩⟩⟩⟩⟩⟩⟩⟩⟩⟩⟩⟩⟩⟩⟩⟩⟩⟩⟩⟩⟩⟩⟩⟩⟩⟩⟩⟩⟩⟩⟩⟩⟩⟩⟩⟩⟩⟩⟩⟩⟩⟩⟩⟩
theorem cm_at_mem : ∀ {l : List (Nat × Instr × Nat)} {pc : Nat} {i : Instr × Nat}, cm_at l pc = some i → (pc, i) ∈ l
  | [], _, _, h => by cases h
  | e :: l, pc, i, h => by
    unfold cm_at at h
    by_cases he : e.1 = pc
    · rw [if_pos he] at h
      cases h
      subst he
      exact List.mem_cons_self
    · rw [if_neg he] at h
      exact List.mem_cons_of_mem _ (cm_at_mem h)
theorem cm_dec {μ pc : Nat} {q : cm_Q} {i : Instr × Nat} (hq : cm_P[μ]? = some q) (h : cm_at q.2 pc = some i) : decode q.1.2.1 pc = .ok i := by
  have h1 := List.all_eq_true.mp (cm_P_dok q (List.mem_of_getElem? hq)) _ (cm_at_mem h)
  exact of_decide_eq_true h1
theorem cm_as_mem {α : Type} : ∀ {l : List ((Nat × Nat) × α)} {a b : Nat} {v : α}, cm_as l a b = some v → ((a, b), v) ∈ l
  | [], _, _, _, h => by cases h
  | e :: l, a, b, v, h => by
    unfold cm_as at h
    by_cases he : e.1.1 = a ∧ e.1.2 = b
    · rw [if_pos he] at h
      cases h
      obtain ⟨⟨x, y⟩, z⟩ := e
      obtain ⟨rfl, rfl⟩ := he
      exact List.mem_cons_self
    · rw [if_neg he] at h
      exact List.mem_cons_of_mem _ (cm_as_mem h)
def cm_clok (ci : Nat) : Prop := ∃ r ty, vwCl[ci]? = some r ∧ cm_ty[ci]? = some ty ∧ r.1 = cm_cn ci ∧ (∀ w ∈ u_ws r.1 r.2.1 r.2.2, w ∈ cm_T) ∧ (∀ k, k < r.2.2 → parseFieldDescriptor (r.2.1 k).2.2.1 = some (ty k)) ∧ (∀ a, a < r.2.2 → ∀ b, b < r.2.2 → a ≠ b → (r.2.1 a).2.1 ≠ (r.2.1 b).2.1) ∧ .instantiable r.1 r.2.2 ∈ cm_T ∧ .initialized r.1 ∈ cm_T ∧ (cm_ft[ci]?).map List.length = some r.2.2 ∧ (∀ k, k < r.2.2 → (cm_fk ci k = some 0 ∧ ty k = .int) ∨ (cm_fk ci k = some 2 ∧ ((∃ x, ty k = .array x) ∨ ∃ x, ty k = .object x))) ∧ (∀ k, k < r.2.2 → (r.2.1 k).1 = r.1)
set_option maxRecDepth 100000 in
theorem lo_0 : cm_clok 0 := ⟨_, _, rfl, rfl, rfl, (show ∀ w ∈ [u_lay RX0 TX0 0, u_lay RX0 TX0 1, u_lay RX0 TX0 2, u_lay RX0 TX0 3, u_lay RX0 TX0 4, u_lay RX0 TX0 5, u_lay RX0 TX0 6, u_lay RX0 TX0 7, u_lay RX0 TX0 8], w ∈ cm_T from List.forall_mem_cons.mpr ⟨cm_T_in 126 (by decide +kernel) (by decide +kernel), List.forall_mem_cons.mpr ⟨cm_T_in 128 (by decide +kernel) (by decide +kernel), List.forall_mem_cons.mpr ⟨cm_T_in 130 (by decide +kernel) (by decide +kernel), List.forall_mem_cons.mpr ⟨cm_T_in 132 (by decide +kernel) (by decide +kernel), List.forall_mem_cons.mpr ⟨cm_T_in 134 (by decide +kernel) (by decide +kernel), List.forall_mem_cons.mpr ⟨cm_T_in 136 (by decide +kernel) (by decide +kernel), List.forall_mem_cons.mpr ⟨cm_T_in 138 (by decide +kernel) (by decide +kernel), List.forall_mem_cons.mpr ⟨cm_T_in 140 (by decide +kernel) (by decide +kernel), List.forall_mem_cons.mpr ⟨cm_T_in 142 (by decide +kernel) (by decide +kernel), fun _ h => absurd h List.not_mem_nil⟩⟩⟩⟩⟩⟩⟩⟩⟩), tyX0_ok, nmX0, cm_T_in 65 (by decide +kernel) (by decide +kernel), cm_T_in 48 (by decide +kernel) (by decide +kernel), rfl, fun k (hk : k < 9) => (match k, hk with | 0, _ => Or.inr ⟨rfl, Or.inr ⟨_, rfl⟩⟩ | 1, _ => Or.inr ⟨rfl, Or.inl ⟨_, rfl⟩⟩ | 2, _ => Or.inr ⟨rfl, Or.inl ⟨_, rfl⟩⟩ | 3, _ => Or.inr ⟨rfl, Or.inl ⟨_, rfl⟩⟩ | 4, _ => Or.inl ⟨rfl, rfl⟩ | 5, _ => Or.inr ⟨rfl, Or.inl ⟨_, rfl⟩⟩ | 6, _ => Or.inr ⟨rfl, Or.inl ⟨_, rfl⟩⟩ | 7, _ => Or.inr ⟨rfl, Or.inl ⟨_, rfl⟩⟩ | 8, _ => Or.inl ⟨rfl, rfl⟩ | k + 9, hk => absurd hk (by omega)), fun k (hk : k < 9) => (match k, hk with | 0, _ => rfl | 1, _ => rfl | 2, _ => rfl | 3, _ => rfl | 4, _ => rfl | 5, _ => rfl | 6, _ => rfl | 7, _ => rfl | 8, _ => rfl | k + 9, hk => absurd hk (by omega))⟩
set_option maxRecDepth 100000 in
theorem lo_1 : cm_clok 1 := ⟨_, _, rfl, rfl, rfl, (show ∀ w ∈ [u_lay RX1 TX1 0, u_lay RX1 TX1 1, u_lay RX1 TX1 2, u_lay RX1 TX1 3, u_lay RX1 TX1 4, u_lay RX1 TX1 5], w ∈ cm_T from List.forall_mem_cons.mpr ⟨cm_T_in 98 (by decide +kernel) (by decide +kernel), List.forall_mem_cons.mpr ⟨cm_T_in 100 (by decide +kernel) (by decide +kernel), List.forall_mem_cons.mpr ⟨cm_T_in 102 (by decide +kernel) (by decide +kernel), List.forall_mem_cons.mpr ⟨cm_T_in 104 (by decide +kernel) (by decide +kernel), List.forall_mem_cons.mpr ⟨cm_T_in 106 (by decide +kernel) (by decide +kernel), List.forall_mem_cons.mpr ⟨cm_T_in 108 (by decide +kernel) (by decide +kernel), fun _ h => absurd h List.not_mem_nil⟩⟩⟩⟩⟩⟩), tyX1_ok, nmX1, cm_T_in 71 (by decide +kernel) (by decide +kernel), cm_T_in 49 (by decide +kernel) (by decide +kernel), rfl, fun k (hk : k < 6) => (match k, hk with | 0, _ => Or.inr ⟨rfl, Or.inl ⟨_, rfl⟩⟩ | 1, _ => Or.inr ⟨rfl, Or.inl ⟨_, rfl⟩⟩ | 2, _ => Or.inr ⟨rfl, Or.inl ⟨_, rfl⟩⟩ | 3, _ => Or.inr ⟨rfl, Or.inl ⟨_, rfl⟩⟩ | 4, _ => Or.inr ⟨rfl, Or.inl ⟨_, rfl⟩⟩ | 5, _ => Or.inl ⟨rfl, rfl⟩ | k + 6, hk => absurd hk (by omega)), fun k (hk : k < 6) => (match k, hk with | 0, _ => rfl | 1, _ => rfl | 2, _ => rfl | 3, _ => rfl | 4, _ => rfl | 5, _ => rfl | k + 6, hk => absurd hk (by omega))⟩
set_option maxRecDepth 100000 in
theorem lo_2 : cm_clok 2 := ⟨_, _, rfl, rfl, rfl, (show ∀ w ∈ [u_lay RX2 TX2 0, u_lay RX2 TX2 1, u_lay RX2 TX2 2], w ∈ cm_T from List.forall_mem_cons.mpr ⟨cm_T_in 176 (by decide +kernel) (by decide +kernel), List.forall_mem_cons.mpr ⟨cm_T_in 178 (by decide +kernel) (by decide +kernel), List.forall_mem_cons.mpr ⟨cm_T_in 180 (by decide +kernel) (by decide +kernel), fun _ h => absurd h List.not_mem_nil⟩⟩⟩), tyX2_ok, nmX2, cm_T_in 164 (by decide +kernel) (by decide +kernel), cm_T_in 52 (by decide +kernel) (by decide +kernel), rfl, fun k (hk : k < 3) => (match k, hk with | 0, _ => Or.inr ⟨rfl, Or.inl ⟨_, rfl⟩⟩ | 1, _ => Or.inl ⟨rfl, rfl⟩ | 2, _ => Or.inl ⟨rfl, rfl⟩ | k + 3, hk => absurd hk (by omega)), fun k (hk : k < 3) => (match k, hk with | 0, _ => rfl | 1, _ => rfl | 2, _ => rfl | k + 3, hk => absurd hk (by omega))⟩
set_option maxRecDepth 100000 in
theorem lo_3 : cm_clok 3 := ⟨_, _, rfl, rfl, rfl, (show ∀ w ∈ [u_lay RX3 TX3 0, u_lay RX3 TX3 1, u_lay RX3 TX3 2], w ∈ cm_T from List.forall_mem_cons.mpr ⟨cm_T_in 155 (by decide +kernel) (by decide +kernel), List.forall_mem_cons.mpr ⟨cm_T_in 157 (by decide +kernel) (by decide +kernel), List.forall_mem_cons.mpr ⟨cm_T_in 159 (by decide +kernel) (by decide +kernel), fun _ h => absurd h List.not_mem_nil⟩⟩⟩), tyX3_ok, nmX3, cm_T_in 146 (by decide +kernel) (by decide +kernel), cm_T_in 51 (by decide +kernel) (by decide +kernel), rfl, fun k (hk : k < 3) => (match k, hk with | 0, _ => Or.inr ⟨rfl, Or.inl ⟨_, rfl⟩⟩ | 1, _ => Or.inl ⟨rfl, rfl⟩ | 2, _ => Or.inl ⟨rfl, rfl⟩ | k + 3, hk => absurd hk (by omega)), fun k (hk : k < 3) => (match k, hk with | 0, _ => rfl | 1, _ => rfl | 2, _ => rfl | k + 3, hk => absurd hk (by omega))⟩
set_option maxRecDepth 100000 in
theorem lo_4 : cm_clok 4 := ⟨_, _, rfl, rfl, rfl, (show ∀ w ∈ [u_lay RX4 TX4 0, u_lay RX4 TX4 1], w ∈ cm_T from List.forall_mem_cons.mpr ⟨cm_T_in 195 (by decide +kernel) (by decide +kernel), List.forall_mem_cons.mpr ⟨cm_T_in 197 (by decide +kernel) (by decide +kernel), fun _ h => absurd h List.not_mem_nil⟩⟩), tyX4_ok, nmX4, cm_T_in 184 (by decide +kernel) (by decide +kernel), cm_T_in 53 (by decide +kernel) (by decide +kernel), rfl, fun k (hk : k < 2) => (match k, hk with | 0, _ => Or.inr ⟨rfl, Or.inl ⟨_, rfl⟩⟩ | 1, _ => Or.inr ⟨rfl, Or.inl ⟨_, rfl⟩⟩ | k + 2, hk => absurd hk (by omega)), fun k (hk : k < 2) => (match k, hk with | 0, _ => rfl | 1, _ => rfl | k + 2, hk => absurd hk (by omega))⟩
set_option maxRecDepth 100000 in
theorem lo_5 : cm_clok 5 := ⟨_, _, rfl, rfl, rfl, (show ∀ w ∈ [u_lay RX5 TX5 0, u_lay RX5 TX5 1, u_lay RX5 TX5 2, u_lay RX5 TX5 3, u_lay RX5 TX5 4, u_lay RX5 TX5 5, u_lay RX5 TX5 6], w ∈ cm_T from List.forall_mem_cons.mpr ⟨cm_T_in 208 (by decide +kernel) (by decide +kernel), List.forall_mem_cons.mpr ⟨cm_T_in 210 (by decide +kernel) (by decide +kernel), List.forall_mem_cons.mpr ⟨cm_T_in 212 (by decide +kernel) (by decide +kernel), List.forall_mem_cons.mpr ⟨cm_T_in 214 (by decide +kernel) (by decide +kernel), List.forall_mem_cons.mpr ⟨cm_T_in 216 (by decide +kernel) (by decide +kernel), List.forall_mem_cons.mpr ⟨cm_T_in 218 (by decide +kernel) (by decide +kernel), List.forall_mem_cons.mpr ⟨cm_T_in 220 (by decide +kernel) (by decide +kernel), fun _ h => absurd h List.not_mem_nil⟩⟩⟩⟩⟩⟩⟩), tyX5_ok, nmX5, cm_T_in 57 (by decide +kernel) (by decide +kernel), cm_T_in 47 (by decide +kernel) (by decide +kernel), rfl, fun k (hk : k < 7) => (match k, hk with | 0, _ => Or.inr ⟨rfl, Or.inr ⟨_, rfl⟩⟩ | 1, _ => Or.inr ⟨rfl, Or.inr ⟨_, rfl⟩⟩ | 2, _ => Or.inr ⟨rfl, Or.inr ⟨_, rfl⟩⟩ | 3, _ => Or.inr ⟨rfl, Or.inr ⟨_, rfl⟩⟩ | 4, _ => Or.inr ⟨rfl, Or.inr ⟨_, rfl⟩⟩ | 5, _ => Or.inr ⟨rfl, Or.inr ⟨_, rfl⟩⟩ | 6, _ => Or.inr ⟨rfl, Or.inr ⟨_, rfl⟩⟩ | k + 7, hk => absurd hk (by omega)), fun k (hk : k < 7) => (match k, hk with | 0, _ => rfl | 1, _ => rfl | 2, _ => rfl | 3, _ => rfl | 4, _ => rfl | 5, _ => rfl | 6, _ => rfl | k + 7, hk => absurd hk (by omega))⟩
set_option maxRecDepth 100000 in
theorem lo_6 : cm_clok 6 := ⟨_, _, rfl, rfl, rfl, (show ∀ w ∈ [u_lay RX6 TX6 0, u_lay RX6 TX6 1, u_lay RX6 TX6 2, u_lay RX6 TX6 3, u_lay RX6 TX6 4, u_lay RX6 TX6 5, u_lay RX6 TX6 6, u_lay RX6 TX6 7, u_lay RX6 TX6 8, u_lay RX6 TX6 9, u_lay RX6 TX6 10, u_lay RX6 TX6 11, u_lay RX6 TX6 12, u_lay RX6 TX6 13, u_lay RX6 TX6 14, u_lay RX6 TX6 15, u_lay RX6 TX6 16], w ∈ cm_T from List.forall_mem_cons.mpr ⟨cm_T_in 572 (by decide +kernel) (by decide +kernel), List.forall_mem_cons.mpr ⟨cm_T_in 574 (by decide +kernel) (by decide +kernel), List.forall_mem_cons.mpr ⟨cm_T_in 576 (by decide +kernel) (by decide +kernel), List.forall_mem_cons.mpr ⟨cm_T_in 578 (by decide +kernel) (by decide +kernel), List.forall_mem_cons.mpr ⟨cm_T_in 580 (by decide +kernel) (by decide +kernel), List.forall_mem_cons.mpr ⟨cm_T_in 582 (by decide +kernel) (by decide +kernel), List.forall_mem_cons.mpr ⟨cm_T_in 584 (by decide +kernel) (by decide +kernel), List.forall_mem_cons.mpr ⟨cm_T_in 586 (by decide +kernel) (by decide +kernel), List.forall_mem_cons.mpr ⟨cm_T_in 588 (by decide +kernel) (by decide +kernel), List.forall_mem_cons.mpr ⟨cm_T_in 590 (by decide +kernel) (by decide +kernel), List.forall_mem_cons.mpr ⟨cm_T_in 592 (by decide +kernel) (by decide +kernel), List.forall_mem_cons.mpr ⟨cm_T_in 594 (by decide +kernel) (by decide +kernel), List.forall_mem_cons.mpr ⟨cm_T_in 596 (by decide +kernel) (by decide +kernel), List.forall_mem_cons.mpr ⟨cm_T_in 598 (by decide +kernel) (by decide +kernel), List.forall_mem_cons.mpr ⟨cm_T_in 600 (by decide +kernel) (by decide +kernel), List.forall_mem_cons.mpr ⟨cm_T_in 602 (by decide +kernel) (by decide +kernel), List.forall_mem_cons.mpr ⟨cm_T_in 604 (by decide +kernel) (by decide +kernel), fun _ h => absurd h List.not_mem_nil⟩⟩⟩⟩⟩⟩⟩⟩⟩⟩⟩⟩⟩⟩⟩⟩⟩), tyX6_ok, nmX6, cm_T_in 550 (by decide +kernel) (by decide +kernel), cm_T_in 54 (by decide +kernel) (by decide +kernel), rfl, fun k (hk : k < 17) => (match k, hk with | 0, _ => Or.inr ⟨rfl, Or.inl ⟨_, rfl⟩⟩ | 1, _ => Or.inr ⟨rfl, Or.inl ⟨_, rfl⟩⟩ | 2, _ => Or.inr ⟨rfl, Or.inl ⟨_, rfl⟩⟩ | 3, _ => Or.inr ⟨rfl, Or.inl ⟨_, rfl⟩⟩ | 4, _ => Or.inl ⟨rfl, rfl⟩ | 5, _ => Or.inr ⟨rfl, Or.inl ⟨_, rfl⟩⟩ | 6, _ => Or.inl ⟨rfl, rfl⟩ | 7, _ => Or.inr ⟨rfl, Or.inl ⟨_, rfl⟩⟩ | 8, _ => Or.inr ⟨rfl, Or.inl ⟨_, rfl⟩⟩ | 9, _ => Or.inr ⟨rfl, Or.inl ⟨_, rfl⟩⟩ | 10, _ => Or.inr ⟨rfl, Or.inl ⟨_, rfl⟩⟩ | 11, _ => Or.inl ⟨rfl, rfl⟩ | 12, _ => Or.inr ⟨rfl, Or.inl ⟨_, rfl⟩⟩ | 13, _ => Or.inr ⟨rfl, Or.inl ⟨_, rfl⟩⟩ | 14, _ => Or.inl ⟨rfl, rfl⟩ | 15, _ => Or.inl ⟨rfl, rfl⟩ | 16, _ => Or.inl ⟨rfl, rfl⟩ | k + 17, hk => absurd hk (by omega)), fun k (hk : k < 17) => (match k, hk with | 0, _ => rfl | 1, _ => rfl | 2, _ => rfl | 3, _ => rfl | 4, _ => rfl | 5, _ => rfl | 6, _ => rfl | 7, _ => rfl | 8, _ => rfl | 9, _ => rfl | 10, _ => rfl | 11, _ => rfl | 12, _ => rfl | 13, _ => rfl | 14, _ => rfl | 15, _ => rfl | 16, _ => rfl | k + 17, hk => absurd hk (by omega))⟩
theorem cm_cl_ok (ci : Nat) (h : ci < 7) : cm_clok ci := match ci, h with
  | 0, _ => lo_0
  | 1, _ => lo_1
  | 2, _ => lo_2
  | 3, _ => lo_3
  | 4, _ => lo_4
  | 5, _ => lo_5
  | 6, _ => lo_6
  | k + 7, h => absurd h (by omega)
def cm_fok (e : (Nat × Nat) × (Nat × Nat)) : Prop := e.2.1 < 7 ∧ ∃ r, vwCl[e.2.1]? = some r ∧ e.2.2 < r.2.2 ∧ .fieldLink (cm_cn e.1.1) e.1.2 (r.2.1 e.2.2).1 (r.2.1 e.2.2).2.1 (r.2.1 e.2.2).2.2.1 ∈ cm_T
set_option maxRecDepth 100000 in
theorem fo_0 : cm_fok ((1, 9), (1, 0)) := ⟨by decide, _, rfl, by decide, cm_T_in 81 (by decide +kernel) (by decide +kernel)⟩
set_option maxRecDepth 100000 in
theorem fo_1 : cm_fok ((5, 63), (1, 0)) := ⟨by decide, _, rfl, by decide, cm_T_in 82 (by decide +kernel) (by decide +kernel)⟩
set_option maxRecDepth 100000 in
theorem fo_2 : cm_fok ((0, 60), (1, 0)) := ⟨by decide, _, rfl, by decide, cm_T_in 83 (by decide +kernel) (by decide +kernel)⟩
set_option maxRecDepth 100000 in
theorem fo_3 : cm_fok ((1, 15), (1, 1)) := ⟨by decide, _, rfl, by decide, cm_T_in 84 (by decide +kernel) (by decide +kernel)⟩
set_option maxRecDepth 100000 in
theorem fo_4 : cm_fok ((5, 124), (1, 1)) := ⟨by decide, _, rfl, by decide, cm_T_in 85 (by decide +kernel) (by decide +kernel)⟩
set_option maxRecDepth 100000 in
theorem fo_5 : cm_fok ((0, 111), (1, 1)) := ⟨by decide, _, rfl, by decide, cm_T_in 86 (by decide +kernel) (by decide +kernel)⟩
set_option maxRecDepth 100000 in
theorem fo_6 : cm_fok ((1, 18), (1, 2)) := ⟨by decide, _, rfl, by decide, cm_T_in 87 (by decide +kernel) (by decide +kernel)⟩
set_option maxRecDepth 100000 in
theorem fo_7 : cm_fok ((5, 127), (1, 2)) := ⟨by decide, _, rfl, by decide, cm_T_in 88 (by decide +kernel) (by decide +kernel)⟩
set_option maxRecDepth 100000 in
theorem fo_8 : cm_fok ((0, 91), (1, 2)) := ⟨by decide, _, rfl, by decide, cm_T_in 89 (by decide +kernel) (by decide +kernel)⟩
set_option maxRecDepth 100000 in
theorem fo_9 : cm_fok ((1, 21), (1, 3)) := ⟨by decide, _, rfl, by decide, cm_T_in 90 (by decide +kernel) (by decide +kernel)⟩
set_option maxRecDepth 100000 in
theorem fo_10 : cm_fok ((5, 111), (1, 3)) := ⟨by decide, _, rfl, by decide, cm_T_in 91 (by decide +kernel) (by decide +kernel)⟩
set_option maxRecDepth 100000 in
theorem fo_11 : cm_fok ((1, 24), (1, 4)) := ⟨by decide, _, rfl, by decide, cm_T_in 92 (by decide +kernel) (by decide +kernel)⟩
set_option maxRecDepth 100000 in
theorem fo_12 : cm_fok ((0, 67), (1, 4)) := ⟨by decide, _, rfl, by decide, cm_T_in 93 (by decide +kernel) (by decide +kernel)⟩
set_option maxRecDepth 100000 in
theorem fo_13 : cm_fok ((5, 82), (1, 4)) := ⟨by decide, _, rfl, by decide, cm_T_in 94 (by decide +kernel) (by decide +kernel)⟩
set_option maxRecDepth 100000 in
theorem fo_14 : cm_fok ((1, 36), (1, 5)) := ⟨by decide, _, rfl, by decide, cm_T_in 95 (by decide +kernel) (by decide +kernel)⟩
set_option maxRecDepth 100000 in
theorem fo_15 : cm_fok ((0, 50), (1, 5)) := ⟨by decide, _, rfl, by decide, cm_T_in 96 (by decide +kernel) (by decide +kernel)⟩
set_option maxRecDepth 100000 in
theorem fo_16 : cm_fok ((5, 100), (1, 5)) := ⟨by decide, _, rfl, by decide, cm_T_in 97 (by decide +kernel) (by decide +kernel)⟩
set_option maxRecDepth 100000 in
theorem fo_17 : cm_fok ((0, 12), (0, 0)) := ⟨by decide, _, rfl, by decide, cm_T_in 112 (by decide +kernel) (by decide +kernel)⟩
set_option maxRecDepth 100000 in
theorem fo_18 : cm_fok ((5, 16), (0, 0)) := ⟨by decide, _, rfl, by decide, cm_T_in 113 (by decide +kernel) (by decide +kernel)⟩
set_option maxRecDepth 100000 in
theorem fo_19 : cm_fok ((0, 18), (0, 1)) := ⟨by decide, _, rfl, by decide, cm_T_in 114 (by decide +kernel) (by decide +kernel)⟩
set_option maxRecDepth 100000 in
theorem fo_20 : cm_fok ((5, 130), (0, 1)) := ⟨by decide, _, rfl, by decide, cm_T_in 115 (by decide +kernel) (by decide +kernel)⟩
set_option maxRecDepth 100000 in
theorem fo_21 : cm_fok ((0, 22), (0, 2)) := ⟨by decide, _, rfl, by decide, cm_T_in 116 (by decide +kernel) (by decide +kernel)⟩
set_option maxRecDepth 100000 in
theorem fo_22 : cm_fok ((5, 139), (0, 2)) := ⟨by decide, _, rfl, by decide, cm_T_in 117 (by decide +kernel) (by decide +kernel)⟩
set_option maxRecDepth 100000 in
theorem fo_23 : cm_fok ((0, 25), (0, 3)) := ⟨by decide, _, rfl, by decide, cm_T_in 118 (by decide +kernel) (by decide +kernel)⟩
set_option maxRecDepth 100000 in
theorem fo_24 : cm_fok ((5, 136), (0, 3)) := ⟨by decide, _, rfl, by decide, cm_T_in 119 (by decide +kernel) (by decide +kernel)⟩
set_option maxRecDepth 100000 in
theorem fo_25 : cm_fok ((0, 46), (0, 4)) := ⟨by decide, _, rfl, by decide, cm_T_in 120 (by decide +kernel) (by decide +kernel)⟩
set_option maxRecDepth 100000 in
theorem fo_26 : cm_fok ((5, 175), (0, 4)) := ⟨by decide, _, rfl, by decide, cm_T_in 121 (by decide +kernel) (by decide +kernel)⟩
set_option maxRecDepth 100000 in
theorem fo_27 : cm_fok ((0, 28), (0, 5)) := ⟨by decide, _, rfl, by decide, cm_T_in 122 (by decide +kernel) (by decide +kernel)⟩
set_option maxRecDepth 100000 in
theorem fo_28 : cm_fok ((0, 31), (0, 6)) := ⟨by decide, _, rfl, by decide, cm_T_in 123 (by decide +kernel) (by decide +kernel)⟩
set_option maxRecDepth 100000 in
theorem fo_29 : cm_fok ((0, 34), (0, 7)) := ⟨by decide, _, rfl, by decide, cm_T_in 124 (by decide +kernel) (by decide +kernel)⟩
set_option maxRecDepth 100000 in
theorem fo_30 : cm_fok ((0, 57), (0, 8)) := ⟨by decide, _, rfl, by decide, cm_T_in 125 (by decide +kernel) (by decide +kernel)⟩
set_option maxRecDepth 100000 in
theorem fo_31 : cm_fok ((3, 9), (3, 0)) := ⟨by decide, _, rfl, by decide, cm_T_in 151 (by decide +kernel) (by decide +kernel)⟩
set_option maxRecDepth 100000 in
theorem fo_32 : cm_fok ((3, 21), (3, 1)) := ⟨by decide, _, rfl, by decide, cm_T_in 152 (by decide +kernel) (by decide +kernel)⟩
set_option maxRecDepth 100000 in
theorem fo_33 : cm_fok ((5, 121), (3, 1)) := ⟨by decide, _, rfl, by decide, cm_T_in 153 (by decide +kernel) (by decide +kernel)⟩
set_option maxRecDepth 100000 in
theorem fo_34 : cm_fok ((3, 25), (3, 2)) := ⟨by decide, _, rfl, by decide, cm_T_in 154 (by decide +kernel) (by decide +kernel)⟩
set_option maxRecDepth 100000 in
theorem fo_35 : cm_fok ((2, 11), (2, 0)) := ⟨by decide, _, rfl, by decide, cm_T_in 172 (by decide +kernel) (by decide +kernel)⟩
set_option maxRecDepth 100000 in
theorem fo_36 : cm_fok ((2, 22), (2, 1)) := ⟨by decide, _, rfl, by decide, cm_T_in 173 (by decide +kernel) (by decide +kernel)⟩
set_option maxRecDepth 100000 in
theorem fo_37 : cm_fok ((5, 187), (2, 1)) := ⟨by decide, _, rfl, by decide, cm_T_in 174 (by decide +kernel) (by decide +kernel)⟩
set_option maxRecDepth 100000 in
theorem fo_38 : cm_fok ((2, 18), (2, 2)) := ⟨by decide, _, rfl, by decide, cm_T_in 175 (by decide +kernel) (by decide +kernel)⟩
set_option maxRecDepth 100000 in
theorem fo_39 : cm_fok ((4, 11), (4, 0)) := ⟨by decide, _, rfl, by decide, cm_T_in 191 (by decide +kernel) (by decide +kernel)⟩
set_option maxRecDepth 100000 in
theorem fo_40 : cm_fok ((5, 216), (4, 0)) := ⟨by decide, _, rfl, by decide, cm_T_in 192 (by decide +kernel) (by decide +kernel)⟩
set_option maxRecDepth 100000 in
theorem fo_41 : cm_fok ((4, 17), (4, 1)) := ⟨by decide, _, rfl, by decide, cm_T_in 193 (by decide +kernel) (by decide +kernel)⟩
set_option maxRecDepth 100000 in
theorem fo_42 : cm_fok ((5, 220), (4, 1)) := ⟨by decide, _, rfl, by decide, cm_T_in 194 (by decide +kernel) (by decide +kernel)⟩
set_option maxRecDepth 100000 in
theorem fo_43 : cm_fok ((5, 10), (5, 0)) := ⟨by decide, _, rfl, by decide, cm_T_in 201 (by decide +kernel) (by decide +kernel)⟩
set_option maxRecDepth 100000 in
theorem fo_44 : cm_fok ((5, 20), (5, 1)) := ⟨by decide, _, rfl, by decide, cm_T_in 202 (by decide +kernel) (by decide +kernel)⟩
set_option maxRecDepth 100000 in
theorem fo_45 : cm_fok ((5, 21), (5, 2)) := ⟨by decide, _, rfl, by decide, cm_T_in 203 (by decide +kernel) (by decide +kernel)⟩
set_option maxRecDepth 100000 in
theorem fo_46 : cm_fok ((5, 24), (5, 3)) := ⟨by decide, _, rfl, by decide, cm_T_in 204 (by decide +kernel) (by decide +kernel)⟩
set_option maxRecDepth 100000 in
theorem fo_47 : cm_fok ((5, 30), (5, 4)) := ⟨by decide, _, rfl, by decide, cm_T_in 205 (by decide +kernel) (by decide +kernel)⟩
set_option maxRecDepth 100000 in
theorem fo_48 : cm_fok ((5, 37), (5, 5)) := ⟨by decide, _, rfl, by decide, cm_T_in 206 (by decide +kernel) (by decide +kernel)⟩
set_option maxRecDepth 100000 in
theorem fo_49 : cm_fok ((5, 44), (5, 6)) := ⟨by decide, _, rfl, by decide, cm_T_in 207 (by decide +kernel) (by decide +kernel)⟩
set_option maxRecDepth 100000 in
theorem fo_50 : cm_fok ((6, 7), (6, 0)) := ⟨by decide, _, rfl, by decide, cm_T_in 555 (by decide +kernel) (by decide +kernel)⟩
set_option maxRecDepth 100000 in
theorem fo_51 : cm_fok ((6, 13), (6, 1)) := ⟨by decide, _, rfl, by decide, cm_T_in 556 (by decide +kernel) (by decide +kernel)⟩
set_option maxRecDepth 100000 in
theorem fo_52 : cm_fok ((6, 16), (6, 2)) := ⟨by decide, _, rfl, by decide, cm_T_in 557 (by decide +kernel) (by decide +kernel)⟩
set_option maxRecDepth 100000 in
theorem fo_53 : cm_fok ((6, 19), (6, 3)) := ⟨by decide, _, rfl, by decide, cm_T_in 558 (by decide +kernel) (by decide +kernel)⟩
set_option maxRecDepth 100000 in
theorem fo_54 : cm_fok ((6, 53), (6, 4)) := ⟨by decide, _, rfl, by decide, cm_T_in 559 (by decide +kernel) (by decide +kernel)⟩
set_option maxRecDepth 100000 in
theorem fo_55 : cm_fok ((6, 23), (6, 5)) := ⟨by decide, _, rfl, by decide, cm_T_in 560 (by decide +kernel) (by decide +kernel)⟩
set_option maxRecDepth 100000 in
theorem fo_56 : cm_fok ((6, 133), (6, 6)) := ⟨by decide, _, rfl, by decide, cm_T_in 561 (by decide +kernel) (by decide +kernel)⟩
set_option maxRecDepth 100000 in
theorem fo_57 : cm_fok ((6, 27), (6, 7)) := ⟨by decide, _, rfl, by decide, cm_T_in 562 (by decide +kernel) (by decide +kernel)⟩
set_option maxRecDepth 100000 in
theorem fo_58 : cm_fok ((6, 30), (6, 8)) := ⟨by decide, _, rfl, by decide, cm_T_in 563 (by decide +kernel) (by decide +kernel)⟩
set_option maxRecDepth 100000 in
theorem fo_59 : cm_fok ((6, 33), (6, 9)) := ⟨by decide, _, rfl, by decide, cm_T_in 564 (by decide +kernel) (by decide +kernel)⟩
set_option maxRecDepth 100000 in
theorem fo_60 : cm_fok ((6, 36), (6, 10)) := ⟨by decide, _, rfl, by decide, cm_T_in 565 (by decide +kernel) (by decide +kernel)⟩
set_option maxRecDepth 100000 in
theorem fo_61 : cm_fok ((6, 64), (6, 11)) := ⟨by decide, _, rfl, by decide, cm_T_in 566 (by decide +kernel) (by decide +kernel)⟩
set_option maxRecDepth 100000 in
theorem fo_62 : cm_fok ((6, 39), (6, 12)) := ⟨by decide, _, rfl, by decide, cm_T_in 567 (by decide +kernel) (by decide +kernel)⟩
set_option maxRecDepth 100000 in
theorem fo_63 : cm_fok ((6, 42), (6, 13)) := ⟨by decide, _, rfl, by decide, cm_T_in 568 (by decide +kernel) (by decide +kernel)⟩
set_option maxRecDepth 100000 in
theorem fo_64 : cm_fok ((6, 160), (6, 14)) := ⟨by decide, _, rfl, by decide, cm_T_in 569 (by decide +kernel) (by decide +kernel)⟩
set_option maxRecDepth 100000 in
theorem fo_65 : cm_fok ((6, 147), (6, 15)) := ⟨by decide, _, rfl, by decide, cm_T_in 570 (by decide +kernel) (by decide +kernel)⟩
set_option maxRecDepth 100000 in
theorem fo_66 : cm_fok ((6, 150), (6, 16)) := ⟨by decide, _, rfl, by decide, cm_T_in 571 (by decide +kernel) (by decide +kernel)⟩
set_option maxRecDepth 100000 in
theorem cm_fld_ok : ∀ e ∈ cm_fld, cm_fok e := List.forall_mem_cons.mpr ⟨fo_0, List.forall_mem_cons.mpr ⟨fo_1, List.forall_mem_cons.mpr ⟨fo_2, List.forall_mem_cons.mpr ⟨fo_3, List.forall_mem_cons.mpr ⟨fo_4, List.forall_mem_cons.mpr ⟨fo_5, List.forall_mem_cons.mpr ⟨fo_6, List.forall_mem_cons.mpr ⟨fo_7, List.forall_mem_cons.mpr ⟨fo_8, List.forall_mem_cons.mpr ⟨fo_9, List.forall_mem_cons.mpr ⟨fo_10, List.forall_mem_cons.mpr ⟨fo_11, List.forall_mem_cons.mpr ⟨fo_12, List.forall_mem_cons.mpr ⟨fo_13, List.forall_mem_cons.mpr ⟨fo_14, List.forall_mem_cons.mpr ⟨fo_15, List.forall_mem_cons.mpr ⟨fo_16, List.forall_mem_cons.mpr ⟨fo_17, List.forall_mem_cons.mpr ⟨fo_18, List.forall_mem_cons.mpr ⟨fo_19, List.forall_mem_cons.mpr ⟨fo_20, List.forall_mem_cons.mpr ⟨fo_21, List.forall_mem_cons.mpr ⟨fo_22, List.forall_mem_cons.mpr ⟨fo_23, List.forall_mem_cons.mpr ⟨fo_24, List.forall_mem_cons.mpr ⟨fo_25, List.forall_mem_cons.mpr ⟨fo_26, List.forall_mem_cons.mpr ⟨fo_27, List.forall_mem_cons.mpr ⟨fo_28, List.forall_mem_cons.mpr ⟨fo_29, List.forall_mem_cons.mpr ⟨fo_30, List.forall_mem_cons.mpr ⟨fo_31, List.forall_mem_cons.mpr ⟨fo_32, List.forall_mem_cons.mpr ⟨fo_33, List.forall_mem_cons.mpr ⟨fo_34, List.forall_mem_cons.mpr ⟨fo_35, List.forall_mem_cons.mpr ⟨fo_36, List.forall_mem_cons.mpr ⟨fo_37, List.forall_mem_cons.mpr ⟨fo_38, List.forall_mem_cons.mpr ⟨fo_39, List.forall_mem_cons.mpr ⟨fo_40, List.forall_mem_cons.mpr ⟨fo_41, List.forall_mem_cons.mpr ⟨fo_42, List.forall_mem_cons.mpr ⟨fo_43, List.forall_mem_cons.mpr ⟨fo_44, List.forall_mem_cons.mpr ⟨fo_45, List.forall_mem_cons.mpr ⟨fo_46, List.forall_mem_cons.mpr ⟨fo_47, List.forall_mem_cons.mpr ⟨fo_48, List.forall_mem_cons.mpr ⟨fo_49, List.forall_mem_cons.mpr ⟨fo_50, List.forall_mem_cons.mpr ⟨fo_51, List.forall_mem_cons.mpr ⟨fo_52, List.forall_mem_cons.mpr ⟨fo_53, List.forall_mem_cons.mpr ⟨fo_54, List.forall_mem_cons.mpr ⟨fo_55, List.forall_mem_cons.mpr ⟨fo_56, List.forall_mem_cons.mpr ⟨fo_57, List.forall_mem_cons.mpr ⟨fo_58, List.forall_mem_cons.mpr ⟨fo_59, List.forall_mem_cons.mpr ⟨fo_60, List.forall_mem_cons.mpr ⟨fo_61, List.forall_mem_cons.mpr ⟨fo_62, List.forall_mem_cons.mpr ⟨fo_63, List.forall_mem_cons.mpr ⟨fo_64, List.forall_mem_cons.mpr ⟨fo_65, List.forall_mem_cons.mpr ⟨fo_66, fun _ h => absurd h List.not_mem_nil⟩⟩⟩⟩⟩⟩⟩⟩⟩⟩⟩⟩⟩⟩⟩⟩⟩⟩⟩⟩⟩⟩⟩⟩⟩⟩⟩⟩⟩⟩⟩⟩⟩⟩⟩⟩⟩⟩⟩⟩⟩⟩⟩⟩⟩⟩⟩⟩⟩⟩⟩⟩⟩⟩⟩⟩⟩⟩⟩⟩⟩⟩⟩⟩⟩⟩⟩
def cm_nok (e : (Nat × Nat) × Nat) : Prop := e.2 < 7 ∧ .classLink (cm_cn e.1.1) e.1.2 (cm_cn e.2) ∈ cm_T
set_option maxRecDepth 100000 in
theorem no_0 : cm_nok ((7, 7), 5) := ⟨by decide, cm_T_in 56 (by decide +kernel) (by decide +kernel)⟩
set_option maxRecDepth 100000 in
theorem no_1 : cm_nok ((5, 7), 0) := ⟨by decide, cm_T_in 64 (by decide +kernel) (by decide +kernel)⟩
set_option maxRecDepth 100000 in
theorem no_2 : cm_nok ((0, 9), 1) := ⟨by decide, cm_T_in 70 (by decide +kernel) (by decide +kernel)⟩
set_option maxRecDepth 100000 in
theorem no_3 : cm_nok ((5, 27), 3) := ⟨by decide, cm_T_in 145 (by decide +kernel) (by decide +kernel)⟩
set_option maxRecDepth 100000 in
theorem no_4 : cm_nok ((5, 34), 2) := ⟨by decide, cm_T_in 163 (by decide +kernel) (by decide +kernel)⟩
set_option maxRecDepth 100000 in
theorem no_5 : cm_nok ((2, 9), 1) := ⟨by decide, cm_T_in 169 (by decide +kernel) (by decide +kernel)⟩
set_option maxRecDepth 100000 in
theorem no_6 : cm_nok ((5, 41), 4) := ⟨by decide, cm_T_in 183 (by decide +kernel) (by decide +kernel)⟩
set_option maxRecDepth 100000 in
theorem no_7 : cm_nok ((4, 9), 1) := ⟨by decide, cm_T_in 189 (by decide +kernel) (by decide +kernel)⟩
set_option maxRecDepth 100000 in
theorem no_8 : cm_nok ((7, 10), 6) := ⟨by decide, cm_T_in 549 (by decide +kernel) (by decide +kernel)⟩
theorem cm_cls_ok : ∀ e ∈ cm_cls, cm_nok e := List.forall_mem_cons.mpr ⟨no_0, List.forall_mem_cons.mpr ⟨no_1, List.forall_mem_cons.mpr ⟨no_2, List.forall_mem_cons.mpr ⟨no_3, List.forall_mem_cons.mpr ⟨no_4, List.forall_mem_cons.mpr ⟨no_5, List.forall_mem_cons.mpr ⟨no_6, List.forall_mem_cons.mpr ⟨no_7, List.forall_mem_cons.mpr ⟨no_8, fun _ h => absurd h List.not_mem_nil⟩⟩⟩⟩⟩⟩⟩⟩⟩
def cm_gok (e : (Nat × Nat) × Int) : Prop := .constantLong (cm_cn e.1.1) e.1.2 (Int64.ofInt e.2) ∈ cm_T
set_option maxRecDepth 100000 in
theorem go_0 : cm_gok ((3, 15), 255) := cm_T_in 517 (by decide +kernel) (by decide +kernel)
set_option maxRecDepth 100000 in
theorem go_1 : cm_gok ((6, 145), 255) := cm_T_in 786 (by decide +kernel) (by decide +kernel)
set_option maxRecDepth 100000 in
theorem go_2 : cm_gok ((7, 81), 4294967295) := cm_T_in 819 (by decide +kernel) (by decide +kernel)
theorem cm_lng_ok : ∀ e ∈ cm_lng, cm_gok e := List.forall_mem_cons.mpr ⟨go_0, List.forall_mem_cons.mpr ⟨go_1, List.forall_mem_cons.mpr ⟨go_2, fun _ h => absurd h List.not_mem_nil⟩⟩⟩
def cm_iok (e : (Nat × Nat) × Int) : Prop := .constant (cm_cn e.1.1) e.1.2 (Int32.ofInt e.2) ∈ cm_T
theorem cm_icn_ok : ∀ e ∈ cm_icn, cm_iok e := fun _ h => absurd h List.not_mem_nil
theorem cm_oi : .instanceMethod Lib.objectInit ∈ cm_T := cm_T_in 62 (by decide +kernel) (by decide +kernel)
theorem cm_oc : .code Lib.objectInit ⟨#[0xb1]⟩ 1 none ∈ cm_T := cm_T_in 63 (by decide +kernel) (by decide +kernel)
theorem cm_xs : .static Lib.Math.max.name ∈ cm_T := cm_T_in 411 (by decide +kernel) (by decide +kernel)
theorem cm_xi : .initialized "java/lang/Math" ∈ cm_T := cm_T_in 55 (by decide +kernel) (by decide +kernel)
theorem cm_xc : .code Lib.Math.max.name Lib.Math.max.code 2 (some .int) ∈ cm_T := cm_T_in 412 (by decide +kernel) (by decide +kernel)
theorem cm_an : .native arraycopyName ∈ cm_T := cm_T_in 80 (by decide +kernel) (by decide +kernel)
theorem cm_as' : .static arraycopyName ∈ cm_T := cm_T_in 79 (by decide +kernel) (by decide +kernel)
theorem cm_ai : .initialized "java/lang/System" ∈ cm_T := cm_T_in 50 (by decide +kernel) (by decide +kernel)
theorem cm_ac1 : .arrayClass .int ∈ cm_T := cm_T_in 111 (by decide +kernel) (by decide +kernel)
theorem cm_ac2 : .arrayClass .char ∈ cm_T := cm_T_in 162 (by decide +kernel) (by decide +kernel)
theorem cm_ac3 : .arrayClass .boolean ∈ cm_T := cm_T_in 200 (by decide +kernel) (by decide +kernel)
def cm_sok (e : (Nat × Nat) × (Nat × Int)) : Prop := (e = ((1, 27), (1, -3))) ∨ (e.2.1 = 0 ∧ e.2.2 = -4 ∧ .fieldLink (cm_cn e.1.1) e.1.2 "CreditScroll" "LEAST_SETTINGS" "[I" ∈ cm_T) ∨ (e.2.1 = 0 ∧ e.2.2 = -5 ∧ .fieldLink (cm_cn e.1.1) e.1.2 "CreditScroll" "MOST_SETTINGS" "[I" ∈ cm_T)
set_option maxRecDepth 100000 in
theorem cm_sta_ok : ∀ e ∈ cm_sta, cm_sok e := List.forall_mem_cons.mpr ⟨Or.inl rfl, List.forall_mem_cons.mpr ⟨Or.inr (Or.inl ⟨rfl, rfl, cm_T_in 227 (by decide +kernel) (by decide +kernel)⟩), List.forall_mem_cons.mpr ⟨Or.inr (Or.inr ⟨rfl, rfl, cm_T_in 229 (by decide +kernel) (by decide +kernel)⟩), fun _ h => absurd h List.not_mem_nil⟩⟩⟩
