/-! ===== what the tables say of the methods, calls and fields ===== -/
def cm_T : List Cond := lw_tbl.filter goodWord
theorem cm_T_in {w : Cond} (i : Nat) (h : lw_tbl[i]? = some w) (hg : goodWord w = true) : w ∈ cm_T := List.mem_filter.mpr ⟨List.mem_of_getElem? h, hg⟩
theorem cm_T_good {w : Cond} (h : w ∈ cm_T) : (w.onTables && w.keeps) = true ∨ ∃ ty, w = .arrayClass ty := good_of_word (List.mem_filter.mp h).2
def cm_wd (q : cm_MI) : Cond := .code q.1 q.2.1 (cm_ml q) (cm_rt q)
def cm_lpos : Nat → List Nat → List Nat
  | _, [] => []
  | p, t :: l => if t = 1 then p :: cm_lpos (p + 2) l else cm_lpos (p + 1) l
/-- class numbers to names (7: the law) -/
def cm_cn : Nat → String
  | 0 => RX0 | 1 => RX1 | 2 => RX2 | 3 => RX3 | 4 => RX4 | 5 => RX5 | _ => RL
def cm_ok (q : cm_MI) : Prop := cm_wd q ∈ cm_T ∧ .initialized q.1.cls ∈ cm_T ∧ (cm_kd q = 0 → .instanceMethod q.1 ∈ cm_T ∧ .selects q.1.cls q.1 q.1 ∈ cm_T) ∧ (cm_kd q = 1 → .static q.1 ∈ cm_T) ∧ (cm_kd q = 2 → .instanceMethod q.1 ∈ cm_T ∧ q.1.name = "<init>" ∧ cm_rt q = none) ∧
  (q.1.cls ≠ "java/lang/invoke/MethodHandle" ∧ q.1.cls ≠ "java/lang/invoke/VarHandle" ∧ (parseMethodDescriptor q.1.desc).map (fun d => d.parameters.length) = some ((cm_tg q).length - (if cm_kd q = 1 then 0 else 1))) ∧ plainName q.1.cls = true ∧ q.1.cls = cm_cn (cm_ci q) ∧ (∀ i ∈ cm_lpos 0 (cm_tg q), i ∈ cm_lg q) ∧ (cm_kd q ≠ 1 → ∃ l, cm_tg q = 2 :: l) ∧ (cm_kd q ≠ 1 → ∃ r, vwCl[cm_ci q]? = some r ∧ r.1 = q.1.cls)
set_option maxRecDepth 100000 in
theorem mo_0 : cm_ok mi_0 := ⟨cm_T_in 35 (by decide +kernel) (by decide +kernel), cm_T_in 16 (by decide +kernel) (by decide +kernel), fun h => absurd h (by decide), fun h => absurd h (by decide), fun _ => ⟨cm_T_in 34 (by decide +kernel) (by decide +kernel), rfl, rfl⟩, ⟨by decide +kernel, by decide +kernel, by decide +kernel⟩, by decide +kernel, rfl, by decide +kernel, fun _ => ⟨_, rfl⟩, fun _ => ⟨_, rfl, rfl⟩⟩
set_option maxRecDepth 100000 in
theorem mo_1 : cm_ok mi_1 := ⟨cm_T_in 231 (by decide +kernel) (by decide +kernel), cm_T_in 16 (by decide +kernel) (by decide +kernel), fun _ => ⟨cm_T_in 229 (by decide +kernel) (by decide +kernel), cm_T_in 230 (by decide +kernel) (by decide +kernel)⟩, fun h => absurd h (by decide), fun h => absurd h (by decide), ⟨by decide +kernel, by decide +kernel, by decide +kernel⟩, by decide +kernel, rfl, by decide +kernel, fun _ => ⟨_, rfl⟩, fun _ => ⟨_, rfl, rfl⟩⟩
set_option maxRecDepth 100000 in
theorem mo_2 : cm_ok mi_2 := ⟨cm_T_in 235 (by decide +kernel) (by decide +kernel), cm_T_in 16 (by decide +kernel) (by decide +kernel), fun _ => ⟨cm_T_in 234 (by decide +kernel) (by decide +kernel), cm_T_in 0 (by decide +kernel) (by decide +kernel)⟩, fun h => absurd h (by decide), fun h => absurd h (by decide), ⟨by decide +kernel, by decide +kernel, by decide +kernel⟩, by decide +kernel, rfl, by decide +kernel, fun _ => ⟨_, rfl⟩, fun _ => ⟨_, rfl, rfl⟩⟩
set_option maxRecDepth 100000 in
theorem mo_3 : cm_ok mi_3 := ⟨cm_T_in 243 (by decide +kernel) (by decide +kernel), cm_T_in 16 (by decide +kernel) (by decide +kernel), fun _ => ⟨cm_T_in 242 (by decide +kernel) (by decide +kernel), cm_T_in 1 (by decide +kernel) (by decide +kernel)⟩, fun h => absurd h (by decide), fun h => absurd h (by decide), ⟨by decide +kernel, by decide +kernel, by decide +kernel⟩, by decide +kernel, rfl, by decide +kernel, fun _ => ⟨_, rfl⟩, fun _ => ⟨_, rfl, rfl⟩⟩
set_option maxRecDepth 100000 in
theorem mo_4 : cm_ok mi_4 := ⟨cm_T_in 251 (by decide +kernel) (by decide +kernel), cm_T_in 16 (by decide +kernel) (by decide +kernel), fun _ => ⟨cm_T_in 250 (by decide +kernel) (by decide +kernel), cm_T_in 3 (by decide +kernel) (by decide +kernel)⟩, fun h => absurd h (by decide), fun h => absurd h (by decide), ⟨by decide +kernel, by decide +kernel, by decide +kernel⟩, by decide +kernel, rfl, by decide +kernel, fun _ => ⟨_, rfl⟩, fun _ => ⟨_, rfl, rfl⟩⟩
set_option maxRecDepth 100000 in
theorem mo_5 : cm_ok mi_5 := ⟨cm_T_in 247 (by decide +kernel) (by decide +kernel), cm_T_in 16 (by decide +kernel) (by decide +kernel), fun _ => ⟨cm_T_in 246 (by decide +kernel) (by decide +kernel), cm_T_in 2 (by decide +kernel) (by decide +kernel)⟩, fun h => absurd h (by decide), fun h => absurd h (by decide), ⟨by decide +kernel, by decide +kernel, by decide +kernel⟩, by decide +kernel, rfl, by decide +kernel, fun _ => ⟨_, rfl⟩, fun _ => ⟨_, rfl, rfl⟩⟩
set_option maxRecDepth 100000 in
theorem mo_6 : cm_ok mi_6 := ⟨cm_T_in 259 (by decide +kernel) (by decide +kernel), cm_T_in 16 (by decide +kernel) (by decide +kernel), fun _ => ⟨cm_T_in 258 (by decide +kernel) (by decide +kernel), cm_T_in 5 (by decide +kernel) (by decide +kernel)⟩, fun h => absurd h (by decide), fun h => absurd h (by decide), ⟨by decide +kernel, by decide +kernel, by decide +kernel⟩, by decide +kernel, rfl, by decide +kernel, fun _ => ⟨_, rfl⟩, fun _ => ⟨_, rfl, rfl⟩⟩
set_option maxRecDepth 100000 in
theorem mo_7 : cm_ok mi_7 := ⟨cm_T_in 263 (by decide +kernel) (by decide +kernel), cm_T_in 16 (by decide +kernel) (by decide +kernel), fun _ => ⟨cm_T_in 262 (by decide +kernel) (by decide +kernel), cm_T_in 6 (by decide +kernel) (by decide +kernel)⟩, fun h => absurd h (by decide), fun h => absurd h (by decide), ⟨by decide +kernel, by decide +kernel, by decide +kernel⟩, by decide +kernel, rfl, by decide +kernel, fun _ => ⟨_, rfl⟩, fun _ => ⟨_, rfl, rfl⟩⟩
set_option maxRecDepth 100000 in
theorem mo_8 : cm_ok mi_8 := ⟨cm_T_in 267 (by decide +kernel) (by decide +kernel), cm_T_in 16 (by decide +kernel) (by decide +kernel), fun _ => ⟨cm_T_in 266 (by decide +kernel) (by decide +kernel), cm_T_in 7 (by decide +kernel) (by decide +kernel)⟩, fun h => absurd h (by decide), fun h => absurd h (by decide), ⟨by decide +kernel, by decide +kernel, by decide +kernel⟩, by decide +kernel, rfl, by decide +kernel, fun _ => ⟨_, rfl⟩, fun _ => ⟨_, rfl, rfl⟩⟩
set_option maxRecDepth 100000 in
theorem mo_9 : cm_ok mi_9 := ⟨cm_T_in 255 (by decide +kernel) (by decide +kernel), cm_T_in 16 (by decide +kernel) (by decide +kernel), fun _ => ⟨cm_T_in 254 (by decide +kernel) (by decide +kernel), cm_T_in 4 (by decide +kernel) (by decide +kernel)⟩, fun h => absurd h (by decide), fun h => absurd h (by decide), ⟨by decide +kernel, by decide +kernel, by decide +kernel⟩, by decide +kernel, rfl, by decide +kernel, fun _ => ⟨_, rfl⟩, fun _ => ⟨_, rfl, rfl⟩⟩
set_option maxRecDepth 100000 in
theorem mo_10 : cm_ok mi_10 := ⟨cm_T_in 271 (by decide +kernel) (by decide +kernel), cm_T_in 16 (by decide +kernel) (by decide +kernel), fun _ => ⟨cm_T_in 269 (by decide +kernel) (by decide +kernel), cm_T_in 270 (by decide +kernel) (by decide +kernel)⟩, fun h => absurd h (by decide), fun h => absurd h (by decide), ⟨by decide +kernel, by decide +kernel, by decide +kernel⟩, by decide +kernel, rfl, by decide +kernel, fun _ => ⟨_, rfl⟩, fun _ => ⟨_, rfl, rfl⟩⟩
set_option maxRecDepth 100000 in
theorem mo_11 : cm_ok mi_11 := ⟨cm_T_in 428 (by decide +kernel) (by decide +kernel), cm_T_in 16 (by decide +kernel) (by decide +kernel), fun _ => ⟨cm_T_in 427 (by decide +kernel) (by decide +kernel), cm_T_in 13 (by decide +kernel) (by decide +kernel)⟩, fun h => absurd h (by decide), fun h => absurd h (by decide), ⟨by decide +kernel, by decide +kernel, by decide +kernel⟩, by decide +kernel, rfl, by decide +kernel, fun _ => ⟨_, rfl⟩, fun _ => ⟨_, rfl, rfl⟩⟩
set_option maxRecDepth 100000 in
theorem mo_12 : cm_ok mi_12 := ⟨cm_T_in 424 (by decide +kernel) (by decide +kernel), cm_T_in 16 (by decide +kernel) (by decide +kernel), fun _ => ⟨cm_T_in 422 (by decide +kernel) (by decide +kernel), cm_T_in 423 (by decide +kernel) (by decide +kernel)⟩, fun h => absurd h (by decide), fun h => absurd h (by decide), ⟨by decide +kernel, by decide +kernel, by decide +kernel⟩, by decide +kernel, rfl, by decide +kernel, fun _ => ⟨_, rfl⟩, fun _ => ⟨_, rfl, rfl⟩⟩
set_option maxRecDepth 100000 in
theorem mo_13 : cm_ok mi_13 := ⟨cm_T_in 432 (by decide +kernel) (by decide +kernel), cm_T_in 16 (by decide +kernel) (by decide +kernel), fun _ => ⟨cm_T_in 430 (by decide +kernel) (by decide +kernel), cm_T_in 431 (by decide +kernel) (by decide +kernel)⟩, fun h => absurd h (by decide), fun h => absurd h (by decide), ⟨by decide +kernel, by decide +kernel, by decide +kernel⟩, by decide +kernel, rfl, by decide +kernel, fun _ => ⟨_, rfl⟩, fun _ => ⟨_, rfl, rfl⟩⟩
set_option maxRecDepth 100000 in
theorem mo_14 : cm_ok mi_14 := ⟨cm_T_in 412 (by decide +kernel) (by decide +kernel), cm_T_in 16 (by decide +kernel) (by decide +kernel), fun _ => ⟨cm_T_in 411 (by decide +kernel) (by decide +kernel), cm_T_in 12 (by decide +kernel) (by decide +kernel)⟩, fun h => absurd h (by decide), fun h => absurd h (by decide), ⟨by decide +kernel, by decide +kernel, by decide +kernel⟩, by decide +kernel, rfl, by decide +kernel, fun _ => ⟨_, rfl⟩, fun _ => ⟨_, rfl, rfl⟩⟩
set_option maxRecDepth 100000 in
theorem mo_15 : cm_ok mi_15 := ⟨cm_T_in 408 (by decide +kernel) (by decide +kernel), cm_T_in 16 (by decide +kernel) (by decide +kernel), fun _ => ⟨cm_T_in 406 (by decide +kernel) (by decide +kernel), cm_T_in 407 (by decide +kernel) (by decide +kernel)⟩, fun h => absurd h (by decide), fun h => absurd h (by decide), ⟨by decide +kernel, by decide +kernel, by decide +kernel⟩, by decide +kernel, rfl, by decide +kernel, fun _ => ⟨_, rfl⟩, fun _ => ⟨_, rfl, rfl⟩⟩
set_option maxRecDepth 100000 in
theorem mo_16 : cm_ok mi_16 := ⟨cm_T_in 416 (by decide +kernel) (by decide +kernel), cm_T_in 16 (by decide +kernel) (by decide +kernel), fun _ => ⟨cm_T_in 414 (by decide +kernel) (by decide +kernel), cm_T_in 415 (by decide +kernel) (by decide +kernel)⟩, fun h => absurd h (by decide), fun h => absurd h (by decide), ⟨by decide +kernel, by decide +kernel, by decide +kernel⟩, by decide +kernel, rfl, by decide +kernel, fun _ => ⟨_, rfl⟩, fun _ => ⟨_, rfl, rfl⟩⟩
set_option maxRecDepth 100000 in
theorem mo_17 : cm_ok mi_17 := ⟨cm_T_in 420 (by decide +kernel) (by decide +kernel), cm_T_in 16 (by decide +kernel) (by decide +kernel), fun _ => ⟨cm_T_in 418 (by decide +kernel) (by decide +kernel), cm_T_in 419 (by decide +kernel) (by decide +kernel)⟩, fun h => absurd h (by decide), fun h => absurd h (by decide), ⟨by decide +kernel, by decide +kernel, by decide +kernel⟩, by decide +kernel, rfl, by decide +kernel, fun _ => ⟨_, rfl⟩, fun _ => ⟨_, rfl, rfl⟩⟩
set_option maxRecDepth 100000 in
theorem mo_18 : cm_ok mi_18 := ⟨cm_T_in 327 (by decide +kernel) (by decide +kernel), cm_T_in 16 (by decide +kernel) (by decide +kernel), fun _ => ⟨cm_T_in 325 (by decide +kernel) (by decide +kernel), cm_T_in 326 (by decide +kernel) (by decide +kernel)⟩, fun h => absurd h (by decide), fun h => absurd h (by decide), ⟨by decide +kernel, by decide +kernel, by decide +kernel⟩, by decide +kernel, rfl, by decide +kernel, fun _ => ⟨_, rfl⟩, fun _ => ⟨_, rfl, rfl⟩⟩
set_option maxRecDepth 100000 in
theorem mo_19 : cm_ok mi_19 := ⟨cm_T_in 323 (by decide +kernel) (by decide +kernel), cm_T_in 16 (by decide +kernel) (by decide +kernel), fun _ => ⟨cm_T_in 321 (by decide +kernel) (by decide +kernel), cm_T_in 322 (by decide +kernel) (by decide +kernel)⟩, fun h => absurd h (by decide), fun h => absurd h (by decide), ⟨by decide +kernel, by decide +kernel, by decide +kernel⟩, by decide +kernel, rfl, by decide +kernel, fun _ => ⟨_, rfl⟩, fun _ => ⟨_, rfl, rfl⟩⟩
set_option maxRecDepth 100000 in
theorem mo_20 : cm_ok mi_20 := ⟨cm_T_in 316 (by decide +kernel) (by decide +kernel), cm_T_in 16 (by decide +kernel) (by decide +kernel), fun _ => ⟨cm_T_in 315 (by decide +kernel) (by decide +kernel), cm_T_in 9 (by decide +kernel) (by decide +kernel)⟩, fun h => absurd h (by decide), fun h => absurd h (by decide), ⟨by decide +kernel, by decide +kernel, by decide +kernel⟩, by decide +kernel, rfl, by decide +kernel, fun _ => ⟨_, rfl⟩, fun _ => ⟨_, rfl, rfl⟩⟩
set_option maxRecDepth 100000 in
theorem mo_21 : cm_ok mi_21 := ⟨cm_T_in 312 (by decide +kernel) (by decide +kernel), cm_T_in 16 (by decide +kernel) (by decide +kernel), fun _ => ⟨cm_T_in 310 (by decide +kernel) (by decide +kernel), cm_T_in 311 (by decide +kernel) (by decide +kernel)⟩, fun h => absurd h (by decide), fun h => absurd h (by decide), ⟨by decide +kernel, by decide +kernel, by decide +kernel⟩, by decide +kernel, rfl, by decide +kernel, fun _ => ⟨_, rfl⟩, fun _ => ⟨_, rfl, rfl⟩⟩
set_option maxRecDepth 100000 in
theorem mo_22 : cm_ok mi_22 := ⟨cm_T_in 444 (by decide +kernel) (by decide +kernel), cm_T_in 16 (by decide +kernel) (by decide +kernel), fun _ => ⟨cm_T_in 442 (by decide +kernel) (by decide +kernel), cm_T_in 443 (by decide +kernel) (by decide +kernel)⟩, fun h => absurd h (by decide), fun h => absurd h (by decide), ⟨by decide +kernel, by decide +kernel, by decide +kernel⟩, by decide +kernel, rfl, by decide +kernel, fun _ => ⟨_, rfl⟩, fun _ => ⟨_, rfl, rfl⟩⟩
set_option maxRecDepth 100000 in
theorem mo_23 : cm_ok mi_23 := ⟨cm_T_in 308 (by decide +kernel) (by decide +kernel), cm_T_in 16 (by decide +kernel) (by decide +kernel), fun _ => ⟨cm_T_in 306 (by decide +kernel) (by decide +kernel), cm_T_in 307 (by decide +kernel) (by decide +kernel)⟩, fun h => absurd h (by decide), fun h => absurd h (by decide), ⟨by decide +kernel, by decide +kernel, by decide +kernel⟩, by decide +kernel, rfl, by decide +kernel, fun _ => ⟨_, rfl⟩, fun _ => ⟨_, rfl, rfl⟩⟩
set_option maxRecDepth 100000 in
theorem mo_24 : cm_ok mi_24 := ⟨cm_T_in 335 (by decide +kernel) (by decide +kernel), cm_T_in 16 (by decide +kernel) (by decide +kernel), fun _ => ⟨cm_T_in 333 (by decide +kernel) (by decide +kernel), cm_T_in 334 (by decide +kernel) (by decide +kernel)⟩, fun h => absurd h (by decide), fun h => absurd h (by decide), ⟨by decide +kernel, by decide +kernel, by decide +kernel⟩, by decide +kernel, rfl, by decide +kernel, fun _ => ⟨_, rfl⟩, fun _ => ⟨_, rfl, rfl⟩⟩
set_option maxRecDepth 100000 in
theorem mo_25 : cm_ok mi_25 := ⟨cm_T_in 456 (by decide +kernel) (by decide +kernel), cm_T_in 16 (by decide +kernel) (by decide +kernel), fun _ => ⟨cm_T_in 454 (by decide +kernel) (by decide +kernel), cm_T_in 455 (by decide +kernel) (by decide +kernel)⟩, fun h => absurd h (by decide), fun h => absurd h (by decide), ⟨by decide +kernel, by decide +kernel, by decide +kernel⟩, by decide +kernel, rfl, by decide +kernel, fun _ => ⟨_, rfl⟩, fun _ => ⟨_, rfl, rfl⟩⟩
set_option maxRecDepth 100000 in
theorem mo_26 : cm_ok mi_26 := ⟨cm_T_in 41 (by decide +kernel) (by decide +kernel), cm_T_in 17 (by decide +kernel) (by decide +kernel), fun h => absurd h (by decide), fun h => absurd h (by decide), fun _ => ⟨cm_T_in 40 (by decide +kernel) (by decide +kernel), rfl, rfl⟩, ⟨by decide +kernel, by decide +kernel, by decide +kernel⟩, by decide +kernel, rfl, by decide +kernel, fun _ => ⟨_, rfl⟩, fun _ => ⟨_, rfl, rfl⟩⟩
set_option maxRecDepth 100000 in
theorem mo_27 : cm_ok mi_27 := ⟨cm_T_in 204 (by decide +kernel) (by decide +kernel), cm_T_in 17 (by decide +kernel) (by decide +kernel), fun _ => ⟨cm_T_in 202 (by decide +kernel) (by decide +kernel), cm_T_in 203 (by decide +kernel) (by decide +kernel)⟩, fun h => absurd h (by decide), fun h => absurd h (by decide), ⟨by decide +kernel, by decide +kernel, by decide +kernel⟩, by decide +kernel, rfl, by decide +kernel, fun _ => ⟨_, rfl⟩, fun _ => ⟨_, rfl, rfl⟩⟩
set_option maxRecDepth 100000 in
theorem mo_28 : cm_ok mi_28 := ⟨cm_T_in 208 (by decide +kernel) (by decide +kernel), cm_T_in 17 (by decide +kernel) (by decide +kernel), fun _ => ⟨cm_T_in 206 (by decide +kernel) (by decide +kernel), cm_T_in 207 (by decide +kernel) (by decide +kernel)⟩, fun h => absurd h (by decide), fun h => absurd h (by decide), ⟨by decide +kernel, by decide +kernel, by decide +kernel⟩, by decide +kernel, rfl, by decide +kernel, fun _ => ⟨_, rfl⟩, fun _ => ⟨_, rfl, rfl⟩⟩
set_option maxRecDepth 100000 in
theorem mo_29 : cm_ok mi_29 := ⟨cm_T_in 212 (by decide +kernel) (by decide +kernel), cm_T_in 17 (by decide +kernel) (by decide +kernel), fun _ => ⟨cm_T_in 210 (by decide +kernel) (by decide +kernel), cm_T_in 211 (by decide +kernel) (by decide +kernel)⟩, fun h => absurd h (by decide), fun h => absurd h (by decide), ⟨by decide +kernel, by decide +kernel, by decide +kernel⟩, by decide +kernel, rfl, by decide +kernel, fun _ => ⟨_, rfl⟩, fun _ => ⟨_, rfl, rfl⟩⟩
set_option maxRecDepth 100000 in
theorem mo_30 : cm_ok mi_30 := ⟨cm_T_in 220 (by decide +kernel) (by decide +kernel), cm_T_in 17 (by decide +kernel) (by decide +kernel), fun _ => ⟨cm_T_in 218 (by decide +kernel) (by decide +kernel), cm_T_in 219 (by decide +kernel) (by decide +kernel)⟩, fun h => absurd h (by decide), fun h => absurd h (by decide), ⟨by decide +kernel, by decide +kernel, by decide +kernel⟩, by decide +kernel, rfl, by decide +kernel, fun _ => ⟨_, rfl⟩, fun _ => ⟨_, rfl, rfl⟩⟩
set_option maxRecDepth 100000 in
theorem mo_31 : cm_ok mi_31 := ⟨cm_T_in 239 (by decide +kernel) (by decide +kernel), cm_T_in 17 (by decide +kernel) (by decide +kernel), fun _ => ⟨cm_T_in 237 (by decide +kernel) (by decide +kernel), cm_T_in 238 (by decide +kernel) (by decide +kernel)⟩, fun h => absurd h (by decide), fun h => absurd h (by decide), ⟨by decide +kernel, by decide +kernel, by decide +kernel⟩, by decide +kernel, rfl, by decide +kernel, fun _ => ⟨_, rfl⟩, fun _ => ⟨_, rfl, rfl⟩⟩
set_option maxRecDepth 100000 in
theorem mo_32 : cm_ok mi_32 := ⟨cm_T_in 275 (by decide +kernel) (by decide +kernel), cm_T_in 17 (by decide +kernel) (by decide +kernel), fun _ => ⟨cm_T_in 273 (by decide +kernel) (by decide +kernel), cm_T_in 274 (by decide +kernel) (by decide +kernel)⟩, fun h => absurd h (by decide), fun h => absurd h (by decide), ⟨by decide +kernel, by decide +kernel, by decide +kernel⟩, by decide +kernel, rfl, by decide +kernel, fun _ => ⟨_, rfl⟩, fun _ => ⟨_, rfl, rfl⟩⟩
set_option maxRecDepth 100000 in
theorem mo_33 : cm_ok mi_33 := ⟨cm_T_in 290 (by decide +kernel) (by decide +kernel), cm_T_in 17 (by decide +kernel) (by decide +kernel), fun _ => ⟨cm_T_in 288 (by decide +kernel) (by decide +kernel), cm_T_in 289 (by decide +kernel) (by decide +kernel)⟩, fun h => absurd h (by decide), fun h => absurd h (by decide), ⟨by decide +kernel, by decide +kernel, by decide +kernel⟩, by decide +kernel, rfl, by decide +kernel, fun _ => ⟨_, rfl⟩, fun _ => ⟨_, rfl, rfl⟩⟩
set_option maxRecDepth 100000 in
theorem mo_34 : cm_ok mi_34 := ⟨cm_T_in 279 (by decide +kernel) (by decide +kernel), cm_T_in 17 (by decide +kernel) (by decide +kernel), fun _ => ⟨cm_T_in 278 (by decide +kernel) (by decide +kernel), cm_T_in 8 (by decide +kernel) (by decide +kernel)⟩, fun h => absurd h (by decide), fun h => absurd h (by decide), ⟨by decide +kernel, by decide +kernel, by decide +kernel⟩, by decide +kernel, rfl, by decide +kernel, fun _ => ⟨_, rfl⟩, fun _ => ⟨_, rfl, rfl⟩⟩
set_option maxRecDepth 100000 in
theorem mo_35 : cm_ok mi_35 := ⟨cm_T_in 282 (by decide +kernel) (by decide +kernel), cm_T_in 17 (by decide +kernel) (by decide +kernel), fun h => absurd h (by decide), fun _ => cm_T_in 281 (by decide +kernel) (by decide +kernel), fun h => absurd h (by decide), ⟨by decide +kernel, by decide +kernel, by decide +kernel⟩, by decide +kernel, rfl, by decide +kernel, fun h => absurd rfl h, fun h => absurd rfl h⟩
set_option maxRecDepth 100000 in
theorem mo_36 : cm_ok mi_36 := ⟨cm_T_in 397 (by decide +kernel) (by decide +kernel), cm_T_in 17 (by decide +kernel) (by decide +kernel), fun _ => ⟨cm_T_in 395 (by decide +kernel) (by decide +kernel), cm_T_in 396 (by decide +kernel) (by decide +kernel)⟩, fun h => absurd h (by decide), fun h => absurd h (by decide), ⟨by decide +kernel, by decide +kernel, by decide +kernel⟩, by decide +kernel, rfl, by decide +kernel, fun _ => ⟨_, rfl⟩, fun _ => ⟨_, rfl, rfl⟩⟩
set_option maxRecDepth 100000 in
theorem mo_37 : cm_ok mi_37 := ⟨cm_T_in 386 (by decide +kernel) (by decide +kernel), cm_T_in 17 (by decide +kernel) (by decide +kernel), fun _ => ⟨cm_T_in 384 (by decide +kernel) (by decide +kernel), cm_T_in 385 (by decide +kernel) (by decide +kernel)⟩, fun h => absurd h (by decide), fun h => absurd h (by decide), ⟨by decide +kernel, by decide +kernel, by decide +kernel⟩, by decide +kernel, rfl, by decide +kernel, fun _ => ⟨_, rfl⟩, fun _ => ⟨_, rfl, rfl⟩⟩
set_option maxRecDepth 100000 in
theorem mo_38 : cm_ok mi_38 := ⟨cm_T_in 304 (by decide +kernel) (by decide +kernel), cm_T_in 17 (by decide +kernel) (by decide +kernel), fun _ => ⟨cm_T_in 302 (by decide +kernel) (by decide +kernel), cm_T_in 303 (by decide +kernel) (by decide +kernel)⟩, fun h => absurd h (by decide), fun h => absurd h (by decide), ⟨by decide +kernel, by decide +kernel, by decide +kernel⟩, by decide +kernel, rfl, by decide +kernel, fun _ => ⟨_, rfl⟩, fun _ => ⟨_, rfl, rfl⟩⟩
set_option maxRecDepth 100000 in
theorem mo_39 : cm_ok mi_39 := ⟨cm_T_in 331 (by decide +kernel) (by decide +kernel), cm_T_in 17 (by decide +kernel) (by decide +kernel), fun _ => ⟨cm_T_in 329 (by decide +kernel) (by decide +kernel), cm_T_in 330 (by decide +kernel) (by decide +kernel)⟩, fun h => absurd h (by decide), fun h => absurd h (by decide), ⟨by decide +kernel, by decide +kernel, by decide +kernel⟩, by decide +kernel, rfl, by decide +kernel, fun _ => ⟨_, rfl⟩, fun _ => ⟨_, rfl, rfl⟩⟩
set_option maxRecDepth 100000 in
theorem mo_40 : cm_ok mi_40 := ⟨cm_T_in 452 (by decide +kernel) (by decide +kernel), cm_T_in 17 (by decide +kernel) (by decide +kernel), fun _ => ⟨cm_T_in 450 (by decide +kernel) (by decide +kernel), cm_T_in 451 (by decide +kernel) (by decide +kernel)⟩, fun h => absurd h (by decide), fun h => absurd h (by decide), ⟨by decide +kernel, by decide +kernel, by decide +kernel⟩, by decide +kernel, rfl, by decide +kernel, fun _ => ⟨_, rfl⟩, fun _ => ⟨_, rfl, rfl⟩⟩
set_option maxRecDepth 100000 in
theorem mo_41 : cm_ok mi_41 := ⟨cm_T_in 132 (by decide +kernel) (by decide +kernel), cm_T_in 20 (by decide +kernel) (by decide +kernel), fun h => absurd h (by decide), fun h => absurd h (by decide), fun _ => ⟨cm_T_in 131 (by decide +kernel) (by decide +kernel), rfl, rfl⟩, ⟨by decide +kernel, by decide +kernel, by decide +kernel⟩, by decide +kernel, rfl, by decide +kernel, fun _ => ⟨_, rfl⟩, fun _ => ⟨_, rfl, rfl⟩⟩
set_option maxRecDepth 100000 in
theorem mo_42 : cm_ok mi_42 := ⟨cm_T_in 200 (by decide +kernel) (by decide +kernel), cm_T_in 20 (by decide +kernel) (by decide +kernel), fun _ => ⟨cm_T_in 198 (by decide +kernel) (by decide +kernel), cm_T_in 199 (by decide +kernel) (by decide +kernel)⟩, fun h => absurd h (by decide), fun h => absurd h (by decide), ⟨by decide +kernel, by decide +kernel, by decide +kernel⟩, by decide +kernel, rfl, by decide +kernel, fun _ => ⟨_, rfl⟩, fun _ => ⟨_, rfl, rfl⟩⟩
set_option maxRecDepth 100000 in
theorem mo_43 : cm_ok mi_43 := ⟨cm_T_in 116 (by decide +kernel) (by decide +kernel), cm_T_in 19 (by decide +kernel) (by decide +kernel), fun h => absurd h (by decide), fun h => absurd h (by decide), fun _ => ⟨cm_T_in 115 (by decide +kernel) (by decide +kernel), rfl, rfl⟩, ⟨by decide +kernel, by decide +kernel, by decide +kernel⟩, by decide +kernel, rfl, by decide +kernel, fun _ => ⟨_, rfl⟩, fun _ => ⟨_, rfl, rfl⟩⟩
set_option maxRecDepth 100000 in
theorem mo_44 : cm_ok mi_44 := ⟨cm_T_in 152 (by decide +kernel) (by decide +kernel), cm_T_in 21 (by decide +kernel) (by decide +kernel), fun h => absurd h (by decide), fun h => absurd h (by decide), fun _ => ⟨cm_T_in 151 (by decide +kernel) (by decide +kernel), rfl, rfl⟩, ⟨by decide +kernel, by decide +kernel, by decide +kernel⟩, by decide +kernel, rfl, by decide +kernel, fun _ => ⟨_, rfl⟩, fun _ => ⟨_, rfl, rfl⟩⟩
set_option maxRecDepth 100000 in
theorem mo_45 : cm_ok mi_45 := ⟨cm_T_in 27 (by decide +kernel) (by decide +kernel), cm_T_in 15 (by decide +kernel) (by decide +kernel), fun h => absurd h (by decide), fun h => absurd h (by decide), fun _ => ⟨cm_T_in 26 (by decide +kernel) (by decide +kernel), rfl, rfl⟩, ⟨by decide +kernel, by decide +kernel, by decide +kernel⟩, by decide +kernel, rfl, by decide +kernel, fun _ => ⟨_, rfl⟩, fun _ => ⟨_, rfl, rfl⟩⟩
set_option maxRecDepth 100000 in
theorem mo_46 : cm_ok mi_46 := ⟨cm_T_in 189 (by decide +kernel) (by decide +kernel), cm_T_in 15 (by decide +kernel) (by decide +kernel), fun _ => ⟨cm_T_in 187 (by decide +kernel) (by decide +kernel), cm_T_in 188 (by decide +kernel) (by decide +kernel)⟩, fun h => absurd h (by decide), fun h => absurd h (by decide), ⟨by decide +kernel, by decide +kernel, by decide +kernel⟩, by decide +kernel, rfl, by decide +kernel, fun _ => ⟨_, rfl⟩, fun _ => ⟨_, rfl, rfl⟩⟩
set_option maxRecDepth 100000 in
theorem mo_47 : cm_ok mi_47 := ⟨cm_T_in 351 (by decide +kernel) (by decide +kernel), cm_T_in 15 (by decide +kernel) (by decide +kernel), fun _ => ⟨cm_T_in 349 (by decide +kernel) (by decide +kernel), cm_T_in 350 (by decide +kernel) (by decide +kernel)⟩, fun h => absurd h (by decide), fun h => absurd h (by decide), ⟨by decide +kernel, by decide +kernel, by decide +kernel⟩, by decide +kernel, rfl, by decide +kernel, fun _ => ⟨_, rfl⟩, fun _ => ⟨_, rfl, rfl⟩⟩
set_option maxRecDepth 100000 in
theorem mo_48 : cm_ok mi_48 := ⟨cm_T_in 363 (by decide +kernel) (by decide +kernel), cm_T_in 15 (by decide +kernel) (by decide +kernel), fun _ => ⟨cm_T_in 361 (by decide +kernel) (by decide +kernel), cm_T_in 362 (by decide +kernel) (by decide +kernel)⟩, fun h => absurd h (by decide), fun h => absurd h (by decide), ⟨by decide +kernel, by decide +kernel, by decide +kernel⟩, by decide +kernel, rfl, by decide +kernel, fun _ => ⟨_, rfl⟩, fun _ => ⟨_, rfl, rfl⟩⟩
set_option maxRecDepth 100000 in
theorem mo_49 : cm_ok mi_49 := ⟨cm_T_in 216 (by decide +kernel) (by decide +kernel), cm_T_in 15 (by decide +kernel) (by decide +kernel), fun _ => ⟨cm_T_in 214 (by decide +kernel) (by decide +kernel), cm_T_in 215 (by decide +kernel) (by decide +kernel)⟩, fun h => absurd h (by decide), fun h => absurd h (by decide), ⟨by decide +kernel, by decide +kernel, by decide +kernel⟩, by decide +kernel, rfl, by decide +kernel, fun _ => ⟨_, rfl⟩, fun _ => ⟨_, rfl, rfl⟩⟩
set_option maxRecDepth 100000 in
theorem mo_50 : cm_ok mi_50 := ⟨cm_T_in 227 (by decide +kernel) (by decide +kernel), cm_T_in 15 (by decide +kernel) (by decide +kernel), fun _ => ⟨cm_T_in 225 (by decide +kernel) (by decide +kernel), cm_T_in 226 (by decide +kernel) (by decide +kernel)⟩, fun h => absurd h (by decide), fun h => absurd h (by decide), ⟨by decide +kernel, by decide +kernel, by decide +kernel⟩, by decide +kernel, rfl, by decide +kernel, fun _ => ⟨_, rfl⟩, fun _ => ⟨_, rfl, rfl⟩⟩
set_option maxRecDepth 100000 in
theorem mo_51 : cm_ok mi_51 := ⟨cm_T_in 286 (by decide +kernel) (by decide +kernel), cm_T_in 15 (by decide +kernel) (by decide +kernel), fun _ => ⟨cm_T_in 284 (by decide +kernel) (by decide +kernel), cm_T_in 285 (by decide +kernel) (by decide +kernel)⟩, fun h => absurd h (by decide), fun h => absurd h (by decide), ⟨by decide +kernel, by decide +kernel, by decide +kernel⟩, by decide +kernel, rfl, by decide +kernel, fun _ => ⟨_, rfl⟩, fun _ => ⟨_, rfl, rfl⟩⟩
set_option maxRecDepth 100000 in
theorem mo_52 : cm_ok mi_52 := ⟨cm_T_in 295 (by decide +kernel) (by decide +kernel), cm_T_in 15 (by decide +kernel) (by decide +kernel), fun _ => ⟨cm_T_in 293 (by decide +kernel) (by decide +kernel), cm_T_in 294 (by decide +kernel) (by decide +kernel)⟩, fun h => absurd h (by decide), fun h => absurd h (by decide), ⟨by decide +kernel, by decide +kernel, by decide +kernel⟩, by decide +kernel, rfl, by decide +kernel, fun _ => ⟨_, rfl⟩, fun _ => ⟨_, rfl, rfl⟩⟩
set_option maxRecDepth 100000 in
theorem mo_53 : cm_ok mi_53 := ⟨cm_T_in 382 (by decide +kernel) (by decide +kernel), cm_T_in 15 (by decide +kernel) (by decide +kernel), fun _ => ⟨cm_T_in 380 (by decide +kernel) (by decide +kernel), cm_T_in 381 (by decide +kernel) (by decide +kernel)⟩, fun h => absurd h (by decide), fun h => absurd h (by decide), ⟨by decide +kernel, by decide +kernel, by decide +kernel⟩, by decide +kernel, rfl, by decide +kernel, fun _ => ⟨_, rfl⟩, fun _ => ⟨_, rfl, rfl⟩⟩
set_option maxRecDepth 100000 in
theorem mo_54 : cm_ok mi_54 := ⟨cm_T_in 404 (by decide +kernel) (by decide +kernel), cm_T_in 15 (by decide +kernel) (by decide +kernel), fun _ => ⟨cm_T_in 402 (by decide +kernel) (by decide +kernel), cm_T_in 403 (by decide +kernel) (by decide +kernel)⟩, fun h => absurd h (by decide), fun h => absurd h (by decide), ⟨by decide +kernel, by decide +kernel, by decide +kernel⟩, by decide +kernel, rfl, by decide +kernel, fun _ => ⟨_, rfl⟩, fun _ => ⟨_, rfl, rfl⟩⟩
set_option maxRecDepth 100000 in
theorem mo_55 : cm_ok mi_55 := ⟨cm_T_in 300 (by decide +kernel) (by decide +kernel), cm_T_in 15 (by decide +kernel) (by decide +kernel), fun _ => ⟨cm_T_in 298 (by decide +kernel) (by decide +kernel), cm_T_in 299 (by decide +kernel) (by decide +kernel)⟩, fun h => absurd h (by decide), fun h => absurd h (by decide), ⟨by decide +kernel, by decide +kernel, by decide +kernel⟩, by decide +kernel, rfl, by decide +kernel, fun _ => ⟨_, rfl⟩, fun _ => ⟨_, rfl, rfl⟩⟩
set_option maxRecDepth 100000 in
theorem mo_56 : cm_ok mi_56 := ⟨cm_T_in 439 (by decide +kernel) (by decide +kernel), cm_T_in 15 (by decide +kernel) (by decide +kernel), fun _ => ⟨cm_T_in 437 (by decide +kernel) (by decide +kernel), cm_T_in 438 (by decide +kernel) (by decide +kernel)⟩, fun h => absurd h (by decide), fun h => absurd h (by decide), ⟨by decide +kernel, by decide +kernel, by decide +kernel⟩, by decide +kernel, rfl, by decide +kernel, fun _ => ⟨_, rfl⟩, fun _ => ⟨_, rfl, rfl⟩⟩
set_option maxRecDepth 100000 in
theorem mo_57 : cm_ok mi_57 := ⟨cm_T_in 448 (by decide +kernel) (by decide +kernel), cm_T_in 15 (by decide +kernel) (by decide +kernel), fun _ => ⟨cm_T_in 446 (by decide +kernel) (by decide +kernel), cm_T_in 447 (by decide +kernel) (by decide +kernel)⟩, fun h => absurd h (by decide), fun h => absurd h (by decide), ⟨by decide +kernel, by decide +kernel, by decide +kernel⟩, by decide +kernel, rfl, by decide +kernel, fun _ => ⟨_, rfl⟩, fun _ => ⟨_, rfl, rfl⟩⟩
set_option maxRecDepth 100000 in
theorem mo_58 : cm_ok mi_58 := ⟨cm_T_in 460 (by decide +kernel) (by decide +kernel), cm_T_in 15 (by decide +kernel) (by decide +kernel), fun _ => ⟨cm_T_in 458 (by decide +kernel) (by decide +kernel), cm_T_in 459 (by decide +kernel) (by decide +kernel)⟩, fun h => absurd h (by decide), fun h => absurd h (by decide), ⟨by decide +kernel, by decide +kernel, by decide +kernel⟩, by decide +kernel, rfl, by decide +kernel, fun _ => ⟨_, rfl⟩, fun _ => ⟨_, rfl, rfl⟩⟩
set_option maxRecDepth 100000 in
theorem mo_59 : cm_ok mi_59 := ⟨cm_T_in 358 (by decide +kernel) (by decide +kernel), cm_T_in 15 (by decide +kernel) (by decide +kernel), fun _ => ⟨cm_T_in 357 (by decide +kernel) (by decide +kernel), cm_T_in 10 (by decide +kernel) (by decide +kernel)⟩, fun h => absurd h (by decide), fun h => absurd h (by decide), ⟨by decide +kernel, by decide +kernel, by decide +kernel⟩, by decide +kernel, rfl, by decide +kernel, fun _ => ⟨_, rfl⟩, fun _ => ⟨_, rfl, rfl⟩⟩
set_option maxRecDepth 100000 in
theorem mo_60 : cm_ok mi_60 := ⟨cm_T_in 393 (by decide +kernel) (by decide +kernel), cm_T_in 15 (by decide +kernel) (by decide +kernel), fun _ => ⟨cm_T_in 392 (by decide +kernel) (by decide +kernel), cm_T_in 11 (by decide +kernel) (by decide +kernel)⟩, fun h => absurd h (by decide), fun h => absurd h (by decide), ⟨by decide +kernel, by decide +kernel, by decide +kernel⟩, by decide +kernel, rfl, by decide +kernel, fun _ => ⟨_, rfl⟩, fun _ => ⟨_, rfl, rfl⟩⟩
set_option maxRecDepth 100000 in
theorem mo_61 : cm_ok mi_61 := ⟨cm_T_in 196 (by decide +kernel) (by decide +kernel), cm_T_in 15 (by decide +kernel) (by decide +kernel), fun h => absurd h (by decide), fun _ => cm_T_in 195 (by decide +kernel) (by decide +kernel), fun h => absurd h (by decide), ⟨by decide +kernel, by decide +kernel, by decide +kernel⟩, by decide +kernel, rfl, by decide +kernel, fun h => absurd rfl h, fun h => absurd rfl h⟩
set_option maxRecDepth 100000 in
theorem mo_62 : cm_ok mi_62 := ⟨cm_T_in 354 (by decide +kernel) (by decide +kernel), cm_T_in 15 (by decide +kernel) (by decide +kernel), fun h => absurd h (by decide), fun _ => cm_T_in 353 (by decide +kernel) (by decide +kernel), fun h => absurd h (by decide), ⟨by decide +kernel, by decide +kernel, by decide +kernel⟩, by decide +kernel, rfl, by decide +kernel, fun h => absurd rfl h, fun h => absurd rfl h⟩
set_option maxRecDepth 100000 in
theorem mo_63 : cm_ok mi_63 := ⟨cm_T_in 223 (by decide +kernel) (by decide +kernel), cm_T_in 15 (by decide +kernel) (by decide +kernel), fun h => absurd h (by decide), fun _ => cm_T_in 222 (by decide +kernel) (by decide +kernel), fun h => absurd h (by decide), ⟨by decide +kernel, by decide +kernel, by decide +kernel⟩, by decide +kernel, rfl, by decide +kernel, fun h => absurd rfl h, fun h => absurd rfl h⟩
set_option maxRecDepth 100000 in
theorem mo_64 : cm_ok mi_64 := ⟨cm_T_in 338 (by decide +kernel) (by decide +kernel), cm_T_in 14 (by decide +kernel) (by decide +kernel), fun h => absurd h (by decide), fun _ => cm_T_in 337 (by decide +kernel) (by decide +kernel), fun h => absurd h (by decide), ⟨by decide +kernel, by decide +kernel, by decide +kernel⟩, by decide +kernel, rfl, by decide +kernel, fun h => absurd rfl h, fun h => absurd rfl h⟩
set_option maxRecDepth 100000 in
theorem mo_65 : cm_ok mi_65 := ⟨cm_T_in 343 (by decide +kernel) (by decide +kernel), cm_T_in 14 (by decide +kernel) (by decide +kernel), fun h => absurd h (by decide), fun _ => cm_T_in 342 (by decide +kernel) (by decide +kernel), fun h => absurd h (by decide), ⟨by decide +kernel, by decide +kernel, by decide +kernel⟩, by decide +kernel, rfl, by decide +kernel, fun h => absurd rfl h, fun h => absurd rfl h⟩
set_option maxRecDepth 100000 in
theorem mo_66 : cm_ok mi_66 := ⟨cm_T_in 347 (by decide +kernel) (by decide +kernel), cm_T_in 14 (by decide +kernel) (by decide +kernel), fun h => absurd h (by decide), fun _ => cm_T_in 346 (by decide +kernel) (by decide +kernel), fun h => absurd h (by decide), ⟨by decide +kernel, by decide +kernel, by decide +kernel⟩, by decide +kernel, rfl, by decide +kernel, fun h => absurd rfl h, fun h => absurd rfl h⟩
set_option maxRecDepth 100000 in
theorem mo_67 : cm_ok mi_67 := ⟨cm_T_in 366 (by decide +kernel) (by decide +kernel), cm_T_in 14 (by decide +kernel) (by decide +kernel), fun h => absurd h (by decide), fun _ => cm_T_in 365 (by decide +kernel) (by decide +kernel), fun h => absurd h (by decide), ⟨by decide +kernel, by decide +kernel, by decide +kernel⟩, by decide +kernel, rfl, by decide +kernel, fun h => absurd rfl h, fun h => absurd rfl h⟩
set_option maxRecDepth 100000 in
theorem mo_68 : cm_ok mi_68 := ⟨cm_T_in 375 (by decide +kernel) (by decide +kernel), cm_T_in 14 (by decide +kernel) (by decide +kernel), fun h => absurd h (by decide), fun _ => cm_T_in 374 (by decide +kernel) (by decide +kernel), fun h => absurd h (by decide), ⟨by decide +kernel, by decide +kernel, by decide +kernel⟩, by decide +kernel, rfl, by decide +kernel, fun h => absurd rfl h, fun h => absurd rfl h⟩
set_option maxRecDepth 100000 in
theorem mo_69 : cm_ok mi_69 := ⟨cm_T_in 372 (by decide +kernel) (by decide +kernel), cm_T_in 14 (by decide +kernel) (by decide +kernel), fun h => absurd h (by decide), fun _ => cm_T_in 371 (by decide +kernel) (by decide +kernel), fun h => absurd h (by decide), ⟨by decide +kernel, by decide +kernel, by decide +kernel⟩, by decide +kernel, rfl, by decide +kernel, fun h => absurd rfl h, fun h => absurd rfl h⟩
set_option maxRecDepth 100000 in
theorem mo_70 : cm_ok mi_70 := ⟨cm_T_in 369 (by decide +kernel) (by decide +kernel), cm_T_in 14 (by decide +kernel) (by decide +kernel), fun h => absurd h (by decide), fun _ => cm_T_in 368 (by decide +kernel) (by decide +kernel), fun h => absurd h (by decide), ⟨by decide +kernel, by decide +kernel, by decide +kernel⟩, by decide +kernel, rfl, by decide +kernel, fun h => absurd rfl h, fun h => absurd rfl h⟩
set_option maxRecDepth 100000 in
theorem mo_71 : cm_ok mi_71 := ⟨cm_T_in 378 (by decide +kernel) (by decide +kernel), cm_T_in 14 (by decide +kernel) (by decide +kernel), fun h => absurd h (by decide), fun _ => cm_T_in 377 (by decide +kernel) (by decide +kernel), fun h => absurd h (by decide), ⟨by decide +kernel, by decide +kernel, by decide +kernel⟩, by decide +kernel, rfl, by decide +kernel, fun h => absurd rfl h, fun h => absurd rfl h⟩
set_option maxRecDepth 100000 in
theorem mo_72 : cm_ok mi_72 := ⟨cm_T_in 400 (by decide +kernel) (by decide +kernel), cm_T_in 14 (by decide +kernel) (by decide +kernel), fun h => absurd h (by decide), fun _ => cm_T_in 399 (by decide +kernel) (by decide +kernel), fun h => absurd h (by decide), ⟨by decide +kernel, by decide +kernel, by decide +kernel⟩, by decide +kernel, rfl, by decide +kernel, fun h => absurd rfl h, fun h => absurd rfl h⟩
set_option maxRecDepth 100000 in
theorem mo_73 : cm_ok mi_73 := ⟨cm_T_in 435 (by decide +kernel) (by decide +kernel), cm_T_in 14 (by decide +kernel) (by decide +kernel), fun h => absurd h (by decide), fun _ => cm_T_in 434 (by decide +kernel) (by decide +kernel), fun h => absurd h (by decide), ⟨by decide +kernel, by decide +kernel, by decide +kernel⟩, by decide +kernel, rfl, by decide +kernel, fun h => absurd rfl h, fun h => absurd rfl h⟩
/-- the words of a call -/
def cm_cok (e : (Nat × Nat) × (Nat × Nat)) : Prop := (e.2.2 < 1000 → ∃ q, cm_P[e.2.2]? = some q ∧ cm_ok q.1 ∧ (e.2.1 = 0 → .methodLink (cm_cn e.1.1) e.1.2 q.1.1 ∈ cm_T) ∧ (e.2.1 ≠ 0 → (e.1.1, e.1.2, e.2.2) ∈ [(5, 9, 0), (5, 29, 43)])) ∧
  (e.2.2 = 1000 → .methodLink (cm_cn e.1.1) e.1.2 Lib.objectInit ∈ cm_T) ∧ (e.2.2 = 1001 → .methodLink (cm_cn e.1.1) e.1.2 Lib.Math.max.name ∈ cm_T) ∧ (e.2.2 = 1002 → .methodLink (cm_cn e.1.1) e.1.2 arraycopyName ∈ cm_T) ∧ e.2.2 < 1003
set_option maxRecDepth 100000 in
theorem cco_0 : cm_cok ((0, 3), (0, 1000)) := ⟨fun h => absurd h (by decide), fun _ => cm_T_in 36 (by decide +kernel) (by decide +kernel), fun h => absurd h (by decide), fun h => absurd h (by decide), by decide⟩
set_option maxRecDepth 100000 in
theorem cco_1 : cm_cok ((0, 11), (0, 26)) := ⟨fun _ => ⟨(mi_26, ins_26), rfl, mo_26, fun _ => cm_T_in 39 (by decide +kernel) (by decide +kernel), fun h => absurd rfl h⟩, fun h => absurd h (by decide), fun h => absurd h (by decide), fun h => absurd h (by decide), by decide⟩
set_option maxRecDepth 100000 in
theorem cco_2 : cm_cok ((0, 37), (0, 2)) := ⟨fun _ => ⟨(mi_2, ins_2), rfl, mo_2, fun _ => cm_T_in 232 (by decide +kernel) (by decide +kernel), fun h => absurd rfl h⟩, fun h => absurd h (by decide), fun h => absurd h (by decide), fun h => absurd h (by decide), by decide⟩
set_option maxRecDepth 100000 in
theorem cco_3 : cm_cok ((0, 40), (0, 3)) := ⟨fun _ => ⟨(mi_3, ins_3), rfl, mo_3, fun _ => cm_T_in 240 (by decide +kernel) (by decide +kernel), fun h => absurd rfl h⟩, fun h => absurd h (by decide), fun h => absurd h (by decide), fun h => absurd h (by decide), by decide⟩
set_option maxRecDepth 100000 in
theorem cco_4 : cm_cok ((0, 43), (0, 6)) := ⟨fun _ => ⟨(mi_6, ins_6), rfl, mo_6, fun _ => cm_T_in 256 (by decide +kernel) (by decide +kernel), fun h => absurd rfl h⟩, fun h => absurd h (by decide), fun h => absurd h (by decide), fun h => absurd h (by decide), by decide⟩
set_option maxRecDepth 100000 in
theorem cco_5 : cm_cok ((0, 53), (0, 31)) := ⟨fun _ => ⟨(mi_31, ins_31), rfl, mo_31, fun _ => cm_T_in 236 (by decide +kernel) (by decide +kernel), fun h => absurd rfl h⟩, fun h => absurd h (by decide), fun h => absurd h (by decide), fun h => absurd h (by decide), by decide⟩
set_option maxRecDepth 100000 in
theorem cco_6 : cm_cok ((0, 63), (0, 5)) := ⟨fun _ => ⟨(mi_5, ins_5), rfl, mo_5, fun _ => cm_T_in 244 (by decide +kernel) (by decide +kernel), fun h => absurd rfl h⟩, fun h => absurd h (by decide), fun h => absurd h (by decide), fun h => absurd h (by decide), by decide⟩
set_option maxRecDepth 100000 in
theorem cco_7 : cm_cok ((0, 70), (0, 4)) := ⟨fun _ => ⟨(mi_4, ins_4), rfl, mo_4, fun _ => cm_T_in 248 (by decide +kernel) (by decide +kernel), fun h => absurd rfl h⟩, fun h => absurd h (by decide), fun h => absurd h (by decide), fun h => absurd h (by decide), by decide⟩
set_option maxRecDepth 100000 in
theorem cco_8 : cm_cok ((0, 74), (0, 9)) := ⟨fun _ => ⟨(mi_9, ins_9), rfl, mo_9, fun _ => cm_T_in 252 (by decide +kernel) (by decide +kernel), fun h => absurd rfl h⟩, fun h => absurd h (by decide), fun h => absurd h (by decide), fun h => absurd h (by decide), by decide⟩
set_option maxRecDepth 100000 in
theorem cco_9 : cm_cok ((0, 78), (0, 7)) := ⟨fun _ => ⟨(mi_7, ins_7), rfl, mo_7, fun _ => cm_T_in 260 (by decide +kernel) (by decide +kernel), fun h => absurd rfl h⟩, fun h => absurd h (by decide), fun h => absurd h (by decide), fun h => absurd h (by decide), by decide⟩
set_option maxRecDepth 100000 in
theorem cco_10 : cm_cok ((0, 81), (0, 8)) := ⟨fun _ => ⟨(mi_8, ins_8), rfl, mo_8, fun _ => cm_T_in 264 (by decide +kernel) (by decide +kernel), fun h => absurd rfl h⟩, fun h => absurd h (by decide), fun h => absurd h (by decide), fun h => absurd h (by decide), by decide⟩
set_option maxRecDepth 100000 in
theorem cco_11 : cm_cok ((0, 84), (0, 11)) := ⟨fun _ => ⟨(mi_11, ins_11), rfl, mo_11, fun _ => cm_T_in 425 (by decide +kernel) (by decide +kernel), fun h => absurd rfl h⟩, fun h => absurd h (by decide), fun h => absurd h (by decide), fun h => absurd h (by decide), by decide⟩
set_option maxRecDepth 100000 in
theorem cco_12 : cm_cok ((0, 87), (0, 14)) := ⟨fun _ => ⟨(mi_14, ins_14), rfl, mo_14, fun _ => cm_T_in 409 (by decide +kernel) (by decide +kernel), fun h => absurd rfl h⟩, fun h => absurd h (by decide), fun h => absurd h (by decide), fun h => absurd h (by decide), by decide⟩
set_option maxRecDepth 100000 in
theorem cco_13 : cm_cok ((0, 94), (0, 18)) := ⟨fun _ => ⟨(mi_18, ins_18), rfl, mo_18, fun _ => cm_T_in 324 (by decide +kernel) (by decide +kernel), fun h => absurd rfl h⟩, fun h => absurd h (by decide), fun h => absurd h (by decide), fun h => absurd h (by decide), by decide⟩
set_option maxRecDepth 100000 in
theorem cco_14 : cm_cok ((0, 97), (0, 1001)) := ⟨fun h => absurd h (by decide), fun h => absurd h (by decide), fun _ => cm_T_in 317 (by decide +kernel) (by decide +kernel), fun h => absurd h (by decide), by decide⟩
set_option maxRecDepth 100000 in
theorem cco_15 : cm_cok ((0, 102), (0, 20)) := ⟨fun _ => ⟨(mi_20, ins_20), rfl, mo_20, fun _ => cm_T_in 313 (by decide +kernel) (by decide +kernel), fun h => absurd rfl h⟩, fun h => absurd h (by decide), fun h => absurd h (by decide), fun h => absurd h (by decide), by decide⟩
set_option maxRecDepth 100000 in
theorem cco_16 : cm_cok ((0, 105), (0, 19)) := ⟨fun _ => ⟨(mi_19, ins_19), rfl, mo_19, fun _ => cm_T_in 320 (by decide +kernel) (by decide +kernel), fun h => absurd rfl h⟩, fun h => absurd h (by decide), fun h => absurd h (by decide), fun h => absurd h (by decide), by decide⟩
set_option maxRecDepth 100000 in
theorem cco_17 : cm_cok ((0, 108), (0, 21)) := ⟨fun _ => ⟨(mi_21, ins_21), rfl, mo_21, fun _ => cm_T_in 309 (by decide +kernel) (by decide +kernel), fun h => absurd rfl h⟩, fun h => absurd h (by decide), fun h => absurd h (by decide), fun h => absurd h (by decide), by decide⟩
set_option maxRecDepth 100000 in
theorem cco_18 : cm_cok ((1, 3), (0, 1000)) := ⟨fun h => absurd h (by decide), fun _ => cm_T_in 42 (by decide +kernel) (by decide +kernel), fun h => absurd h (by decide), fun h => absurd h (by decide), by decide⟩
set_option maxRecDepth 100000 in
theorem cco_19 : cm_cok ((1, 30), (0, 1002)) := ⟨fun h => absurd h (by decide), fun h => absurd h (by decide), fun h => absurd h (by decide), fun _ => cm_T_in 45 (by decide +kernel) (by decide +kernel), by decide⟩
set_option maxRecDepth 100000 in
theorem cco_20 : cm_cok ((1, 40), (0, 28)) := ⟨fun _ => ⟨(mi_28, ins_28), rfl, mo_28, fun _ => cm_T_in 205 (by decide +kernel) (by decide +kernel), fun h => absurd rfl h⟩, fun h => absurd h (by decide), fun h => absurd h (by decide), fun h => absurd h (by decide), by decide⟩
set_option maxRecDepth 100000 in
theorem cco_21 : cm_cok ((1, 44), (0, 29)) := ⟨fun _ => ⟨(mi_29, ins_29), rfl, mo_29, fun _ => cm_T_in 209 (by decide +kernel) (by decide +kernel), fun h => absurd rfl h⟩, fun h => absurd h (by decide), fun h => absurd h (by decide), fun h => absurd h (by decide), by decide⟩
set_option maxRecDepth 100000 in
theorem cco_22 : cm_cok ((1, 48), (0, 34)) := ⟨fun _ => ⟨(mi_34, ins_34), rfl, mo_34, fun _ => cm_T_in 276 (by decide +kernel) (by decide +kernel), fun h => absurd rfl h⟩, fun h => absurd h (by decide), fun h => absurd h (by decide), fun h => absurd h (by decide), by decide⟩
set_option maxRecDepth 100000 in
theorem cco_23 : cm_cok ((1, 52), (0, 32)) := ⟨fun _ => ⟨(mi_32, ins_32), rfl, mo_32, fun _ => cm_T_in 291 (by decide +kernel) (by decide +kernel), fun h => absurd rfl h⟩, fun h => absurd h (by decide), fun h => absurd h (by decide), fun h => absurd h (by decide), by decide⟩
set_option maxRecDepth 100000 in
theorem cco_24 : cm_cok ((1, 55), (0, 35)) := ⟨fun _ => ⟨(mi_35, ins_35), rfl, mo_35, fun _ => cm_T_in 280 (by decide +kernel) (by decide +kernel), fun h => absurd rfl h⟩, fun h => absurd h (by decide), fun h => absurd h (by decide), fun h => absurd h (by decide), by decide⟩
set_option maxRecDepth 100000 in
theorem cco_25 : cm_cok ((2, 3), (0, 1000)) := ⟨fun h => absurd h (by decide), fun _ => cm_T_in 133 (by decide +kernel) (by decide +kernel), fun h => absurd h (by decide), fun h => absurd h (by decide), by decide⟩
set_option maxRecDepth 100000 in
theorem cco_26 : cm_cok ((2, 17), (0, 26)) := ⟨fun _ => ⟨(mi_26, ins_26), rfl, mo_26, fun _ => cm_T_in 136 (by decide +kernel) (by decide +kernel), fun h => absurd rfl h⟩, fun h => absurd h (by decide), fun h => absurd h (by decide), fun h => absurd h (by decide), by decide⟩
set_option maxRecDepth 100000 in
theorem cco_27 : cm_cok ((2, 25), (0, 27)) := ⟨fun _ => ⟨(mi_27, ins_27), rfl, mo_27, fun _ => cm_T_in 201 (by decide +kernel) (by decide +kernel), fun h => absurd rfl h⟩, fun h => absurd h (by decide), fun h => absurd h (by decide), fun h => absurd h (by decide), by decide⟩
set_option maxRecDepth 100000 in
theorem cco_28 : cm_cok ((3, 3), (0, 1000)) := ⟨fun h => absurd h (by decide), fun _ => cm_T_in 117 (by decide +kernel) (by decide +kernel), fun h => absurd h (by decide), fun h => absurd h (by decide), by decide⟩
set_option maxRecDepth 100000 in
theorem cco_29 : cm_cok ((4, 3), (0, 1000)) := ⟨fun h => absurd h (by decide), fun _ => cm_T_in 153 (by decide +kernel) (by decide +kernel), fun h => absurd h (by decide), fun h => absurd h (by decide), by decide⟩
set_option maxRecDepth 100000 in
theorem cco_30 : cm_cok ((4, 21), (0, 26)) := ⟨fun _ => ⟨(mi_26, ins_26), rfl, mo_26, fun _ => cm_T_in 155 (by decide +kernel) (by decide +kernel), fun h => absurd rfl h⟩, fun h => absurd h (by decide), fun h => absurd h (by decide), fun h => absurd h (by decide), by decide⟩
set_option maxRecDepth 100000 in
theorem cco_31 : cm_cok ((5, 1), (0, 1000)) := ⟨fun h => absurd h (by decide), fun _ => cm_T_in 28 (by decide +kernel) (by decide +kernel), fun h => absurd h (by decide), fun h => absurd h (by decide), by decide⟩
set_option maxRecDepth 100000 in
theorem cco_32 : cm_cok ((5, 9), (1, 0)) := ⟨fun _ => ⟨(mi_0, ins_0), rfl, mo_0, fun h => absurd h (by decide), fun _ => by decide⟩, fun h => absurd h (by decide), fun h => absurd h (by decide), fun h => absurd h (by decide), by decide⟩
set_option maxRecDepth 100000 in
theorem cco_33 : cm_cok ((5, 29), (1, 43)) := ⟨fun _ => ⟨(mi_43, ins_43), rfl, mo_43, fun h => absurd h (by decide), fun _ => by decide⟩, fun h => absurd h (by decide), fun h => absurd h (by decide), fun h => absurd h (by decide), by decide⟩
set_option maxRecDepth 100000 in
theorem cco_34 : cm_cok ((5, 36), (0, 41)) := ⟨fun _ => ⟨(mi_41, ins_41), rfl, mo_41, fun _ => cm_T_in 130 (by decide +kernel) (by decide +kernel), fun h => absurd rfl h⟩, fun h => absurd h (by decide), fun h => absurd h (by decide), fun h => absurd h (by decide), by decide⟩
set_option maxRecDepth 100000 in
theorem cco_35 : cm_cok ((5, 43), (0, 44)) := ⟨fun _ => ⟨(mi_44, ins_44), rfl, mo_44, fun _ => cm_T_in 150 (by decide +kernel) (by decide +kernel), fun h => absurd rfl h⟩, fun h => absurd h (by decide), fun h => absurd h (by decide), fun h => absurd h (by decide), by decide⟩
set_option maxRecDepth 100000 in
theorem cco_36 : cm_cok ((5, 55), (0, 61)) := ⟨fun _ => ⟨(mi_61, ins_61), rfl, mo_61, fun _ => cm_T_in 194 (by decide +kernel) (by decide +kernel), fun h => absurd rfl h⟩, fun h => absurd h (by decide), fun h => absurd h (by decide), fun h => absurd h (by decide), by decide⟩
set_option maxRecDepth 100000 in
theorem cco_37 : cm_cok ((5, 59), (0, 42)) := ⟨fun _ => ⟨(mi_42, ins_42), rfl, mo_42, fun _ => cm_T_in 197 (by decide +kernel) (by decide +kernel), fun h => absurd rfl h⟩, fun h => absurd h (by decide), fun h => absurd h (by decide), fun h => absurd h (by decide), by decide⟩
set_option maxRecDepth 100000 in
theorem cco_38 : cm_cok ((5, 68), (0, 62)) := ⟨fun _ => ⟨(mi_62, ins_62), rfl, mo_62, fun _ => cm_T_in 352 (by decide +kernel) (by decide +kernel), fun h => absurd rfl h⟩, fun h => absurd h (by decide), fun h => absurd h (by decide), fun h => absurd h (by decide), by decide⟩
set_option maxRecDepth 100000 in
theorem cco_39 : cm_cok ((5, 72), (0, 59)) := ⟨fun _ => ⟨(mi_59, ins_59), rfl, mo_59, fun _ => cm_T_in 355 (by decide +kernel) (by decide +kernel), fun h => absurd rfl h⟩, fun h => absurd h (by decide), fun h => absurd h (by decide), fun h => absurd h (by decide), by decide⟩
set_option maxRecDepth 100000 in
theorem cco_40 : cm_cok ((5, 76), (0, 30)) := ⟨fun _ => ⟨(mi_30, ins_30), rfl, mo_30, fun _ => cm_T_in 217 (by decide +kernel) (by decide +kernel), fun h => absurd rfl h⟩, fun h => absurd h (by decide), fun h => absurd h (by decide), fun h => absurd h (by decide), by decide⟩
set_option maxRecDepth 100000 in
theorem cco_41 : cm_cok ((5, 79), (0, 63)) := ⟨fun _ => ⟨(mi_63, ins_63), rfl, mo_63, fun _ => cm_T_in 221 (by decide +kernel) (by decide +kernel), fun h => absurd rfl h⟩, fun h => absurd h (by decide), fun h => absurd h (by decide), fun h => absurd h (by decide), by decide⟩
set_option maxRecDepth 100000 in
theorem cco_42 : cm_cok ((5, 85), (0, 1)) := ⟨fun _ => ⟨(mi_1, ins_1), rfl, mo_1, fun _ => cm_T_in 228 (by decide +kernel) (by decide +kernel), fun h => absurd rfl h⟩, fun h => absurd h (by decide), fun h => absurd h (by decide), fun h => absurd h (by decide), by decide⟩
set_option maxRecDepth 100000 in
theorem cco_43 : cm_cok ((5, 88), (0, 10)) := ⟨fun _ => ⟨(mi_10, ins_10), rfl, mo_10, fun _ => cm_T_in 268 (by decide +kernel) (by decide +kernel), fun h => absurd rfl h⟩, fun h => absurd h (by decide), fun h => absurd h (by decide), fun h => absurd h (by decide), by decide⟩
set_option maxRecDepth 100000 in
theorem cco_44 : cm_cok ((5, 92), (0, 32)) := ⟨fun _ => ⟨(mi_32, ins_32), rfl, mo_32, fun _ => cm_T_in 272 (by decide +kernel) (by decide +kernel), fun h => absurd rfl h⟩, fun h => absurd h (by decide), fun h => absurd h (by decide), fun h => absurd h (by decide), by decide⟩
set_option maxRecDepth 100000 in
theorem cco_45 : cm_cok ((5, 96), (0, 33)) := ⟨fun _ => ⟨(mi_33, ins_33), rfl, mo_33, fun _ => cm_T_in 287 (by decide +kernel) (by decide +kernel), fun h => absurd rfl h⟩, fun h => absurd h (by decide), fun h => absurd h (by decide), fun h => absurd h (by decide), by decide⟩
set_option maxRecDepth 100000 in
theorem cco_46 : cm_cok ((5, 133), (0, 31)) := ⟨fun _ => ⟨(mi_31, ins_31), rfl, mo_31, fun _ => cm_T_in 296 (by decide +kernel) (by decide +kernel), fun h => absurd rfl h⟩, fun h => absurd h (by decide), fun h => absurd h (by decide), fun h => absurd h (by decide), by decide⟩
set_option maxRecDepth 100000 in
theorem cco_47 : cm_cok ((5, 142), (0, 37)) := ⟨fun _ => ⟨(mi_37, ins_37), rfl, mo_37, fun _ => cm_T_in 383 (by decide +kernel) (by decide +kernel), fun h => absurd rfl h⟩, fun h => absurd h (by decide), fun h => absurd h (by decide), fun h => absurd h (by decide), by decide⟩
set_option maxRecDepth 100000 in
theorem cco_48 : cm_cok ((5, 145), (0, 21)) := ⟨fun _ => ⟨(mi_21, ins_21), rfl, mo_21, fun _ => cm_T_in 387 (by decide +kernel) (by decide +kernel), fun h => absurd rfl h⟩, fun h => absurd h (by decide), fun h => absurd h (by decide), fun h => absurd h (by decide), by decide⟩
set_option maxRecDepth 100000 in
theorem cco_49 : cm_cok ((5, 148), (0, 19)) := ⟨fun _ => ⟨(mi_19, ins_19), rfl, mo_19, fun _ => cm_T_in 388 (by decide +kernel) (by decide +kernel), fun h => absurd rfl h⟩, fun h => absurd h (by decide), fun h => absurd h (by decide), fun h => absurd h (by decide), by decide⟩
set_option maxRecDepth 100000 in
theorem cco_50 : cm_cok ((5, 151), (0, 18)) := ⟨fun _ => ⟨(mi_18, ins_18), rfl, mo_18, fun _ => cm_T_in 389 (by decide +kernel) (by decide +kernel), fun h => absurd rfl h⟩, fun h => absurd h (by decide), fun h => absurd h (by decide), fun h => absurd h (by decide), by decide⟩
set_option maxRecDepth 100000 in
theorem cco_51 : cm_cok ((5, 154), (0, 60)) := ⟨fun _ => ⟨(mi_60, ins_60), rfl, mo_60, fun _ => cm_T_in 390 (by decide +kernel) (by decide +kernel), fun h => absurd rfl h⟩, fun h => absurd h (by decide), fun h => absurd h (by decide), fun h => absurd h (by decide), by decide⟩
set_option maxRecDepth 100000 in
theorem cco_52 : cm_cok ((5, 157), (0, 15)) := ⟨fun _ => ⟨(mi_15, ins_15), rfl, mo_15, fun _ => cm_T_in 405 (by decide +kernel) (by decide +kernel), fun h => absurd rfl h⟩, fun h => absurd h (by decide), fun h => absurd h (by decide), fun h => absurd h (by decide), by decide⟩
set_option maxRecDepth 100000 in
theorem cco_53 : cm_cok ((5, 160), (0, 16)) := ⟨fun _ => ⟨(mi_16, ins_16), rfl, mo_16, fun _ => cm_T_in 413 (by decide +kernel) (by decide +kernel), fun h => absurd rfl h⟩, fun h => absurd h (by decide), fun h => absurd h (by decide), fun h => absurd h (by decide), by decide⟩
set_option maxRecDepth 100000 in
theorem cco_54 : cm_cok ((5, 163), (0, 17)) := ⟨fun _ => ⟨(mi_17, ins_17), rfl, mo_17, fun _ => cm_T_in 417 (by decide +kernel) (by decide +kernel), fun h => absurd rfl h⟩, fun h => absurd h (by decide), fun h => absurd h (by decide), fun h => absurd h (by decide), by decide⟩
set_option maxRecDepth 100000 in
theorem cco_55 : cm_cok ((5, 166), (0, 12)) := ⟨fun _ => ⟨(mi_12, ins_12), rfl, mo_12, fun _ => cm_T_in 421 (by decide +kernel) (by decide +kernel), fun h => absurd rfl h⟩, fun h => absurd h (by decide), fun h => absurd h (by decide), fun h => absurd h (by decide), by decide⟩
set_option maxRecDepth 100000 in
theorem cco_56 : cm_cok ((5, 169), (0, 13)) := ⟨fun _ => ⟨(mi_13, ins_13), rfl, mo_13, fun _ => cm_T_in 429 (by decide +kernel) (by decide +kernel), fun h => absurd rfl h⟩, fun h => absurd h (by decide), fun h => absurd h (by decide), fun h => absurd h (by decide), by decide⟩
set_option maxRecDepth 100000 in
theorem cco_57 : cm_cok ((5, 172), (0, 38)) := ⟨fun _ => ⟨(mi_38, ins_38), rfl, mo_38, fun _ => cm_T_in 301 (by decide +kernel) (by decide +kernel), fun h => absurd rfl h⟩, fun h => absurd h (by decide), fun h => absurd h (by decide), fun h => absurd h (by decide), by decide⟩
set_option maxRecDepth 100000 in
theorem cco_58 : cm_cok ((5, 178), (0, 23)) := ⟨fun _ => ⟨(mi_23, ins_23), rfl, mo_23, fun _ => cm_T_in 305 (by decide +kernel) (by decide +kernel), fun h => absurd rfl h⟩, fun h => absurd h (by decide), fun h => absurd h (by decide), fun h => absurd h (by decide), by decide⟩
set_option maxRecDepth 100000 in
theorem cco_59 : cm_cok ((5, 181), (0, 39)) := ⟨fun _ => ⟨(mi_39, ins_39), rfl, mo_39, fun _ => cm_T_in 328 (by decide +kernel) (by decide +kernel), fun h => absurd rfl h⟩, fun h => absurd h (by decide), fun h => absurd h (by decide), fun h => absurd h (by decide), by decide⟩
set_option maxRecDepth 100000 in
theorem cco_60 : cm_cok ((5, 184), (0, 24)) := ⟨fun _ => ⟨(mi_24, ins_24), rfl, mo_24, fun _ => cm_T_in 332 (by decide +kernel) (by decide +kernel), fun h => absurd rfl h⟩, fun h => absurd h (by decide), fun h => absurd h (by decide), fun h => absurd h (by decide), by decide⟩
set_option maxRecDepth 100000 in
theorem cco_61 : cm_cok ((5, 190), (0, 27)) := ⟨fun _ => ⟨(mi_27, ins_27), rfl, mo_27, fun _ => cm_T_in 440 (by decide +kernel) (by decide +kernel), fun h => absurd rfl h⟩, fun h => absurd h (by decide), fun h => absurd h (by decide), fun h => absurd h (by decide), by decide⟩
set_option maxRecDepth 100000 in
theorem cco_62 : cm_cok ((5, 193), (0, 22)) := ⟨fun _ => ⟨(mi_22, ins_22), rfl, mo_22, fun _ => cm_T_in 441 (by decide +kernel) (by decide +kernel), fun h => absurd rfl h⟩, fun h => absurd h (by decide), fun h => absurd h (by decide), fun h => absurd h (by decide), by decide⟩
set_option maxRecDepth 100000 in
theorem cco_63 : cm_cok ((5, 196), (0, 40)) := ⟨fun _ => ⟨(mi_40, ins_40), rfl, mo_40, fun _ => cm_T_in 449 (by decide +kernel) (by decide +kernel), fun h => absurd rfl h⟩, fun h => absurd h (by decide), fun h => absurd h (by decide), fun h => absurd h (by decide), by decide⟩
set_option maxRecDepth 100000 in
theorem cco_64 : cm_cok ((5, 199), (0, 25)) := ⟨fun _ => ⟨(mi_25, ins_25), rfl, mo_25, fun _ => cm_T_in 453 (by decide +kernel) (by decide +kernel), fun h => absurd rfl h⟩, fun h => absurd h (by decide), fun h => absurd h (by decide), fun h => absurd h (by decide), by decide⟩
set_option maxRecDepth 100000 in
theorem cco_65 : cm_cok ((5, 224), (0, 29)) := ⟨fun _ => ⟨(mi_29, ins_29), rfl, mo_29, fun _ => cm_T_in 359 (by decide +kernel) (by decide +kernel), fun h => absurd rfl h⟩, fun h => absurd h (by decide), fun h => absurd h (by decide), fun h => absurd h (by decide), by decide⟩
set_option maxRecDepth 100000 in
theorem cco_66 : cm_cok ((5, 104), (0, 36)) := ⟨fun _ => ⟨(mi_36, ins_36), rfl, mo_36, fun _ => cm_T_in 394 (by decide +kernel) (by decide +kernel), fun h => absurd rfl h⟩, fun h => absurd h (by decide), fun h => absurd h (by decide), fun h => absurd h (by decide), by decide⟩
set_option maxRecDepth 100000 in
theorem cco_67 : cm_cok ((7, 10), (0, 55)) := ⟨fun _ => ⟨(mi_55, ins_55), rfl, mo_55, fun _ => cm_T_in 297 (by decide +kernel) (by decide +kernel), fun h => absurd rfl h⟩, fun h => absurd h (by decide), fun h => absurd h (by decide), fun h => absurd h (by decide), by decide⟩
set_option maxRecDepth 100000 in
theorem cco_68 : cm_cok ((7, 16), (0, 65)) := ⟨fun _ => ⟨(mi_65, ins_65), rfl, mo_65, fun _ => cm_T_in 341 (by decide +kernel) (by decide +kernel), fun h => absurd rfl h⟩, fun h => absurd h (by decide), fun h => absurd h (by decide), fun h => absurd h (by decide), by decide⟩
set_option maxRecDepth 100000 in
theorem cco_69 : cm_cok ((7, 22), (0, 47)) := ⟨fun _ => ⟨(mi_47, ins_47), rfl, mo_47, fun _ => cm_T_in 348 (by decide +kernel) (by decide +kernel), fun h => absurd rfl h⟩, fun h => absurd h (by decide), fun h => absurd h (by decide), fun h => absurd h (by decide), by decide⟩
set_option maxRecDepth 100000 in
theorem cco_70 : cm_cok ((7, 25), (0, 48)) := ⟨fun _ => ⟨(mi_48, ins_48), rfl, mo_48, fun _ => cm_T_in 360 (by decide +kernel) (by decide +kernel), fun h => absurd rfl h⟩, fun h => absurd h (by decide), fun h => absurd h (by decide), fun h => absurd h (by decide), by decide⟩
set_option maxRecDepth 100000 in
theorem cco_71 : cm_cok ((7, 28), (0, 52)) := ⟨fun _ => ⟨(mi_52, ins_52), rfl, mo_52, fun _ => cm_T_in 292 (by decide +kernel) (by decide +kernel), fun h => absurd rfl h⟩, fun h => absurd h (by decide), fun h => absurd h (by decide), fun h => absurd h (by decide), by decide⟩
set_option maxRecDepth 100000 in
theorem cco_72 : cm_cok ((7, 31), (0, 49)) := ⟨fun _ => ⟨(mi_49, ins_49), rfl, mo_49, fun _ => cm_T_in 213 (by decide +kernel) (by decide +kernel), fun h => absurd rfl h⟩, fun h => absurd h (by decide), fun h => absurd h (by decide), fun h => absurd h (by decide), by decide⟩
set_option maxRecDepth 100000 in
theorem cco_73 : cm_cok ((7, 34), (0, 46)) := ⟨fun _ => ⟨(mi_46, ins_46), rfl, mo_46, fun _ => cm_T_in 186 (by decide +kernel) (by decide +kernel), fun h => absurd rfl h⟩, fun h => absurd h (by decide), fun h => absurd h (by decide), fun h => absurd h (by decide), by decide⟩
set_option maxRecDepth 100000 in
theorem cco_74 : cm_cok ((7, 37), (0, 69)) := ⟨fun _ => ⟨(mi_69, ins_69), rfl, mo_69, fun _ => cm_T_in 370 (by decide +kernel) (by decide +kernel), fun h => absurd rfl h⟩, fun h => absurd h (by decide), fun h => absurd h (by decide), fun h => absurd h (by decide), by decide⟩
set_option maxRecDepth 100000 in
theorem cco_75 : cm_cok ((7, 41), (0, 68)) := ⟨fun _ => ⟨(mi_68, ins_68), rfl, mo_68, fun _ => cm_T_in 373 (by decide +kernel) (by decide +kernel), fun h => absurd rfl h⟩, fun h => absurd h (by decide), fun h => absurd h (by decide), fun h => absurd h (by decide), by decide⟩
set_option maxRecDepth 100000 in
theorem cco_76 : cm_cok ((7, 45), (0, 71)) := ⟨fun _ => ⟨(mi_71, ins_71), rfl, mo_71, fun _ => cm_T_in 376 (by decide +kernel) (by decide +kernel), fun h => absurd rfl h⟩, fun h => absurd h (by decide), fun h => absurd h (by decide), fun h => absurd h (by decide), by decide⟩
set_option maxRecDepth 100000 in
theorem cco_77 : cm_cok ((7, 49), (0, 72)) := ⟨fun _ => ⟨(mi_72, ins_72), rfl, mo_72, fun _ => cm_T_in 398 (by decide +kernel) (by decide +kernel), fun h => absurd rfl h⟩, fun h => absurd h (by decide), fun h => absurd h (by decide), fun h => absurd h (by decide), by decide⟩
set_option maxRecDepth 100000 in
theorem cco_78 : cm_cok ((7, 53), (0, 73)) := ⟨fun _ => ⟨(mi_73, ins_73), rfl, mo_73, fun _ => cm_T_in 433 (by decide +kernel) (by decide +kernel), fun h => absurd rfl h⟩, fun h => absurd h (by decide), fun h => absurd h (by decide), fun h => absurd h (by decide), by decide⟩
set_option maxRecDepth 100000 in
theorem cco_79 : cm_cok ((7, 57), (0, 53)) := ⟨fun _ => ⟨(mi_53, ins_53), rfl, mo_53, fun _ => cm_T_in 379 (by decide +kernel) (by decide +kernel), fun h => absurd rfl h⟩, fun h => absurd h (by decide), fun h => absurd h (by decide), fun h => absurd h (by decide), by decide⟩
set_option maxRecDepth 100000 in
theorem cco_80 : cm_cok ((7, 60), (0, 54)) := ⟨fun _ => ⟨(mi_54, ins_54), rfl, mo_54, fun _ => cm_T_in 401 (by decide +kernel) (by decide +kernel), fun h => absurd rfl h⟩, fun h => absurd h (by decide), fun h => absurd h (by decide), fun h => absurd h (by decide), by decide⟩
set_option maxRecDepth 100000 in
theorem cco_81 : cm_cok ((7, 63), (0, 56)) := ⟨fun _ => ⟨(mi_56, ins_56), rfl, mo_56, fun _ => cm_T_in 436 (by decide +kernel) (by decide +kernel), fun h => absurd rfl h⟩, fun h => absurd h (by decide), fun h => absurd h (by decide), fun h => absurd h (by decide), by decide⟩
set_option maxRecDepth 100000 in
theorem cco_82 : cm_cok ((7, 66), (0, 57)) := ⟨fun _ => ⟨(mi_57, ins_57), rfl, mo_57, fun _ => cm_T_in 445 (by decide +kernel) (by decide +kernel), fun h => absurd rfl h⟩, fun h => absurd h (by decide), fun h => absurd h (by decide), fun h => absurd h (by decide), by decide⟩
set_option maxRecDepth 100000 in
theorem cco_83 : cm_cok ((7, 69), (0, 58)) := ⟨fun _ => ⟨(mi_58, ins_58), rfl, mo_58, fun _ => cm_T_in 457 (by decide +kernel) (by decide +kernel), fun h => absurd rfl h⟩, fun h => absurd h (by decide), fun h => absurd h (by decide), fun h => absurd h (by decide), by decide⟩
set_option maxRecDepth 100000 in
theorem cco_84 : cm_cok ((7, 72), (0, 45)) := ⟨fun _ => ⟨(mi_45, ins_45), rfl, mo_45, fun _ => cm_T_in 25 (by decide +kernel) (by decide +kernel), fun h => absurd rfl h⟩, fun h => absurd h (by decide), fun h => absurd h (by decide), fun h => absurd h (by decide), by decide⟩
set_option maxRecDepth 100000 in
theorem cco_85 : cm_cok ((7, 73), (0, 64)) := ⟨fun _ => ⟨(mi_64, ins_64), rfl, mo_64, fun _ => cm_T_in 336 (by decide +kernel) (by decide +kernel), fun h => absurd rfl h⟩, fun h => absurd h (by decide), fun h => absurd h (by decide), fun h => absurd h (by decide), by decide⟩
set_option maxRecDepth 100000 in
theorem cco_86 : cm_cok ((7, 77), (0, 70)) := ⟨fun _ => ⟨(mi_70, ins_70), rfl, mo_70, fun _ => cm_T_in 367 (by decide +kernel) (by decide +kernel), fun h => absurd rfl h⟩, fun h => absurd h (by decide), fun h => absurd h (by decide), fun h => absurd h (by decide), by decide⟩
set_option maxRecDepth 100000 in
theorem cco_87 : cm_cok ((7, 81), (0, 67)) := ⟨fun _ => ⟨(mi_67, ins_67), rfl, mo_67, fun _ => cm_T_in 364 (by decide +kernel) (by decide +kernel), fun h => absurd rfl h⟩, fun h => absurd h (by decide), fun h => absurd h (by decide), fun h => absurd h (by decide), by decide⟩
set_option maxRecDepth 100000 in
theorem cco_88 : cm_cok ((7, 84), (0, 66)) := ⟨fun _ => ⟨(mi_66, ins_66), rfl, mo_66, fun _ => cm_T_in 345 (by decide +kernel) (by decide +kernel), fun h => absurd rfl h⟩, fun h => absurd h (by decide), fun h => absurd h (by decide), fun h => absurd h (by decide), by decide⟩
set_option maxRecDepth 100000 in
theorem cco_89 : cm_cok ((7, 87), (0, 51)) := ⟨fun _ => ⟨(mi_51, ins_51), rfl, mo_51, fun _ => cm_T_in 283 (by decide +kernel) (by decide +kernel), fun h => absurd rfl h⟩, fun h => absurd h (by decide), fun h => absurd h (by decide), fun h => absurd h (by decide), by decide⟩
set_option maxRecDepth 100000 in
theorem cco_90 : cm_cok ((7, 90), (0, 50)) := ⟨fun _ => ⟨(mi_50, ins_50), rfl, mo_50, fun _ => cm_T_in 224 (by decide +kernel) (by decide +kernel), fun h => absurd rfl h⟩, fun h => absurd h (by decide), fun h => absurd h (by decide), fun h => absurd h (by decide), by decide⟩
set_option maxRecDepth 100000 in
theorem cm_call_ok : ∀ e ∈ cm_call, cm_cok e := List.forall_mem_cons.mpr ⟨cco_0, List.forall_mem_cons.mpr ⟨cco_1, List.forall_mem_cons.mpr ⟨cco_2, List.forall_mem_cons.mpr ⟨cco_3, List.forall_mem_cons.mpr ⟨cco_4, List.forall_mem_cons.mpr ⟨cco_5, List.forall_mem_cons.mpr ⟨cco_6, List.forall_mem_cons.mpr ⟨cco_7, List.forall_mem_cons.mpr ⟨cco_8, List.forall_mem_cons.mpr ⟨cco_9, List.forall_mem_cons.mpr ⟨cco_10, List.forall_mem_cons.mpr ⟨cco_11, List.forall_mem_cons.mpr ⟨cco_12, List.forall_mem_cons.mpr ⟨cco_13, List.forall_mem_cons.mpr ⟨cco_14, List.forall_mem_cons.mpr ⟨cco_15, List.forall_mem_cons.mpr ⟨cco_16, List.forall_mem_cons.mpr ⟨cco_17, List.forall_mem_cons.mpr ⟨cco_18, List.forall_mem_cons.mpr ⟨cco_19, List.forall_mem_cons.mpr ⟨cco_20, List.forall_mem_cons.mpr ⟨cco_21, List.forall_mem_cons.mpr ⟨cco_22, List.forall_mem_cons.mpr ⟨cco_23, List.forall_mem_cons.mpr ⟨cco_24, List.forall_mem_cons.mpr ⟨cco_25, List.forall_mem_cons.mpr ⟨cco_26, List.forall_mem_cons.mpr ⟨cco_27, List.forall_mem_cons.mpr ⟨cco_28, List.forall_mem_cons.mpr ⟨cco_29, List.forall_mem_cons.mpr ⟨cco_30, List.forall_mem_cons.mpr ⟨cco_31, List.forall_mem_cons.mpr ⟨cco_32, List.forall_mem_cons.mpr ⟨cco_33, List.forall_mem_cons.mpr ⟨cco_34, List.forall_mem_cons.mpr ⟨cco_35, List.forall_mem_cons.mpr ⟨cco_36, List.forall_mem_cons.mpr ⟨cco_37, List.forall_mem_cons.mpr ⟨cco_38, List.forall_mem_cons.mpr ⟨cco_39, List.forall_mem_cons.mpr ⟨cco_40, List.forall_mem_cons.mpr ⟨cco_41, List.forall_mem_cons.mpr ⟨cco_42, List.forall_mem_cons.mpr ⟨cco_43, List.forall_mem_cons.mpr ⟨cco_44, List.forall_mem_cons.mpr ⟨cco_45, List.forall_mem_cons.mpr ⟨cco_46, List.forall_mem_cons.mpr ⟨cco_47, List.forall_mem_cons.mpr ⟨cco_48, List.forall_mem_cons.mpr ⟨cco_49, List.forall_mem_cons.mpr ⟨cco_50, List.forall_mem_cons.mpr ⟨cco_51, List.forall_mem_cons.mpr ⟨cco_52, List.forall_mem_cons.mpr ⟨cco_53, List.forall_mem_cons.mpr ⟨cco_54, List.forall_mem_cons.mpr ⟨cco_55, List.forall_mem_cons.mpr ⟨cco_56, List.forall_mem_cons.mpr ⟨cco_57, List.forall_mem_cons.mpr ⟨cco_58, List.forall_mem_cons.mpr ⟨cco_59, List.forall_mem_cons.mpr ⟨cco_60, List.forall_mem_cons.mpr ⟨cco_61, List.forall_mem_cons.mpr ⟨cco_62, List.forall_mem_cons.mpr ⟨cco_63, List.forall_mem_cons.mpr ⟨cco_64, List.forall_mem_cons.mpr ⟨cco_65, List.forall_mem_cons.mpr ⟨cco_66, List.forall_mem_cons.mpr ⟨cco_67, List.forall_mem_cons.mpr ⟨cco_68, List.forall_mem_cons.mpr ⟨cco_69, List.forall_mem_cons.mpr ⟨cco_70, List.forall_mem_cons.mpr ⟨cco_71, List.forall_mem_cons.mpr ⟨cco_72, List.forall_mem_cons.mpr ⟨cco_73, List.forall_mem_cons.mpr ⟨cco_74, List.forall_mem_cons.mpr ⟨cco_75, List.forall_mem_cons.mpr ⟨cco_76, List.forall_mem_cons.mpr ⟨cco_77, List.forall_mem_cons.mpr ⟨cco_78, List.forall_mem_cons.mpr ⟨cco_79, List.forall_mem_cons.mpr ⟨cco_80, List.forall_mem_cons.mpr ⟨cco_81, List.forall_mem_cons.mpr ⟨cco_82, List.forall_mem_cons.mpr ⟨cco_83, List.forall_mem_cons.mpr ⟨cco_84, List.forall_mem_cons.mpr ⟨cco_85, List.forall_mem_cons.mpr ⟨cco_86, List.forall_mem_cons.mpr ⟨cco_87, List.forall_mem_cons.mpr ⟨cco_88, List.forall_mem_cons.mpr ⟨cco_89, List.forall_mem_cons.mpr ⟨cco_90, fun _ h => absurd h List.not_mem_nil⟩⟩⟩⟩⟩⟩⟩⟩⟩⟩⟩⟩⟩⟩⟩⟩⟩⟩⟩⟩⟩⟩⟩⟩⟩⟩⟩⟩⟩⟩⟩⟩⟩⟩⟩⟩⟩⟩⟩⟩⟩⟩⟩⟩⟩⟩⟩⟩⟩⟩⟩⟩⟩⟩⟩⟩⟩⟩⟩⟩⟩⟩⟩⟩⟩⟩⟩⟩⟩⟩⟩⟩⟩⟩⟩⟩⟩⟩⟩⟩⟩⟩⟩⟩⟩⟩⟩⟩⟩⟩⟩
def cm_dok (q : cm_Q) : Prop := (q.2).all (fun e => decide (decode q.1.2.1 e.1 = .ok e.2)) = true
set_option maxRecDepth 100000 in
theorem cm_P_dok : ∀ q ∈ cm_P, cm_dok q := List.forall_mem_cons.mpr ⟨chk_0, List.forall_mem_cons.mpr ⟨chk_1, List.forall_mem_cons.mpr ⟨chk_2, List.forall_mem_cons.mpr ⟨chk_3, List.forall_mem_cons.mpr ⟨chk_4, List.forall_mem_cons.mpr ⟨chk_5, List.forall_mem_cons.mpr ⟨chk_6, List.forall_mem_cons.mpr ⟨chk_7, List.forall_mem_cons.mpr ⟨chk_8, List.forall_mem_cons.mpr ⟨chk_9, List.forall_mem_cons.mpr ⟨chk_10, List.forall_mem_cons.mpr ⟨chk_11, List.forall_mem_cons.mpr ⟨chk_12, List.forall_mem_cons.mpr ⟨chk_13, List.forall_mem_cons.mpr ⟨chk_14, List.forall_mem_cons.mpr ⟨chk_15, List.forall_mem_cons.mpr ⟨chk_16, List.forall_mem_cons.mpr ⟨chk_17, List.forall_mem_cons.mpr ⟨chk_18, List.forall_mem_cons.mpr ⟨chk_19, List.forall_mem_cons.mpr ⟨chk_20, List.forall_mem_cons.mpr ⟨chk_21, List.forall_mem_cons.mpr ⟨chk_22, List.forall_mem_cons.mpr ⟨chk_23, List.forall_mem_cons.mpr ⟨chk_24, List.forall_mem_cons.mpr ⟨chk_25, List.forall_mem_cons.mpr ⟨chk_26, List.forall_mem_cons.mpr ⟨chk_27, List.forall_mem_cons.mpr ⟨chk_28, List.forall_mem_cons.mpr ⟨chk_29, List.forall_mem_cons.mpr ⟨chk_30, List.forall_mem_cons.mpr ⟨chk_31, List.forall_mem_cons.mpr ⟨chk_32, List.forall_mem_cons.mpr ⟨chk_33, List.forall_mem_cons.mpr ⟨chk_34, List.forall_mem_cons.mpr ⟨chk_35, List.forall_mem_cons.mpr ⟨chk_36, List.forall_mem_cons.mpr ⟨chk_37, List.forall_mem_cons.mpr ⟨chk_38, List.forall_mem_cons.mpr ⟨chk_39, List.forall_mem_cons.mpr ⟨chk_40, List.forall_mem_cons.mpr ⟨chk_41, List.forall_mem_cons.mpr ⟨chk_42, List.forall_mem_cons.mpr ⟨chk_43, List.forall_mem_cons.mpr ⟨chk_44, List.forall_mem_cons.mpr ⟨chk_45, List.forall_mem_cons.mpr ⟨chk_46, List.forall_mem_cons.mpr ⟨chk_47, List.forall_mem_cons.mpr ⟨chk_48, List.forall_mem_cons.mpr ⟨chk_49, List.forall_mem_cons.mpr ⟨chk_50, List.forall_mem_cons.mpr ⟨chk_51, List.forall_mem_cons.mpr ⟨chk_52, List.forall_mem_cons.mpr ⟨chk_53, List.forall_mem_cons.mpr ⟨chk_54, List.forall_mem_cons.mpr ⟨chk_55, List.forall_mem_cons.mpr ⟨chk_56, List.forall_mem_cons.mpr ⟨chk_57, List.forall_mem_cons.mpr ⟨chk_58, List.forall_mem_cons.mpr ⟨chk_59, List.forall_mem_cons.mpr ⟨chk_60, List.forall_mem_cons.mpr ⟨chk_61, List.forall_mem_cons.mpr ⟨chk_62, List.forall_mem_cons.mpr ⟨chk_63, List.forall_mem_cons.mpr ⟨chk_64, List.forall_mem_cons.mpr ⟨chk_65, List.forall_mem_cons.mpr ⟨chk_66, List.forall_mem_cons.mpr ⟨chk_67, List.forall_mem_cons.mpr ⟨chk_68, List.forall_mem_cons.mpr ⟨chk_69, List.forall_mem_cons.mpr ⟨chk_70, List.forall_mem_cons.mpr ⟨chk_71, List.forall_mem_cons.mpr ⟨chk_72, List.forall_mem_cons.mpr ⟨chk_73, List.forall_mem_cons.mpr ⟨chk_74, fun _ h => absurd h List.not_mem_nil⟩⟩⟩⟩⟩⟩⟩⟩⟩⟩⟩⟩⟩⟩⟩⟩⟩⟩⟩⟩⟩⟩⟩⟩⟩⟩⟩⟩⟩⟩⟩⟩⟩⟩⟩⟩⟩⟩⟩⟩⟩⟩⟩⟩⟩⟩⟩⟩⟩⟩⟩⟩⟩⟩⟩⟩⟩⟩⟩⟩⟩⟩⟩⟩⟩⟩⟩⟩⟩⟩⟩⟩⟩⟩⟩
theorem cm_at_mem : ∀ {l : List (Nat × Instr × Nat)} {pc : Nat} {i : Instr × Nat}, cm_at l pc = some i → (pc, i) ∈ l
  | [], _, _, h => by cases h
  | e :: l, pc, i, h => by
    unfold cm_at at h
    by_cases he : e.1 = pc
    · rw [if_pos he] at h
      cases h
      subst he
      exact List.mem_cons_self
    · rw [if_neg he] at h
      exact List.mem_cons_of_mem _ (cm_at_mem h)
theorem cm_dec {μ pc : Nat} {q : cm_Q} {i : Instr × Nat} (hq : cm_P[μ]? = some q) (h : cm_at q.2 pc = some i) : decode q.1.2.1 pc = .ok i := by
  have h1 := List.all_eq_true.mp (cm_P_dok q (List.mem_of_getElem? hq)) _ (cm_at_mem h)
  exact of_decide_eq_true h1
theorem cm_as_mem {α : Type} : ∀ {l : List ((Nat × Nat) × α)} {a b : Nat} {v : α}, cm_as l a b = some v → ((a, b), v) ∈ l
  | [], _, _, _, h => by cases h
  | e :: l, a, b, v, h => by
    unfold cm_as at h
    by_cases he : e.1.1 = a ∧ e.1.2 = b
    · rw [if_pos he] at h
      cases h
      obtain ⟨⟨x, y⟩, z⟩ := e
      obtain ⟨rfl, rfl⟩ := he
      exact List.mem_cons_self
    · rw [if_neg he] at h
      exact List.mem_cons_of_mem _ (cm_as_mem h)
def cm_clok (ci : Nat) : Prop := ∃ r ty, vwCl[ci]? = some r ∧ cm_ty[ci]? = some ty ∧ r.1 = cm_cn ci ∧ (∀ w ∈ u_ws r.1 r.2.1 r.2.2, w ∈ cm_T) ∧ (∀ k, k < r.2.2 → parseFieldDescriptor (r.2.1 k).2.2.1 = some (ty k)) ∧ (∀ a, a < r.2.2 → ∀ b, b < r.2.2 → a ≠ b → (r.2.1 a).2.1 ≠ (r.2.1 b).2.1) ∧ .instantiable r.1 r.2.2 ∈ cm_T ∧ .initialized r.1 ∈ cm_T ∧ (cm_ft[ci]?).map List.length = some r.2.2 ∧ (∀ k, k < r.2.2 → (cm_fk ci k = some 0 ∧ ty k = .int) ∨ (cm_fk ci k = some 2 ∧ ((∃ x, ty k = .array x) ∨ ∃ x, ty k = .object x))) ∧ (∀ k, k < r.2.2 → (r.2.1 k).1 = r.1)
set_option maxRecDepth 100000 in
theorem lo_0 : cm_clok 0 := ⟨_, _, rfl, rfl, rfl, (show ∀ w ∈ [u_lay RX0 TX0 0, u_lay RX0 TX0 1, u_lay RX0 TX0 2, u_lay RX0 TX0 3, u_lay RX0 TX0 4, u_lay RX0 TX0 5, u_lay RX0 TX0 6, u_lay RX0 TX0 7, u_lay RX0 TX0 8], w ∈ cm_T from List.forall_mem_cons.mpr ⟨cm_T_in 93 (by decide +kernel) (by decide +kernel), List.forall_mem_cons.mpr ⟨cm_T_in 95 (by decide +kernel) (by decide +kernel), List.forall_mem_cons.mpr ⟨cm_T_in 97 (by decide +kernel) (by decide +kernel), List.forall_mem_cons.mpr ⟨cm_T_in 99 (by decide +kernel) (by decide +kernel), List.forall_mem_cons.mpr ⟨cm_T_in 101 (by decide +kernel) (by decide +kernel), List.forall_mem_cons.mpr ⟨cm_T_in 103 (by decide +kernel) (by decide +kernel), List.forall_mem_cons.mpr ⟨cm_T_in 105 (by decide +kernel) (by decide +kernel), List.forall_mem_cons.mpr ⟨cm_T_in 107 (by decide +kernel) (by decide +kernel), List.forall_mem_cons.mpr ⟨cm_T_in 109 (by decide +kernel) (by decide +kernel), fun _ h => absurd h List.not_mem_nil⟩⟩⟩⟩⟩⟩⟩⟩⟩), tyX0_ok, nmX0, cm_T_in 32 (by decide +kernel) (by decide +kernel), cm_T_in 16 (by decide +kernel) (by decide +kernel), rfl, fun k (hk : k < 9) => (match k, hk with | 0, _ => Or.inr ⟨rfl, Or.inr ⟨_, rfl⟩⟩ | 1, _ => Or.inr ⟨rfl, Or.inl ⟨_, rfl⟩⟩ | 2, _ => Or.inr ⟨rfl, Or.inl ⟨_, rfl⟩⟩ | 3, _ => Or.inr ⟨rfl, Or.inl ⟨_, rfl⟩⟩ | 4, _ => Or.inl ⟨rfl, rfl⟩ | 5, _ => Or.inr ⟨rfl, Or.inl ⟨_, rfl⟩⟩ | 6, _ => Or.inr ⟨rfl, Or.inl ⟨_, rfl⟩⟩ | 7, _ => Or.inr ⟨rfl, Or.inl ⟨_, rfl⟩⟩ | 8, _ => Or.inl ⟨rfl, rfl⟩ | k + 9, hk => absurd hk (by omega)), fun k (hk : k < 9) => (match k, hk with | 0, _ => rfl | 1, _ => rfl | 2, _ => rfl | 3, _ => rfl | 4, _ => rfl | 5, _ => rfl | 6, _ => rfl | 7, _ => rfl | 8, _ => rfl | k + 9, hk => absurd hk (by omega))⟩
set_option maxRecDepth 100000 in
theorem lo_1 : cm_clok 1 := ⟨_, _, rfl, rfl, rfl, (show ∀ w ∈ [u_lay RX1 TX1 0, u_lay RX1 TX1 1, u_lay RX1 TX1 2, u_lay RX1 TX1 3, u_lay RX1 TX1 4, u_lay RX1 TX1 5], w ∈ cm_T from List.forall_mem_cons.mpr ⟨cm_T_in 65 (by decide +kernel) (by decide +kernel), List.forall_mem_cons.mpr ⟨cm_T_in 67 (by decide +kernel) (by decide +kernel), List.forall_mem_cons.mpr ⟨cm_T_in 69 (by decide +kernel) (by decide +kernel), List.forall_mem_cons.mpr ⟨cm_T_in 71 (by decide +kernel) (by decide +kernel), List.forall_mem_cons.mpr ⟨cm_T_in 73 (by decide +kernel) (by decide +kernel), List.forall_mem_cons.mpr ⟨cm_T_in 75 (by decide +kernel) (by decide +kernel), fun _ h => absurd h List.not_mem_nil⟩⟩⟩⟩⟩⟩), tyX1_ok, nmX1, cm_T_in 38 (by decide +kernel) (by decide +kernel), cm_T_in 17 (by decide +kernel) (by decide +kernel), rfl, fun k (hk : k < 6) => (match k, hk with | 0, _ => Or.inr ⟨rfl, Or.inl ⟨_, rfl⟩⟩ | 1, _ => Or.inr ⟨rfl, Or.inl ⟨_, rfl⟩⟩ | 2, _ => Or.inr ⟨rfl, Or.inl ⟨_, rfl⟩⟩ | 3, _ => Or.inr ⟨rfl, Or.inl ⟨_, rfl⟩⟩ | 4, _ => Or.inr ⟨rfl, Or.inl ⟨_, rfl⟩⟩ | 5, _ => Or.inl ⟨rfl, rfl⟩ | k + 6, hk => absurd hk (by omega)), fun k (hk : k < 6) => (match k, hk with | 0, _ => rfl | 1, _ => rfl | 2, _ => rfl | 3, _ => rfl | 4, _ => rfl | 5, _ => rfl | k + 6, hk => absurd hk (by omega))⟩
set_option maxRecDepth 100000 in
theorem lo_2 : cm_clok 2 := ⟨_, _, rfl, rfl, rfl, (show ∀ w ∈ [u_lay RX2 TX2 0, u_lay RX2 TX2 1, u_lay RX2 TX2 2], w ∈ cm_T from List.forall_mem_cons.mpr ⟨cm_T_in 141 (by decide +kernel) (by decide +kernel), List.forall_mem_cons.mpr ⟨cm_T_in 143 (by decide +kernel) (by decide +kernel), List.forall_mem_cons.mpr ⟨cm_T_in 145 (by decide +kernel) (by decide +kernel), fun _ h => absurd h List.not_mem_nil⟩⟩⟩), tyX2_ok, nmX2, cm_T_in 129 (by decide +kernel) (by decide +kernel), cm_T_in 20 (by decide +kernel) (by decide +kernel), rfl, fun k (hk : k < 3) => (match k, hk with | 0, _ => Or.inr ⟨rfl, Or.inl ⟨_, rfl⟩⟩ | 1, _ => Or.inl ⟨rfl, rfl⟩ | 2, _ => Or.inl ⟨rfl, rfl⟩ | k + 3, hk => absurd hk (by omega)), fun k (hk : k < 3) => (match k, hk with | 0, _ => rfl | 1, _ => rfl | 2, _ => rfl | k + 3, hk => absurd hk (by omega))⟩
set_option maxRecDepth 100000 in
theorem lo_3 : cm_clok 3 := ⟨_, _, rfl, rfl, rfl, (show ∀ w ∈ [u_lay RX3 TX3 0, u_lay RX3 TX3 1, u_lay RX3 TX3 2], w ∈ cm_T from List.forall_mem_cons.mpr ⟨cm_T_in 120 (by decide +kernel) (by decide +kernel), List.forall_mem_cons.mpr ⟨cm_T_in 122 (by decide +kernel) (by decide +kernel), List.forall_mem_cons.mpr ⟨cm_T_in 124 (by decide +kernel) (by decide +kernel), fun _ h => absurd h List.not_mem_nil⟩⟩⟩), tyX3_ok, nmX3, cm_T_in 113 (by decide +kernel) (by decide +kernel), cm_T_in 19 (by decide +kernel) (by decide +kernel), rfl, fun k (hk : k < 3) => (match k, hk with | 0, _ => Or.inr ⟨rfl, Or.inl ⟨_, rfl⟩⟩ | 1, _ => Or.inl ⟨rfl, rfl⟩ | 2, _ => Or.inl ⟨rfl, rfl⟩ | k + 3, hk => absurd hk (by omega)), fun k (hk : k < 3) => (match k, hk with | 0, _ => rfl | 1, _ => rfl | 2, _ => rfl | k + 3, hk => absurd hk (by omega))⟩
set_option maxRecDepth 100000 in
theorem lo_4 : cm_clok 4 := ⟨_, _, rfl, rfl, rfl, (show ∀ w ∈ [u_lay RX4 TX4 0, u_lay RX4 TX4 1], w ∈ cm_T from List.forall_mem_cons.mpr ⟨cm_T_in 158 (by decide +kernel) (by decide +kernel), List.forall_mem_cons.mpr ⟨cm_T_in 160 (by decide +kernel) (by decide +kernel), fun _ h => absurd h List.not_mem_nil⟩⟩), tyX4_ok, nmX4, cm_T_in 149 (by decide +kernel) (by decide +kernel), cm_T_in 21 (by decide +kernel) (by decide +kernel), rfl, fun k (hk : k < 2) => (match k, hk with | 0, _ => Or.inr ⟨rfl, Or.inl ⟨_, rfl⟩⟩ | 1, _ => Or.inr ⟨rfl, Or.inl ⟨_, rfl⟩⟩ | k + 2, hk => absurd hk (by omega)), fun k (hk : k < 2) => (match k, hk with | 0, _ => rfl | 1, _ => rfl | k + 2, hk => absurd hk (by omega))⟩
set_option maxRecDepth 100000 in
theorem lo_5 : cm_clok 5 := ⟨_, _, rfl, rfl, rfl, (show ∀ w ∈ [u_lay RX5 TX5 0, u_lay RX5 TX5 1, u_lay RX5 TX5 2, u_lay RX5 TX5 3, u_lay RX5 TX5 4, u_lay RX5 TX5 5, u_lay RX5 TX5 6], w ∈ cm_T from List.forall_mem_cons.mpr ⟨cm_T_in 171 (by decide +kernel) (by decide +kernel), List.forall_mem_cons.mpr ⟨cm_T_in 173 (by decide +kernel) (by decide +kernel), List.forall_mem_cons.mpr ⟨cm_T_in 175 (by decide +kernel) (by decide +kernel), List.forall_mem_cons.mpr ⟨cm_T_in 177 (by decide +kernel) (by decide +kernel), List.forall_mem_cons.mpr ⟨cm_T_in 179 (by decide +kernel) (by decide +kernel), List.forall_mem_cons.mpr ⟨cm_T_in 181 (by decide +kernel) (by decide +kernel), List.forall_mem_cons.mpr ⟨cm_T_in 183 (by decide +kernel) (by decide +kernel), fun _ h => absurd h List.not_mem_nil⟩⟩⟩⟩⟩⟩⟩), tyX5_ok, nmX5, cm_T_in 24 (by decide +kernel) (by decide +kernel), cm_T_in 15 (by decide +kernel) (by decide +kernel), rfl, fun k (hk : k < 7) => (match k, hk with | 0, _ => Or.inr ⟨rfl, Or.inr ⟨_, rfl⟩⟩ | 1, _ => Or.inr ⟨rfl, Or.inr ⟨_, rfl⟩⟩ | 2, _ => Or.inr ⟨rfl, Or.inr ⟨_, rfl⟩⟩ | 3, _ => Or.inr ⟨rfl, Or.inr ⟨_, rfl⟩⟩ | 4, _ => Or.inr ⟨rfl, Or.inr ⟨_, rfl⟩⟩ | 5, _ => Or.inr ⟨rfl, Or.inr ⟨_, rfl⟩⟩ | 6, _ => Or.inr ⟨rfl, Or.inr ⟨_, rfl⟩⟩ | k + 7, hk => absurd hk (by omega)), fun k (hk : k < 7) => (match k, hk with | 0, _ => rfl | 1, _ => rfl | 2, _ => rfl | 3, _ => rfl | 4, _ => rfl | 5, _ => rfl | 6, _ => rfl | k + 7, hk => absurd hk (by omega))⟩
theorem cm_cl_ok (ci : Nat) (h : ci < 6) : cm_clok ci := match ci, h with
  | 0, _ => lo_0
  | 1, _ => lo_1
  | 2, _ => lo_2
  | 3, _ => lo_3
  | 4, _ => lo_4
  | 5, _ => lo_5
  | k + 6, h => absurd h (by omega)
def cm_fok (e : (Nat × Nat) × (Nat × Nat)) : Prop := e.2.1 < 6 ∧ ∃ r, vwCl[e.2.1]? = some r ∧ e.2.2 < r.2.2 ∧ .fieldLink (cm_cn e.1.1) e.1.2 (r.2.1 e.2.2).1 (r.2.1 e.2.2).2.1 (r.2.1 e.2.2).2.2.1 ∈ cm_T
set_option maxRecDepth 100000 in
theorem fo_0 : cm_fok ((1, 9), (1, 0)) := ⟨by decide, _, rfl, by decide, cm_T_in 48 (by decide +kernel) (by decide +kernel)⟩
set_option maxRecDepth 100000 in
theorem fo_1 : cm_fok ((5, 63), (1, 0)) := ⟨by decide, _, rfl, by decide, cm_T_in 49 (by decide +kernel) (by decide +kernel)⟩
set_option maxRecDepth 100000 in
theorem fo_2 : cm_fok ((0, 60), (1, 0)) := ⟨by decide, _, rfl, by decide, cm_T_in 50 (by decide +kernel) (by decide +kernel)⟩
set_option maxRecDepth 100000 in
theorem fo_3 : cm_fok ((1, 15), (1, 1)) := ⟨by decide, _, rfl, by decide, cm_T_in 51 (by decide +kernel) (by decide +kernel)⟩
set_option maxRecDepth 100000 in
theorem fo_4 : cm_fok ((5, 124), (1, 1)) := ⟨by decide, _, rfl, by decide, cm_T_in 52 (by decide +kernel) (by decide +kernel)⟩
set_option maxRecDepth 100000 in
theorem fo_5 : cm_fok ((0, 111), (1, 1)) := ⟨by decide, _, rfl, by decide, cm_T_in 53 (by decide +kernel) (by decide +kernel)⟩
set_option maxRecDepth 100000 in
theorem fo_6 : cm_fok ((1, 18), (1, 2)) := ⟨by decide, _, rfl, by decide, cm_T_in 54 (by decide +kernel) (by decide +kernel)⟩
set_option maxRecDepth 100000 in
theorem fo_7 : cm_fok ((5, 127), (1, 2)) := ⟨by decide, _, rfl, by decide, cm_T_in 55 (by decide +kernel) (by decide +kernel)⟩
set_option maxRecDepth 100000 in
theorem fo_8 : cm_fok ((0, 91), (1, 2)) := ⟨by decide, _, rfl, by decide, cm_T_in 56 (by decide +kernel) (by decide +kernel)⟩
set_option maxRecDepth 100000 in
theorem fo_9 : cm_fok ((1, 21), (1, 3)) := ⟨by decide, _, rfl, by decide, cm_T_in 57 (by decide +kernel) (by decide +kernel)⟩
set_option maxRecDepth 100000 in
theorem fo_10 : cm_fok ((5, 111), (1, 3)) := ⟨by decide, _, rfl, by decide, cm_T_in 58 (by decide +kernel) (by decide +kernel)⟩
set_option maxRecDepth 100000 in
theorem fo_11 : cm_fok ((1, 24), (1, 4)) := ⟨by decide, _, rfl, by decide, cm_T_in 59 (by decide +kernel) (by decide +kernel)⟩
set_option maxRecDepth 100000 in
theorem fo_12 : cm_fok ((0, 67), (1, 4)) := ⟨by decide, _, rfl, by decide, cm_T_in 60 (by decide +kernel) (by decide +kernel)⟩
set_option maxRecDepth 100000 in
theorem fo_13 : cm_fok ((5, 82), (1, 4)) := ⟨by decide, _, rfl, by decide, cm_T_in 61 (by decide +kernel) (by decide +kernel)⟩
set_option maxRecDepth 100000 in
theorem fo_14 : cm_fok ((1, 36), (1, 5)) := ⟨by decide, _, rfl, by decide, cm_T_in 62 (by decide +kernel) (by decide +kernel)⟩
set_option maxRecDepth 100000 in
theorem fo_15 : cm_fok ((0, 50), (1, 5)) := ⟨by decide, _, rfl, by decide, cm_T_in 63 (by decide +kernel) (by decide +kernel)⟩
set_option maxRecDepth 100000 in
theorem fo_16 : cm_fok ((5, 100), (1, 5)) := ⟨by decide, _, rfl, by decide, cm_T_in 64 (by decide +kernel) (by decide +kernel)⟩
set_option maxRecDepth 100000 in
theorem fo_17 : cm_fok ((0, 12), (0, 0)) := ⟨by decide, _, rfl, by decide, cm_T_in 79 (by decide +kernel) (by decide +kernel)⟩
set_option maxRecDepth 100000 in
theorem fo_18 : cm_fok ((5, 16), (0, 0)) := ⟨by decide, _, rfl, by decide, cm_T_in 80 (by decide +kernel) (by decide +kernel)⟩
set_option maxRecDepth 100000 in
theorem fo_19 : cm_fok ((0, 18), (0, 1)) := ⟨by decide, _, rfl, by decide, cm_T_in 81 (by decide +kernel) (by decide +kernel)⟩
set_option maxRecDepth 100000 in
theorem fo_20 : cm_fok ((5, 130), (0, 1)) := ⟨by decide, _, rfl, by decide, cm_T_in 82 (by decide +kernel) (by decide +kernel)⟩
set_option maxRecDepth 100000 in
theorem fo_21 : cm_fok ((0, 22), (0, 2)) := ⟨by decide, _, rfl, by decide, cm_T_in 83 (by decide +kernel) (by decide +kernel)⟩
set_option maxRecDepth 100000 in
theorem fo_22 : cm_fok ((5, 139), (0, 2)) := ⟨by decide, _, rfl, by decide, cm_T_in 84 (by decide +kernel) (by decide +kernel)⟩
set_option maxRecDepth 100000 in
theorem fo_23 : cm_fok ((0, 25), (0, 3)) := ⟨by decide, _, rfl, by decide, cm_T_in 85 (by decide +kernel) (by decide +kernel)⟩
set_option maxRecDepth 100000 in
theorem fo_24 : cm_fok ((5, 136), (0, 3)) := ⟨by decide, _, rfl, by decide, cm_T_in 86 (by decide +kernel) (by decide +kernel)⟩
set_option maxRecDepth 100000 in
theorem fo_25 : cm_fok ((0, 46), (0, 4)) := ⟨by decide, _, rfl, by decide, cm_T_in 87 (by decide +kernel) (by decide +kernel)⟩
set_option maxRecDepth 100000 in
theorem fo_26 : cm_fok ((5, 175), (0, 4)) := ⟨by decide, _, rfl, by decide, cm_T_in 88 (by decide +kernel) (by decide +kernel)⟩
set_option maxRecDepth 100000 in
theorem fo_27 : cm_fok ((0, 28), (0, 5)) := ⟨by decide, _, rfl, by decide, cm_T_in 89 (by decide +kernel) (by decide +kernel)⟩
set_option maxRecDepth 100000 in
theorem fo_28 : cm_fok ((0, 31), (0, 6)) := ⟨by decide, _, rfl, by decide, cm_T_in 90 (by decide +kernel) (by decide +kernel)⟩
set_option maxRecDepth 100000 in
theorem fo_29 : cm_fok ((0, 34), (0, 7)) := ⟨by decide, _, rfl, by decide, cm_T_in 91 (by decide +kernel) (by decide +kernel)⟩
set_option maxRecDepth 100000 in
theorem fo_30 : cm_fok ((0, 57), (0, 8)) := ⟨by decide, _, rfl, by decide, cm_T_in 92 (by decide +kernel) (by decide +kernel)⟩
set_option maxRecDepth 100000 in
theorem fo_31 : cm_fok ((3, 9), (3, 0)) := ⟨by decide, _, rfl, by decide, cm_T_in 118 (by decide +kernel) (by decide +kernel)⟩
set_option maxRecDepth 100000 in
theorem fo_32 : cm_fok ((5, 121), (3, 1)) := ⟨by decide, _, rfl, by decide, cm_T_in 119 (by decide +kernel) (by decide +kernel)⟩
set_option maxRecDepth 100000 in
theorem fo_33 : cm_fok ((2, 11), (2, 0)) := ⟨by decide, _, rfl, by decide, cm_T_in 137 (by decide +kernel) (by decide +kernel)⟩
set_option maxRecDepth 100000 in
theorem fo_34 : cm_fok ((2, 22), (2, 1)) := ⟨by decide, _, rfl, by decide, cm_T_in 138 (by decide +kernel) (by decide +kernel)⟩
set_option maxRecDepth 100000 in
theorem fo_35 : cm_fok ((5, 187), (2, 1)) := ⟨by decide, _, rfl, by decide, cm_T_in 139 (by decide +kernel) (by decide +kernel)⟩
set_option maxRecDepth 100000 in
theorem fo_36 : cm_fok ((2, 18), (2, 2)) := ⟨by decide, _, rfl, by decide, cm_T_in 140 (by decide +kernel) (by decide +kernel)⟩
set_option maxRecDepth 100000 in
theorem fo_37 : cm_fok ((4, 11), (4, 0)) := ⟨by decide, _, rfl, by decide, cm_T_in 156 (by decide +kernel) (by decide +kernel)⟩
set_option maxRecDepth 100000 in
theorem fo_38 : cm_fok ((4, 17), (4, 1)) := ⟨by decide, _, rfl, by decide, cm_T_in 157 (by decide +kernel) (by decide +kernel)⟩
set_option maxRecDepth 100000 in
theorem fo_39 : cm_fok ((5, 10), (5, 0)) := ⟨by decide, _, rfl, by decide, cm_T_in 164 (by decide +kernel) (by decide +kernel)⟩
set_option maxRecDepth 100000 in
theorem fo_40 : cm_fok ((5, 20), (5, 1)) := ⟨by decide, _, rfl, by decide, cm_T_in 165 (by decide +kernel) (by decide +kernel)⟩
set_option maxRecDepth 100000 in
theorem fo_41 : cm_fok ((5, 21), (5, 2)) := ⟨by decide, _, rfl, by decide, cm_T_in 166 (by decide +kernel) (by decide +kernel)⟩
set_option maxRecDepth 100000 in
theorem fo_42 : cm_fok ((5, 24), (5, 3)) := ⟨by decide, _, rfl, by decide, cm_T_in 167 (by decide +kernel) (by decide +kernel)⟩
set_option maxRecDepth 100000 in
theorem fo_43 : cm_fok ((5, 30), (5, 4)) := ⟨by decide, _, rfl, by decide, cm_T_in 168 (by decide +kernel) (by decide +kernel)⟩
set_option maxRecDepth 100000 in
theorem fo_44 : cm_fok ((5, 37), (5, 5)) := ⟨by decide, _, rfl, by decide, cm_T_in 169 (by decide +kernel) (by decide +kernel)⟩
set_option maxRecDepth 100000 in
theorem fo_45 : cm_fok ((5, 44), (5, 6)) := ⟨by decide, _, rfl, by decide, cm_T_in 170 (by decide +kernel) (by decide +kernel)⟩
set_option maxRecDepth 100000 in
theorem cm_fld_ok : ∀ e ∈ cm_fld, cm_fok e := List.forall_mem_cons.mpr ⟨fo_0, List.forall_mem_cons.mpr ⟨fo_1, List.forall_mem_cons.mpr ⟨fo_2, List.forall_mem_cons.mpr ⟨fo_3, List.forall_mem_cons.mpr ⟨fo_4, List.forall_mem_cons.mpr ⟨fo_5, List.forall_mem_cons.mpr ⟨fo_6, List.forall_mem_cons.mpr ⟨fo_7, List.forall_mem_cons.mpr ⟨fo_8, List.forall_mem_cons.mpr ⟨fo_9, List.forall_mem_cons.mpr ⟨fo_10, List.forall_mem_cons.mpr ⟨fo_11, List.forall_mem_cons.mpr ⟨fo_12, List.forall_mem_cons.mpr ⟨fo_13, List.forall_mem_cons.mpr ⟨fo_14, List.forall_mem_cons.mpr ⟨fo_15, List.forall_mem_cons.mpr ⟨fo_16, List.forall_mem_cons.mpr ⟨fo_17, List.forall_mem_cons.mpr ⟨fo_18, List.forall_mem_cons.mpr ⟨fo_19, List.forall_mem_cons.mpr ⟨fo_20, List.forall_mem_cons.mpr ⟨fo_21, List.forall_mem_cons.mpr ⟨fo_22, List.forall_mem_cons.mpr ⟨fo_23, List.forall_mem_cons.mpr ⟨fo_24, List.forall_mem_cons.mpr ⟨fo_25, List.forall_mem_cons.mpr ⟨fo_26, List.forall_mem_cons.mpr ⟨fo_27, List.forall_mem_cons.mpr ⟨fo_28, List.forall_mem_cons.mpr ⟨fo_29, List.forall_mem_cons.mpr ⟨fo_30, List.forall_mem_cons.mpr ⟨fo_31, List.forall_mem_cons.mpr ⟨fo_32, List.forall_mem_cons.mpr ⟨fo_33, List.forall_mem_cons.mpr ⟨fo_34, List.forall_mem_cons.mpr ⟨fo_35, List.forall_mem_cons.mpr ⟨fo_36, List.forall_mem_cons.mpr ⟨fo_37, List.forall_mem_cons.mpr ⟨fo_38, List.forall_mem_cons.mpr ⟨fo_39, List.forall_mem_cons.mpr ⟨fo_40, List.forall_mem_cons.mpr ⟨fo_41, List.forall_mem_cons.mpr ⟨fo_42, List.forall_mem_cons.mpr ⟨fo_43, List.forall_mem_cons.mpr ⟨fo_44, List.forall_mem_cons.mpr ⟨fo_45, fun _ h => absurd h List.not_mem_nil⟩⟩⟩⟩⟩⟩⟩⟩⟩⟩⟩⟩⟩⟩⟩⟩⟩⟩⟩⟩⟩⟩⟩⟩⟩⟩⟩⟩⟩⟩⟩⟩⟩⟩⟩⟩⟩⟩⟩⟩⟩⟩⟩⟩⟩⟩
def cm_nok (e : (Nat × Nat) × Nat) : Prop := e.2 < 6 ∧ .classLink (cm_cn e.1.1) e.1.2 (cm_cn e.2) ∈ cm_T
set_option maxRecDepth 100000 in
theorem no_0 : cm_nok ((7, 11), 5) := ⟨by decide, cm_T_in 23 (by decide +kernel) (by decide +kernel)⟩
set_option maxRecDepth 100000 in
theorem no_1 : cm_nok ((5, 7), 0) := ⟨by decide, cm_T_in 31 (by decide +kernel) (by decide +kernel)⟩
set_option maxRecDepth 100000 in
theorem no_2 : cm_nok ((0, 9), 1) := ⟨by decide, cm_T_in 37 (by decide +kernel) (by decide +kernel)⟩
set_option maxRecDepth 100000 in
theorem no_3 : cm_nok ((5, 27), 3) := ⟨by decide, cm_T_in 112 (by decide +kernel) (by decide +kernel)⟩
set_option maxRecDepth 100000 in
theorem no_4 : cm_nok ((5, 34), 2) := ⟨by decide, cm_T_in 128 (by decide +kernel) (by decide +kernel)⟩
set_option maxRecDepth 100000 in
theorem no_5 : cm_nok ((2, 9), 1) := ⟨by decide, cm_T_in 134 (by decide +kernel) (by decide +kernel)⟩
set_option maxRecDepth 100000 in
theorem no_6 : cm_nok ((5, 41), 4) := ⟨by decide, cm_T_in 148 (by decide +kernel) (by decide +kernel)⟩
set_option maxRecDepth 100000 in
theorem no_7 : cm_nok ((4, 9), 1) := ⟨by decide, cm_T_in 154 (by decide +kernel) (by decide +kernel)⟩
theorem cm_cls_ok : ∀ e ∈ cm_cls, cm_nok e := List.forall_mem_cons.mpr ⟨no_0, List.forall_mem_cons.mpr ⟨no_1, List.forall_mem_cons.mpr ⟨no_2, List.forall_mem_cons.mpr ⟨no_3, List.forall_mem_cons.mpr ⟨no_4, List.forall_mem_cons.mpr ⟨no_5, List.forall_mem_cons.mpr ⟨no_6, List.forall_mem_cons.mpr ⟨no_7, fun _ h => absurd h List.not_mem_nil⟩⟩⟩⟩⟩⟩⟩⟩
def cm_gok (e : (Nat × Nat) × Int) : Prop := .constantLong (cm_cn e.1.1) e.1.2 (Int64.ofInt e.2) ∈ cm_T
theorem cm_lng_ok : ∀ e ∈ cm_lng, cm_gok e := fun _ h => absurd h List.not_mem_nil
def cm_iok (e : (Nat × Nat) × Int) : Prop := .constant (cm_cn e.1.1) e.1.2 (Int32.ofInt e.2) ∈ cm_T
set_option maxRecDepth 100000 in
theorem io_0 : cm_iok ((7, 7), 32452867) := cm_T_in 339 (by decide +kernel) (by decide +kernel)
set_option maxRecDepth 100000 in
theorem io_1 : cm_iok ((7, 8), 15485863) := cm_T_in 340 (by decide +kernel) (by decide +kernel)
set_option maxRecDepth 100000 in
theorem io_2 : cm_iok ((7, 9), 2147483647) := cm_T_in 344 (by decide +kernel) (by decide +kernel)
theorem cm_icn_ok : ∀ e ∈ cm_icn, cm_iok e := List.forall_mem_cons.mpr ⟨io_0, List.forall_mem_cons.mpr ⟨io_1, List.forall_mem_cons.mpr ⟨io_2, fun _ h => absurd h List.not_mem_nil⟩⟩⟩
theorem cm_oi : .instanceMethod Lib.objectInit ∈ cm_T := cm_T_in 29 (by decide +kernel) (by decide +kernel)
theorem cm_oc : .code Lib.objectInit ⟨#[0xb1]⟩ 1 none ∈ cm_T := cm_T_in 30 (by decide +kernel) (by decide +kernel)
theorem cm_xs : .static Lib.Math.max.name ∈ cm_T := cm_T_in 318 (by decide +kernel) (by decide +kernel)
theorem cm_xi : .initialized "java/lang/Math" ∈ cm_T := cm_T_in 22 (by decide +kernel) (by decide +kernel)
theorem cm_xc : .code Lib.Math.max.name Lib.Math.max.code 2 (some .int) ∈ cm_T := cm_T_in 319 (by decide +kernel) (by decide +kernel)
theorem cm_an : .native arraycopyName ∈ cm_T := cm_T_in 47 (by decide +kernel) (by decide +kernel)
theorem cm_as' : .static arraycopyName ∈ cm_T := cm_T_in 46 (by decide +kernel) (by decide +kernel)
theorem cm_ai : .initialized "java/lang/System" ∈ cm_T := cm_T_in 18 (by decide +kernel) (by decide +kernel)
theorem cm_ac1 : .arrayClass .int ∈ cm_T := cm_T_in 78 (by decide +kernel) (by decide +kernel)
theorem cm_ac2 : .arrayClass .char ∈ cm_T := cm_T_in 127 (by decide +kernel) (by decide +kernel)
theorem cm_ac3 : .arrayClass .boolean ∈ cm_T := cm_T_in 163 (by decide +kernel) (by decide +kernel)
def cm_sok (e : (Nat × Nat) × (Nat × Int)) : Prop := (e = ((1, 27), (1, -3))) ∨ (e.2.1 = 0 ∧ e.2.2 = -4 ∧ .fieldLink (cm_cn e.1.1) e.1.2 "CreditScroll" "LEAST_SETTINGS" "[I" ∈ cm_T) ∨ (e.2.1 = 0 ∧ e.2.2 = -5 ∧ .fieldLink (cm_cn e.1.1) e.1.2 "CreditScroll" "MOST_SETTINGS" "[I" ∈ cm_T)
set_option maxRecDepth 100000 in
theorem cm_sta_ok : ∀ e ∈ cm_sta, cm_sok e := List.forall_mem_cons.mpr ⟨Or.inl rfl, List.forall_mem_cons.mpr ⟨Or.inr (Or.inl ⟨rfl, rfl, cm_T_in 190 (by decide +kernel) (by decide +kernel)⟩), List.forall_mem_cons.mpr ⟨Or.inr (Or.inr ⟨rfl, rfl, cm_T_in 192 (by decide +kernel) (by decide +kernel)⟩), fun _ h => absurd h List.not_mem_nil⟩⟩⟩
