def ye_r (a b w i : Nat) : Nat → Option Nat := fun j => if j < i then some (a + (b + w * j)) else none
theorem ye_rs {a b w i : Nat} (h : i < 2 ^ 31) : va_up (ye_r a b w i) (nI i).toNatClampNeg (some (a + (b + w * i))) = ye_r a b w (i + 1) := by
  rw [nI_clamp h]
  funext j
  by_cases e : j = i
  · subst e; simp [va_up, ye_r]
  · by_cases e2 : j < i
    · simp [va_up, ye_r, e, e2, Nat.lt_succ_of_lt e2]
    · have : ¬ j < i + 1 := by omega
      simp [va_up, ye_r, e, e2, this]
theorem ye_r0 (a b w : Nat) : ye_r a b w 0 = fun _ => none := by
  funext j
  simp [ye_r]
def ye_hi (G : gx_G) (a : Nat) (k : Nat) : va_E :=
  if k < 44 then (if k % 3 = 2 then .inr (2, [.int (nI ((k - 8) / 3)), .int 0, .int 0, .int 0, .int 0, .int 0, .ref (a + (k + 1)), .int (-9), .int (-9), .ref (a + (k + 2))]) else if k % 3 = 0 then .inl (G.2.1 0, 12, .inl (fun _ => 0)) else .inl (G.2.1 0, 4, .inl (fun _ => 0)))
  else if k < 46 then .inr (0, [.int (6 + nI (k - 44)), .int 0, .int 0]) else .inr (1, [.int 0, .int 0])
def ye_lo (G : gx_G) (a i x b : Nat) (k : Nat) : va_E := match k with
  | 0 => .inr (3, [.ref (a + 1), .int 0, .ref (a + 2), .int 4, .ref (a + 3), .int 0, .ref (a + 4), .int 0, .int 0, .int 0, .int 0, .int 100, .int 250, .ref (a + 5), .ref (a + 6), .ref (a + 7)])
  | 1 => .inl (G.2.1 2, 12, gx_refs (ye_r a 8 3 i))
  | 2 => .inl (G.2.1 2, 6, gx_refs (fun _ => none))
  | 3 => .inl (G.2.1 3, 2, gx_refs (ye_r a 44 1 x))
  | 4 => .inl (G.2.1 4, 4, gx_refs (ye_r a 46 1 b))
  | 5 => .inl (G.2.1 2, 6, gx_refs (fun _ => none))
  | 6 => .inl (G.2.1 0, 64, .inl (fun _ => 0))
  | _ => .inl (G.2.1 1, 64, .inl (fun _ => 0))
def ye_X3 (G : gx_G) (a i x b : Nat) : Nat → va_E := fun k => if k < 8 then ye_lo G a i x b k else ye_hi G a k
theorem ye_8 {G : gx_G} {a i x b k : Nat} (h : k < 8) : ye_X3 G a i x b k = ye_lo G a i x b k := if_pos h
theorem ye_9 {G : gx_G} {a i x b k : Nat} (h : 8 ≤ k) : ye_X3 G a i x b k = ye_hi G a k := if_neg (by omega)
theorem ye_X3b (x : Int32) : x = x := rfl
/-- what the tables say of arrays of references, and of the constructor of a nest mate -/
def ye_N (U : State) : Prop := va_AO "PushStick$Effect" U ∧ va_AO "PushStick$Axis" U ∧ va_AO "PushStick$Button" U ∧ va_Nw (.methodLinkNest "PushStick" 74 ⟨"PushStick$Button", "<init>", "()V"⟩ "PushStick") U
theorem yw_X3_X3_0 : gy_FW RX3 3 0 (.array (.object "PushStick$Effect")) "<init>" := ⟨RX3, TX3, 16, rfl, by decide +kernel, Or.inr ⟨rfl, rfl, rfl⟩⟩
theorem yw_X3_X3_1 : gy_FW RX3 3 1 .int "" := ⟨RX3, TX3, 16, rfl, by decide +kernel, Or.inl rfl⟩
theorem yw_X3_X3_2 : gy_FW RX3 3 2 (.array (.object "PushStick$Effect")) "<init>" := ⟨RX3, TX3, 16, rfl, by decide +kernel, Or.inr ⟨rfl, rfl, rfl⟩⟩
theorem yw_X3_X3_3 : gy_FW RX3 3 3 .int "" := ⟨RX3, TX3, 16, rfl, by decide +kernel, Or.inl rfl⟩
theorem yw_X3_X3_4 : gy_FW RX3 3 4 (.array (.object "PushStick$Axis")) "<init>" := ⟨RX3, TX3, 16, rfl, by decide +kernel, Or.inr ⟨rfl, rfl, rfl⟩⟩
theorem yw_X3_X3_5 : gy_FW RX3 3 5 .int "" := ⟨RX3, TX3, 16, rfl, by decide +kernel, Or.inl rfl⟩
theorem yw_X3_X3_6 : gy_FW RX3 3 6 (.array (.object "PushStick$Button")) "<init>" := ⟨RX3, TX3, 16, rfl, by decide +kernel, Or.inr ⟨rfl, rfl, rfl⟩⟩
theorem yw_X3_X3_7 : gy_FW RX3 3 7 .int "" := ⟨RX3, TX3, 16, rfl, by decide +kernel, Or.inl rfl⟩
theorem yw_X3_X3_8 : gy_FW RX3 3 8 .int "" := ⟨RX3, TX3, 16, rfl, by decide +kernel, Or.inl rfl⟩
theorem yw_X3_X3_9 : gy_FW RX3 3 9 .int "" := ⟨RX3, TX3, 16, rfl, by decide +kernel, Or.inl rfl⟩
theorem yw_X3_X3_10 : gy_FW RX3 3 10 .boolean "" := ⟨RX3, TX3, 16, rfl, by decide +kernel, Or.inl rfl⟩
theorem yw_X3_X3_11 : gy_FW RX3 3 11 .int "" := ⟨RX3, TX3, 16, rfl, by decide +kernel, Or.inl rfl⟩
theorem yw_X3_X3_12 : gy_FW RX3 3 12 .int "" := ⟨RX3, TX3, 16, rfl, by decide +kernel, Or.inl rfl⟩
theorem yw_X3_X3_13 : gy_FW RX3 3 13 (.array (.object "PushStick$Effect")) "<init>" := ⟨RX3, TX3, 16, rfl, by decide +kernel, Or.inr ⟨rfl, rfl, rfl⟩⟩
theorem yw_X3_X3_14 : gy_FW RX3 3 14 (.array .int) "<init>" := ⟨RX3, TX3, 16, rfl, by decide +kernel, Or.inr ⟨rfl, rfl, rfl⟩⟩
theorem yw_X3_X3_15 : gy_FW RX3 3 15 (.array .boolean) "<init>" := ⟨RX3, TX3, 16, rfl, by decide +kernel, Or.inr ⟨rfl, rfl, rfl⟩⟩
abbrev rm_X3_init : Room := { frames := 2, cells := 49, slots := 484, locals := 33 }
set_option maxHeartbeats 4000000 in
set_option maxRecDepth 100000 in
theorem yl_X3_171 {p : Program} {l : Launch} {e : Env} {s : State} {m : MethodId} {args : Array Value} {below : List Frame} {meth : Method} {c : Code} (G : gx_G) (a : Nat) (C : gy_C p m c cX3_init 2 s args RX3 G) (hr : meth.sig.returnType = none) (hlocks : meth.locks = false) (hX : ye_N s) : ∀ (r i : Nat), i + r = 4 → ∀ (H : Heap) (locs : List Loc) (ls : Array Slot), gy_H G a (46 + 1 * i) (ye_X3 G a 12 2 i) H → va_S (fun q => a ≤ q) s.heap H locs → lv_has ls 2 [(0, .ref a), (1, .int (nI i))] → W p l e rm_X3_init s m args below meth c H locs (45 + i) (476 + 2 * i) (MQ below (gy_Q G a 50 (ye_X3 G a 12 2 4)) args s 49 484 (fun q => a ≤ q)) (F0 m 171 ls []) := by
  have hx := C.1.1
  have hb := C.1.2.1
  have hA : ∀ q, a ≤ q → (fun q => a ≤ q) q := fun _ h => h
  intro r
  induction r with
  | zero =>
    intro i hi H locs ls hH hS hl
    have hi : i = 4 := by omega
    subst hi
    refine lv_iload_n hx hb dX3_init_171 rfl (lv_at hl 1 rfl) ?_
    refine lv_iconst (v := (4 : Int32)) hx hb dX3_init_172 (by decide) ?_
    refine lv_icmp_ge (tgt := 195) hx hb dX3_init_173 (by decide) (fun hc => ?_) (fun hc => absurd (by decide) hc)
    exact gy_ret C hr hlocks hH hS dX3_init_195
  | succ r ih =>
    intro i hi H locs ls hH hS hl
    have hlt : i < 4 := by omega
    refine lv_iload_n hx hb dX3_init_171 rfl (lv_at hl 1 rfl) ?_
    refine lv_iconst (v := (4 : Int32)) hx hb dX3_init_172 (by decide) ?_
    refine lv_icmp_ge (tgt := 195) hx hb dX3_init_173 (by decide) (fun hc => absurd hc (nI_ge (b := 4) hlt (by decide))) (fun hc => ?_)
    refine lv_aload_n hx hb dX3_init_176 rfl (lv_at hl 0 rfl) ?_
    refine gy_get C hH 0 (by omega) (ye_8 (by decide)) fl_X3_36 rfl dX3_init_177 ?_
    refine lv_iload_n hx hb dX3_init_180 rfl (lv_at hl 1 rfl) ?_
    refine gy_new (ci := 1) (fs := yb_X1) C hA hH hS rfl iw_X1 tyX1_ok kw_20 kw_90 kw_4 (fun j hj => by rcases (show j = 0 ∨ j = 1 by omega) with rfl | rfl <;> rfl) (by show _ ≤ 49; omega) (by show _ ≤ 484; omega) dX3_init_181 (fun H hH hS => ?_)
    refine lv_dup hx hb dX3_init_184 rfl ?_
    refine gy_init hA hH hS (va_runIN (As := []) (rest := [.ref (a + (46 + 1 * i)), .int (nI i), .ref (a + 4)]) C.1 (t_X1_init l G (a + (46 + 1 * i))) ⟨va_cnB 0 C.1.2.2.2.2 (gx_C.good kw_93) rfl rfl rfl hX.2.2.2 (C.1.2.2.2.2 _ kw_4) (by decide +kernel) ⟨Nat.le_of_ble_eq_true rfl, Nat.le_of_ble_eq_true rfl⟩, rfl, C.1.2.2.2.2 _ kw_92⟩ ⟨gy_blind gy_X0 _, fun U hU hW => ⟨rfl, gy_pre gy_X0 C trivial hH hU hW (if_pos rfl)⟩⟩ rfl rfl hl.1 rfl (lv_room (Nat.le_of_ble_eq_true rfl)) dX3_init_185 ⟨by show _ ≤ 49; omega, by show _ ≤ 484; omega⟩) (fun H locs hH hS => ?_)
    refine gy_aast C hA hH hS 4 (46 + 1 * i) (by omega) (by omega) 4 1 (r := (RX1, TX1, 2)) rfl rfl (by show (if 4 < (46 + 1 * i) then va_up (ye_X3 G a 12 2 i) (46 + 1 * i) _ 4 else _) = _; rw [if_pos (by omega), show va_up _ (46 + 1 * i) _ 4 = _ from if_neg (by omega), ye_8 (by decide)]; rfl) (by show (if (46 + 1 * i) < (46 + 1 * i) then _ else _) = _; rw [if_neg (Nat.lt_irrefl _), Nat.sub_self]; rfl) (nI_in hlt (by decide)) dX3_init_188 (fun H locs hH hS => ?_)
    refine lv_iinc (v := nI (i + 1)) (lv' := [(1, .int (nI (i + 1))), (0, .ref a)]) hx hb dX3_init_189 hl (k := 1) rfl (nI_1 i) (by decide) rfl (fun ls hl => ?_)
    refine lv_goto (tgt := 171) hx hb dX3_init_192 (by decide) ?_
    refine W.widen (k := 45 + (i + 1)) (n := 476 + 2 * (i + 1)) (by omega) (by omega) ?_
    refine ih (i + 1) (by omega) _ _ ls ?_ hS (lv_sub hl [1, 0] rfl)
    rw [show 46 + 1 * (i + 1) = 46 + 1 * i + 1 by omega]
    refine hH.as (fun k hk => ?_)
    by_cases e : k = 4
    · subst e
      rw [show va_up _ 4 _ 4 = _ from if_pos rfl, ye_8 (by decide)]
      show Sum.inl (_, _, gx_refs (va_up (ye_r a 46 1 i) (nI i).toNatClampNeg (some (a + (46 + 1 * i))))) = Sum.inl (_, _, gx_refs (ye_r a 46 1 (i + 1)))
      rw [ye_rs (by omega)]
    · rw [show va_up _ 4 _ k = _ from if_neg e]
      show (if k < 46 + 1 * i then va_up (ye_X3 G a 12 2 i) (46 + 1 * i) _ k else _) = _
      by_cases h1 : k < 46 + 1 * i
      · rw [if_pos h1, show va_up _ (46 + 1 * i) _ k = _ from if_neg (by omega)]
        by_cases h2 : k < 8
        · rw [ye_8 h2, ye_8 h2]
          rcases (show k = 0 ∨ k = 1 ∨ k = 2 ∨ k = 3 ∨ k = 4 ∨ k = 5 ∨ k = 6 ∨ k = 7 by omega) with rfl | rfl | rfl | rfl | rfl | rfl | rfl | rfl <;> first | rfl | exact absurd rfl e
        · rw [ye_9 (by omega), ye_9 (by omega)]
      · rw [if_neg h1, ye_9 (by omega)]
        rw [ye_hi, if_neg (by omega), if_neg (by omega)]
        rfl
set_option maxHeartbeats 4000000 in
set_option maxRecDepth 100000 in
theorem yl_X3_141 {p : Program} {l : Launch} {e : Env} {s : State} {m : MethodId} {args : Array Value} {below : List Frame} {meth : Method} {c : Code} (G : gx_G) (a : Nat) (C : gy_C p m c cX3_init 2 s args RX3 G) (hr : meth.sig.returnType = none) (hlocks : meth.locks = false) (hX : ye_N s) : ∀ (r i : Nat), i + r = 2 → ∀ (H : Heap) (locs : List Loc) (ls : Array Slot), gy_H G a (44 + 1 * i) (ye_X3 G a 12 i 0) H → va_S (fun q => a ≤ q) s.heap H locs → lv_has ls 2 [(0, .ref a), (1, .int (nI i))] → W p l e rm_X3_init s m args below meth c H locs (43 + i) (470 + 3 * i) (MQ below (gy_Q G a 50 (ye_X3 G a 12 2 4)) args s 49 484 (fun q => a ≤ q)) (F0 m 141 ls []) := by
  have hx := C.1.1
  have hb := C.1.2.1
  have hA : ∀ q, a ≤ q → (fun q => a ≤ q) q := fun _ h => h
  intro r
  induction r with
  | zero =>
    intro i hi H locs ls hH hS hl
    have hi : i = 2 := by omega
    subst hi
    refine lv_iload_n hx hb dX3_init_141 rfl (lv_at hl 1 rfl) ?_
    refine lv_iconst (v := (2 : Int32)) hx hb dX3_init_142 (by decide) ?_
    refine lv_icmp_ge (tgt := 169) hx hb dX3_init_143 (by decide) (fun hc => ?_) (fun hc => absurd (by decide) hc)
    refine lv_iconst (v := (0 : Int32)) hx hb dX3_init_169 (by decide) ?_
    refine lv_istore_n (lv' := [(1, .int (0 : Int32)), (0, .ref a)]) hx hb dX3_init_170 rfl hl (by decide) rfl (fun ls hl => ?_)
    exact yl_X3_171 (l := l) G a C hr hlocks hX 4 0 rfl _ _ ls hH hS (lv_sub hl [1, 0] rfl)
  | succ r ih =>
    intro i hi H locs ls hH hS hl
    have hlt : i < 2 := by omega
    refine lv_iload_n hx hb dX3_init_141 rfl (lv_at hl 1 rfl) ?_
    refine lv_iconst (v := (2 : Int32)) hx hb dX3_init_142 (by decide) ?_
    refine lv_icmp_ge (tgt := 169) hx hb dX3_init_143 (by decide) (fun hc => absurd hc (nI_ge (b := 2) hlt (by decide))) (fun hc => ?_)
    refine lv_aload_n hx hb dX3_init_146 rfl (lv_at hl 0 rfl) ?_
    refine gy_get C hH 0 (by omega) (ye_8 (by decide)) fl_X3_27 rfl dX3_init_147 ?_
    refine lv_iload_n hx hb dX3_init_150 rfl (lv_at hl 1 rfl) ?_
    refine gy_new (ci := 0) (fs := yb_X0) C hA hH hS rfl iw_X0 tyX0_ok kw_18 kw_70 kw_3 (fun j hj => by rcases (show j = 0 ∨ j = 1 ∨ j = 2 by omega) with rfl | rfl | rfl <;> rfl) (by show _ ≤ 49; omega) (by show _ ≤ 484; omega) dX3_init_151 (fun H hH hS => ?_)
    refine lv_dup hx hb dX3_init_154 rfl ?_
    refine lv_bipush (v := (6 : Int32)) hx hb dX3_init_155 (by decide) ?_
    refine lv_iload_n hx hb dX3_init_157 rfl (lv_at hl 1 rfl) ?_
    refine lv_iadd hx hb dX3_init_158 ?_
    refine gy_init hA hH hS (va_runI (As := [.int (6 + nI i)]) (rest := [.ref (a + (44 + 1 * i)), .int (nI i), .ref (a + 3)]) C.1 (t_X0_init l G (a + (44 + 1 * i)) (6 + nI i)) (cwI 1 C.1.2.2.2.2 (gx_C.good kw_73) rfl rfl rfl (C.1.2.2.2.2 _ kw_3) (C.1.2.2.2.2 _ kw_71) (C.1.2.2.2.2 _ kw_72) rfl (by decide +kernel) ⟨Nat.le_of_ble_eq_true rfl, Nat.le_of_ble_eq_true rfl⟩) ⟨gy_blind gy_X0 _, fun U hU hW => ⟨rfl, gy_pre gy_X0 C trivial hH hU hW (if_pos rfl)⟩⟩ rfl rfl hl.1 rfl (lv_room (Nat.le_of_ble_eq_true rfl)) dX3_init_159 ⟨by show _ ≤ 49; omega, by show _ ≤ 484; omega⟩) (fun H locs hH hS => ?_)
    refine gy_aast C hA hH hS 3 (44 + 1 * i) (by omega) (by omega) 3 0 (r := (RX0, TX0, 3)) rfl rfl (by show (if 3 < (44 + 1 * i) then va_up (ye_X3 G a 12 i 0) (44 + 1 * i) _ 3 else _) = _; rw [if_pos (by omega), show va_up _ (44 + 1 * i) _ 3 = _ from if_neg (by omega), ye_8 (by decide)]; rfl) (by show (if (44 + 1 * i) < (44 + 1 * i) then _ else _) = _; rw [if_neg (Nat.lt_irrefl _), Nat.sub_self]; rfl) (nI_in hlt (by decide)) dX3_init_162 (fun H locs hH hS => ?_)
    refine lv_iinc (v := nI (i + 1)) (lv' := [(1, .int (nI (i + 1))), (0, .ref a)]) hx hb dX3_init_163 hl (k := 1) rfl (nI_1 i) (by decide) rfl (fun ls hl => ?_)
    refine lv_goto (tgt := 141) hx hb dX3_init_166 (by decide) ?_
    refine W.widen (k := 43 + (i + 1)) (n := 470 + 3 * (i + 1)) (by omega) (by omega) ?_
    refine ih (i + 1) (by omega) _ _ ls ?_ hS (lv_sub hl [1, 0] rfl)
    rw [show 44 + 1 * (i + 1) = 44 + 1 * i + 1 by omega]
    refine hH.as (fun k hk => ?_)
    by_cases e : k = 3
    · subst e
      rw [show va_up _ 3 _ 3 = _ from if_pos rfl, ye_8 (by decide)]
      show Sum.inl (_, _, gx_refs (va_up (ye_r a 44 1 i) (nI i).toNatClampNeg (some (a + (44 + 1 * i))))) = Sum.inl (_, _, gx_refs (ye_r a 44 1 (i + 1)))
      rw [ye_rs (by omega)]
    · rw [show va_up _ 3 _ k = _ from if_neg e]
      show (if k < 44 + 1 * i then va_up (ye_X3 G a 12 i 0) (44 + 1 * i) _ k else _) = _
      by_cases h1 : k < 44 + 1 * i
      · rw [if_pos h1, show va_up _ (44 + 1 * i) _ k = _ from if_neg (by omega)]
        by_cases h2 : k < 8
        · rw [ye_8 h2, ye_8 h2]
          rcases (show k = 0 ∨ k = 1 ∨ k = 2 ∨ k = 3 ∨ k = 4 ∨ k = 5 ∨ k = 6 ∨ k = 7 by omega) with rfl | rfl | rfl | rfl | rfl | rfl | rfl | rfl <;> first | rfl | exact absurd rfl e
        · rw [ye_9 (by omega), ye_9 (by omega)]
      · rw [if_neg h1, ye_9 (by omega)]
        have h3 : k = 44 + 1 * i := by omega
        subst h3
        rw [ye_hi, if_neg (by omega), if_pos (by omega), show 44 + 1 * i - 44 = i by omega]
        rfl
set_option maxHeartbeats 4000000 in
set_option maxRecDepth 100000 in
theorem yl_X3_113 {p : Program} {l : Launch} {e : Env} {s : State} {m : MethodId} {args : Array Value} {below : List Frame} {meth : Method} {c : Code} (G : gx_G) (a : Nat) (C : gy_C p m c cX3_init 2 s args RX3 G) (hr : meth.sig.returnType = none) (hlocks : meth.locks = false) (hX : ye_N s) : ∀ (r i : Nat), i + r = 12 → ∀ (H : Heap) (locs : List Loc) (ls : Array Slot), gy_H G a (8 + 3 * i) (ye_X3 G a i 0 0) H → va_S (fun q => a ≤ q) s.heap H locs → lv_has ls 2 [(0, .ref a), (1, .int (nI i))] → W p l e rm_X3_init s m args below meth c H locs (7 + 3 * i) (158 + 26 * i) (MQ below (gy_Q G a 50 (ye_X3 G a 12 2 4)) args s 49 484 (fun q => a ≤ q)) (F0 m 113 ls []) := by
  have hx := C.1.1
  have hb := C.1.2.1
  have hA : ∀ q, a ≤ q → (fun q => a ≤ q) q := fun _ h => h
  intro r
  induction r with
  | zero =>
    intro i hi H locs ls hH hS hl
    have hi : i = 12 := by omega
    subst hi
    refine lv_iload_n hx hb dX3_init_113 rfl (lv_at hl 1 rfl) ?_
    refine lv_bipush (v := (12 : Int32)) hx hb dX3_init_114 (by decide) ?_
    refine lv_icmp_ge (tgt := 139) hx hb dX3_init_116 (by decide) (fun hc => ?_) (fun hc => absurd (by decide) hc)
    refine lv_iconst (v := (0 : Int32)) hx hb dX3_init_139 (by decide) ?_
    refine lv_istore_n (lv' := [(1, .int (0 : Int32)), (0, .ref a)]) hx hb dX3_init_140 rfl hl (by decide) rfl (fun ls hl => ?_)
    exact yl_X3_141 (l := l) G a C hr hlocks hX 2 0 rfl _ _ ls hH hS (lv_sub hl [1, 0] rfl)
  | succ r ih =>
    intro i hi H locs ls hH hS hl
    have hlt : i < 12 := by omega
    refine lv_iload_n hx hb dX3_init_113 rfl (lv_at hl 1 rfl) ?_
    refine lv_bipush (v := (12 : Int32)) hx hb dX3_init_114 (by decide) ?_
    refine lv_icmp_ge (tgt := 139) hx hb dX3_init_116 (by decide) (fun hc => absurd hc (nI_ge (b := 12) hlt (by decide))) (fun hc => ?_)
    refine lv_aload_n hx hb dX3_init_119 rfl (lv_at hl 0 rfl) ?_
    refine gy_get C hH 0 (by omega) (ye_8 (by decide)) fl_X3_11 rfl dX3_init_120 ?_
    refine lv_iload_n hx hb dX3_init_123 rfl (lv_at hl 1 rfl) ?_
    refine gy_new (ci := 2) (fs := yb_X2) C hA hH hS rfl iw_X2 tyX2_ok kw_16 kw_22 kw_2 (fun j hj => by rcases (show j = 0 ∨ j = 1 ∨ j = 2 ∨ j = 3 ∨ j = 4 ∨ j = 5 ∨ j = 6 ∨ j = 7 ∨ j = 8 ∨ j = 9 by omega) with rfl | rfl | rfl | rfl | rfl | rfl | rfl | rfl | rfl | rfl <;> rfl) (by show _ ≤ 49; omega) (by show _ ≤ 484; omega) dX3_init_124 (fun H hH hS => ?_)
    refine lv_dup hx hb dX3_init_127 rfl ?_
    refine lv_iload_n hx hb dX3_init_128 rfl (lv_at hl 1 rfl) ?_
    refine gy_init hA hH hS (va_runI (As := [.int (nI i)]) (rest := [.ref (a + (8 + 3 * i)), .int (nI i), .ref (a + 1)]) C.1 (t_X2_init l G (a + (8 + 3 * i)) (nI i)) (cwI 1 C.1.2.2.2.2 (gx_C.good kw_25) rfl rfl rfl (C.1.2.2.2.2 _ kw_2) (C.1.2.2.2.2 _ kw_23) (C.1.2.2.2.2 _ kw_24) rfl (by decide +kernel) ⟨Nat.le_of_ble_eq_true rfl, Nat.le_of_ble_eq_true rfl⟩) ⟨gy_blind gy_X0 _, fun U hU hW => ⟨rfl, gy_pre gy_X0 C trivial hH hU hW (if_pos rfl)⟩⟩ rfl rfl hl.1 rfl (lv_room (Nat.le_of_ble_eq_true rfl)) dX3_init_129 ⟨by show _ ≤ 49; omega, by show _ ≤ 484; omega⟩) (fun H locs hH hS => ?_)
    refine gy_aast C hA hH hS 1 (8 + 3 * i) (by omega) (by omega) 2 2 (r := (RX2, TX2, 10)) rfl rfl (by show (if 1 < (8 + 3 * i) then va_up (ye_X3 G a i 0 0) (8 + 3 * i) _ 1 else _) = _; rw [if_pos (by omega), show va_up _ (8 + 3 * i) _ 1 = _ from if_neg (by omega), ye_8 (by decide)]; rfl) (by show (if (8 + 3 * i) < (8 + 3 * i) then _ else _) = _; rw [if_neg (Nat.lt_irrefl _), Nat.sub_self]; rfl) (nI_in hlt (by decide)) dX3_init_132 (fun H locs hH hS => ?_)
    refine lv_iinc (v := nI (i + 1)) (lv' := [(1, .int (nI (i + 1))), (0, .ref a)]) hx hb dX3_init_133 hl (k := 1) rfl (nI_1 i) (by decide) rfl (fun ls hl => ?_)
    refine lv_goto (tgt := 113) hx hb dX3_init_136 (by decide) ?_
    refine W.widen (k := 7 + 3 * (i + 1)) (n := 158 + 26 * (i + 1)) (by omega) (by omega) ?_
    refine ih (i + 1) (by omega) _ _ ls ?_ hS (lv_sub hl [1, 0] rfl)
    rw [show 8 + 3 * (i + 1) = 8 + 3 * i + 3 by omega]
    refine hH.as (fun k hk => ?_)
    by_cases e : k = 1
    · subst e
      rw [show va_up _ 1 _ 1 = _ from if_pos rfl, ye_8 (by decide)]
      show Sum.inl (_, _, gx_refs (va_up (ye_r a 8 3 i) (nI i).toNatClampNeg (some (a + (8 + 3 * i))))) = Sum.inl (_, _, gx_refs (ye_r a 8 3 (i + 1)))
      rw [ye_rs (by omega)]
    · rw [show va_up _ 1 _ k = _ from if_neg e]
      show (if k < 8 + 3 * i then va_up (ye_X3 G a i 0 0) (8 + 3 * i) _ k else _) = _
      by_cases h1 : k < 8 + 3 * i
      · rw [if_pos h1, show va_up _ (8 + 3 * i) _ k = _ from if_neg (by omega)]
        by_cases h2 : k < 8
        · rw [ye_8 h2, ye_8 h2]
          rcases (show k = 0 ∨ k = 1 ∨ k = 2 ∨ k = 3 ∨ k = 4 ∨ k = 5 ∨ k = 6 ∨ k = 7 by omega) with rfl | rfl | rfl | rfl | rfl | rfl | rfl | rfl <;> first | rfl | exact absurd rfl e
        · rw [ye_9 (by omega), ye_9 (by omega)]
      · rw [if_neg h1, ye_9 (by omega)]
        rcases (show k = 8 + 3 * i ∨ k = 8 + 3 * i + 1 ∨ k = 8 + 3 * i + 2 by omega) with h3 | h3 | h3
        · subst h3
          rw [ye_hi, if_pos (by omega), if_pos (by omega), show 8 + 3 * i - (8 + 3 * i) = 0 by omega, show (8 + 3 * i - 8) / 3 = i by omega]
          rfl
        · subst h3
          rw [ye_hi, if_pos (by omega), if_neg (by omega), if_pos (by omega), show 8 + 3 * i + 1 - (8 + 3 * i) = 1 by omega]
          rfl
        · subst h3
          rw [ye_hi, if_pos (by omega), if_neg (by omega), if_neg (by omega), show 8 + 3 * i + 2 - (8 + 3 * i) = 2 by omega]
          rfl
set_option maxHeartbeats 4000000 in
set_option maxRecDepth 100000 in
theorem t_X3_init (l : Launch) (G : gx_G) (a : Nat) : Met l yX3_init (Cond.code yX3_init cX3_init 2 none :: wT) rm_X3_init (va_Pc [.ref a] (gy_S G a 1 (fun _ => .inr (3, yb_X3)) ye_N)) (gy_Q G a 50 (ye_X3 G a 12 2 4)) 49 484 (fun q => a ≤ q) := by
  refine Met.ofW (cc := cX3_init) (maxL := 2) (ret := none) (by decide) rfl ?_
  intro p e s m args below meth c s₁ B hml hv
  obtain ⟨rfl, hH, K, hX⟩ := hv
  have C := gy_C.of (G := G) B hml K
  have hx := C.1.1
  have hb := C.1.2.1
  have hr := B.returns
  have hlocks := B.notSynchronized
  have hin : meth.name = "<init>" := (name_of_methodNamed B.named B.method).1
  have hA : ∀ q, a ≤ q → (fun q => a ≤ q) q := fun _ h => h
  have hS : va_S (fun q => a ≤ q) s.heap s.heap [] := va_S.rf
  have hl := lv_entry ([.ref a]) (n := 2) (Nat.le_of_ble_eq_true rfl)
  rw [lg_entry_eq]
  generalize (lg_sl ([.ref a]) ++ List.replicate (2 - (lg_sl ([.ref a])).length) Slot.unset).toArray = ls at hl ⊢
  have hl : lv_has ls 2 [(0, .ref a)] := hl
  refine lv_aload_n hx hb dX3_init_0 rfl (lv_at hl 0 rfl) ?_
  refine W.objInit hx hb C.1.2.2.2.1 (C.1.2.2.2.2 _ kw_13) (C.1.2.2.2.2 _ kw_14) (C.1.2.2.2.2 _ kw_15) rfl (by rw [hml]; exact hl.1) rfl dX3_init_1 (Nat.le_of_ble_eq_true rfl) (Nat.le_of_ble_eq_true rfl) ?_
  refine W.eq (g2 := F0 m 4 ls []) rfl ?_
  refine lv_aload_n hx hb dX3_init_4 rfl (lv_at hl 0 rfl) ?_
  refine lv_bipush (v := (12 : Int32)) hx hb dX3_init_5 (by decide) ?_
  refine gy_newq (N := 12) C hA hH hS kw_16 hX.1 2 rfl (by decide) (by decide) (Nat.le_of_ble_eq_true rfl) (Nat.le_of_ble_eq_true rfl) (Nat.le_of_ble_eq_true rfl) dX3_init_7 (fun H hH hS => ?_)
  refine gy_put C hA hH hS 0 (Nat.le_of_ble_eq_true rfl) rfl fl_X3_11 yw_X3_X3_0 (fun _ => hin) rfl rfl (Nat.le_of_ble_eq_true rfl) dX3_init_10 (fun H locs hH hS => ?_)
  refine lv_aload_n hx hb dX3_init_13 rfl (lv_at hl 0 rfl) ?_
  refine lv_iconst (v := (0 : Int32)) hx hb dX3_init_14 (by decide) ?_
  refine gy_put C hA hH hS 0 (Nat.le_of_ble_eq_true rfl) rfl fl_X3_15 yw_X3_X3_1 (fun h => absurd h (by decide)) rfl rfl (Nat.le_of_ble_eq_true rfl) dX3_init_15 (fun H locs hH hS => ?_)
  refine lv_aload_n hx hb dX3_init_18 rfl (lv_at hl 0 rfl) ?_
  refine lv_bipush (v := (6 : Int32)) hx hb dX3_init_19 (by decide) ?_
  refine gy_newq (N := 6) C hA hH hS kw_16 hX.1 2 rfl (by decide) (by decide) (Nat.le_of_ble_eq_true rfl) (Nat.le_of_ble_eq_true rfl) (Nat.le_of_ble_eq_true rfl) dX3_init_21 (fun H hH hS => ?_)
  refine gy_put C hA hH hS 0 (Nat.le_of_ble_eq_true rfl) rfl fl_X3_19 yw_X3_X3_2 (fun _ => hin) rfl rfl (Nat.le_of_ble_eq_true rfl) dX3_init_24 (fun H locs hH hS => ?_)
  refine lv_aload_n hx hb dX3_init_27 rfl (lv_at hl 0 rfl) ?_
  refine lv_iconst (v := (4 : Int32)) hx hb dX3_init_28 (by decide) ?_
  refine gy_put C hA hH hS 0 (Nat.le_of_ble_eq_true rfl) rfl fl_X3_22 yw_X3_X3_3 (fun h => absurd h (by decide)) rfl rfl (Nat.le_of_ble_eq_true rfl) dX3_init_29 (fun H locs hH hS => ?_)
  refine lv_aload_n hx hb dX3_init_32 rfl (lv_at hl 0 rfl) ?_
  refine lv_iconst (v := (2 : Int32)) hx hb dX3_init_33 (by decide) ?_
  refine gy_newq (N := 2) C hA hH hS kw_18 hX.2.1 3 rfl (by decide) (by decide) (Nat.le_of_ble_eq_true rfl) (Nat.le_of_ble_eq_true rfl) (Nat.le_of_ble_eq_true rfl) dX3_init_34 (fun H hH hS => ?_)
  refine gy_put C hA hH hS 0 (Nat.le_of_ble_eq_true rfl) rfl fl_X3_27 yw_X3_X3_4 (fun _ => hin) rfl rfl (Nat.le_of_ble_eq_true rfl) dX3_init_37 (fun H locs hH hS => ?_)
  refine lv_aload_n hx hb dX3_init_40 rfl (lv_at hl 0 rfl) ?_
  refine lv_iconst (v := (0 : Int32)) hx hb dX3_init_41 (by decide) ?_
  refine gy_put C hA hH hS 0 (Nat.le_of_ble_eq_true rfl) rfl fl_X3_31 yw_X3_X3_5 (fun h => absurd h (by decide)) rfl rfl (Nat.le_of_ble_eq_true rfl) dX3_init_42 (fun H locs hH hS => ?_)
  refine lv_aload_n hx hb dX3_init_45 rfl (lv_at hl 0 rfl) ?_
  refine lv_iconst (v := (4 : Int32)) hx hb dX3_init_46 (by decide) ?_
  refine gy_newq (N := 4) C hA hH hS kw_20 hX.2.2.1 4 rfl (by decide) (by decide) (Nat.le_of_ble_eq_true rfl) (Nat.le_of_ble_eq_true rfl) (Nat.le_of_ble_eq_true rfl) dX3_init_47 (fun H hH hS => ?_)
  refine gy_put C hA hH hS 0 (Nat.le_of_ble_eq_true rfl) rfl fl_X3_36 yw_X3_X3_6 (fun _ => hin) rfl rfl (Nat.le_of_ble_eq_true rfl) dX3_init_50 (fun H locs hH hS => ?_)
  refine lv_aload_n hx hb dX3_init_53 rfl (lv_at hl 0 rfl) ?_
  refine lv_iconst (v := (0 : Int32)) hx hb dX3_init_54 (by decide) ?_
  refine gy_put C hA hH hS 0 (Nat.le_of_ble_eq_true rfl) rfl fl_X3_40 yw_X3_X3_7 (fun h => absurd h (by decide)) rfl rfl (Nat.le_of_ble_eq_true rfl) dX3_init_55 (fun H locs hH hS => ?_)
  refine lv_aload_n hx hb dX3_init_58 rfl (lv_at hl 0 rfl) ?_
  refine lv_iconst (v := (0 : Int32)) hx hb dX3_init_59 (by decide) ?_
  refine gy_put C hA hH hS 0 (Nat.le_of_ble_eq_true rfl) rfl fl_X3_43 yw_X3_X3_8 (fun h => absurd h (by decide)) rfl rfl (Nat.le_of_ble_eq_true rfl) dX3_init_60 (fun H locs hH hS => ?_)
  refine lv_aload_n hx hb dX3_init_63 rfl (lv_at hl 0 rfl) ?_
  refine lv_iconst (v := (0 : Int32)) hx hb dX3_init_64 (by decide) ?_
  refine gy_put C hA hH hS 0 (Nat.le_of_ble_eq_true rfl) rfl fl_X3_46 yw_X3_X3_9 (fun h => absurd h (by decide)) rfl rfl (Nat.le_of_ble_eq_true rfl) dX3_init_65 (fun H locs hH hS => ?_)
  refine lv_aload_n hx hb dX3_init_68 rfl (lv_at hl 0 rfl) ?_
  refine lv_iconst (v := (0 : Int32)) hx hb dX3_init_69 (by decide) ?_
  refine gy_put C hA hH hS 0 (Nat.le_of_ble_eq_true rfl) rfl fl_X3_49 yw_X3_X3_10 (fun h => absurd h (by decide)) rfl rfl (Nat.le_of_ble_eq_true rfl) dX3_init_70 (fun H locs hH hS => ?_)
  refine lv_aload_n hx hb dX3_init_73 rfl (lv_at hl 0 rfl) ?_
  refine lv_bipush (v := (100 : Int32)) hx hb dX3_init_74 (by decide) ?_
  refine gy_put C hA hH hS 0 (Nat.le_of_ble_eq_true rfl) rfl fl_X3_53 yw_X3_X3_11 (fun h => absurd h (by decide)) rfl rfl (Nat.le_of_ble_eq_true rfl) dX3_init_76 (fun H locs hH hS => ?_)
  refine lv_aload_n hx hb dX3_init_79 rfl (lv_at hl 0 rfl) ?_
  refine lv_sipush (v := (250 : Int32)) hx hb dX3_init_80 (by decide) ?_
  refine gy_put C hA hH hS 0 (Nat.le_of_ble_eq_true rfl) rfl fl_X3_56 yw_X3_X3_12 (fun h => absurd h (by decide)) rfl rfl (Nat.le_of_ble_eq_true rfl) dX3_init_83 (fun H locs hH hS => ?_)
  refine lv_aload_n hx hb dX3_init_86 rfl (lv_at hl 0 rfl) ?_
  refine lv_bipush (v := (6 : Int32)) hx hb dX3_init_87 (by decide) ?_
  refine gy_newq (N := 6) C hA hH hS kw_16 hX.1 2 rfl (by decide) (by decide) (Nat.le_of_ble_eq_true rfl) (Nat.le_of_ble_eq_true rfl) (Nat.le_of_ble_eq_true rfl) dX3_init_89 (fun H hH hS => ?_)
  refine gy_put C hA hH hS 0 (Nat.le_of_ble_eq_true rfl) rfl fl_X3_59 yw_X3_X3_13 (fun _ => hin) rfl rfl (Nat.le_of_ble_eq_true rfl) dX3_init_92 (fun H locs hH hS => ?_)
  refine lv_aload_n hx hb dX3_init_95 rfl (lv_at hl 0 rfl) ?_
  refine lv_bipush (v := (64 : Int32)) hx hb dX3_init_96 (by decide) ?_
  refine gy_newa (a0 := (64, .inl (fun _ => 0))) C hA hH hS (atype := .int) kw_68 rfl 0 rfl (fun h => h) rfl (by decide) (by decide) (Nat.le_of_ble_eq_true rfl) (Nat.le_of_ble_eq_true rfl) (Nat.le_of_ble_eq_true rfl) dX3_init_98 (fun H hH hS => ?_)
  refine gy_put C hA hH hS 0 (Nat.le_of_ble_eq_true rfl) rfl fl_X3_62 yw_X3_X3_14 (fun _ => hin) rfl rfl (Nat.le_of_ble_eq_true rfl) dX3_init_100 (fun H locs hH hS => ?_)
  refine lv_aload_n hx hb dX3_init_103 rfl (lv_at hl 0 rfl) ?_
  refine lv_bipush (v := (64 : Int32)) hx hb dX3_init_104 (by decide) ?_
  refine gy_newa (a0 := (64, .inl (fun _ => 0))) C hA hH hS (atype := .boolean) kw_69 rfl 1 rfl (fun h => h) rfl (by decide) (by decide) (Nat.le_of_ble_eq_true rfl) (Nat.le_of_ble_eq_true rfl) (Nat.le_of_ble_eq_true rfl) dX3_init_106 (fun H hH hS => ?_)
  refine gy_put C hA hH hS 0 (Nat.le_of_ble_eq_true rfl) rfl fl_X3_66 yw_X3_X3_15 (fun _ => hin) rfl rfl (Nat.le_of_ble_eq_true rfl) dX3_init_108 (fun H locs hH hS => ?_)
  refine lv_iconst (v := (0 : Int32)) hx hb dX3_init_111 (by decide) ?_
  refine lv_istore_n (lv' := [(1, .int (0 : Int32)), (0, .ref a)]) hx hb dX3_init_112 rfl hl (by decide) rfl (fun ls hl => ?_)
  exact yl_X3_113 (l := l) G a C hr hlocks hX 12 0 rfl _ _ ls (hH.as (fun k hk => by rcases (show k = 0 ∨ k = 1 ∨ k = 2 ∨ k = 3 ∨ k = 4 ∨ k = 5 ∨ k = 6 ∨ k = 7 by omega) with rfl | rfl | rfl | rfl | rfl | rfl | rfl | rfl <;> first | rfl | (rw [ye_8 (by decide)]; show _ = Sum.inl (_, _, gx_refs (ye_r _ _ _ 0)); rw [ye_r0]; rfl))) hS (lv_sub hl [1, 0] rfl)
