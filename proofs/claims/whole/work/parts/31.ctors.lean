abbrev yb_X0 : List Value := [.int 0, .int 0, .int 0]
abbrev yb_X1 : List Value := [.int 0, .int 0]
abbrev yb_X2 : List Value := [.int 0, .int 0, .int 0, .int 0, .int 0, .int 0, .null, .int 0, .int 0, .null]
abbrev yb_X4 : List Value := [.int 0, .int 0, .null, .null, .int 0, .null, .null, .null, .null, .null, .null, .null, .int 0, .null, .null, .null, .int 0, .int 0, .int 0, .int 0, .int 0]
abbrev yb_X3 : List Value := [.null, .int 0, .null, .int 0, .null, .int 0, .null, .int 0, .int 0, .int 0, .int 0, .int 0, .int 0, .null, .null, .null]
def ye_X0 (x : Int32) : Nat → va_E := fun _ => .inr (0, [.int x, .int 0, .int 0])
def ye_X1 : Nat → va_E := fun _ => .inr (1, [.int 0, .int 0])
def ye_X2 (G : gx_G) (a : Nat) (x : Int32) : Nat → va_E := fun k => match k with
  | 0 => .inr (2, [.int x, .int 0, .int 0, .int 0, .int 0, .int 0, .ref (a + 1), .int (-9), .int (-9), .ref (a + 2)])
  | 1 => .inl (G.2.1 0, 12, .inl (fun _ => 0))
  | _ => .inl (G.2.1 0, 4, .inl (fun _ => 0))
theorem yw_X0_X0_1 : gy_FW RX0 0 1 .int "" := ⟨RX0, TX0, 3, rfl, by decide +kernel, Or.inl rfl⟩
theorem yw_X0_X0_2 : gy_FW RX0 0 2 .int "" := ⟨RX0, TX0, 3, rfl, by decide +kernel, Or.inl rfl⟩
theorem yw_X0_X0_0 : gy_FW RX0 0 0 .int "<init>" := ⟨RX0, TX0, 3, rfl, by decide +kernel, Or.inr ⟨rfl, rfl, rfl⟩⟩
abbrev rm_X0_init : Room := { frames := 1, cells := 0, slots := 0, locals := 12 }
set_option maxHeartbeats 4000000 in
set_option maxRecDepth 100000 in
theorem t_X0_init (l : Launch) (G : gx_G) (a : Nat) (x : Int32) : Met l yX0_init (Cond.code yX0_init cX0_init 2 none :: wT) rm_X0_init (va_Pc [.ref a, .int x] (gy_S G a 1 (fun _ => .inr (0, yb_X0)) (fun _ => True))) (gy_Q G a 1 (ye_X0 x)) 0 0 (fun q => a ≤ q) := by
  refine Met.ofW (cc := cX0_init) (maxL := 2) (ret := none) (by decide) rfl ?_
  intro p e s m args below meth c s₁ B hml hv
  obtain ⟨rfl, hH, K, hX⟩ := hv
  have C := gy_C.of (G := G) B hml K
  have hx := C.1.1
  have hb := C.1.2.1
  have hr := B.returns
  have hlocks := B.notSynchronized
  have hin : meth.name = "<init>" := (name_of_methodNamed B.named B.method).1
  have hA : ∀ q, a ≤ q → (fun q => a ≤ q) q := fun _ h => h
  have hS : va_S (fun q => a ≤ q) s.heap s.heap [] := va_S.rf
  have hl := lv_entry ([.ref a, .int x]) (n := 2) (Nat.le_of_ble_eq_true rfl)
  rw [lg_entry_eq]
  generalize (lg_sl ([.ref a, .int x]) ++ List.replicate (2 - (lg_sl ([.ref a, .int x])).length) Slot.unset).toArray = ls at hl ⊢
  have hl : lv_has ls 2 [(0, .ref a), (1, .int x)] := hl
  refine lv_aload_n hx hb dX0_init_0 rfl (lv_at hl 0 rfl) ?_
  refine W.objInit hx hb C.1.2.2.2.1 (C.1.2.2.2.2 _ kw_74) (C.1.2.2.2.2 _ kw_14) (C.1.2.2.2.2 _ kw_15) rfl (by rw [hml]; exact hl.1) rfl dX0_init_1 (Nat.le_of_ble_eq_true rfl) (Nat.le_of_ble_eq_true rfl) ?_
  refine W.eq (g2 := F0 m 4 ls []) rfl ?_
  refine lv_aload_n hx hb dX0_init_4 rfl (lv_at hl 0 rfl) ?_
  refine lv_iconst (v := (0 : Int32)) hx hb dX0_init_5 (by decide) ?_
  refine gy_put C hA hH hS 0 (Nat.le_of_ble_eq_true rfl) rfl fl_X0_7 yw_X0_X0_1 (fun h => absurd h (by decide)) rfl rfl (Nat.le_of_ble_eq_true rfl) dX0_init_6 (fun H locs hH hS => ?_)
  refine lv_aload_n hx hb dX0_init_9 rfl (lv_at hl 0 rfl) ?_
  refine lv_iconst (v := (0 : Int32)) hx hb dX0_init_10 (by decide) ?_
  refine gy_put C hA hH hS 0 (Nat.le_of_ble_eq_true rfl) rfl fl_X0_13 yw_X0_X0_2 (fun h => absurd h (by decide)) rfl rfl (Nat.le_of_ble_eq_true rfl) dX0_init_11 (fun H locs hH hS => ?_)
  refine lv_aload_n hx hb dX0_init_14 rfl (lv_at hl 0 rfl) ?_
  refine lv_iload_n hx hb dX0_init_15 rfl (lv_at hl 1 rfl) ?_
  refine gy_put C hA hH hS 0 (Nat.le_of_ble_eq_true rfl) rfl fl_X0_16 yw_X0_X0_0 (fun _ => hin) rfl rfl (Nat.le_of_ble_eq_true rfl) dX0_init_16 (fun H locs hH hS => ?_)
  exact gy_ret C hr hlocks (hH.as (fun k hk => by rcases (show k = 0 by omega) with rfl <;> rfl)) hS dX0_init_19
theorem yw_X1_X1_0 : gy_FW RX1 1 0 .boolean "" := ⟨RX1, TX1, 2, rfl, by decide +kernel, Or.inl rfl⟩
theorem yw_X1_X1_1 : gy_FW RX1 1 1 .int "" := ⟨RX1, TX1, 2, rfl, by decide +kernel, Or.inl rfl⟩
abbrev rm_X1_init : Room := { frames := 1, cells := 0, slots := 0, locals := 12 }
set_option maxHeartbeats 4000000 in
set_option maxRecDepth 100000 in
theorem t_X1_init (l : Launch) (G : gx_G) (a : Nat) : Met l yX1_init (Cond.code yX1_init cX1_init 1 none :: wT) rm_X1_init (va_Pc [.ref a] (gy_S G a 1 (fun _ => .inr (1, yb_X1)) (fun _ => True))) (gy_Q G a 1 (ye_X1)) 0 0 (fun q => a ≤ q) := by
  refine Met.ofW (cc := cX1_init) (maxL := 1) (ret := none) (by decide) rfl ?_
  intro p e s m args below meth c s₁ B hml hv
  obtain ⟨rfl, hH, K, hX⟩ := hv
  have C := gy_C.of (G := G) B hml K
  have hx := C.1.1
  have hb := C.1.2.1
  have hr := B.returns
  have hlocks := B.notSynchronized
  have hin : meth.name = "<init>" := (name_of_methodNamed B.named B.method).1
  have hA : ∀ q, a ≤ q → (fun q => a ≤ q) q := fun _ h => h
  have hS : va_S (fun q => a ≤ q) s.heap s.heap [] := va_S.rf
  have hl := lv_entry ([.ref a]) (n := 1) (Nat.le_of_ble_eq_true rfl)
  rw [lg_entry_eq]
  generalize (lg_sl ([.ref a]) ++ List.replicate (1 - (lg_sl ([.ref a])).length) Slot.unset).toArray = ls at hl ⊢
  have hl : lv_has ls 1 [(0, .ref a)] := hl
  refine lv_aload_n hx hb dX1_init_0 rfl (lv_at hl 0 rfl) ?_
  refine W.objInit hx hb C.1.2.2.2.1 (C.1.2.2.2.2 _ kw_94) (C.1.2.2.2.2 _ kw_14) (C.1.2.2.2.2 _ kw_15) rfl (by rw [hml]; exact hl.1) rfl dX1_init_1 (Nat.le_of_ble_eq_true rfl) (Nat.le_of_ble_eq_true rfl) ?_
  refine W.eq (g2 := F0 m 4 ls []) rfl ?_
  refine lv_aload_n hx hb dX1_init_4 rfl (lv_at hl 0 rfl) ?_
  refine lv_iconst (v := (0 : Int32)) hx hb dX1_init_5 (by decide) ?_
  refine gy_put C hA hH hS 0 (Nat.le_of_ble_eq_true rfl) rfl fl_X1_7 yw_X1_X1_0 (fun h => absurd h (by decide)) rfl rfl (Nat.le_of_ble_eq_true rfl) dX1_init_6 (fun H locs hH hS => ?_)
  refine lv_aload_n hx hb dX1_init_9 rfl (lv_at hl 0 rfl) ?_
  refine lv_iconst (v := (0 : Int32)) hx hb dX1_init_10 (by decide) ?_
  refine gy_put C hA hH hS 0 (Nat.le_of_ble_eq_true rfl) rfl fl_X1_13 yw_X1_X1_1 (fun h => absurd h (by decide)) rfl rfl (Nat.le_of_ble_eq_true rfl) dX1_init_11 (fun H locs hH hS => ?_)
  exact gy_ret C hr hlocks (hH.as (fun k hk => by rcases (show k = 0 by omega) with rfl <;> rfl)) hS dX1_init_14
theorem yw_X2_X2_1 : gy_FW RX2 2 1 .int "" := ⟨RX2, TX2, 10, rfl, by decide +kernel, Or.inl rfl⟩
theorem yw_X2_X2_2 : gy_FW RX2 2 2 .int "" := ⟨RX2, TX2, 10, rfl, by decide +kernel, Or.inl rfl⟩
theorem yw_X2_X2_3 : gy_FW RX2 2 3 .int "" := ⟨RX2, TX2, 10, rfl, by decide +kernel, Or.inl rfl⟩
theorem yw_X2_X2_4 : gy_FW RX2 2 4 .int "" := ⟨RX2, TX2, 10, rfl, by decide +kernel, Or.inl rfl⟩
theorem yw_X2_X2_5 : gy_FW RX2 2 5 .int "" := ⟨RX2, TX2, 10, rfl, by decide +kernel, Or.inl rfl⟩
theorem yw_X2_X2_6 : gy_FW RX2 2 6 (.array .int) "<init>" := ⟨RX2, TX2, 10, rfl, by decide +kernel, Or.inr ⟨rfl, rfl, rfl⟩⟩
theorem yw_X2_X2_7 : gy_FW RX2 2 7 .int "" := ⟨RX2, TX2, 10, rfl, by decide +kernel, Or.inl rfl⟩
theorem yw_X2_X2_8 : gy_FW RX2 2 8 .int "" := ⟨RX2, TX2, 10, rfl, by decide +kernel, Or.inl rfl⟩
theorem yw_X2_X2_9 : gy_FW RX2 2 9 (.array .int) "<init>" := ⟨RX2, TX2, 10, rfl, by decide +kernel, Or.inr ⟨rfl, rfl, rfl⟩⟩
theorem yw_X2_X2_0 : gy_FW RX2 2 0 .int "<init>" := ⟨RX2, TX2, 10, rfl, by decide +kernel, Or.inr ⟨rfl, rfl, rfl⟩⟩
abbrev rm_X2_init : Room := { frames := 1, cells := 2, slots := 16, locals := 12 }
set_option maxHeartbeats 4000000 in
set_option maxRecDepth 100000 in
theorem t_X2_init (l : Launch) (G : gx_G) (a : Nat) (x : Int32) : Met l yX2_init (Cond.code yX2_init cX2_init 2 none :: wT) rm_X2_init (va_Pc [.ref a, .int x] (gy_S G a 1 (fun _ => .inr (2, yb_X2)) (fun _ => True))) (gy_Q G a 3 (ye_X2 G a x)) 2 16 (fun q => a ≤ q) := by
  refine Met.ofW (cc := cX2_init) (maxL := 2) (ret := none) (by decide) rfl ?_
  intro p e s m args below meth c s₁ B hml hv
  obtain ⟨rfl, hH, K, hX⟩ := hv
  have C := gy_C.of (G := G) B hml K
  have hx := C.1.1
  have hb := C.1.2.1
  have hr := B.returns
  have hlocks := B.notSynchronized
  have hin : meth.name = "<init>" := (name_of_methodNamed B.named B.method).1
  have hA : ∀ q, a ≤ q → (fun q => a ≤ q) q := fun _ h => h
  have hS : va_S (fun q => a ≤ q) s.heap s.heap [] := va_S.rf
  have hl := lv_entry ([.ref a, .int x]) (n := 2) (Nat.le_of_ble_eq_true rfl)
  rw [lg_entry_eq]
  generalize (lg_sl ([.ref a, .int x]) ++ List.replicate (2 - (lg_sl ([.ref a, .int x])).length) Slot.unset).toArray = ls at hl ⊢
  have hl : lv_has ls 2 [(0, .ref a), (1, .int x)] := hl
  refine lv_aload_n hx hb dX2_init_0 rfl (lv_at hl 0 rfl) ?_
  refine W.objInit hx hb C.1.2.2.2.1 (C.1.2.2.2.2 _ kw_26) (C.1.2.2.2.2 _ kw_14) (C.1.2.2.2.2 _ kw_15) rfl (by rw [hml]; exact hl.1) rfl dX2_init_1 (Nat.le_of_ble_eq_true rfl) (Nat.le_of_ble_eq_true rfl) ?_
  refine W.eq (g2 := F0 m 4 ls []) rfl ?_
  refine lv_aload_n hx hb dX2_init_4 rfl (lv_at hl 0 rfl) ?_
  refine lv_iconst (v := (0 : Int32)) hx hb dX2_init_5 (by decide) ?_
  refine gy_put C hA hH hS 0 (Nat.le_of_ble_eq_true rfl) rfl fl_X2_9 yw_X2_X2_1 (fun h => absurd h (by decide)) rfl rfl (Nat.le_of_ble_eq_true rfl) dX2_init_6 (fun H locs hH hS => ?_)
  refine lv_aload_n hx hb dX2_init_9 rfl (lv_at hl 0 rfl) ?_
  refine lv_iconst (v := (0 : Int32)) hx hb dX2_init_10 (by decide) ?_
  refine gy_put C hA hH hS 0 (Nat.le_of_ble_eq_true rfl) rfl fl_X2_15 yw_X2_X2_2 (fun h => absurd h (by decide)) rfl rfl (Nat.le_of_ble_eq_true rfl) dX2_init_11 (fun H locs hH hS => ?_)
  refine lv_aload_n hx hb dX2_init_14 rfl (lv_at hl 0 rfl) ?_
  refine lv_iconst (v := (0 : Int32)) hx hb dX2_init_15 (by decide) ?_
  refine gy_put C hA hH hS 0 (Nat.le_of_ble_eq_true rfl) rfl fl_X2_18 yw_X2_X2_3 (fun h => absurd h (by decide)) rfl rfl (Nat.le_of_ble_eq_true rfl) dX2_init_16 (fun H locs hH hS => ?_)
  refine lv_aload_n hx hb dX2_init_19 rfl (lv_at hl 0 rfl) ?_
  refine lv_iconst (v := (0 : Int32)) hx hb dX2_init_20 (by decide) ?_
  refine gy_put C hA hH hS 0 (Nat.le_of_ble_eq_true rfl) rfl fl_X2_21 yw_X2_X2_4 (fun h => absurd h (by decide)) rfl rfl (Nat.le_of_ble_eq_true rfl) dX2_init_21 (fun H locs hH hS => ?_)
  refine lv_aload_n hx hb dX2_init_24 rfl (lv_at hl 0 rfl) ?_
  refine lv_iconst (v := (0 : Int32)) hx hb dX2_init_25 (by decide) ?_
  refine gy_put C hA hH hS 0 (Nat.le_of_ble_eq_true rfl) rfl fl_X2_24 yw_X2_X2_5 (fun h => absurd h (by decide)) rfl rfl (Nat.le_of_ble_eq_true rfl) dX2_init_26 (fun H locs hH hS => ?_)
  refine lv_aload_n hx hb dX2_init_29 rfl (lv_at hl 0 rfl) ?_
  refine lv_bipush (v := (12 : Int32)) hx hb dX2_init_30 (by decide) ?_
  refine gy_newa (a0 := (12, .inl (fun _ => 0))) C hA hH hS (atype := .int) kw_68 rfl 0 rfl (fun h => h) rfl (by decide) (by decide) (Nat.le_of_ble_eq_true rfl) (Nat.le_of_ble_eq_true rfl) (Nat.le_of_ble_eq_true rfl) dX2_init_32 (fun H hH hS => ?_)
  refine gy_put C hA hH hS 0 (Nat.le_of_ble_eq_true rfl) rfl fl_X2_27 yw_X2_X2_6 (fun _ => hin) rfl rfl (Nat.le_of_ble_eq_true rfl) dX2_init_34 (fun H locs hH hS => ?_)
  refine lv_aload_n hx hb dX2_init_37 rfl (lv_at hl 0 rfl) ?_
  refine lv_bipush (v := (-9 : Int32)) hx hb dX2_init_38 (by decide) ?_
  refine gy_put C hA hH hS 0 (Nat.le_of_ble_eq_true rfl) rfl fl_X2_31 yw_X2_X2_7 (fun h => absurd h (by decide)) rfl rfl (Nat.le_of_ble_eq_true rfl) dX2_init_40 (fun H locs hH hS => ?_)
  refine lv_aload_n hx hb dX2_init_43 rfl (lv_at hl 0 rfl) ?_
  refine lv_bipush (v := (-9 : Int32)) hx hb dX2_init_44 (by decide) ?_
  refine gy_put C hA hH hS 0 (Nat.le_of_ble_eq_true rfl) rfl fl_X2_34 yw_X2_X2_8 (fun h => absurd h (by decide)) rfl rfl (Nat.le_of_ble_eq_true rfl) dX2_init_46 (fun H locs hH hS => ?_)
  refine lv_aload_n hx hb dX2_init_49 rfl (lv_at hl 0 rfl) ?_
  refine lv_iconst (v := (4 : Int32)) hx hb dX2_init_50 (by decide) ?_
  refine gy_newa (a0 := (4, .inl (fun _ => 0))) C hA hH hS (atype := .int) kw_68 rfl 0 rfl (fun h => h) rfl (by decide) (by decide) (Nat.le_of_ble_eq_true rfl) (Nat.le_of_ble_eq_true rfl) (Nat.le_of_ble_eq_true rfl) dX2_init_51 (fun H hH hS => ?_)
  refine gy_put C hA hH hS 0 (Nat.le_of_ble_eq_true rfl) rfl fl_X2_37 yw_X2_X2_9 (fun _ => hin) rfl rfl (Nat.le_of_ble_eq_true rfl) dX2_init_53 (fun H locs hH hS => ?_)
  refine lv_aload_n hx hb dX2_init_56 rfl (lv_at hl 0 rfl) ?_
  refine lv_iload_n hx hb dX2_init_57 rfl (lv_at hl 1 rfl) ?_
  refine gy_put C hA hH hS 0 (Nat.le_of_ble_eq_true rfl) rfl fl_X2_40 yw_X2_X2_0 (fun _ => hin) rfl rfl (Nat.le_of_ble_eq_true rfl) dX2_init_58 (fun H locs hH hS => ?_)
  exact gy_ret C hr hlocks (hH.as (fun k hk => by rcases (show k = 0 ∨ k = 1 ∨ k = 2 by omega) with rfl | rfl | rfl <;> rfl)) hS dX2_init_61
