def ye_f (i : Nat) : Nat → Int32 := fun j => if j < i then -9 else 0
theorem ye_fs {i : Nat} (h : i < 2 ^ 31) : upd (ye_f i) (nI i).toNatClampNeg (-9) = ye_f (i + 1) := by
  rw [nI_clamp h]
  funext j
  by_cases e : j = i
  · subst e; simp [upd, ye_f]
  · by_cases e2 : j < i
    · simp [upd, ye_f, e, e2, Nat.lt_succ_of_lt e2]
    · have : ¬ j < i + 1 := by omega
      simp [upd, ye_f, e, e2, this]
def ye_X4 (G : gx_G) (a i1 i2 : Nat) : Nat → va_E := fun k => if k = 10 then .inl (G.2.1 0, 6, .inl (ye_f i1)) else if k = 11 then .inl (G.2.1 0, 4, .inl (ye_f i2)) else match k with
  | 0 => .inr (4, [.int 0, .int 0, .ref (a + 1), .ref (a + 2), .int 0, .ref (a + 3), .ref (a + 4), .ref (a + 5), .ref (a + 6), .ref (a + 7), .ref (a + 8), .ref (a + 9), .int 4, .ref (a + 10), .ref (a + 11), .ref (a + 12), .int 0, .int 0, .int 0, .int 100, .int 250])
  | k + 1 => .inl (G.2.1 0, gm_len (k + 1), .inl (fun _ => 0))
theorem yw_X4_X4_2 : gy_FW RX4 4 2 (.array .int) "<init>" := ⟨RX4, TX4, 21, rfl, by decide +kernel, Or.inr ⟨rfl, rfl, rfl⟩⟩
theorem yw_X4_X4_3 : gy_FW RX4 4 3 (.array .int) "<init>" := ⟨RX4, TX4, 21, rfl, by decide +kernel, Or.inr ⟨rfl, rfl, rfl⟩⟩
theorem yw_X4_X4_5 : gy_FW RX4 4 5 (.array .int) "<init>" := ⟨RX4, TX4, 21, rfl, by decide +kernel, Or.inr ⟨rfl, rfl, rfl⟩⟩
theorem yw_X4_X4_6 : gy_FW RX4 4 6 (.array .int) "<init>" := ⟨RX4, TX4, 21, rfl, by decide +kernel, Or.inr ⟨rfl, rfl, rfl⟩⟩
theorem yw_X4_X4_7 : gy_FW RX4 4 7 (.array .int) "<init>" := ⟨RX4, TX4, 21, rfl, by decide +kernel, Or.inr ⟨rfl, rfl, rfl⟩⟩
theorem yw_X4_X4_8 : gy_FW RX4 4 8 (.array .int) "<init>" := ⟨RX4, TX4, 21, rfl, by decide +kernel, Or.inr ⟨rfl, rfl, rfl⟩⟩
theorem yw_X4_X4_9 : gy_FW RX4 4 9 (.array .int) "<init>" := ⟨RX4, TX4, 21, rfl, by decide +kernel, Or.inr ⟨rfl, rfl, rfl⟩⟩
theorem yw_X4_X4_10 : gy_FW RX4 4 10 (.array .int) "<init>" := ⟨RX4, TX4, 21, rfl, by decide +kernel, Or.inr ⟨rfl, rfl, rfl⟩⟩
theorem yw_X4_X4_11 : gy_FW RX4 4 11 (.array .int) "<init>" := ⟨RX4, TX4, 21, rfl, by decide +kernel, Or.inr ⟨rfl, rfl, rfl⟩⟩
theorem yw_X4_X4_12 : gy_FW RX4 4 12 .int "" := ⟨RX4, TX4, 21, rfl, by decide +kernel, Or.inl rfl⟩
theorem yw_X4_X4_13 : gy_FW RX4 4 13 (.array .int) "<init>" := ⟨RX4, TX4, 21, rfl, by decide +kernel, Or.inr ⟨rfl, rfl, rfl⟩⟩
theorem yw_X4_X4_14 : gy_FW RX4 4 14 (.array .int) "<init>" := ⟨RX4, TX4, 21, rfl, by decide +kernel, Or.inr ⟨rfl, rfl, rfl⟩⟩
theorem yw_X4_X4_15 : gy_FW RX4 4 15 (.array .int) "<init>" := ⟨RX4, TX4, 21, rfl, by decide +kernel, Or.inr ⟨rfl, rfl, rfl⟩⟩
theorem yw_X4_X4_19 : gy_FW RX4 4 19 .int "" := ⟨RX4, TX4, 21, rfl, by decide +kernel, Or.inl rfl⟩
theorem yw_X4_X4_20 : gy_FW RX4 4 20 .int "" := ⟨RX4, TX4, 21, rfl, by decide +kernel, Or.inl rfl⟩
abbrev rm_X4_init : Room := { frames := 1, cells := 12, slots := 278, locals := 12 }
set_option maxHeartbeats 4000000 in
set_option maxRecDepth 100000 in
theorem yl_X4_140 {p : Program} {l : Launch} {e : Env} {s : State} {m : MethodId} {args : Array Value} {below : List Frame} {meth : Method} {c : Code} (G : gx_G) (a : Nat) (C : gy_C p m c cX4_init 2 s args RX4 G) (hr : meth.sig.returnType = none) (hlocks : meth.locks = false) : ∀ (r i : Nat), i + r = 4 → ∀ (H : Heap) (locs : List Loc) (ls : Array Slot), gy_H G a 13 (ye_X4 G a 6 i) H → va_S (fun q => a ≤ q) s.heap H locs → lv_has ls 2 [(0, .ref a), (1, .int (nI i))] → W p l e rm_X4_init s m args below meth c H locs 12 278 (MQ below (gy_Q G a 13 (ye_X4 G a 6 4)) args s 12 278 (fun q => a ≤ q)) (F0 m 140 ls []) := by
  have hx := C.1.1
  have hb := C.1.2.1
  have hA : ∀ q, a ≤ q → (fun q => a ≤ q) q := fun _ h => h
  intro r
  induction r with
  | zero =>
    intro i hi H locs ls hH hS hl
    have hi : i = 4 := by omega
    subst hi
    refine lv_iload_n hx hb dX4_init_140 rfl (lv_at hl 1 rfl) ?_
    refine lv_iconst (v := (4 : Int32)) hx hb dX4_init_141 (by decide) ?_
    refine lv_icmp_ge (tgt := 159) hx hb dX4_init_142 (by decide) (fun hc => ?_) (fun hc => absurd (by decide) hc)
    exact gy_ret C hr hlocks hH hS dX4_init_159
  | succ r ih =>
    intro i hi H locs ls hH hS hl
    have hlt : i < 4 := by omega
    refine lv_iload_n hx hb dX4_init_140 rfl (lv_at hl 1 rfl) ?_
    refine lv_iconst (v := (4 : Int32)) hx hb dX4_init_141 (by decide) ?_
    refine lv_icmp_ge (tgt := 159) hx hb dX4_init_142 (by decide) (fun hc => absurd hc (nI_ge (b := 4) hlt (by decide))) (fun hc => ?_)
    refine lv_aload_n hx hb dX4_init_145 rfl (lv_at hl 0 rfl) ?_
    refine gy_get C hH 0 (by decide) rfl fl_X4_44 rfl dX4_init_146 ?_
    refine lv_iload_n hx hb dX4_init_149 rfl (lv_at hl 1 rfl) ?_
    refine lv_bipush (v := (-9 : Int32)) hx hb dX4_init_150 (by decide) ?_
    refine gy_iast C hA hH hS 11 (by decide) rfl (nI_in hlt (by decide)) dX4_init_152 (fun H locs hH hS => ?_)
    refine lv_iinc (v := nI (i + 1)) (lv' := [(1, .int (nI (i + 1))), (0, .ref a)]) hx hb dX4_init_153 hl (k := 1) rfl (nI_1 i) (by decide) rfl (fun ls hl => ?_)
    refine lv_goto (tgt := 140) hx hb dX4_init_156 (by decide) ?_
    refine ih (i + 1) (by omega) _ _ ls (hH.as (fun k hk => ?_)) hS (lv_sub hl [1, 0] rfl)
    by_cases e : k = 11
    · subst e
      show Sum.inl (G.2.1 0, 4, Sum.inl (upd (ye_f i) (nI i).toNatClampNeg (-9))) = Sum.inl (G.2.1 0, 4, Sum.inl (ye_f (i + 1)))
      rw [ye_fs (by omega)]
    · rw [show va_up (ye_X4 G a 6 i) 11 _ k = _ from if_neg e]
      simp only [ye_X4, if_neg e]
set_option maxHeartbeats 4000000 in
set_option maxRecDepth 100000 in
theorem yl_X4_118 {p : Program} {l : Launch} {e : Env} {s : State} {m : MethodId} {args : Array Value} {below : List Frame} {meth : Method} {c : Code} (G : gx_G) (a : Nat) (C : gy_C p m c cX4_init 2 s args RX4 G) (hr : meth.sig.returnType = none) (hlocks : meth.locks = false) : ∀ (r i : Nat), i + r = 6 → ∀ (H : Heap) (locs : List Loc) (ls : Array Slot), gy_H G a 13 (ye_X4 G a i 0) H → va_S (fun q => a ≤ q) s.heap H locs → lv_has ls 2 [(0, .ref a), (1, .int (nI i))] → W p l e rm_X4_init s m args below meth c H locs 12 278 (MQ below (gy_Q G a 13 (ye_X4 G a 6 4)) args s 12 278 (fun q => a ≤ q)) (F0 m 118 ls []) := by
  have hx := C.1.1
  have hb := C.1.2.1
  have hA : ∀ q, a ≤ q → (fun q => a ≤ q) q := fun _ h => h
  intro r
  induction r with
  | zero =>
    intro i hi H locs ls hH hS hl
    have hi : i = 6 := by omega
    subst hi
    refine lv_iload_n hx hb dX4_init_118 rfl (lv_at hl 1 rfl) ?_
    refine lv_bipush (v := (6 : Int32)) hx hb dX4_init_119 (by decide) ?_
    refine lv_icmp_ge (tgt := 138) hx hb dX4_init_121 (by decide) (fun hc => ?_) (fun hc => absurd (by decide) hc)
    refine lv_iconst (v := (0 : Int32)) hx hb dX4_init_138 (by decide) ?_
    refine lv_istore_n (lv' := [(1, .int (0 : Int32)), (0, .ref a)]) hx hb dX4_init_139 rfl hl (by decide) rfl (fun ls hl => ?_)
    exact yl_X4_140 (l := l) G a C hr hlocks 4 0 rfl _ _ ls hH hS (lv_sub hl [1, 0] rfl)
  | succ r ih =>
    intro i hi H locs ls hH hS hl
    have hlt : i < 6 := by omega
    refine lv_iload_n hx hb dX4_init_118 rfl (lv_at hl 1 rfl) ?_
    refine lv_bipush (v := (6 : Int32)) hx hb dX4_init_119 (by decide) ?_
    refine lv_icmp_ge (tgt := 138) hx hb dX4_init_121 (by decide) (fun hc => absurd hc (nI_ge (b := 6) hlt (by decide))) (fun hc => ?_)
    refine lv_aload_n hx hb dX4_init_124 rfl (lv_at hl 0 rfl) ?_
    refine gy_get C hH 0 (by decide) rfl fl_X4_41 rfl dX4_init_125 ?_
    refine lv_iload_n hx hb dX4_init_128 rfl (lv_at hl 1 rfl) ?_
    refine lv_bipush (v := (-9 : Int32)) hx hb dX4_init_129 (by decide) ?_
    refine gy_iast C hA hH hS 10 (by decide) rfl (nI_in hlt (by decide)) dX4_init_131 (fun H locs hH hS => ?_)
    refine lv_iinc (v := nI (i + 1)) (lv' := [(1, .int (nI (i + 1))), (0, .ref a)]) hx hb dX4_init_132 hl (k := 1) rfl (nI_1 i) (by decide) rfl (fun ls hl => ?_)
    refine lv_goto (tgt := 118) hx hb dX4_init_135 (by decide) ?_
    refine ih (i + 1) (by omega) _ _ ls (hH.as (fun k hk => ?_)) hS (lv_sub hl [1, 0] rfl)
    by_cases e : k = 10
    · subst e
      show Sum.inl (G.2.1 0, 6, Sum.inl (upd (ye_f i) (nI i).toNatClampNeg (-9))) = Sum.inl (G.2.1 0, 6, Sum.inl (ye_f (i + 1)))
      rw [ye_fs (by omega)]
    · rw [show va_up (ye_X4 G a i 0) 10 _ k = _ from if_neg e]
      simp only [ye_X4, if_neg e]
set_option maxHeartbeats 4000000 in
set_option maxRecDepth 100000 in
theorem t_X4_init (l : Launch) (G : gx_G) (a : Nat) : Met l yX4_init (Cond.code yX4_init cX4_init 2 none :: wT) rm_X4_init (va_Pc [.ref a] (gy_S G a 1 (fun _ => .inr (4, yb_X4)) (fun _ => True))) (gy_Q G a 13 (ye_X4 G a 6 4)) 12 278 (fun q => a ≤ q) := by
  refine Met.ofW (cc := cX4_init) (maxL := 2) (ret := none) (by decide) rfl ?_
  intro p e s m args below meth c s₁ B hml hv
  obtain ⟨rfl, hH, K, hX⟩ := hv
  have C := gy_C.of (G := G) B hml K
  have hx := C.1.1
  have hb := C.1.2.1
  have hr := B.returns
  have hlocks := B.notSynchronized
  have hin : meth.name = "<init>" := (name_of_methodNamed B.named B.method).1
  have hA : ∀ q, a ≤ q → (fun q => a ≤ q) q := fun _ h => h
  have hS : va_S (fun q => a ≤ q) s.heap s.heap [] := va_S.rf
  have hl := lv_entry ([.ref a]) (n := 2) (Nat.le_of_ble_eq_true rfl)
  rw [lg_entry_eq]
  generalize (lg_sl ([.ref a]) ++ List.replicate (2 - (lg_sl ([.ref a])).length) Slot.unset).toArray = ls at hl ⊢
  have hl : lv_has ls 2 [(0, .ref a)] := hl
  refine lv_aload_n hx hb dX4_init_0 rfl (lv_at hl 0 rfl) ?_
  refine W.objInit hx hb C.1.2.2.2.1 (C.1.2.2.2.2 _ kw_479) (C.1.2.2.2.2 _ kw_14) (C.1.2.2.2.2 _ kw_15) rfl (by rw [hml]; exact hl.1) rfl dX4_init_1 (Nat.le_of_ble_eq_true rfl) (Nat.le_of_ble_eq_true rfl) ?_
  refine W.eq (g2 := F0 m 4 ls []) rfl ?_
  refine lv_aload_n hx hb dX4_init_4 rfl (lv_at hl 0 rfl) ?_
  refine lv_iconst (v := (2 : Int32)) hx hb dX4_init_5 (by decide) ?_
  refine gy_newa (a0 := (2, .inl (fun _ => 0))) C hA hH hS (atype := .int) kw_68 rfl 0 rfl (fun h => h) rfl (by decide) (by decide) (Nat.le_of_ble_eq_true rfl) (Nat.le_of_ble_eq_true rfl) (Nat.le_of_ble_eq_true rfl) dX4_init_6 (fun H hH hS => ?_)
  refine gy_put C hA hH hS 0 (Nat.le_of_ble_eq_true rfl) rfl fl_X4_7 yw_X4_X4_2 (fun _ => hin) rfl rfl (Nat.le_of_ble_eq_true rfl) dX4_init_8 (fun H locs hH hS => ?_)
  refine lv_aload_n hx hb dX4_init_11 rfl (lv_at hl 0 rfl) ?_
  refine lv_iconst (v := (2 : Int32)) hx hb dX4_init_12 (by decide) ?_
  refine gy_newa (a0 := (2, .inl (fun _ => 0))) C hA hH hS (atype := .int) kw_68 rfl 0 rfl (fun h => h) rfl (by decide) (by decide) (Nat.le_of_ble_eq_true rfl) (Nat.le_of_ble_eq_true rfl) (Nat.le_of_ble_eq_true rfl) dX4_init_13 (fun H hH hS => ?_)
  refine gy_put C hA hH hS 0 (Nat.le_of_ble_eq_true rfl) rfl fl_X4_13 yw_X4_X4_3 (fun _ => hin) rfl rfl (Nat.le_of_ble_eq_true rfl) dX4_init_15 (fun H locs hH hS => ?_)
  refine lv_aload_n hx hb dX4_init_18 rfl (lv_at hl 0 rfl) ?_
  refine lv_bipush (v := (12 : Int32)) hx hb dX4_init_19 (by decide) ?_
  refine gy_newa (a0 := (12, .inl (fun _ => 0))) C hA hH hS (atype := .int) kw_68 rfl 0 rfl (fun h => h) rfl (by decide) (by decide) (Nat.le_of_ble_eq_true rfl) (Nat.le_of_ble_eq_true rfl) (Nat.le_of_ble_eq_true rfl) dX4_init_21 (fun H hH hS => ?_)
  refine gy_put C hA hH hS 0 (Nat.le_of_ble_eq_true rfl) rfl fl_X4_16 yw_X4_X4_5 (fun _ => hin) rfl rfl (Nat.le_of_ble_eq_true rfl) dX4_init_23 (fun H locs hH hS => ?_)
  refine lv_aload_n hx hb dX4_init_26 rfl (lv_at hl 0 rfl) ?_
  refine lv_bipush (v := (12 : Int32)) hx hb dX4_init_27 (by decide) ?_
  refine gy_newa (a0 := (12, .inl (fun _ => 0))) C hA hH hS (atype := .int) kw_68 rfl 0 rfl (fun h => h) rfl (by decide) (by decide) (Nat.le_of_ble_eq_true rfl) (Nat.le_of_ble_eq_true rfl) (Nat.le_of_ble_eq_true rfl) dX4_init_29 (fun H hH hS => ?_)
  refine gy_put C hA hH hS 0 (Nat.le_of_ble_eq_true rfl) rfl fl_X4_19 yw_X4_X4_6 (fun _ => hin) rfl rfl (Nat.le_of_ble_eq_true rfl) dX4_init_31 (fun H locs hH hS => ?_)
  refine lv_aload_n hx hb dX4_init_34 rfl (lv_at hl 0 rfl) ?_
  refine lv_bipush (v := (12 : Int32)) hx hb dX4_init_35 (by decide) ?_
  refine gy_newa (a0 := (12, .inl (fun _ => 0))) C hA hH hS (atype := .int) kw_68 rfl 0 rfl (fun h => h) rfl (by decide) (by decide) (Nat.le_of_ble_eq_true rfl) (Nat.le_of_ble_eq_true rfl) (Nat.le_of_ble_eq_true rfl) dX4_init_37 (fun H hH hS => ?_)
  refine gy_put C hA hH hS 0 (Nat.le_of_ble_eq_true rfl) rfl fl_X4_22 yw_X4_X4_7 (fun _ => hin) rfl rfl (Nat.le_of_ble_eq_true rfl) dX4_init_39 (fun H locs hH hS => ?_)
  refine lv_aload_n hx hb dX4_init_42 rfl (lv_at hl 0 rfl) ?_
  refine lv_bipush (v := (12 : Int32)) hx hb dX4_init_43 (by decide) ?_
  refine gy_newa (a0 := (12, .inl (fun _ => 0))) C hA hH hS (atype := .int) kw_68 rfl 0 rfl (fun h => h) rfl (by decide) (by decide) (Nat.le_of_ble_eq_true rfl) (Nat.le_of_ble_eq_true rfl) (Nat.le_of_ble_eq_true rfl) dX4_init_45 (fun H hH hS => ?_)
  refine gy_put C hA hH hS 0 (Nat.le_of_ble_eq_true rfl) rfl fl_X4_25 yw_X4_X4_8 (fun _ => hin) rfl rfl (Nat.le_of_ble_eq_true rfl) dX4_init_47 (fun H locs hH hS => ?_)
  refine lv_aload_n hx hb dX4_init_50 rfl (lv_at hl 0 rfl) ?_
  refine lv_bipush (v := (12 : Int32)) hx hb dX4_init_51 (by decide) ?_
  refine gy_newa (a0 := (12, .inl (fun _ => 0))) C hA hH hS (atype := .int) kw_68 rfl 0 rfl (fun h => h) rfl (by decide) (by decide) (Nat.le_of_ble_eq_true rfl) (Nat.le_of_ble_eq_true rfl) (Nat.le_of_ble_eq_true rfl) dX4_init_53 (fun H hH hS => ?_)
  refine gy_put C hA hH hS 0 (Nat.le_of_ble_eq_true rfl) rfl fl_X4_28 yw_X4_X4_9 (fun _ => hin) rfl rfl (Nat.le_of_ble_eq_true rfl) dX4_init_55 (fun H locs hH hS => ?_)
  refine lv_aload_n hx hb dX4_init_58 rfl (lv_at hl 0 rfl) ?_
  refine lv_sipush (v := (144 : Int32)) hx hb dX4_init_59 (by decide) ?_
  refine gy_newa (a0 := (144, .inl (fun _ => 0))) C hA hH hS (atype := .int) kw_68 rfl 0 rfl (fun h => h) rfl (by decide) (by decide) (Nat.le_of_ble_eq_true rfl) (Nat.le_of_ble_eq_true rfl) (Nat.le_of_ble_eq_true rfl) dX4_init_62 (fun H hH hS => ?_)
  refine gy_put C hA hH hS 0 (Nat.le_of_ble_eq_true rfl) rfl fl_X4_31 yw_X4_X4_10 (fun _ => hin) rfl rfl (Nat.le_of_ble_eq_true rfl) dX4_init_64 (fun H locs hH hS => ?_)
  refine lv_aload_n hx hb dX4_init_67 rfl (lv_at hl 0 rfl) ?_
  refine lv_bipush (v := (12 : Int32)) hx hb dX4_init_68 (by decide) ?_
  refine gy_newa (a0 := (12, .inl (fun _ => 0))) C hA hH hS (atype := .int) kw_68 rfl 0 rfl (fun h => h) rfl (by decide) (by decide) (Nat.le_of_ble_eq_true rfl) (Nat.le_of_ble_eq_true rfl) (Nat.le_of_ble_eq_true rfl) dX4_init_70 (fun H hH hS => ?_)
  refine gy_put C hA hH hS 0 (Nat.le_of_ble_eq_true rfl) rfl fl_X4_34 yw_X4_X4_11 (fun _ => hin) rfl rfl (Nat.le_of_ble_eq_true rfl) dX4_init_72 (fun H locs hH hS => ?_)
  refine lv_aload_n hx hb dX4_init_75 rfl (lv_at hl 0 rfl) ?_
  refine lv_iconst (v := (4 : Int32)) hx hb dX4_init_76 (by decide) ?_
  refine gy_put C hA hH hS 0 (Nat.le_of_ble_eq_true rfl) rfl fl_X4_37 yw_X4_X4_12 (fun h => absurd h (by decide)) rfl rfl (Nat.le_of_ble_eq_true rfl) dX4_init_77 (fun H locs hH hS => ?_)
  refine lv_aload_n hx hb dX4_init_80 rfl (lv_at hl 0 rfl) ?_
  refine lv_bipush (v := (6 : Int32)) hx hb dX4_init_81 (by decide) ?_
  refine gy_newa (a0 := (6, .inl (fun _ => 0))) C hA hH hS (atype := .int) kw_68 rfl 0 rfl (fun h => h) rfl (by decide) (by decide) (Nat.le_of_ble_eq_true rfl) (Nat.le_of_ble_eq_true rfl) (Nat.le_of_ble_eq_true rfl) dX4_init_83 (fun H hH hS => ?_)
  refine gy_put C hA hH hS 0 (Nat.le_of_ble_eq_true rfl) rfl fl_X4_41 yw_X4_X4_13 (fun _ => hin) rfl rfl (Nat.le_of_ble_eq_true rfl) dX4_init_85 (fun H locs hH hS => ?_)
  refine lv_aload_n hx hb dX4_init_88 rfl (lv_at hl 0 rfl) ?_
  refine lv_iconst (v := (4 : Int32)) hx hb dX4_init_89 (by decide) ?_
  refine gy_newa (a0 := (4, .inl (fun _ => 0))) C hA hH hS (atype := .int) kw_68 rfl 0 rfl (fun h => h) rfl (by decide) (by decide) (Nat.le_of_ble_eq_true rfl) (Nat.le_of_ble_eq_true rfl) (Nat.le_of_ble_eq_true rfl) dX4_init_90 (fun H hH hS => ?_)
  refine gy_put C hA hH hS 0 (Nat.le_of_ble_eq_true rfl) rfl fl_X4_44 yw_X4_X4_14 (fun _ => hin) rfl rfl (Nat.le_of_ble_eq_true rfl) dX4_init_92 (fun H locs hH hS => ?_)
  refine lv_aload_n hx hb dX4_init_95 rfl (lv_at hl 0 rfl) ?_
  refine lv_bipush (v := (48 : Int32)) hx hb dX4_init_96 (by decide) ?_
  refine gy_newa (a0 := (48, .inl (fun _ => 0))) C hA hH hS (atype := .int) kw_68 rfl 0 rfl (fun h => h) rfl (by decide) (by decide) (Nat.le_of_ble_eq_true rfl) (Nat.le_of_ble_eq_true rfl) (Nat.le_of_ble_eq_true rfl) dX4_init_98 (fun H hH hS => ?_)
  refine gy_put C hA hH hS 0 (Nat.le_of_ble_eq_true rfl) rfl fl_X4_47 yw_X4_X4_15 (fun _ => hin) rfl rfl (Nat.le_of_ble_eq_true rfl) dX4_init_100 (fun H locs hH hS => ?_)
  refine lv_aload_n hx hb dX4_init_103 rfl (lv_at hl 0 rfl) ?_
  refine lv_bipush (v := (100 : Int32)) hx hb dX4_init_104 (by decide) ?_
  refine gy_put C hA hH hS 0 (Nat.le_of_ble_eq_true rfl) rfl fl_X4_50 yw_X4_X4_19 (fun h => absurd h (by decide)) rfl rfl (Nat.le_of_ble_eq_true rfl) dX4_init_106 (fun H locs hH hS => ?_)
  refine lv_aload_n hx hb dX4_init_109 rfl (lv_at hl 0 rfl) ?_
  refine lv_sipush (v := (250 : Int32)) hx hb dX4_init_110 (by decide) ?_
  refine gy_put C hA hH hS 0 (Nat.le_of_ble_eq_true rfl) rfl fl_X4_53 yw_X4_X4_20 (fun h => absurd h (by decide)) rfl rfl (Nat.le_of_ble_eq_true rfl) dX4_init_113 (fun H locs hH hS => ?_)
  refine lv_iconst (v := (0 : Int32)) hx hb dX4_init_116 (by decide) ?_
  refine lv_istore_n (lv' := [(1, .int (0 : Int32)), (0, .ref a)]) hx hb dX4_init_117 rfl hl (by decide) rfl (fun ls hl => ?_)
  exact yl_X4_118 (l := l) G a C hr hlocks 6 0 rfl _ _ ls (hH.as (fun k hk => by rcases (show k = 0 ∨ k = 1 ∨ k = 2 ∨ k = 3 ∨ k = 4 ∨ k = 5 ∨ k = 6 ∨ k = 7 ∨ k = 8 ∨ k = 9 ∨ k = 10 ∨ k = 11 ∨ k = 12 by omega) with rfl | rfl | rfl | rfl | rfl | rfl | rfl | rfl | rfl | rfl | rfl | rfl | rfl <;> rfl)) hS (lv_sub hl [1, 0] rfl)
