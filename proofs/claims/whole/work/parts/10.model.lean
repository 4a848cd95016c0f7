abbrev rm_X4_within : Room := { frames := 0, cells := 0, slots := 0, locals := 0 }
def f_X4_within (a0 a1 a2 : Int32) : Option Int32 :=
  if a0 < a1 then (some (0 : Int32)) else (if a2 < a0 then (some (0 : Int32)) else (some (1 : Int32)))
set_option maxHeartbeats 4000000 in
set_option maxRecDepth 100000 in
theorem t_X4_within (l : Launch) (G : gx_G) (σ : gx_St) (a0 a1 a2 : Int32) (r : Int32)  (hf : f_X4_within a0 a1 a2 = some r) : Met l yX4_within (Cond.code yX4_within cX4_within 3 (some .boolean) :: wT) rm_X4_within (va_Pc [.int a0, .int a1, .int a2] (gx_S G 13 (gm_mk G) σ)) (gx_QR (some (.int r))) 0 0 (fun _ => False) := by
  refine Met.ofW (cc := cX4_within) (maxL := 3) (ret := (some .boolean)) (by decide) rfl ?_
  intro p e s m args below meth c s₁ B hml hv
  obtain ⟨rfl, hH, hE⟩ := hv
  have C := gx_C.of (G := G) B hml hE
  have hx := C.1.1
  have hb := C.1.2.1
  have hr := B.returns
  have hlocks := B.notSynchronized
  have hS : va_S (gx_A G) s.heap s.heap [] := va_S.rf
  have hl := lv_entry ([.int a0, .int a1, .int a2]) (n := 3) (Nat.le_of_ble_eq_true rfl)
  rw [lg_entry_eq]
  generalize (lg_sl ([.int a0, .int a1, .int a2]) ++ List.replicate (3 - (lg_sl ([.int a0, .int a1, .int a2])).length) Slot.unset).toArray = ls at hl ⊢
  have hl : lv_has ls 3 [(0, .int a0), (1, .int a1), (2, .int a2)] := hl
  unfold f_X4_within at hf
  refine lv_iload_n hx hb dX4_within_0 rfl (lv_at hl 0 rfl) ?_
  refine lv_iload_n hx hb dX4_within_1 rfl (lv_at hl 1 rfl) ?_
  refine lv_icmp_lt (tgt := 14) hx hb dX4_within_2 (by decide) (fun hc1 => ?_) (fun hc1 => ?_)
  · have hf := gx_pos hc1 hf
    refine lv_iconst (v := (0 : Int32)) hx hb dX4_within_14 (by decide) ?_
    obtain rfl := Option.some.inj hf
    exact gx_zretR C hr hlocks (by decide) dX4_within_15
  · have hf := gx_neg hc1 hf
    refine lv_iload_n hx hb dX4_within_5 rfl (lv_at hl 0 rfl) ?_
    refine lv_iload_n hx hb dX4_within_6 rfl (lv_at hl 2 rfl) ?_
    refine lv_icmp_gt (tgt := 14) hx hb dX4_within_7 (by decide) (fun hc2 => ?_) (fun hc2 => ?_)
    · have hf := gx_pos hc2 hf
      refine lv_iconst (v := (0 : Int32)) hx hb dX4_within_14 (by decide) ?_
      obtain rfl := Option.some.inj hf
      exact gx_zretR C hr hlocks (by decide) dX4_within_15
    · have hf := gx_neg hc2 hf
      refine lv_iconst (v := (1 : Int32)) hx hb dX4_within_10 (by decide) ?_
      refine lv_goto (tgt := 15) hx hb dX4_within_11 (by decide) ?_
      obtain rfl := Option.some.inj hf
      exact gx_zretR C hr hlocks (by decide) dX4_within_15
abbrev rm_X4_size : Room := { frames := 0, cells := 0, slots := 0, locals := 0 }
def f_X4_size (a0 : Int32) : Option Int32 :=
  if 0 ≤ a0 then (some a0) else (some (-a0))
set_option maxHeartbeats 4000000 in
set_option maxRecDepth 100000 in
theorem t_X4_size (l : Launch) (G : gx_G) (σ : gx_St) (a0 : Int32) (r : Int32)  (hf : f_X4_size a0 = some r) : Met l yX4_size (Cond.code yX4_size cX4_size 1 (some .int) :: wT) rm_X4_size (va_Pc [.int a0] (gx_S G 13 (gm_mk G) σ)) (gx_QR (some (.int r))) 0 0 (fun _ => False) := by
  refine Met.ofW (cc := cX4_size) (maxL := 1) (ret := (some .int)) (by decide) rfl ?_
  intro p e s m args below meth c s₁ B hml hv
  obtain ⟨rfl, hH, hE⟩ := hv
  have C := gx_C.of (G := G) B hml hE
  have hx := C.1.1
  have hb := C.1.2.1
  have hr := B.returns
  have hlocks := B.notSynchronized
  have hS : va_S (gx_A G) s.heap s.heap [] := va_S.rf
  have hl := lv_entry ([.int a0]) (n := 1) (Nat.le_of_ble_eq_true rfl)
  rw [lg_entry_eq]
  generalize (lg_sl ([.int a0]) ++ List.replicate (1 - (lg_sl ([.int a0])).length) Slot.unset).toArray = ls at hl ⊢
  have hl : lv_has ls 1 [(0, .int a0)] := hl
  unfold f_X4_size at hf
  refine lv_iload_n hx hb dX4_size_0 rfl (lv_at hl 0 rfl) ?_
  refine lv_if_ge (tgt := 9) hx hb dX4_size_1 (by decide) (fun hc1 => ?_) (fun hc1 => ?_)
  · have hf := gx_pos hc1 hf
    refine lv_iload_n hx hb dX4_size_9 rfl (lv_at hl 0 rfl) ?_
    obtain rfl := Option.some.inj hf
    exact gx_iretR C hr hlocks dX4_size_10
  · have hf := gx_neg hc1 hf
    refine lv_iload_n hx hb dX4_size_4 rfl (lv_at hl 0 rfl) ?_
    refine lv_ineg hx hb dX4_size_5 ?_
    refine lv_goto (tgt := 10) hx hb dX4_size_6 (by decide) ?_
    obtain rfl := Option.some.inj hf
    exact gx_iretR C hr hlocks dX4_size_10
abbrev rm_X4_held : Room := { frames := 0, cells := 0, slots := 0, locals := 0 }
def f_X4_held (a0 a1 : Int32) : Option Int32 :=
  if a0 ≤ a1 then (if (-a1) ≤ a0 then (some a0) else (some (-a1))) else (some a1)
set_option maxHeartbeats 4000000 in
set_option maxRecDepth 100000 in
theorem t_X4_held (l : Launch) (G : gx_G) (σ : gx_St) (a0 a1 : Int32) (r : Int32)  (hf : f_X4_held a0 a1 = some r) : Met l yX4_held (Cond.code yX4_held cX4_held 2 (some .int) :: wT) rm_X4_held (va_Pc [.int a0, .int a1] (gx_S G 13 (gm_mk G) σ)) (gx_QR (some (.int r))) 0 0 (fun _ => False) := by
  refine Met.ofW (cc := cX4_held) (maxL := 2) (ret := (some .int)) (by decide) rfl ?_
  intro p e s m args below meth c s₁ B hml hv
  obtain ⟨rfl, hH, hE⟩ := hv
  have C := gx_C.of (G := G) B hml hE
  have hx := C.1.1
  have hb := C.1.2.1
  have hr := B.returns
  have hlocks := B.notSynchronized
  have hS : va_S (gx_A G) s.heap s.heap [] := va_S.rf
  have hl := lv_entry ([.int a0, .int a1]) (n := 2) (Nat.le_of_ble_eq_true rfl)
  rw [lg_entry_eq]
  generalize (lg_sl ([.int a0, .int a1]) ++ List.replicate (2 - (lg_sl ([.int a0, .int a1])).length) Slot.unset).toArray = ls at hl ⊢
  have hl : lv_has ls 2 [(0, .int a0), (1, .int a1)] := hl
  unfold f_X4_held at hf
  refine lv_iload_n hx hb dX4_held_0 rfl (lv_at hl 0 rfl) ?_
  refine lv_iload_n hx hb dX4_held_1 rfl (lv_at hl 1 rfl) ?_
  refine lv_icmp_le (tgt := 9) hx hb dX4_held_2 (by decide) (fun hc1 => ?_) (fun hc1 => ?_)
  · have hf := gx_pos hc1 hf
    refine lv_iload_n hx hb dX4_held_9 rfl (lv_at hl 0 rfl) ?_
    refine lv_iload_n hx hb dX4_held_10 rfl (lv_at hl 1 rfl) ?_
    refine lv_ineg hx hb dX4_held_11 ?_
    refine lv_icmp_ge (tgt := 20) hx hb dX4_held_12 (by decide) (fun hc2 => ?_) (fun hc2 => ?_)
    · have hf := gx_pos hc2 hf
      refine lv_iload_n hx hb dX4_held_20 rfl (lv_at hl 0 rfl) ?_
      obtain rfl := Option.some.inj hf
      exact gx_iretR C hr hlocks dX4_held_21
    · have hf := gx_neg hc2 hf
      refine lv_iload_n hx hb dX4_held_15 rfl (lv_at hl 1 rfl) ?_
      refine lv_ineg hx hb dX4_held_16 ?_
      refine lv_goto (tgt := 21) hx hb dX4_held_17 (by decide) ?_
      obtain rfl := Option.some.inj hf
      exact gx_iretR C hr hlocks dX4_held_21
  · have hf := gx_neg hc1 hf
    refine lv_iload_n hx hb dX4_held_5 rfl (lv_at hl 1 rfl) ?_
    refine lv_goto (tgt := 21) hx hb dX4_held_6 (by decide) ?_
    obtain rfl := Option.some.inj hf
    exact gx_iretR C hr hlocks dX4_held_21
abbrev rm_X4_isEffect : Room := { frames := 1, cells := 0, slots := 0, locals := 22 }
def f_X4_isEffect (σ : gx_St) (a1 : Int32) : Option Int32 :=
  (f_X4_within a1 (0 : Int32) ((σ 0 4) - (1 : Int32))).bind fun r1 =>
  if ¬ (r1 = 0 ∨ r1 = 1) then none else
  some r1
set_option maxHeartbeats 4000000 in
set_option maxRecDepth 100000 in
theorem t_X4_isEffect (l : Launch) (G : gx_G) (σ : gx_St) (a1 : Int32) (r : Int32)  (hf : f_X4_isEffect σ a1 = some r) : Met l yX4_isEffect (Cond.code yX4_isEffect cX4_isEffect 2 (some .boolean) :: wT) rm_X4_isEffect (va_Pc [.ref (gx_q G 0), .int a1] (gx_S G 13 (gm_mk G) σ)) (gx_QR (some (.int r))) 0 0 (fun _ => False) := by
  refine Met.ofW (cc := cX4_isEffect) (maxL := 2) (ret := (some .boolean)) (by decide) rfl ?_
  intro p e s m args below meth c s₁ B hml hv
  obtain ⟨rfl, hH, hE⟩ := hv
  have C := gx_C.of (G := G) B hml hE
  have hx := C.1.1
  have hb := C.1.2.1
  have hr := B.returns
  have hlocks := B.notSynchronized
  have hS : va_S (gx_A G) s.heap s.heap [] := va_S.rf
  have hl := lv_entry ([.ref (gx_q G 0), .int a1]) (n := 2) (Nat.le_of_ble_eq_true rfl)
  rw [lg_entry_eq]
  generalize (lg_sl ([.ref (gx_q G 0), .int a1]) ++ List.replicate (2 - (lg_sl ([.ref (gx_q G 0), .int a1])).length) Slot.unset).toArray = ls at hl ⊢
  have hl : lv_has ls 2 [(0, .ref (gx_q G 0)), (1, .int a1)] := hl
  unfold f_X4_isEffect at hf
  refine lv_iload_n hx hb dX4_isEffect_0 rfl (lv_at hl 1 rfl) ?_
  refine lv_iconst (v := (0 : Int32)) hx hb dX4_isEffect_1 (by decide) ?_
  refine lv_aload_n hx hb dX4_isEffect_2 rfl (lv_at hl 0 rfl) ?_
  refine gx_get C hH 0 (by decide) rfl fl_X4_56 rfl dX4_isEffect_3 ?_
  refine lv_iconst (v := (1 : Int32)) hx hb dX4_isEffect_6 (by decide) ?_
  refine lv_isub hx hb dX4_isEffect_7 ?_
  obtain ⟨r1, hr1, hf⟩ := gx_bnd hf
  refine gx_sR (v := (some (.int r1))) (rest := []) C hH hS [.int a1, .int (0 : Int32), .int ((σ 0 4) - (1 : Int32))] (t_X4_within l G σ a1 (0 : Int32) ((σ 0 4) - (1 : Int32)) r1  hr1) lk_X4_59 ⟨rfl, rfl, Nat.le_of_ble_eq_true rfl, Nat.le_of_ble_eq_true rfl⟩ ⟨Nat.zero_le _, Nat.zero_le _⟩ hl.1 rfl (Nat.le_of_ble_eq_true rfl) dX4_isEffect_8 ?_
  refine gx_e0 (st := [.int r1]) ?_ rfl
  obtain ⟨hz2, hf⟩ := gx_chk hf
  obtain rfl := Option.some.inj hf
  exact gx_zretR C hr hlocks (Decidable.of_not_not hz2) dX4_isEffect_11
abbrev rm_X4_isAxis : Room := { frames := 1, cells := 0, slots := 0, locals := 22 }
def f_X4_isAxis (a0 : Int32) : Option Int32 :=
  (f_X4_within a0 (0 : Int32) (1 : Int32)).bind fun r1 =>
  if ¬ (r1 = 0 ∨ r1 = 1) then none else
  some r1
set_option maxHeartbeats 4000000 in
set_option maxRecDepth 100000 in
theorem t_X4_isAxis (l : Launch) (G : gx_G) (σ : gx_St) (a0 : Int32) (r : Int32)  (hf : f_X4_isAxis a0 = some r) : Met l yX4_isAxis (Cond.code yX4_isAxis cX4_isAxis 1 (some .boolean) :: wT) rm_X4_isAxis (va_Pc [.int a0] (gx_S G 13 (gm_mk G) σ)) (gx_QR (some (.int r))) 0 0 (fun _ => False) := by
  refine Met.ofW (cc := cX4_isAxis) (maxL := 1) (ret := (some .boolean)) (by decide) rfl ?_
  intro p e s m args below meth c s₁ B hml hv
  obtain ⟨rfl, hH, hE⟩ := hv
  have C := gx_C.of (G := G) B hml hE
  have hx := C.1.1
  have hb := C.1.2.1
  have hr := B.returns
  have hlocks := B.notSynchronized
  have hS : va_S (gx_A G) s.heap s.heap [] := va_S.rf
  have hl := lv_entry ([.int a0]) (n := 1) (Nat.le_of_ble_eq_true rfl)
  rw [lg_entry_eq]
  generalize (lg_sl ([.int a0]) ++ List.replicate (1 - (lg_sl ([.int a0])).length) Slot.unset).toArray = ls at hl ⊢
  have hl : lv_has ls 1 [(0, .int a0)] := hl
  unfold f_X4_isAxis at hf
  refine lv_iload_n hx hb dX4_isAxis_0 rfl (lv_at hl 0 rfl) ?_
  refine lv_iconst (v := (0 : Int32)) hx hb dX4_isAxis_1 (by decide) ?_
  refine lv_iconst (v := (1 : Int32)) hx hb dX4_isAxis_2 (by decide) ?_
  obtain ⟨r1, hr1, hf⟩ := gx_bnd hf
  refine gx_sR (v := (some (.int r1))) (rest := []) C hH hS [.int a0, .int (0 : Int32), .int (1 : Int32)] (t_X4_within l G σ a0 (0 : Int32) (1 : Int32) r1  hr1) lk_X4_59 ⟨rfl, rfl, Nat.le_of_ble_eq_true rfl, Nat.le_of_ble_eq_true rfl⟩ ⟨Nat.zero_le _, Nat.zero_le _⟩ hl.1 rfl (Nat.le_of_ble_eq_true rfl) dX4_isAxis_3 ?_
  refine gx_e0 (st := [.int r1]) ?_ rfl
  obtain ⟨hz2, hf⟩ := gx_chk hf
  obtain rfl := Option.some.inj hf
  exact gx_zretR C hr hlocks (Decidable.of_not_not hz2) dX4_isAxis_6
abbrev rm_X4_numberOf : Room := { frames := 0, cells := 0, slots := 0, locals := 0 }
def f_X4_numberOf (σ : gx_St) (a1 a2 : Int32) : Option Int32 :=
  if ((((12 : Int32) * a1) + a2) < 0 ∨ 144 ≤ (((12 : Int32) * a1) + a2).toNatClampNeg) then none else
  some (σ (8) (((12 : Int32) * a1) + a2).toNatClampNeg)
set_option maxHeartbeats 4000000 in
set_option maxRecDepth 100000 in
theorem t_X4_numberOf (l : Launch) (G : gx_G) (σ : gx_St) (a1 a2 : Int32) (r : Int32)  (hf : f_X4_numberOf σ a1 a2 = some r) : Met l yX4_numberOf (Cond.code yX4_numberOf cX4_numberOf 3 (some .int) :: wT) rm_X4_numberOf (va_Pc [.ref (gx_q G 0), .int a1, .int a2] (gx_S G 13 (gm_mk G) σ)) (gx_QR (some (.int r))) 0 0 (fun _ => False) := by
  refine Met.ofW (cc := cX4_numberOf) (maxL := 3) (ret := (some .int)) (by decide) rfl ?_
  intro p e s m args below meth c s₁ B hml hv
  obtain ⟨rfl, hH, hE⟩ := hv
  have C := gx_C.of (G := G) B hml hE
  have hx := C.1.1
  have hb := C.1.2.1
  have hr := B.returns
  have hlocks := B.notSynchronized
  have hS : va_S (gx_A G) s.heap s.heap [] := va_S.rf
  have hl := lv_entry ([.ref (gx_q G 0), .int a1, .int a2]) (n := 3) (Nat.le_of_ble_eq_true rfl)
  rw [lg_entry_eq]
  generalize (lg_sl ([.ref (gx_q G 0), .int a1, .int a2]) ++ List.replicate (3 - (lg_sl ([.ref (gx_q G 0), .int a1, .int a2])).length) Slot.unset).toArray = ls at hl ⊢
  have hl : lv_has ls 3 [(0, .ref (gx_q G 0)), (1, .int a1), (2, .int a2)] := hl
  unfold f_X4_numberOf at hf
  refine lv_aload_n hx hb dX4_numberOf_0 rfl (lv_at hl 0 rfl) ?_
  refine gx_get C hH 0 (by decide) rfl fl_X4_31 rfl dX4_numberOf_1 ?_
  refine lv_bipush (v := (12 : Int32)) hx hb dX4_numberOf_4 (by decide) ?_
  refine lv_iload_n hx hb dX4_numberOf_6 rfl (lv_at hl 1 rfl) ?_
  refine lv_imul hx hb dX4_numberOf_7 ?_
  refine lv_iload_n hx hb dX4_numberOf_8 rfl (lv_at hl 2 rfl) ?_
  refine lv_iadd hx hb dX4_numberOf_9 ?_
  obtain ⟨hb1, hf⟩ := gx_chk hf
  refine gx_iald C hH (8) (by decide) rfl hb1 dX4_numberOf_10 ?_
  obtain rfl := Option.some.inj hf
  exact gx_iretR C hr hlocks dX4_numberOf_11
abbrev rm_X4_mayBe : Room := { frames := 1, cells := 0, slots := 0, locals := 22 }
def f_X4_mayBe (a0 a1 a2 a3 a4 : Int32) : Option Int32 :=
  (f_X4_within a2 (-1000 : Int32) (1000 : Int32)).bind fun r1 =>
  if a0 = (0 : Int32) then ((f_X4_within a1 (-1000 : Int32) (1000 : Int32)).bind fun r3 =>
  if r3 = 0 then (some (0 : Int32)) else (if a2 = 0 then (if a3 = 0 then (if a4 = 0 then (some (1 : Int32)) else (some (0 : Int32))) else (some (0 : Int32))) else (some (0 : Int32)))) else if a0 = (1 : Int32) then ((f_X4_within a1 (0 : Int32) (1000 : Int32)).bind fun r9 =>
  if r9 = 0 then (some (0 : Int32)) else (if r1 = 0 then (some (0 : Int32)) else ((f_X4_within a3 (2 : Int32) (2000 : Int32)).bind fun r12 =>
  if r12 = 0 then (some (0 : Int32)) else ((f_X4_within a4 (0 : Int32) (a3 - (1 : Int32))).bind fun r14 =>
  if r14 = 0 then (some (0 : Int32)) else (some (1 : Int32)))))) else if a0 = (2 : Int32) then ((f_X4_within a1 (0 : Int32) (1000 : Int32)).bind fun r17 =>
  if r17 = 0 then (some (0 : Int32)) else (if r1 = 0 then (some (0 : Int32)) else ((f_X4_within a3 (2 : Int32) (2000 : Int32)).bind fun r20 =>
  if r20 = 0 then (some (0 : Int32)) else ((f_X4_within a4 (0 : Int32) (a3 - (1 : Int32))).bind fun r22 =>
  if r22 = 0 then (some (0 : Int32)) else (some (1 : Int32)))))) else if a0 = (3 : Int32) then ((f_X4_within a1 (-1000 : Int32) (1000 : Int32)).bind fun r25 =>
  if r25 = 0 then (some (0 : Int32)) else (if r1 = 0 then (some (0 : Int32)) else (if a3 = 0 then (if a4 = 0 then (some (1 : Int32)) else (some (0 : Int32))) else (some (0 : Int32))))) else if a0 = (4 : Int32) then ((f_X4_within a1 (-100 : Int32) (100 : Int32)).bind fun r31 =>
  if r31 = 0 then (some (0 : Int32)) else (if r1 = 0 then (some (0 : Int32)) else ((f_X4_within a3 (0 : Int32) (1000 : Int32)).bind fun r34 =>
  if r34 = 0 then (some (0 : Int32)) else ((f_X4_within a4 (0 : Int32) (1000 : Int32)).bind fun r36 =>
  if r36 = 0 then (some (0 : Int32)) else (some (1 : Int32)))))) else if a0 = (5 : Int32) then ((f_X4_within a1 (-100 : Int32) (100 : Int32)).bind fun r39 =>
  if r39 = 0 then (some (0 : Int32)) else (if a2 = 0 then ((f_X4_within a3 (0 : Int32) (9999 : Int32)).bind fun r42 =>
  if r42 = 0 then (some (0 : Int32)) else ((f_X4_within a4 (0 : Int32) (1000 : Int32)).bind fun r44 =>
  if r44 = 0 then (some (0 : Int32)) else (some (1 : Int32)))) else (some (0 : Int32)))) else if a0 = (6 : Int32) then ((f_X4_within a1 (1 : Int32) (1000 : Int32)).bind fun r47 =>
  if r47 = 0 then (some (0 : Int32)) else (if r1 = 0 then (some (0 : Int32)) else ((f_X4_within a3 (0 : Int32) (1 : Int32)).bind fun r50 =>
  if r50 = 0 then (some (0 : Int32)) else ((f_X4_within a4 (0 : Int32) (1000 : Int32)).bind fun r52 =>
  if r52 = 0 then (some (0 : Int32)) else (some (1 : Int32)))))) else (some (0 : Int32))
set_option maxHeartbeats 4000000 in
set_option maxRecDepth 100000 in
theorem t_X4_mayBe (l : Launch) (G : gx_G) (σ : gx_St) (a0 a1 a2 a3 a4 : Int32) (r : Int32)  (hf : f_X4_mayBe a0 a1 a2 a3 a4 = some r) : Met l yX4_mayBe (Cond.code yX4_mayBe cX4_mayBe 6 (some .boolean) :: wT) rm_X4_mayBe (va_Pc [.int a0, .int a1, .int a2, .int a3, .int a4] (gx_S G 13 (gm_mk G) σ)) (gx_QR (some (.int r))) 0 0 (fun _ => False) := by
  refine Met.ofW (cc := cX4_mayBe) (maxL := 6) (ret := (some .boolean)) (by decide) rfl ?_
  intro p e s m args below meth c s₁ B hml hv
  obtain ⟨rfl, hH, hE⟩ := hv
  have C := gx_C.of (G := G) B hml hE
  have hx := C.1.1
  have hb := C.1.2.1
  have hr := B.returns
  have hlocks := B.notSynchronized
  have hS : va_S (gx_A G) s.heap s.heap [] := va_S.rf
  have hl := lv_entry ([.int a0, .int a1, .int a2, .int a3, .int a4]) (n := 6) (Nat.le_of_ble_eq_true rfl)
  rw [lg_entry_eq]
  generalize (lg_sl ([.int a0, .int a1, .int a2, .int a3, .int a4]) ++ List.replicate (6 - (lg_sl ([.int a0, .int a1, .int a2, .int a3, .int a4])).length) Slot.unset).toArray = ls at hl ⊢
  have hl : lv_has ls 6 [(0, .int a0), (1, .int a1), (2, .int a2), (3, .int a3), (4, .int a4)] := hl
  unfold f_X4_mayBe at hf
  refine lv_iload_n hx hb dX4_mayBe_0 rfl (lv_at hl 2 rfl) ?_
  refine lv_sipush (v := (-1000 : Int32)) hx hb dX4_mayBe_1 (by decide) ?_
  refine lv_sipush (v := (1000 : Int32)) hx hb dX4_mayBe_4 (by decide) ?_
  obtain ⟨r1, hr1, hf⟩ := gx_bnd hf
  refine gx_sR (v := (some (.int r1))) (rest := []) C hH hS [.int a2, .int (-1000 : Int32), .int (1000 : Int32)] (t_X4_within l G σ a2 (-1000 : Int32) (1000 : Int32) r1  hr1) lk_X4_59 ⟨rfl, rfl, Nat.le_of_ble_eq_true rfl, Nat.le_of_ble_eq_true rfl⟩ ⟨Nat.zero_le _, Nat.zero_le _⟩ hl.1 rfl (Nat.le_of_ble_eq_true rfl) dX4_mayBe_7 ?_
  refine gx_e0 (st := [.int r1]) ?_ rfl
  refine lv_istore (lv' := [(5, .int r1), (0, .int a0), (1, .int a1), (2, .int a2), (3, .int a3), (4, .int a4)]) hx hb dX4_mayBe_10 hl (by decide) rfl (fun ls hl => ?_)
  refine lv_iload_n hx hb dX4_mayBe_12 rfl (lv_at hl 1 rfl) ?_
  by_cases hc2 : a0 = (0 : Int32)
  · have hf := gx_pos hc2 hf
    refine lv_tableIn (tgt := 56) hx hb dX4_mayBe_13 (by rw [hc2]; decide) (by rw [hc2]; decide) (by rw [hc2]; rfl) (by decide) ?_
    refine lv_iload_n hx hb dX4_mayBe_56 rfl (lv_at hl 2 rfl) ?_
    refine lv_sipush (v := (-1000 : Int32)) hx hb dX4_mayBe_57 (by decide) ?_
    refine lv_sipush (v := (1000 : Int32)) hx hb dX4_mayBe_60 (by decide) ?_
    obtain ⟨r3, hr3, hf⟩ := gx_bnd hf
    refine gx_sR (v := (some (.int r3))) (rest := []) C hH hS [.int a1, .int (-1000 : Int32), .int (1000 : Int32)] (t_X4_within l G σ a1 (-1000 : Int32) (1000 : Int32) r3  hr3) lk_X4_59 ⟨rfl, rfl, Nat.le_of_ble_eq_true rfl, Nat.le_of_ble_eq_true rfl⟩ ⟨Nat.zero_le _, Nat.zero_le _⟩ hl.1 rfl (Nat.le_of_ble_eq_true rfl) dX4_mayBe_63 ?_
    refine gx_e0 (st := [.int r3]) ?_ rfl
    refine lv_if_eq (tgt := 86) hx hb dX4_mayBe_66 (by decide) (fun hc4 => ?_) (fun hc4 => ?_)
    · have hf := gx_pos hc4 hf
      refine lv_iconst (v := (0 : Int32)) hx hb dX4_mayBe_86 (by decide) ?_
      obtain rfl := Option.some.inj hf
      exact gx_zretR C hr hlocks (by decide) dX4_mayBe_87
    · have hf := gx_neg hc4 hf
      refine lv_iload_n hx hb dX4_mayBe_69 rfl (lv_at hl 3 rfl) ?_
      refine lv_if_ne (tgt := 86) hx hb dX4_mayBe_70 (by decide) (fun hc5 => ?_) (fun hc5 => ?_)
      · have hf := gx_neg hc5 hf
        refine lv_iconst (v := (0 : Int32)) hx hb dX4_mayBe_86 (by decide) ?_
        obtain rfl := Option.some.inj hf
        exact gx_zretR C hr hlocks (by decide) dX4_mayBe_87
      · have hf := gx_pos hc5 hf
        refine lv_iload_n hx hb dX4_mayBe_73 rfl (lv_at hl 4 rfl) ?_
        refine lv_if_ne (tgt := 86) hx hb dX4_mayBe_74 (by decide) (fun hc6 => ?_) (fun hc6 => ?_)
        · have hf := gx_neg hc6 hf
          refine lv_iconst (v := (0 : Int32)) hx hb dX4_mayBe_86 (by decide) ?_
          obtain rfl := Option.some.inj hf
          exact gx_zretR C hr hlocks (by decide) dX4_mayBe_87
        · have hf := gx_pos hc6 hf
          refine lv_iload hx hb dX4_mayBe_77 (lv_at hl 5 rfl) ?_
          refine lv_if_ne (tgt := 86) hx hb dX4_mayBe_79 (by decide) (fun hc7 => ?_) (fun hc7 => ?_)
          · have hf := gx_neg hc7 hf
            refine lv_iconst (v := (0 : Int32)) hx hb dX4_mayBe_86 (by decide) ?_
            obtain rfl := Option.some.inj hf
            exact gx_zretR C hr hlocks (by decide) dX4_mayBe_87
          · have hf := gx_pos hc7 hf
            refine lv_iconst (v := (1 : Int32)) hx hb dX4_mayBe_82 (by decide) ?_
            refine lv_goto (tgt := 87) hx hb dX4_mayBe_83 (by decide) ?_
            obtain rfl := Option.some.inj hf
            exact gx_zretR C hr hlocks (by decide) dX4_mayBe_87
  · have hf := gx_neg hc2 hf
    by_cases hc8 : a0 = (1 : Int32)
    · have hf := gx_pos hc8 hf
      refine lv_tableIn (tgt := 88) hx hb dX4_mayBe_13 (by rw [hc8]; decide) (by rw [hc8]; decide) (by rw [hc8]; rfl) (by decide) ?_
      refine lv_iload_n hx hb dX4_mayBe_88 rfl (lv_at hl 2 rfl) ?_
      refine lv_iconst (v := (0 : Int32)) hx hb dX4_mayBe_89 (by decide) ?_
      refine lv_sipush (v := (1000 : Int32)) hx hb dX4_mayBe_90 (by decide) ?_
      obtain ⟨r9, hr9, hf⟩ := gx_bnd hf
      refine gx_sR (v := (some (.int r9))) (rest := []) C hH hS [.int a1, .int (0 : Int32), .int (1000 : Int32)] (t_X4_within l G σ a1 (0 : Int32) (1000 : Int32) r9  hr9) lk_X4_59 ⟨rfl, rfl, Nat.le_of_ble_eq_true rfl, Nat.le_of_ble_eq_true rfl⟩ ⟨Nat.zero_le _, Nat.zero_le _⟩ hl.1 rfl (Nat.le_of_ble_eq_true rfl) dX4_mayBe_93 ?_
      refine gx_e0 (st := [.int r9]) ?_ rfl
      refine lv_if_eq (tgt := 131) hx hb dX4_mayBe_96 (by decide) (fun hc10 => ?_) (fun hc10 => ?_)
      · have hf := gx_pos hc10 hf
        refine lv_iconst (v := (0 : Int32)) hx hb dX4_mayBe_131 (by decide) ?_
        obtain rfl := Option.some.inj hf
        exact gx_zretR C hr hlocks (by decide) dX4_mayBe_132
      · have hf := gx_neg hc10 hf
        refine lv_iload hx hb dX4_mayBe_99 (lv_at hl 0 rfl) ?_
        refine lv_if_eq (tgt := 131) hx hb dX4_mayBe_101 (by decide) (fun hc11 => ?_) (fun hc11 => ?_)
        · have hf := gx_pos hc11 hf
          refine lv_iconst (v := (0 : Int32)) hx hb dX4_mayBe_131 (by decide) ?_
          obtain rfl := Option.some.inj hf
          exact gx_zretR C hr hlocks (by decide) dX4_mayBe_132
        · have hf := gx_neg hc11 hf
          refine lv_iload_n hx hb dX4_mayBe_104 rfl (lv_at hl 4 rfl) ?_
          refine lv_iconst (v := (2 : Int32)) hx hb dX4_mayBe_105 (by decide) ?_
          refine lv_sipush (v := (2000 : Int32)) hx hb dX4_mayBe_106 (by decide) ?_
          obtain ⟨r12, hr12, hf⟩ := gx_bnd hf
          refine gx_sR (v := (some (.int r12))) (rest := []) C hH hS [.int a3, .int (2 : Int32), .int (2000 : Int32)] (t_X4_within l G σ a3 (2 : Int32) (2000 : Int32) r12  hr12) lk_X4_59 ⟨rfl, rfl, Nat.le_of_ble_eq_true rfl, Nat.le_of_ble_eq_true rfl⟩ ⟨Nat.zero_le _, Nat.zero_le _⟩ hl.1 rfl (Nat.le_of_ble_eq_true rfl) dX4_mayBe_109 ?_
          refine gx_e0 (st := [.int r12]) ?_ rfl
          refine lv_if_eq (tgt := 131) hx hb dX4_mayBe_112 (by decide) (fun hc13 => ?_) (fun hc13 => ?_)
          · have hf := gx_pos hc13 hf
            refine lv_iconst (v := (0 : Int32)) hx hb dX4_mayBe_131 (by decide) ?_
            obtain rfl := Option.some.inj hf
            exact gx_zretR C hr hlocks (by decide) dX4_mayBe_132
          · have hf := gx_neg hc13 hf
            refine lv_iload hx hb dX4_mayBe_115 (lv_at hl 5 rfl) ?_
            refine lv_iconst (v := (0 : Int32)) hx hb dX4_mayBe_117 (by decide) ?_
            refine lv_iload_n hx hb dX4_mayBe_118 rfl (lv_at hl 4 rfl) ?_
            refine lv_iconst (v := (1 : Int32)) hx hb dX4_mayBe_119 (by decide) ?_
            refine lv_isub hx hb dX4_mayBe_120 ?_
            obtain ⟨r14, hr14, hf⟩ := gx_bnd hf
            refine gx_sR (v := (some (.int r14))) (rest := []) C hH hS [.int a4, .int (0 : Int32), .int (a3 - (1 : Int32))] (t_X4_within l G σ a4 (0 : Int32) (a3 - (1 : Int32)) r14  hr14) lk_X4_59 ⟨rfl, rfl, Nat.le_of_ble_eq_true rfl, Nat.le_of_ble_eq_true rfl⟩ ⟨Nat.zero_le _, Nat.zero_le _⟩ hl.1 rfl (Nat.le_of_ble_eq_true rfl) dX4_mayBe_121 ?_
            refine gx_e0 (st := [.int r14]) ?_ rfl
            refine lv_if_eq (tgt := 131) hx hb dX4_mayBe_124 (by decide) (fun hc15 => ?_) (fun hc15 => ?_)
            · have hf := gx_pos hc15 hf
              refine lv_iconst (v := (0 : Int32)) hx hb dX4_mayBe_131 (by decide) ?_
              obtain rfl := Option.some.inj hf
              exact gx_zretR C hr hlocks (by decide) dX4_mayBe_132
            · have hf := gx_neg hc15 hf
              refine lv_iconst (v := (1 : Int32)) hx hb dX4_mayBe_127 (by decide) ?_
              refine lv_goto (tgt := 132) hx hb dX4_mayBe_128 (by decide) ?_
              obtain rfl := Option.some.inj hf
              exact gx_zretR C hr hlocks (by decide) dX4_mayBe_132
    · have hf := gx_neg hc8 hf
      by_cases hc16 : a0 = (2 : Int32)
      · have hf := gx_pos hc16 hf
        refine lv_tableIn (tgt := 88) hx hb dX4_mayBe_13 (by rw [hc16]; decide) (by rw [hc16]; decide) (by rw [hc16]; rfl) (by decide) ?_
        refine lv_iload_n hx hb dX4_mayBe_88 rfl (lv_at hl 2 rfl) ?_
        refine lv_iconst (v := (0 : Int32)) hx hb dX4_mayBe_89 (by decide) ?_
        refine lv_sipush (v := (1000 : Int32)) hx hb dX4_mayBe_90 (by decide) ?_
        obtain ⟨r17, hr17, hf⟩ := gx_bnd hf
        refine gx_sR (v := (some (.int r17))) (rest := []) C hH hS [.int a1, .int (0 : Int32), .int (1000 : Int32)] (t_X4_within l G σ a1 (0 : Int32) (1000 : Int32) r17  hr17) lk_X4_59 ⟨rfl, rfl, Nat.le_of_ble_eq_true rfl, Nat.le_of_ble_eq_true rfl⟩ ⟨Nat.zero_le _, Nat.zero_le _⟩ hl.1 rfl (Nat.le_of_ble_eq_true rfl) dX4_mayBe_93 ?_
        refine gx_e0 (st := [.int r17]) ?_ rfl
        refine lv_if_eq (tgt := 131) hx hb dX4_mayBe_96 (by decide) (fun hc18 => ?_) (fun hc18 => ?_)
        · have hf := gx_pos hc18 hf
          refine lv_iconst (v := (0 : Int32)) hx hb dX4_mayBe_131 (by decide) ?_
          obtain rfl := Option.some.inj hf
          exact gx_zretR C hr hlocks (by decide) dX4_mayBe_132
        · have hf := gx_neg hc18 hf
          refine lv_iload hx hb dX4_mayBe_99 (lv_at hl 0 rfl) ?_
          refine lv_if_eq (tgt := 131) hx hb dX4_mayBe_101 (by decide) (fun hc19 => ?_) (fun hc19 => ?_)
          · have hf := gx_pos hc19 hf
            refine lv_iconst (v := (0 : Int32)) hx hb dX4_mayBe_131 (by decide) ?_
            obtain rfl := Option.some.inj hf
            exact gx_zretR C hr hlocks (by decide) dX4_mayBe_132
          · have hf := gx_neg hc19 hf
            refine lv_iload_n hx hb dX4_mayBe_104 rfl (lv_at hl 4 rfl) ?_
            refine lv_iconst (v := (2 : Int32)) hx hb dX4_mayBe_105 (by decide) ?_
            refine lv_sipush (v := (2000 : Int32)) hx hb dX4_mayBe_106 (by decide) ?_
            obtain ⟨r20, hr20, hf⟩ := gx_bnd hf
            refine gx_sR (v := (some (.int r20))) (rest := []) C hH hS [.int a3, .int (2 : Int32), .int (2000 : Int32)] (t_X4_within l G σ a3 (2 : Int32) (2000 : Int32) r20  hr20) lk_X4_59 ⟨rfl, rfl, Nat.le_of_ble_eq_true rfl, Nat.le_of_ble_eq_true rfl⟩ ⟨Nat.zero_le _, Nat.zero_le _⟩ hl.1 rfl (Nat.le_of_ble_eq_true rfl) dX4_mayBe_109 ?_
            refine gx_e0 (st := [.int r20]) ?_ rfl
            refine lv_if_eq (tgt := 131) hx hb dX4_mayBe_112 (by decide) (fun hc21 => ?_) (fun hc21 => ?_)
            · have hf := gx_pos hc21 hf
              refine lv_iconst (v := (0 : Int32)) hx hb dX4_mayBe_131 (by decide) ?_
              obtain rfl := Option.some.inj hf
              exact gx_zretR C hr hlocks (by decide) dX4_mayBe_132
            · have hf := gx_neg hc21 hf
              refine lv_iload hx hb dX4_mayBe_115 (lv_at hl 5 rfl) ?_
              refine lv_iconst (v := (0 : Int32)) hx hb dX4_mayBe_117 (by decide) ?_
              refine lv_iload_n hx hb dX4_mayBe_118 rfl (lv_at hl 4 rfl) ?_
              refine lv_iconst (v := (1 : Int32)) hx hb dX4_mayBe_119 (by decide) ?_
              refine lv_isub hx hb dX4_mayBe_120 ?_
              obtain ⟨r22, hr22, hf⟩ := gx_bnd hf
              refine gx_sR (v := (some (.int r22))) (rest := []) C hH hS [.int a4, .int (0 : Int32), .int (a3 - (1 : Int32))] (t_X4_within l G σ a4 (0 : Int32) (a3 - (1 : Int32)) r22  hr22) lk_X4_59 ⟨rfl, rfl, Nat.le_of_ble_eq_true rfl, Nat.le_of_ble_eq_true rfl⟩ ⟨Nat.zero_le _, Nat.zero_le _⟩ hl.1 rfl (Nat.le_of_ble_eq_true rfl) dX4_mayBe_121 ?_
              refine gx_e0 (st := [.int r22]) ?_ rfl
              refine lv_if_eq (tgt := 131) hx hb dX4_mayBe_124 (by decide) (fun hc23 => ?_) (fun hc23 => ?_)
              · have hf := gx_pos hc23 hf
                refine lv_iconst (v := (0 : Int32)) hx hb dX4_mayBe_131 (by decide) ?_
                obtain rfl := Option.some.inj hf
                exact gx_zretR C hr hlocks (by decide) dX4_mayBe_132
              · have hf := gx_neg hc23 hf
                refine lv_iconst (v := (1 : Int32)) hx hb dX4_mayBe_127 (by decide) ?_
                refine lv_goto (tgt := 132) hx hb dX4_mayBe_128 (by decide) ?_
                obtain rfl := Option.some.inj hf
                exact gx_zretR C hr hlocks (by decide) dX4_mayBe_132
      · have hf := gx_neg hc16 hf
        by_cases hc24 : a0 = (3 : Int32)
        · have hf := gx_pos hc24 hf
          refine lv_tableIn (tgt := 133) hx hb dX4_mayBe_13 (by rw [hc24]; decide) (by rw [hc24]; decide) (by rw [hc24]; rfl) (by decide) ?_
          refine lv_iload_n hx hb dX4_mayBe_133 rfl (lv_at hl 2 rfl) ?_
          refine lv_sipush (v := (-1000 : Int32)) hx hb dX4_mayBe_134 (by decide) ?_
          refine lv_sipush (v := (1000 : Int32)) hx hb dX4_mayBe_137 (by decide) ?_
          obtain ⟨r25, hr25, hf⟩ := gx_bnd hf
          refine gx_sR (v := (some (.int r25))) (rest := []) C hH hS [.int a1, .int (-1000 : Int32), .int (1000 : Int32)] (t_X4_within l G σ a1 (-1000 : Int32) (1000 : Int32) r25  hr25) lk_X4_59 ⟨rfl, rfl, Nat.le_of_ble_eq_true rfl, Nat.le_of_ble_eq_true rfl⟩ ⟨Nat.zero_le _, Nat.zero_le _⟩ hl.1 rfl (Nat.le_of_ble_eq_true rfl) dX4_mayBe_140 ?_
          refine gx_e0 (st := [.int r25]) ?_ rfl
          refine lv_if_eq (tgt := 164) hx hb dX4_mayBe_143 (by decide) (fun hc26 => ?_) (fun hc26 => ?_)
          · have hf := gx_pos hc26 hf
            refine lv_iconst (v := (0 : Int32)) hx hb dX4_mayBe_164 (by decide) ?_
            obtain rfl := Option.some.inj hf
            exact gx_zretR C hr hlocks (by decide) dX4_mayBe_165
          · have hf := gx_neg hc26 hf
            refine lv_iload hx hb dX4_mayBe_146 (lv_at hl 0 rfl) ?_
            refine lv_if_eq (tgt := 164) hx hb dX4_mayBe_148 (by decide) (fun hc27 => ?_) (fun hc27 => ?_)
            · have hf := gx_pos hc27 hf
              refine lv_iconst (v := (0 : Int32)) hx hb dX4_mayBe_164 (by decide) ?_
              obtain rfl := Option.some.inj hf
              exact gx_zretR C hr hlocks (by decide) dX4_mayBe_165
            · have hf := gx_neg hc27 hf
              refine lv_iload_n hx hb dX4_mayBe_151 rfl (lv_at hl 4 rfl) ?_
              refine lv_if_ne (tgt := 164) hx hb dX4_mayBe_152 (by decide) (fun hc28 => ?_) (fun hc28 => ?_)
              · have hf := gx_neg hc28 hf
                refine lv_iconst (v := (0 : Int32)) hx hb dX4_mayBe_164 (by decide) ?_
                obtain rfl := Option.some.inj hf
                exact gx_zretR C hr hlocks (by decide) dX4_mayBe_165
              · have hf := gx_pos hc28 hf
                refine lv_iload hx hb dX4_mayBe_155 (lv_at hl 5 rfl) ?_
                refine lv_if_ne (tgt := 164) hx hb dX4_mayBe_157 (by decide) (fun hc29 => ?_) (fun hc29 => ?_)
                · have hf := gx_neg hc29 hf
                  refine lv_iconst (v := (0 : Int32)) hx hb dX4_mayBe_164 (by decide) ?_
                  obtain rfl := Option.some.inj hf
                  exact gx_zretR C hr hlocks (by decide) dX4_mayBe_165
                · have hf := gx_pos hc29 hf
                  refine lv_iconst (v := (1 : Int32)) hx hb dX4_mayBe_160 (by decide) ?_
                  refine lv_goto (tgt := 165) hx hb dX4_mayBe_161 (by decide) ?_
                  obtain rfl := Option.some.inj hf
                  exact gx_zretR C hr hlocks (by decide) dX4_mayBe_165
        · have hf := gx_neg hc24 hf
          by_cases hc30 : a0 = (4 : Int32)
          · have hf := gx_pos hc30 hf
            refine lv_tableIn (tgt := 166) hx hb dX4_mayBe_13 (by rw [hc30]; decide) (by rw [hc30]; decide) (by rw [hc30]; rfl) (by decide) ?_
            refine lv_iload_n hx hb dX4_mayBe_166 rfl (lv_at hl 2 rfl) ?_
            refine lv_bipush (v := (-100 : Int32)) hx hb dX4_mayBe_167 (by decide) ?_
            refine lv_bipush (v := (100 : Int32)) hx hb dX4_mayBe_169 (by decide) ?_
            obtain ⟨r31, hr31, hf⟩ := gx_bnd hf
            refine gx_sR (v := (some (.int r31))) (rest := []) C hH hS [.int a1, .int (-100 : Int32), .int (100 : Int32)] (t_X4_within l G σ a1 (-100 : Int32) (100 : Int32) r31  hr31) lk_X4_59 ⟨rfl, rfl, Nat.le_of_ble_eq_true rfl, Nat.le_of_ble_eq_true rfl⟩ ⟨Nat.zero_le _, Nat.zero_le _⟩ hl.1 rfl (Nat.le_of_ble_eq_true rfl) dX4_mayBe_171 ?_
            refine gx_e0 (st := [.int r31]) ?_ rfl
            refine lv_if_eq (tgt := 209) hx hb dX4_mayBe_174 (by decide) (fun hc32 => ?_) (fun hc32 => ?_)
            · have hf := gx_pos hc32 hf
              refine lv_iconst (v := (0 : Int32)) hx hb dX4_mayBe_209 (by decide) ?_
              obtain rfl := Option.some.inj hf
              exact gx_zretR C hr hlocks (by decide) dX4_mayBe_210
            · have hf := gx_neg hc32 hf
              refine lv_iload hx hb dX4_mayBe_177 (lv_at hl 0 rfl) ?_
              refine lv_if_eq (tgt := 209) hx hb dX4_mayBe_179 (by decide) (fun hc33 => ?_) (fun hc33 => ?_)
              · have hf := gx_pos hc33 hf
                refine lv_iconst (v := (0 : Int32)) hx hb dX4_mayBe_209 (by decide) ?_
                obtain rfl := Option.some.inj hf
                exact gx_zretR C hr hlocks (by decide) dX4_mayBe_210
              · have hf := gx_neg hc33 hf
                refine lv_iload_n hx hb dX4_mayBe_182 rfl (lv_at hl 4 rfl) ?_
                refine lv_iconst (v := (0 : Int32)) hx hb dX4_mayBe_183 (by decide) ?_
                refine lv_sipush (v := (1000 : Int32)) hx hb dX4_mayBe_184 (by decide) ?_
                obtain ⟨r34, hr34, hf⟩ := gx_bnd hf
                refine gx_sR (v := (some (.int r34))) (rest := []) C hH hS [.int a3, .int (0 : Int32), .int (1000 : Int32)] (t_X4_within l G σ a3 (0 : Int32) (1000 : Int32) r34  hr34) lk_X4_59 ⟨rfl, rfl, Nat.le_of_ble_eq_true rfl, Nat.le_of_ble_eq_true rfl⟩ ⟨Nat.zero_le _, Nat.zero_le _⟩ hl.1 rfl (Nat.le_of_ble_eq_true rfl) dX4_mayBe_187 ?_
                refine gx_e0 (st := [.int r34]) ?_ rfl
                refine lv_if_eq (tgt := 209) hx hb dX4_mayBe_190 (by decide) (fun hc35 => ?_) (fun hc35 => ?_)
                · have hf := gx_pos hc35 hf
                  refine lv_iconst (v := (0 : Int32)) hx hb dX4_mayBe_209 (by decide) ?_
                  obtain rfl := Option.some.inj hf
                  exact gx_zretR C hr hlocks (by decide) dX4_mayBe_210
                · have hf := gx_neg hc35 hf
                  refine lv_iload hx hb dX4_mayBe_193 (lv_at hl 5 rfl) ?_
                  refine lv_iconst (v := (0 : Int32)) hx hb dX4_mayBe_195 (by decide) ?_
                  refine lv_sipush (v := (1000 : Int32)) hx hb dX4_mayBe_196 (by decide) ?_
                  obtain ⟨r36, hr36, hf⟩ := gx_bnd hf
                  refine gx_sR (v := (some (.int r36))) (rest := []) C hH hS [.int a4, .int (0 : Int32), .int (1000 : Int32)] (t_X4_within l G σ a4 (0 : Int32) (1000 : Int32) r36  hr36) lk_X4_59 ⟨rfl, rfl, Nat.le_of_ble_eq_true rfl, Nat.le_of_ble_eq_true rfl⟩ ⟨Nat.zero_le _, Nat.zero_le _⟩ hl.1 rfl (Nat.le_of_ble_eq_true rfl) dX4_mayBe_199 ?_
                  refine gx_e0 (st := [.int r36]) ?_ rfl
                  refine lv_if_eq (tgt := 209) hx hb dX4_mayBe_202 (by decide) (fun hc37 => ?_) (fun hc37 => ?_)
                  · have hf := gx_pos hc37 hf
                    refine lv_iconst (v := (0 : Int32)) hx hb dX4_mayBe_209 (by decide) ?_
                    obtain rfl := Option.some.inj hf
                    exact gx_zretR C hr hlocks (by decide) dX4_mayBe_210
                  · have hf := gx_neg hc37 hf
                    refine lv_iconst (v := (1 : Int32)) hx hb dX4_mayBe_205 (by decide) ?_
                    refine lv_goto (tgt := 210) hx hb dX4_mayBe_206 (by decide) ?_
                    obtain rfl := Option.some.inj hf
                    exact gx_zretR C hr hlocks (by decide) dX4_mayBe_210
          · have hf := gx_neg hc30 hf
            by_cases hc38 : a0 = (5 : Int32)
            · have hf := gx_pos hc38 hf
              refine lv_tableIn (tgt := 211) hx hb dX4_mayBe_13 (by rw [hc38]; decide) (by rw [hc38]; decide) (by rw [hc38]; rfl) (by decide) ?_
              refine lv_iload_n hx hb dX4_mayBe_211 rfl (lv_at hl 2 rfl) ?_
              refine lv_bipush (v := (-100 : Int32)) hx hb dX4_mayBe_212 (by decide) ?_
              refine lv_bipush (v := (100 : Int32)) hx hb dX4_mayBe_214 (by decide) ?_
              obtain ⟨r39, hr39, hf⟩ := gx_bnd hf
              refine gx_sR (v := (some (.int r39))) (rest := []) C hH hS [.int a1, .int (-100 : Int32), .int (100 : Int32)] (t_X4_within l G σ a1 (-100 : Int32) (100 : Int32) r39  hr39) lk_X4_59 ⟨rfl, rfl, Nat.le_of_ble_eq_true rfl, Nat.le_of_ble_eq_true rfl⟩ ⟨Nat.zero_le _, Nat.zero_le _⟩ hl.1 rfl (Nat.le_of_ble_eq_true rfl) dX4_mayBe_216 ?_
              refine gx_e0 (st := [.int r39]) ?_ rfl
              refine lv_if_eq (tgt := 253) hx hb dX4_mayBe_219 (by decide) (fun hc40 => ?_) (fun hc40 => ?_)
              · have hf := gx_pos hc40 hf
                refine lv_iconst (v := (0 : Int32)) hx hb dX4_mayBe_253 (by decide) ?_
                obtain rfl := Option.some.inj hf
                exact gx_zretR C hr hlocks (by decide) dX4_mayBe_254
              · have hf := gx_neg hc40 hf
                refine lv_iload_n hx hb dX4_mayBe_222 rfl (lv_at hl 3 rfl) ?_
                refine lv_if_ne (tgt := 253) hx hb dX4_mayBe_223 (by decide) (fun hc41 => ?_) (fun hc41 => ?_)
                · have hf := gx_neg hc41 hf
                  refine lv_iconst (v := (0 : Int32)) hx hb dX4_mayBe_253 (by decide) ?_
                  obtain rfl := Option.some.inj hf
                  exact gx_zretR C hr hlocks (by decide) dX4_mayBe_254
                · have hf := gx_pos hc41 hf
                  refine lv_iload_n hx hb dX4_mayBe_226 rfl (lv_at hl 4 rfl) ?_
                  refine lv_iconst (v := (0 : Int32)) hx hb dX4_mayBe_227 (by decide) ?_
                  refine lv_sipush (v := (9999 : Int32)) hx hb dX4_mayBe_228 (by decide) ?_
                  obtain ⟨r42, hr42, hf⟩ := gx_bnd hf
                  refine gx_sR (v := (some (.int r42))) (rest := []) C hH hS [.int a3, .int (0 : Int32), .int (9999 : Int32)] (t_X4_within l G σ a3 (0 : Int32) (9999 : Int32) r42  hr42) lk_X4_59 ⟨rfl, rfl, Nat.le_of_ble_eq_true rfl, Nat.le_of_ble_eq_true rfl⟩ ⟨Nat.zero_le _, Nat.zero_le _⟩ hl.1 rfl (Nat.le_of_ble_eq_true rfl) dX4_mayBe_231 ?_
                  refine gx_e0 (st := [.int r42]) ?_ rfl
                  refine lv_if_eq (tgt := 253) hx hb dX4_mayBe_234 (by decide) (fun hc43 => ?_) (fun hc43 => ?_)
                  · have hf := gx_pos hc43 hf
                    refine lv_iconst (v := (0 : Int32)) hx hb dX4_mayBe_253 (by decide) ?_
                    obtain rfl := Option.some.inj hf
                    exact gx_zretR C hr hlocks (by decide) dX4_mayBe_254
                  · have hf := gx_neg hc43 hf
                    refine lv_iload hx hb dX4_mayBe_237 (lv_at hl 5 rfl) ?_
                    refine lv_iconst (v := (0 : Int32)) hx hb dX4_mayBe_239 (by decide) ?_
                    refine lv_sipush (v := (1000 : Int32)) hx hb dX4_mayBe_240 (by decide) ?_
                    obtain ⟨r44, hr44, hf⟩ := gx_bnd hf
                    refine gx_sR (v := (some (.int r44))) (rest := []) C hH hS [.int a4, .int (0 : Int32), .int (1000 : Int32)] (t_X4_within l G σ a4 (0 : Int32) (1000 : Int32) r44  hr44) lk_X4_59 ⟨rfl, rfl, Nat.le_of_ble_eq_true rfl, Nat.le_of_ble_eq_true rfl⟩ ⟨Nat.zero_le _, Nat.zero_le _⟩ hl.1 rfl (Nat.le_of_ble_eq_true rfl) dX4_mayBe_243 ?_
                    refine gx_e0 (st := [.int r44]) ?_ rfl
                    refine lv_if_eq (tgt := 253) hx hb dX4_mayBe_246 (by decide) (fun hc45 => ?_) (fun hc45 => ?_)
                    · have hf := gx_pos hc45 hf
                      refine lv_iconst (v := (0 : Int32)) hx hb dX4_mayBe_253 (by decide) ?_
                      obtain rfl := Option.some.inj hf
                      exact gx_zretR C hr hlocks (by decide) dX4_mayBe_254
                    · have hf := gx_neg hc45 hf
                      refine lv_iconst (v := (1 : Int32)) hx hb dX4_mayBe_249 (by decide) ?_
                      refine lv_goto (tgt := 254) hx hb dX4_mayBe_250 (by decide) ?_
                      obtain rfl := Option.some.inj hf
                      exact gx_zretR C hr hlocks (by decide) dX4_mayBe_254
            · have hf := gx_neg hc38 hf
              by_cases hc46 : a0 = (6 : Int32)
              · have hf := gx_pos hc46 hf
                refine lv_tableIn (tgt := 255) hx hb dX4_mayBe_13 (by rw [hc46]; decide) (by rw [hc46]; decide) (by rw [hc46]; rfl) (by decide) ?_
                refine lv_iload_n hx hb dX4_mayBe_255 rfl (lv_at hl 2 rfl) ?_
                refine lv_iconst (v := (1 : Int32)) hx hb dX4_mayBe_256 (by decide) ?_
                refine lv_sipush (v := (1000 : Int32)) hx hb dX4_mayBe_257 (by decide) ?_
                obtain ⟨r47, hr47, hf⟩ := gx_bnd hf
                refine gx_sR (v := (some (.int r47))) (rest := []) C hH hS [.int a1, .int (1 : Int32), .int (1000 : Int32)] (t_X4_within l G σ a1 (1 : Int32) (1000 : Int32) r47  hr47) lk_X4_59 ⟨rfl, rfl, Nat.le_of_ble_eq_true rfl, Nat.le_of_ble_eq_true rfl⟩ ⟨Nat.zero_le _, Nat.zero_le _⟩ hl.1 rfl (Nat.le_of_ble_eq_true rfl) dX4_mayBe_260 ?_
                refine gx_e0 (st := [.int r47]) ?_ rfl
                refine lv_if_eq (tgt := 296) hx hb dX4_mayBe_263 (by decide) (fun hc48 => ?_) (fun hc48 => ?_)
                · have hf := gx_pos hc48 hf
                  refine lv_iconst (v := (0 : Int32)) hx hb dX4_mayBe_296 (by decide) ?_
                  obtain rfl := Option.some.inj hf
                  exact gx_zretR C hr hlocks (by decide) dX4_mayBe_297
                · have hf := gx_neg hc48 hf
                  refine lv_iload hx hb dX4_mayBe_266 (lv_at hl 0 rfl) ?_
                  refine lv_if_eq (tgt := 296) hx hb dX4_mayBe_268 (by decide) (fun hc49 => ?_) (fun hc49 => ?_)
                  · have hf := gx_pos hc49 hf
                    refine lv_iconst (v := (0 : Int32)) hx hb dX4_mayBe_296 (by decide) ?_
                    obtain rfl := Option.some.inj hf
                    exact gx_zretR C hr hlocks (by decide) dX4_mayBe_297
                  · have hf := gx_neg hc49 hf
                    refine lv_iload_n hx hb dX4_mayBe_271 rfl (lv_at hl 4 rfl) ?_
                    refine lv_iconst (v := (0 : Int32)) hx hb dX4_mayBe_272 (by decide) ?_
                    refine lv_iconst (v := (1 : Int32)) hx hb dX4_mayBe_273 (by decide) ?_
                    obtain ⟨r50, hr50, hf⟩ := gx_bnd hf
                    refine gx_sR (v := (some (.int r50))) (rest := []) C hH hS [.int a3, .int (0 : Int32), .int (1 : Int32)] (t_X4_within l G σ a3 (0 : Int32) (1 : Int32) r50  hr50) lk_X4_59 ⟨rfl, rfl, Nat.le_of_ble_eq_true rfl, Nat.le_of_ble_eq_true rfl⟩ ⟨Nat.zero_le _, Nat.zero_le _⟩ hl.1 rfl (Nat.le_of_ble_eq_true rfl) dX4_mayBe_274 ?_
                    refine gx_e0 (st := [.int r50]) ?_ rfl
                    refine lv_if_eq (tgt := 296) hx hb dX4_mayBe_277 (by decide) (fun hc51 => ?_) (fun hc51 => ?_)
                    · have hf := gx_pos hc51 hf
                      refine lv_iconst (v := (0 : Int32)) hx hb dX4_mayBe_296 (by decide) ?_
                      obtain rfl := Option.some.inj hf
                      exact gx_zretR C hr hlocks (by decide) dX4_mayBe_297
                    · have hf := gx_neg hc51 hf
                      refine lv_iload hx hb dX4_mayBe_280 (lv_at hl 5 rfl) ?_
                      refine lv_iconst (v := (0 : Int32)) hx hb dX4_mayBe_282 (by decide) ?_
                      refine lv_sipush (v := (1000 : Int32)) hx hb dX4_mayBe_283 (by decide) ?_
                      obtain ⟨r52, hr52, hf⟩ := gx_bnd hf
                      refine gx_sR (v := (some (.int r52))) (rest := []) C hH hS [.int a4, .int (0 : Int32), .int (1000 : Int32)] (t_X4_within l G σ a4 (0 : Int32) (1000 : Int32) r52  hr52) lk_X4_59 ⟨rfl, rfl, Nat.le_of_ble_eq_true rfl, Nat.le_of_ble_eq_true rfl⟩ ⟨Nat.zero_le _, Nat.zero_le _⟩ hl.1 rfl (Nat.le_of_ble_eq_true rfl) dX4_mayBe_286 ?_
                      refine gx_e0 (st := [.int r52]) ?_ rfl
                      refine lv_if_eq (tgt := 296) hx hb dX4_mayBe_289 (by decide) (fun hc53 => ?_) (fun hc53 => ?_)
                      · have hf := gx_pos hc53 hf
                        refine lv_iconst (v := (0 : Int32)) hx hb dX4_mayBe_296 (by decide) ?_
                        obtain rfl := Option.some.inj hf
                        exact gx_zretR C hr hlocks (by decide) dX4_mayBe_297
                      · have hf := gx_neg hc53 hf
                        refine lv_iconst (v := (1 : Int32)) hx hb dX4_mayBe_292 (by decide) ?_
                        refine lv_goto (tgt := 297) hx hb dX4_mayBe_293 (by decide) ?_
                        obtain rfl := Option.some.inj hf
                        exact gx_zretR C hr hlocks (by decide) dX4_mayBe_297
              · have hf := gx_neg hc46 hf
                refine lv_tableOut (tgt := 298) hx hb dX4_mayBe_13 (by have q0 := lv_neT hc2 (a := 0) rfl; have q1 := lv_neT hc8 (a := 1) rfl; have q2 := lv_neT hc16 (a := 2) rfl; have q3 := lv_neT hc24 (a := 3) rfl; have q4 := lv_neT hc30 (a := 4) rfl; have q5 := lv_neT hc38 (a := 5) rfl; have q6 := lv_neT hc46 (a := 6) rfl; omega) (by decide) ?_
                refine lv_iconst (v := (0 : Int32)) hx hb dX4_mayBe_298 (by decide) ?_
                obtain rfl := Option.some.inj hf
                exact gx_zretR C hr hlocks (by decide) dX4_mayBe_299
abbrev rm_X4_effect : Room := { frames := 2, cells := 0, slots := 0, locals := 47 }
def fL_X4_effect_79 : Nat → gx_St → Int32 → Int32 → Option (Int32 × gx_St)
  | 0, _, _, _ => none
  | N + 1, σ, v6, v7 =>
    if (12 : Int32) ≤ v7 then (if (v6 < 0 ∨ 12 ≤ v6.toNatClampNeg) then none else
    gx_lt (gx_w2 σ (9) v6.toNatClampNeg (-9 : Int32)) fun σ17 =>
    gx_lt (gx_w2 σ17 0 4 ((σ17 0 4) + (1 : Int32))) fun σ18 =>
    some (v6, σ18)) else (if v7 = 0 then (if ((((12 : Int32) * v6) + v7) < 0 ∨ 144 ≤ (((12 : Int32) * v6) + v7).toNatClampNeg) then none else
    gx_lt (gx_w2 σ (8) (((12 : Int32) * v6) + v7).toNatClampNeg (-9 : Int32)) fun σ21 =>
    gx_lt (v7 + (1 : Int32)) fun x22 =>
    fL_X4_effect_79 N σ21 v6 x22) else (if v7 = (10 : Int32) then (if ((((12 : Int32) * v6) + v7) < 0 ∨ 144 ≤ (((12 : Int32) * v6) + v7).toNatClampNeg) then none else
    gx_lt (gx_w2 σ (8) (((12 : Int32) * v6) + v7).toNatClampNeg (-9 : Int32)) fun σ36 =>
    gx_lt (v7 + (1 : Int32)) fun x37 =>
    fL_X4_effect_79 N σ36 v6 x37) else (if v7 = (6 : Int32) then (if ((((12 : Int32) * v6) + v7) < 0 ∨ 144 ≤ (((12 : Int32) * v6) + v7).toNatClampNeg) then none else
    gx_lt (gx_w2 σ (8) (((12 : Int32) * v6) + v7).toNatClampNeg (100 : Int32)) fun σ26 =>
    gx_lt (v7 + (1 : Int32)) fun x27 =>
    fL_X4_effect_79 N σ26 v6 x27) else (if v7 = (8 : Int32) then (if ((((12 : Int32) * v6) + v7) < 0 ∨ 144 ≤ (((12 : Int32) * v6) + v7).toNatClampNeg) then none else
    gx_lt (gx_w2 σ (8) (((12 : Int32) * v6) + v7).toNatClampNeg (100 : Int32)) fun σ33 =>
    gx_lt (v7 + (1 : Int32)) fun x34 =>
    fL_X4_effect_79 N σ33 v6 x34) else (if ((((12 : Int32) * v6) + v7) < 0 ∨ 144 ≤ (((12 : Int32) * v6) + v7).toNatClampNeg) then none else
    gx_lt (gx_w2 σ (8) (((12 : Int32) * v6) + v7).toNatClampNeg (0 : Int32)) fun σ30 =>
    gx_lt (v7 + (1 : Int32)) fun x31 =>
    fL_X4_effect_79 N σ30 v6 x31)))))
set_option maxHeartbeats 4000000 in
set_option maxRecDepth 100000 in
theorem w_X4_effect_79 {p : Program} {l : Launch} {e : Env} {s : State} {m : MethodId} {args : Array Value} {below : List Frame} {meth : Method} {c : Code} (G : gx_G) (hG : gx_D G 13) (C : gx_C p m c cX4_effect 8 s args RX4 G) (hr : meth.sig.returnType = (some .int)) (hlocks : meth.locks = false) : ∀ (N : Nat) (σ : gx_St) (v6 v7 : Int32)  (z : (Int32 × gx_St)), fL_X4_effect_79 N σ v6 v7 = some z → ∀ (H : Heap) (locs : List Loc) (ls : Array Slot), gx_H G 13 (gm_mk G) σ H → va_S (gx_A G) s.heap H locs → lv_has ls 8 [(0, .ref (gx_q G 0)), (6, .int v6), (7, .int v7)] → W p l e rm_X4_effect s m args below meth c H locs 0 0 (MQ below (gx_QM G 13 (gm_mk G) (some (.int z.1)) z.2) args s 0 0 (gx_A G)) (F0 m 79 ls []) := by
  have hx := C.1.1
  have hb := C.1.2.1
  intro N
  induction N with
  | zero =>
    intro σ v6 v7  z hf H locs ls hH hS hl
    cases (show (none : Option (Int32 × gx_St)) = some z from hf)
  | succ N ih =>
    intro σ v6 v7  z hf H locs ls hH hS hl
    rw [fL_X4_effect_79] at hf
    refine lv_iload hx hb dX4_effect_79 (lv_at hl 2 rfl) ?_
    refine lv_bipush (v := (12 : Int32)) hx hb dX4_effect_81 (by decide) ?_
    refine lv_icmp_ge (tgt := 142) hx hb dX4_effect_83 (by decide) (fun hc15 => ?_) (fun hc15 => ?_)
    · have hf := gx_pos hc15 hf
      refine lv_aload_n hx hb dX4_effect_142 rfl (lv_at hl 0 rfl) ?_
      refine gx_get C hH 0 (by decide) rfl fl_X4_34 rfl dX4_effect_143 ?_
      refine lv_iload hx hb dX4_effect_146 (lv_at hl 1 rfl) ?_
      refine lv_bipush (v := (-9 : Int32)) hx hb dX4_effect_148 (by decide) ?_
      obtain ⟨hb16, hf⟩ := gx_chk hf
      refine gx_iast C hG hH hS (9) (by decide) (fun _ => rfl) hb16 dX4_effect_150 (fun H locs σ17 hσ17 hH hS => ?_)
      have hf := gx_let hf σ17 hσ17
      refine lv_aload_n hx hb dX4_effect_151 rfl (lv_at hl 0 rfl) ?_
      refine lv_dup hx hb dX4_effect_152 rfl ?_
      refine gx_get C hH 0 (by decide) rfl fl_X4_56 rfl dX4_effect_153 ?_
      refine lv_iconst (v := (1 : Int32)) hx hb dX4_effect_156 (by decide) ?_
      refine lv_iadd hx hb dX4_effect_157 ?_
      refine gx_put C hG hH hS 0 (by decide) rfl fl_X4_56 fw_X4_4 (pw_X4_4 _ _) rfl rfl (Nat.le_of_ble_eq_true rfl) dX4_effect_158 (fun H locs σ18 hσ18 hH hS => ?_)
      have hf := gx_let hf σ18 hσ18
      refine lv_iload hx hb dX4_effect_161 (lv_at hl 1 rfl) ?_
      cases hf
      exact gx_iretM C hr hlocks hH hS dX4_effect_163
    · have hf := gx_neg hc15 hf
      refine lv_aload_n hx hb dX4_effect_86 rfl (lv_at hl 0 rfl) ?_
      refine gx_get C hH 0 (by decide) rfl fl_X4_31 rfl dX4_effect_87 ?_
      refine lv_bipush (v := (12 : Int32)) hx hb dX4_effect_90 (by decide) ?_
      refine lv_iload hx hb dX4_effect_92 (lv_at hl 1 rfl) ?_
      refine lv_imul hx hb dX4_effect_94 ?_
      refine lv_iload hx hb dX4_effect_95 (lv_at hl 2 rfl) ?_
      refine lv_iadd hx hb dX4_effect_97 ?_
      refine lv_iload hx hb dX4_effect_98 (lv_at hl 2 rfl) ?_
      refine lv_if_eq (tgt := 110) hx hb dX4_effect_100 (by decide) (fun hc19 => ?_) (fun hc19 => ?_)
      · have hf := gx_pos hc19 hf
        refine lv_bipush (v := (-9 : Int32)) hx hb dX4_effect_110 (by decide) ?_
        refine lv_goto (tgt := 135) hx hb dX4_effect_112 (by decide) ?_
        obtain ⟨hb20, hf⟩ := gx_chk hf
        refine gx_iast C hG hH hS (8) (by decide) (fun _ => rfl) hb20 dX4_effect_135 (fun H locs σ21 hσ21 hH hS => ?_)
        have hf := gx_let hf σ21 hσ21
        obtain ⟨x22, hx22⟩ : ∃ z : Int32, z = (v7 + (1 : Int32)) := ⟨_, rfl⟩
        have hf := gx_let hf x22 hx22
        refine lv_iinc (v := x22) (lv' := [(7, .int x22), (0, .ref (gx_q G 0)), (6, .int v6)]) hx hb dX4_effect_136 hl (k := 2) rfl (by rw [hx22]; rfl) (by decide) rfl (fun ls hl => ?_)
        refine lv_goto (tgt := 79) hx hb dX4_effect_139 (by decide) ?_
        exact ih σ21 v6 x22  _ hf _ _ ls hH hS (lv_sub hl [1, 2, 0] rfl)
      · have hf := gx_neg hc19 hf
        refine lv_iload hx hb dX4_effect_103 (lv_at hl 2 rfl) ?_
        refine lv_bipush (v := (10 : Int32)) hx hb dX4_effect_105 (by decide) ?_
        refine lv_icmp_ne (tgt := 115) hx hb dX4_effect_107 (by decide) (fun hc23 => ?_) (fun hc23 => ?_)
        · have hf := gx_neg hc23 hf
          refine lv_iload hx hb dX4_effect_115 (lv_at hl 2 rfl) ?_
          refine lv_bipush (v := (6 : Int32)) hx hb dX4_effect_117 (by decide) ?_
          refine lv_icmp_eq (tgt := 129) hx hb dX4_effect_119 (by decide) (fun hc24 => ?_) (fun hc24 => ?_)
          · have hf := gx_pos hc24 hf
            refine lv_bipush (v := (100 : Int32)) hx hb dX4_effect_129 (by decide) ?_
            refine lv_goto (tgt := 135) hx hb dX4_effect_131 (by decide) ?_
            obtain ⟨hb25, hf⟩ := gx_chk hf
            refine gx_iast C hG hH hS (8) (by decide) (fun _ => rfl) hb25 dX4_effect_135 (fun H locs σ26 hσ26 hH hS => ?_)
            have hf := gx_let hf σ26 hσ26
            obtain ⟨x27, hx27⟩ : ∃ z : Int32, z = (v7 + (1 : Int32)) := ⟨_, rfl⟩
            have hf := gx_let hf x27 hx27
            refine lv_iinc (v := x27) (lv' := [(7, .int x27), (0, .ref (gx_q G 0)), (6, .int v6)]) hx hb dX4_effect_136 hl (k := 2) rfl (by rw [hx27]; rfl) (by decide) rfl (fun ls hl => ?_)
            refine lv_goto (tgt := 79) hx hb dX4_effect_139 (by decide) ?_
            exact ih σ26 v6 x27  _ hf _ _ ls hH hS (lv_sub hl [1, 2, 0] rfl)
          · have hf := gx_neg hc24 hf
            refine lv_iload hx hb dX4_effect_122 (lv_at hl 2 rfl) ?_
            refine lv_bipush (v := (8 : Int32)) hx hb dX4_effect_124 (by decide) ?_
            refine lv_icmp_ne (tgt := 134) hx hb dX4_effect_126 (by decide) (fun hc28 => ?_) (fun hc28 => ?_)
            · have hf := gx_neg hc28 hf
              refine lv_iconst (v := (0 : Int32)) hx hb dX4_effect_134 (by decide) ?_
              obtain ⟨hb29, hf⟩ := gx_chk hf
              refine gx_iast C hG hH hS (8) (by decide) (fun _ => rfl) hb29 dX4_effect_135 (fun H locs σ30 hσ30 hH hS => ?_)
              have hf := gx_let hf σ30 hσ30
              obtain ⟨x31, hx31⟩ : ∃ z : Int32, z = (v7 + (1 : Int32)) := ⟨_, rfl⟩
              have hf := gx_let hf x31 hx31
              refine lv_iinc (v := x31) (lv' := [(7, .int x31), (0, .ref (gx_q G 0)), (6, .int v6)]) hx hb dX4_effect_136 hl (k := 2) rfl (by rw [hx31]; rfl) (by decide) rfl (fun ls hl => ?_)
              refine lv_goto (tgt := 79) hx hb dX4_effect_139 (by decide) ?_
              exact ih σ30 v6 x31  _ hf _ _ ls hH hS (lv_sub hl [1, 2, 0] rfl)
            · have hf := gx_pos hc28 hf
              refine lv_bipush (v := (100 : Int32)) hx hb dX4_effect_129 (by decide) ?_
              refine lv_goto (tgt := 135) hx hb dX4_effect_131 (by decide) ?_
              obtain ⟨hb32, hf⟩ := gx_chk hf
              refine gx_iast C hG hH hS (8) (by decide) (fun _ => rfl) hb32 dX4_effect_135 (fun H locs σ33 hσ33 hH hS => ?_)
              have hf := gx_let hf σ33 hσ33
              obtain ⟨x34, hx34⟩ : ∃ z : Int32, z = (v7 + (1 : Int32)) := ⟨_, rfl⟩
              have hf := gx_let hf x34 hx34
              refine lv_iinc (v := x34) (lv' := [(7, .int x34), (0, .ref (gx_q G 0)), (6, .int v6)]) hx hb dX4_effect_136 hl (k := 2) rfl (by rw [hx34]; rfl) (by decide) rfl (fun ls hl => ?_)
              refine lv_goto (tgt := 79) hx hb dX4_effect_139 (by decide) ?_
              exact ih σ33 v6 x34  _ hf _ _ ls hH hS (lv_sub hl [1, 2, 0] rfl)
        · have hf := gx_pos hc23 hf
          refine lv_bipush (v := (-9 : Int32)) hx hb dX4_effect_110 (by decide) ?_
          refine lv_goto (tgt := 135) hx hb dX4_effect_112 (by decide) ?_
          obtain ⟨hb35, hf⟩ := gx_chk hf
          refine gx_iast C hG hH hS (8) (by decide) (fun _ => rfl) hb35 dX4_effect_135 (fun H locs σ36 hσ36 hH hS => ?_)
          have hf := gx_let hf σ36 hσ36
          obtain ⟨x37, hx37⟩ : ∃ z : Int32, z = (v7 + (1 : Int32)) := ⟨_, rfl⟩
          have hf := gx_let hf x37 hx37
          refine lv_iinc (v := x37) (lv' := [(7, .int x37), (0, .ref (gx_q G 0)), (6, .int v6)]) hx hb dX4_effect_136 hl (k := 2) rfl (by rw [hx37]; rfl) (by decide) rfl (fun ls hl => ?_)
          refine lv_goto (tgt := 79) hx hb dX4_effect_139 (by decide) ?_
          exact ih σ36 v6 x37  _ hf _ _ ls hH hS (lv_sub hl [1, 2, 0] rfl)
def f_X4_effect (σ : gx_St) (a1 a2 a3 a4 a5 : Int32) : Option (Int32 × gx_St) :=
  (f_X4_mayBe a1 a2 a3 a4 a5).bind fun r1 =>
  if r1 = 0 then (some ((-2 : Int32), σ)) else (if (σ 0 4) = (12 : Int32) then (some ((-4 : Int32), σ)) else (gx_lt (σ 0 4) fun x4 =>
  if (x4 < 0 ∨ 12 ≤ x4.toNatClampNeg) then none else
  gx_lt (gx_w2 σ (3) x4.toNatClampNeg a1) fun σ6 =>
  if (x4 < 0 ∨ 12 ≤ x4.toNatClampNeg) then none else
  gx_lt (gx_w2 σ6 (4) x4.toNatClampNeg a2) fun σ8 =>
  if (x4 < 0 ∨ 12 ≤ x4.toNatClampNeg) then none else
  gx_lt (gx_w2 σ8 (5) x4.toNatClampNeg a3) fun σ10 =>
  if (x4 < 0 ∨ 12 ≤ x4.toNatClampNeg) then none else
  gx_lt (gx_w2 σ10 (6) x4.toNatClampNeg a4) fun σ12 =>
  if (x4 < 0 ∨ 12 ≤ x4.toNatClampNeg) then none else
  gx_lt (gx_w2 σ12 (7) x4.toNatClampNeg a5) fun σ14 =>
  fL_X4_effect_79 13 σ14 x4 (0 : Int32)))
set_option maxHeartbeats 4000000 in
set_option maxRecDepth 100000 in
theorem t_X4_effect (l : Launch) (G : gx_G) (hG : gx_D G 13) (σ : gx_St) (a1 a2 a3 a4 a5 : Int32) (r : Int32) (σ' : gx_St)  (hf : f_X4_effect σ a1 a2 a3 a4 a5 = some (r, σ')) : Met l yX4_effect (Cond.code yX4_effect cX4_effect 8 (some .int) :: wT) rm_X4_effect (va_Pc [.ref (gx_q G 0), .int a1, .int a2, .int a3, .int a4, .int a5] (gx_S G 13 (gm_mk G) σ)) (gx_QM G 13 (gm_mk G) (some (.int r)) σ') 0 0 (gx_A G) := by
  refine Met.ofW (cc := cX4_effect) (maxL := 8) (ret := (some .int)) (by decide) rfl ?_
  intro p e s m args below meth c s₁ B hml hv
  obtain ⟨rfl, hH, hE⟩ := hv
  have C := gx_C.of (G := G) B hml hE
  have hx := C.1.1
  have hb := C.1.2.1
  have hr := B.returns
  have hlocks := B.notSynchronized
  have hS : va_S (gx_A G) s.heap s.heap [] := va_S.rf
  have hl := lv_entry ([.ref (gx_q G 0), .int a1, .int a2, .int a3, .int a4, .int a5]) (n := 8) (Nat.le_of_ble_eq_true rfl)
  rw [lg_entry_eq]
  generalize (lg_sl ([.ref (gx_q G 0), .int a1, .int a2, .int a3, .int a4, .int a5]) ++ List.replicate (8 - (lg_sl ([.ref (gx_q G 0), .int a1, .int a2, .int a3, .int a4, .int a5])).length) Slot.unset).toArray = ls at hl ⊢
  have hl : lv_has ls 8 [(0, .ref (gx_q G 0)), (1, .int a1), (2, .int a2), (3, .int a3), (4, .int a4), (5, .int a5)] := hl
  unfold f_X4_effect at hf
  refine lv_iload_n hx hb dX4_effect_0 rfl (lv_at hl 1 rfl) ?_
  refine lv_iload_n hx hb dX4_effect_1 rfl (lv_at hl 2 rfl) ?_
  refine lv_iload_n hx hb dX4_effect_2 rfl (lv_at hl 3 rfl) ?_
  refine lv_iload hx hb dX4_effect_3 (lv_at hl 4 rfl) ?_
  refine lv_iload hx hb dX4_effect_5 (lv_at hl 5 rfl) ?_
  obtain ⟨r1, hr1, hf⟩ := gx_bnd hf
  refine gx_sR (v := (some (.int r1))) (rest := []) C hH hS [.int a1, .int a2, .int a3, .int a4, .int a5] (t_X4_mayBe l G σ a1 a2 a3 a4 a5 r1  hr1) lk_X4_63 ⟨rfl, rfl, Nat.le_of_ble_eq_true rfl, Nat.le_of_ble_eq_true rfl⟩ ⟨Nat.zero_le _, Nat.zero_le _⟩ hl.1 rfl (Nat.le_of_ble_eq_true rfl) dX4_effect_7 ?_
  refine gx_e0 (st := [.int r1]) ?_ rfl
  refine lv_if_ne (tgt := 16) hx hb dX4_effect_10 (by decide) (fun hc2 => ?_) (fun hc2 => ?_)
  · have hf := gx_neg hc2 hf
    refine lv_aload_n hx hb dX4_effect_16 rfl (lv_at hl 0 rfl) ?_
    refine gx_get C hH 0 (by decide) rfl fl_X4_56 rfl dX4_effect_17 ?_
    refine lv_bipush (v := (12 : Int32)) hx hb dX4_effect_20 (by decide) ?_
    refine lv_icmp_ne (tgt := 28) hx hb dX4_effect_22 (by decide) (fun hc3 => ?_) (fun hc3 => ?_)
    · have hf := gx_neg hc3 hf
      refine lv_aload_n hx hb dX4_effect_28 rfl (lv_at hl 0 rfl) ?_
      refine gx_get C hH 0 (by decide) rfl fl_X4_56 rfl dX4_effect_29 ?_
      refine lv_topi (fun x4 hx4 => ?_)
      have hf := gx_let hf x4 hx4
      refine lv_istore (lv' := [(6, .int x4), (0, .ref (gx_q G 0)), (1, .int a1), (2, .int a2), (3, .int a3), (4, .int a4), (5, .int a5)]) hx hb dX4_effect_32 hl (by decide) rfl (fun ls hl => ?_)
      refine lv_aload_n hx hb dX4_effect_34 rfl (lv_at hl 1 rfl) ?_
      refine gx_get C hH 0 (by decide) rfl fl_X4_16 rfl dX4_effect_35 ?_
      refine lv_iload hx hb dX4_effect_38 (lv_at hl 0 rfl) ?_
      refine lv_iload_n hx hb dX4_effect_40 rfl (lv_at hl 2 rfl) ?_
      obtain ⟨hb5, hf⟩ := gx_chk hf
      refine gx_iast C hG hH hS (3) (by decide) (fun _ => rfl) hb5 dX4_effect_41 (fun H locs σ6 hσ6 hH hS => ?_)
      have hf := gx_let hf σ6 hσ6
      refine lv_aload_n hx hb dX4_effect_42 rfl (lv_at hl 1 rfl) ?_
      refine gx_get C hH 0 (by decide) rfl fl_X4_19 rfl dX4_effect_43 ?_
      refine lv_iload hx hb dX4_effect_46 (lv_at hl 0 rfl) ?_
      refine lv_iload_n hx hb dX4_effect_48 rfl (lv_at hl 3 rfl) ?_
      obtain ⟨hb7, hf⟩ := gx_chk hf
      refine gx_iast C hG hH hS (4) (by decide) (fun _ => rfl) hb7 dX4_effect_49 (fun H locs σ8 hσ8 hH hS => ?_)
      have hf := gx_let hf σ8 hσ8
      refine lv_aload_n hx hb dX4_effect_50 rfl (lv_at hl 1 rfl) ?_
      refine gx_get C hH 0 (by decide) rfl fl_X4_22 rfl dX4_effect_51 ?_
      refine lv_iload hx hb dX4_effect_54 (lv_at hl 0 rfl) ?_
      refine lv_iload_n hx hb dX4_effect_56 rfl (lv_at hl 4 rfl) ?_
      obtain ⟨hb9, hf⟩ := gx_chk hf
      refine gx_iast C hG hH hS (5) (by decide) (fun _ => rfl) hb9 dX4_effect_57 (fun H locs σ10 hσ10 hH hS => ?_)
      have hf := gx_let hf σ10 hσ10
      refine lv_aload_n hx hb dX4_effect_58 rfl (lv_at hl 1 rfl) ?_
      refine gx_get C hH 0 (by decide) rfl fl_X4_25 rfl dX4_effect_59 ?_
      refine lv_iload hx hb dX4_effect_62 (lv_at hl 0 rfl) ?_
      refine lv_iload hx hb dX4_effect_64 (lv_at hl 5 rfl) ?_
      obtain ⟨hb11, hf⟩ := gx_chk hf
      refine gx_iast C hG hH hS (6) (by decide) (fun _ => rfl) hb11 dX4_effect_66 (fun H locs σ12 hσ12 hH hS => ?_)
      have hf := gx_let hf σ12 hσ12
      refine lv_aload_n hx hb dX4_effect_67 rfl (lv_at hl 1 rfl) ?_
      refine gx_get C hH 0 (by decide) rfl fl_X4_28 rfl dX4_effect_68 ?_
      refine lv_iload hx hb dX4_effect_71 (lv_at hl 0 rfl) ?_
      refine lv_iload hx hb dX4_effect_73 (lv_at hl 6 rfl) ?_
      obtain ⟨hb13, hf⟩ := gx_chk hf
      refine gx_iast C hG hH hS (7) (by decide) (fun _ => rfl) hb13 dX4_effect_75 (fun H locs σ14 hσ14 hH hS => ?_)
      have hf := gx_let hf σ14 hσ14
      refine lv_iconst (v := (0 : Int32)) hx hb dX4_effect_76 (by decide) ?_
      refine lv_istore (lv' := [(7, .int (0 : Int32)), (6, .int x4), (0, .ref (gx_q G 0)), (1, .int a1), (2, .int a2), (3, .int a3), (4, .int a4), (5, .int a5)]) hx hb dX4_effect_77 hl (by decide) rfl (fun ls hl => ?_)
      exact w_X4_effect_79 (l := l) G hG C hr hlocks 13 σ14 x4 (0 : Int32)  _ hf _ _ ls hH hS (lv_sub hl [2, 1, 0] rfl)
    · have hf := gx_pos hc3 hf
      refine lv_bipush (v := (-4 : Int32)) hx hb dX4_effect_25 (by decide) ?_
      cases hf
      exact gx_iretM C hr hlocks hH hS dX4_effect_27
  · have hf := gx_pos hc2 hf
    refine lv_bipush (v := (-2 : Int32)) hx hb dX4_effect_13 (by decide) ?_
    cases hf
    exact gx_iretM C hr hlocks hH hS dX4_effect_15
abbrev rm_X4_mostOf : Room := { frames := 0, cells := 0, slots := 0, locals := 0 }
def f_X4_mostOf (a0 : Int32) : Option Int32 :=
  if a0 = (0 : Int32) then (some (60000 : Int32)) else if a0 = (1 : Int32) then (some (5000 : Int32)) else if a0 = (2 : Int32) then (some (5000 : Int32)) else if a0 = (3 : Int32) then (some (100 : Int32)) else if a0 = (4 : Int32) then (some (5000 : Int32)) else if a0 = (5 : Int32) then (some (100 : Int32)) else if a0 = (6 : Int32) then (some (100 : Int32)) else if a0 = (7 : Int32) then (some (100 : Int32)) else if a0 = (8 : Int32) then (some (100 : Int32)) else if a0 = (9 : Int32) then (some (9 : Int32)) else if a0 = (10 : Int32) then (some (3 : Int32)) else if a0 = (11 : Int32) then (some (5000 : Int32)) else (some (100 : Int32))
set_option maxHeartbeats 4000000 in
set_option maxRecDepth 100000 in
theorem t_X4_mostOf (l : Launch) (G : gx_G) (σ : gx_St) (a0 : Int32) (r : Int32)  (hf : f_X4_mostOf a0 = some r) : Met l yX4_mostOf (Cond.code yX4_mostOf cX4_mostOf 1 (some .int) :: wT) rm_X4_mostOf (va_Pc [.int a0] (gx_S G 13 (gm_mk G) σ)) (gx_QR (some (.int r))) 0 0 (fun _ => False) := by
  refine Met.ofW (cc := cX4_mostOf) (maxL := 1) (ret := (some .int)) (by decide) rfl ?_
  intro p e s m args below meth c s₁ B hml hv
  obtain ⟨rfl, hH, hE⟩ := hv
  have C := gx_C.of (G := G) B hml hE
  have hx := C.1.1
  have hb := C.1.2.1
  have hr := B.returns
  have hlocks := B.notSynchronized
  have hS : va_S (gx_A G) s.heap s.heap [] := va_S.rf
  have hl := lv_entry ([.int a0]) (n := 1) (Nat.le_of_ble_eq_true rfl)
  rw [lg_entry_eq]
  generalize (lg_sl ([.int a0]) ++ List.replicate (1 - (lg_sl ([.int a0])).length) Slot.unset).toArray = ls at hl ⊢
  have hl : lv_has ls 1 [(0, .int a0)] := hl
  unfold f_X4_mostOf at hf
  refine lv_iload_n hx hb dX4_mostOf_0 rfl (lv_at hl 0 rfl) ?_
  by_cases hc1 : a0 = (0 : Int32)
  · have hf := gx_pos hc1 hf
    refine lv_tableIn (tgt := 64) hx hb dX4_mostOf_1 (by rw [hc1]; decide) (by rw [hc1]; decide) (by rw [hc1]; rfl) (by decide) ?_
    refine lv_ldc hx hb C.1.2.2.2.1 (C.1.2.2.2.2 _ kw_568) dX4_mostOf_64 ?_
    obtain rfl := Option.some.inj hf
    exact gx_iretR C hr hlocks dX4_mostOf_66
  · have hf := gx_neg hc1 hf
    by_cases hc2 : a0 = (1 : Int32)
    · have hf := gx_pos hc2 hf
      refine lv_tableIn (tgt := 67) hx hb dX4_mostOf_1 (by rw [hc2]; decide) (by rw [hc2]; decide) (by rw [hc2]; rfl) (by decide) ?_
      refine lv_sipush (v := (5000 : Int32)) hx hb dX4_mostOf_67 (by decide) ?_
      obtain rfl := Option.some.inj hf
      exact gx_iretR C hr hlocks dX4_mostOf_70
    · have hf := gx_neg hc2 hf
      by_cases hc3 : a0 = (2 : Int32)
      · have hf := gx_pos hc3 hf
        refine lv_tableIn (tgt := 67) hx hb dX4_mostOf_1 (by rw [hc3]; decide) (by rw [hc3]; decide) (by rw [hc3]; rfl) (by decide) ?_
        refine lv_sipush (v := (5000 : Int32)) hx hb dX4_mostOf_67 (by decide) ?_
        obtain rfl := Option.some.inj hf
        exact gx_iretR C hr hlocks dX4_mostOf_70
      · have hf := gx_neg hc3 hf
        by_cases hc4 : a0 = (3 : Int32)
        · have hf := gx_pos hc4 hf
          refine lv_tableIn (tgt := 76) hx hb dX4_mostOf_1 (by rw [hc4]; decide) (by rw [hc4]; decide) (by rw [hc4]; rfl) (by decide) ?_
          refine lv_bipush (v := (100 : Int32)) hx hb dX4_mostOf_76 (by decide) ?_
          obtain rfl := Option.some.inj hf
          exact gx_iretR C hr hlocks dX4_mostOf_78
        · have hf := gx_neg hc4 hf
          by_cases hc5 : a0 = (4 : Int32)
          · have hf := gx_pos hc5 hf
            refine lv_tableIn (tgt := 67) hx hb dX4_mostOf_1 (by rw [hc5]; decide) (by rw [hc5]; decide) (by rw [hc5]; rfl) (by decide) ?_
            refine lv_sipush (v := (5000 : Int32)) hx hb dX4_mostOf_67 (by decide) ?_
            obtain rfl := Option.some.inj hf
            exact gx_iretR C hr hlocks dX4_mostOf_70
          · have hf := gx_neg hc5 hf
            by_cases hc6 : a0 = (5 : Int32)
            · have hf := gx_pos hc6 hf
              refine lv_tableIn (tgt := 76) hx hb dX4_mostOf_1 (by rw [hc6]; decide) (by rw [hc6]; decide) (by rw [hc6]; rfl) (by decide) ?_
              refine lv_bipush (v := (100 : Int32)) hx hb dX4_mostOf_76 (by decide) ?_
              obtain rfl := Option.some.inj hf
              exact gx_iretR C hr hlocks dX4_mostOf_78
            · have hf := gx_neg hc6 hf
              by_cases hc7 : a0 = (6 : Int32)
              · have hf := gx_pos hc7 hf
                refine lv_tableIn (tgt := 76) hx hb dX4_mostOf_1 (by rw [hc7]; decide) (by rw [hc7]; decide) (by rw [hc7]; rfl) (by decide) ?_
                refine lv_bipush (v := (100 : Int32)) hx hb dX4_mostOf_76 (by decide) ?_
                obtain rfl := Option.some.inj hf
                exact gx_iretR C hr hlocks dX4_mostOf_78
              · have hf := gx_neg hc7 hf
                by_cases hc8 : a0 = (7 : Int32)
                · have hf := gx_pos hc8 hf
                  refine lv_tableIn (tgt := 76) hx hb dX4_mostOf_1 (by rw [hc8]; decide) (by rw [hc8]; decide) (by rw [hc8]; rfl) (by decide) ?_
                  refine lv_bipush (v := (100 : Int32)) hx hb dX4_mostOf_76 (by decide) ?_
                  obtain rfl := Option.some.inj hf
                  exact gx_iretR C hr hlocks dX4_mostOf_78
                · have hf := gx_neg hc8 hf
                  by_cases hc9 : a0 = (8 : Int32)
                  · have hf := gx_pos hc9 hf
                    refine lv_tableIn (tgt := 76) hx hb dX4_mostOf_1 (by rw [hc9]; decide) (by rw [hc9]; decide) (by rw [hc9]; rfl) (by decide) ?_
                    refine lv_bipush (v := (100 : Int32)) hx hb dX4_mostOf_76 (by decide) ?_
                    obtain rfl := Option.some.inj hf
                    exact gx_iretR C hr hlocks dX4_mostOf_78
                  · have hf := gx_neg hc9 hf
                    by_cases hc10 : a0 = (9 : Int32)
                    · have hf := gx_pos hc10 hf
                      refine lv_tableIn (tgt := 71) hx hb dX4_mostOf_1 (by rw [hc10]; decide) (by rw [hc10]; decide) (by rw [hc10]; rfl) (by decide) ?_
                      refine lv_bipush (v := (9 : Int32)) hx hb dX4_mostOf_71 (by decide) ?_
                      obtain rfl := Option.some.inj hf
                      exact gx_iretR C hr hlocks dX4_mostOf_73
                    · have hf := gx_neg hc10 hf
                      by_cases hc11 : a0 = (10 : Int32)
                      · have hf := gx_pos hc11 hf
                        refine lv_tableIn (tgt := 74) hx hb dX4_mostOf_1 (by rw [hc11]; decide) (by rw [hc11]; decide) (by rw [hc11]; rfl) (by decide) ?_
                        refine lv_iconst (v := (3 : Int32)) hx hb dX4_mostOf_74 (by decide) ?_
                        obtain rfl := Option.some.inj hf
                        exact gx_iretR C hr hlocks dX4_mostOf_75
                      · have hf := gx_neg hc11 hf
                        by_cases hc12 : a0 = (11 : Int32)
                        · have hf := gx_pos hc12 hf
                          refine lv_tableIn (tgt := 67) hx hb dX4_mostOf_1 (by rw [hc12]; decide) (by rw [hc12]; decide) (by rw [hc12]; rfl) (by decide) ?_
                          refine lv_sipush (v := (5000 : Int32)) hx hb dX4_mostOf_67 (by decide) ?_
                          obtain rfl := Option.some.inj hf
                          exact gx_iretR C hr hlocks dX4_mostOf_70
                        · have hf := gx_neg hc12 hf
                          refine lv_tableOut (tgt := 76) hx hb dX4_mostOf_1 (by have q0 := lv_neT hc1 (a := 0) rfl; have q1 := lv_neT hc2 (a := 1) rfl; have q2 := lv_neT hc3 (a := 2) rfl; have q3 := lv_neT hc4 (a := 3) rfl; have q4 := lv_neT hc5 (a := 4) rfl; have q5 := lv_neT hc6 (a := 5) rfl; have q6 := lv_neT hc7 (a := 6) rfl; have q7 := lv_neT hc8 (a := 7) rfl; have q8 := lv_neT hc9 (a := 8) rfl; have q9 := lv_neT hc10 (a := 9) rfl; have q10 := lv_neT hc11 (a := 10) rfl; have q11 := lv_neT hc12 (a := 11) rfl; omega) (by decide) ?_
                          refine lv_bipush (v := (100 : Int32)) hx hb dX4_mostOf_76 (by decide) ?_
                          obtain rfl := Option.some.inj hf
                          exact gx_iretR C hr hlocks dX4_mostOf_78
abbrev rm_X4_mayBeNumber : Room := { frames := 1, cells := 0, slots := 0, locals := 22 }
def f_X4_mayBeNumber (a0 a1 : Int32) : Option Int32 :=
  if a0 = 0 then (if a1 = (-9 : Int32) then (some (1 : Int32)) else ((f_X4_mostOf a0).bind fun r4 =>
  (f_X4_within a1 (1 : Int32) r4).bind fun r5 =>
  if ¬ (r5 = 0 ∨ r5 = 1) then none else
  some r5)) else (if a0 = (10 : Int32) then (if a1 = (-9 : Int32) then (some (1 : Int32)) else (if a0 = (6 : Int32) then ((f_X4_mostOf a0).bind fun r23 =>
  (f_X4_within a1 (-100 : Int32) r23).bind fun r24 =>
  if ¬ (r24 = 0 ∨ r24 = 1) then none else
  some r24) else (if a0 = (7 : Int32) then ((f_X4_mostOf a0).bind fun r30 =>
  (f_X4_within a1 (-100 : Int32) r30).bind fun r31 =>
  if ¬ (r31 = 0 ∨ r31 = 1) then none else
  some r31) else ((f_X4_mostOf a0).bind fun r27 =>
  (f_X4_within a1 (0 : Int32) r27).bind fun r28 =>
  if ¬ (r28 = 0 ∨ r28 = 1) then none else
  some r28)))) else (if a0 = (6 : Int32) then ((f_X4_mostOf a0).bind fun r10 =>
  (f_X4_within a1 (-100 : Int32) r10).bind fun r11 =>
  if ¬ (r11 = 0 ∨ r11 = 1) then none else
  some r11) else (if a0 = (7 : Int32) then ((f_X4_mostOf a0).bind fun r17 =>
  (f_X4_within a1 (-100 : Int32) r17).bind fun r18 =>
  if ¬ (r18 = 0 ∨ r18 = 1) then none else
  some r18) else ((f_X4_mostOf a0).bind fun r14 =>
  (f_X4_within a1 (0 : Int32) r14).bind fun r15 =>
  if ¬ (r15 = 0 ∨ r15 = 1) then none else
  some r15))))
set_option maxHeartbeats 4000000 in
set_option maxRecDepth 100000 in
theorem t_X4_mayBeNumber (l : Launch) (G : gx_G) (σ : gx_St) (a0 a1 : Int32) (r : Int32)  (hf : f_X4_mayBeNumber a0 a1 = some r) : Met l yX4_mayBeNumber (Cond.code yX4_mayBeNumber cX4_mayBeNumber 3 (some .boolean) :: wT) rm_X4_mayBeNumber (va_Pc [.int a0, .int a1] (gx_S G 13 (gm_mk G) σ)) (gx_QR (some (.int r))) 0 0 (fun _ => False) := by
  refine Met.ofW (cc := cX4_mayBeNumber) (maxL := 3) (ret := (some .boolean)) (by decide) rfl ?_
  intro p e s m args below meth c s₁ B hml hv
  obtain ⟨rfl, hH, hE⟩ := hv
  have C := gx_C.of (G := G) B hml hE
  have hx := C.1.1
  have hb := C.1.2.1
  have hr := B.returns
  have hlocks := B.notSynchronized
  have hS : va_S (gx_A G) s.heap s.heap [] := va_S.rf
  have hl := lv_entry ([.int a0, .int a1]) (n := 3) (Nat.le_of_ble_eq_true rfl)
  rw [lg_entry_eq]
  generalize (lg_sl ([.int a0, .int a1]) ++ List.replicate (3 - (lg_sl ([.int a0, .int a1])).length) Slot.unset).toArray = ls at hl ⊢
  have hl : lv_has ls 3 [(0, .int a0), (1, .int a1)] := hl
  unfold f_X4_mayBeNumber at hf
  refine lv_iload_n hx hb dX4_mayBeNumber_0 rfl (lv_at hl 0 rfl) ?_
  refine lv_if_eq (tgt := 10) hx hb dX4_mayBeNumber_1 (by decide) (fun hc1 => ?_) (fun hc1 => ?_)
  · have hf := gx_pos hc1 hf
    refine lv_iload_n hx hb dX4_mayBeNumber_10 rfl (lv_at hl 1 rfl) ?_
    refine lv_bipush (v := (-9 : Int32)) hx hb dX4_mayBeNumber_11 (by decide) ?_
    refine lv_icmp_ne (tgt := 18) hx hb dX4_mayBeNumber_13 (by decide) (fun hc2 => ?_) (fun hc2 => ?_)
    · have hf := gx_neg hc2 hf
      refine lv_iload_n hx hb dX4_mayBeNumber_18 rfl (lv_at hl 0 rfl) ?_
      refine lv_if_ne (tgt := 26) hx hb dX4_mayBeNumber_19 (by decide) (fun hc3 => absurd hc1 hc3) (fun hc3 => ?_)
      refine lv_iconst (v := (1 : Int32)) hx hb dX4_mayBeNumber_22 (by decide) ?_
      refine lv_goto (tgt := 44) hx hb dX4_mayBeNumber_23 (by decide) ?_
      refine lv_istore_n (lv' := [(2, .int (1 : Int32)), (0, .int a0), (1, .int a1)]) hx hb dX4_mayBeNumber_44 rfl hl (by decide) rfl (fun ls hl => ?_)
      refine lv_iload_n hx hb dX4_mayBeNumber_45 rfl (lv_at hl 2 rfl) ?_
      refine lv_iload_n hx hb dX4_mayBeNumber_46 rfl (lv_at hl 0 rfl) ?_
      refine lv_iload_n hx hb dX4_mayBeNumber_47 rfl (lv_at hl 1 rfl) ?_
      obtain ⟨r4, hr4, hf⟩ := gx_bnd hf
      refine gx_sR (v := (some (.int r4))) (rest := [.int (1 : Int32), .int a1]) C hH hS [.int a0] (t_X4_mostOf l G σ a0 r4  hr4) lk_X4_68 ⟨rfl, rfl, Nat.le_of_ble_eq_true rfl, Nat.le_of_ble_eq_true rfl⟩ ⟨Nat.zero_le _, Nat.zero_le _⟩ hl.1 rfl (Nat.le_of_ble_eq_true rfl) dX4_mayBeNumber_48 ?_
      refine gx_e0 (st := [.int r4, .int (1 : Int32), .int a1]) ?_ rfl
      obtain ⟨r5, hr5, hf⟩ := gx_bnd hf
      refine gx_sR (v := (some (.int r5))) (rest := []) C hH hS [.int a1, .int (1 : Int32), .int r4] (t_X4_within l G σ a1 (1 : Int32) r4 r5  hr5) lk_X4_59 ⟨rfl, rfl, Nat.le_of_ble_eq_true rfl, Nat.le_of_ble_eq_true rfl⟩ ⟨Nat.zero_le _, Nat.zero_le _⟩ hl.1 rfl (Nat.le_of_ble_eq_true rfl) dX4_mayBeNumber_51 ?_
      refine gx_e0 (st := [.int r5]) ?_ rfl
      obtain ⟨hz6, hf⟩ := gx_chk hf
      obtain rfl := Option.some.inj hf
      exact gx_zretR C hr hlocks (Decidable.of_not_not hz6) dX4_mayBeNumber_54
    · have hf := gx_pos hc2 hf
      refine lv_iconst (v := (1 : Int32)) hx hb dX4_mayBeNumber_16 (by decide) ?_
      obtain rfl := Option.some.inj hf
      exact gx_zretR C hr hlocks (by decide) dX4_mayBeNumber_17
  · have hf := gx_neg hc1 hf
    refine lv_iload_n hx hb dX4_mayBeNumber_4 rfl (lv_at hl 0 rfl) ?_
    refine lv_bipush (v := (10 : Int32)) hx hb dX4_mayBeNumber_5 (by decide) ?_
    refine lv_icmp_ne (tgt := 18) hx hb dX4_mayBeNumber_7 (by decide) (fun hc7 => ?_) (fun hc7 => ?_)
    · have hf := gx_neg hc7 hf
      refine lv_iload_n hx hb dX4_mayBeNumber_18 rfl (lv_at hl 0 rfl) ?_
      refine lv_if_ne (tgt := 26) hx hb dX4_mayBeNumber_19 (by decide) (fun hc8 => ?_) (fun hc8 => absurd hc8 hc1)
      refine lv_iload_n hx hb dX4_mayBeNumber_26 rfl (lv_at hl 0 rfl) ?_
      refine lv_bipush (v := (6 : Int32)) hx hb dX4_mayBeNumber_27 (by decide) ?_
      refine lv_icmp_eq (tgt := 38) hx hb dX4_mayBeNumber_29 (by decide) (fun hc9 => ?_) (fun hc9 => ?_)
      · have hf := gx_pos hc9 hf
        refine lv_bipush (v := (-100 : Int32)) hx hb dX4_mayBeNumber_38 (by decide) ?_
        refine lv_goto (tgt := 44) hx hb dX4_mayBeNumber_40 (by decide) ?_
        refine lv_istore_n (lv' := [(2, .int (-100 : Int32)), (0, .int a0), (1, .int a1)]) hx hb dX4_mayBeNumber_44 rfl hl (by decide) rfl (fun ls hl => ?_)
        refine lv_iload_n hx hb dX4_mayBeNumber_45 rfl (lv_at hl 2 rfl) ?_
        refine lv_iload_n hx hb dX4_mayBeNumber_46 rfl (lv_at hl 0 rfl) ?_
        refine lv_iload_n hx hb dX4_mayBeNumber_47 rfl (lv_at hl 1 rfl) ?_
        obtain ⟨r10, hr10, hf⟩ := gx_bnd hf
        refine gx_sR (v := (some (.int r10))) (rest := [.int (-100 : Int32), .int a1]) C hH hS [.int a0] (t_X4_mostOf l G σ a0 r10  hr10) lk_X4_68 ⟨rfl, rfl, Nat.le_of_ble_eq_true rfl, Nat.le_of_ble_eq_true rfl⟩ ⟨Nat.zero_le _, Nat.zero_le _⟩ hl.1 rfl (Nat.le_of_ble_eq_true rfl) dX4_mayBeNumber_48 ?_
        refine gx_e0 (st := [.int r10, .int (-100 : Int32), .int a1]) ?_ rfl
        obtain ⟨r11, hr11, hf⟩ := gx_bnd hf
        refine gx_sR (v := (some (.int r11))) (rest := []) C hH hS [.int a1, .int (-100 : Int32), .int r10] (t_X4_within l G σ a1 (-100 : Int32) r10 r11  hr11) lk_X4_59 ⟨rfl, rfl, Nat.le_of_ble_eq_true rfl, Nat.le_of_ble_eq_true rfl⟩ ⟨Nat.zero_le _, Nat.zero_le _⟩ hl.1 rfl (Nat.le_of_ble_eq_true rfl) dX4_mayBeNumber_51 ?_
        refine gx_e0 (st := [.int r11]) ?_ rfl
        obtain ⟨hz12, hf⟩ := gx_chk hf
        obtain rfl := Option.some.inj hf
        exact gx_zretR C hr hlocks (Decidable.of_not_not hz12) dX4_mayBeNumber_54
      · have hf := gx_neg hc9 hf
        refine lv_iload_n hx hb dX4_mayBeNumber_32 rfl (lv_at hl 0 rfl) ?_
        refine lv_bipush (v := (7 : Int32)) hx hb dX4_mayBeNumber_33 (by decide) ?_
        refine lv_icmp_ne (tgt := 43) hx hb dX4_mayBeNumber_35 (by decide) (fun hc13 => ?_) (fun hc13 => ?_)
        · have hf := gx_neg hc13 hf
          refine lv_iconst (v := (0 : Int32)) hx hb dX4_mayBeNumber_43 (by decide) ?_
          refine lv_istore_n (lv' := [(2, .int (0 : Int32)), (0, .int a0), (1, .int a1)]) hx hb dX4_mayBeNumber_44 rfl hl (by decide) rfl (fun ls hl => ?_)
          refine lv_iload_n hx hb dX4_mayBeNumber_45 rfl (lv_at hl 2 rfl) ?_
          refine lv_iload_n hx hb dX4_mayBeNumber_46 rfl (lv_at hl 0 rfl) ?_
          refine lv_iload_n hx hb dX4_mayBeNumber_47 rfl (lv_at hl 1 rfl) ?_
          obtain ⟨r14, hr14, hf⟩ := gx_bnd hf
          refine gx_sR (v := (some (.int r14))) (rest := [.int (0 : Int32), .int a1]) C hH hS [.int a0] (t_X4_mostOf l G σ a0 r14  hr14) lk_X4_68 ⟨rfl, rfl, Nat.le_of_ble_eq_true rfl, Nat.le_of_ble_eq_true rfl⟩ ⟨Nat.zero_le _, Nat.zero_le _⟩ hl.1 rfl (Nat.le_of_ble_eq_true rfl) dX4_mayBeNumber_48 ?_
          refine gx_e0 (st := [.int r14, .int (0 : Int32), .int a1]) ?_ rfl
          obtain ⟨r15, hr15, hf⟩ := gx_bnd hf
          refine gx_sR (v := (some (.int r15))) (rest := []) C hH hS [.int a1, .int (0 : Int32), .int r14] (t_X4_within l G σ a1 (0 : Int32) r14 r15  hr15) lk_X4_59 ⟨rfl, rfl, Nat.le_of_ble_eq_true rfl, Nat.le_of_ble_eq_true rfl⟩ ⟨Nat.zero_le _, Nat.zero_le _⟩ hl.1 rfl (Nat.le_of_ble_eq_true rfl) dX4_mayBeNumber_51 ?_
          refine gx_e0 (st := [.int r15]) ?_ rfl
          obtain ⟨hz16, hf⟩ := gx_chk hf
          obtain rfl := Option.some.inj hf
          exact gx_zretR C hr hlocks (Decidable.of_not_not hz16) dX4_mayBeNumber_54
        · have hf := gx_pos hc13 hf
          refine lv_bipush (v := (-100 : Int32)) hx hb dX4_mayBeNumber_38 (by decide) ?_
          refine lv_goto (tgt := 44) hx hb dX4_mayBeNumber_40 (by decide) ?_
          refine lv_istore_n (lv' := [(2, .int (-100 : Int32)), (0, .int a0), (1, .int a1)]) hx hb dX4_mayBeNumber_44 rfl hl (by decide) rfl (fun ls hl => ?_)
          refine lv_iload_n hx hb dX4_mayBeNumber_45 rfl (lv_at hl 2 rfl) ?_
          refine lv_iload_n hx hb dX4_mayBeNumber_46 rfl (lv_at hl 0 rfl) ?_
          refine lv_iload_n hx hb dX4_mayBeNumber_47 rfl (lv_at hl 1 rfl) ?_
          obtain ⟨r17, hr17, hf⟩ := gx_bnd hf
          refine gx_sR (v := (some (.int r17))) (rest := [.int (-100 : Int32), .int a1]) C hH hS [.int a0] (t_X4_mostOf l G σ a0 r17  hr17) lk_X4_68 ⟨rfl, rfl, Nat.le_of_ble_eq_true rfl, Nat.le_of_ble_eq_true rfl⟩ ⟨Nat.zero_le _, Nat.zero_le _⟩ hl.1 rfl (Nat.le_of_ble_eq_true rfl) dX4_mayBeNumber_48 ?_
          refine gx_e0 (st := [.int r17, .int (-100 : Int32), .int a1]) ?_ rfl
          obtain ⟨r18, hr18, hf⟩ := gx_bnd hf
          refine gx_sR (v := (some (.int r18))) (rest := []) C hH hS [.int a1, .int (-100 : Int32), .int r17] (t_X4_within l G σ a1 (-100 : Int32) r17 r18  hr18) lk_X4_59 ⟨rfl, rfl, Nat.le_of_ble_eq_true rfl, Nat.le_of_ble_eq_true rfl⟩ ⟨Nat.zero_le _, Nat.zero_le _⟩ hl.1 rfl (Nat.le_of_ble_eq_true rfl) dX4_mayBeNumber_51 ?_
          refine gx_e0 (st := [.int r18]) ?_ rfl
          obtain ⟨hz19, hf⟩ := gx_chk hf
          obtain rfl := Option.some.inj hf
          exact gx_zretR C hr hlocks (Decidable.of_not_not hz19) dX4_mayBeNumber_54
    · have hf := gx_pos hc7 hf
      refine lv_iload_n hx hb dX4_mayBeNumber_10 rfl (lv_at hl 1 rfl) ?_
      refine lv_bipush (v := (-9 : Int32)) hx hb dX4_mayBeNumber_11 (by decide) ?_
      refine lv_icmp_ne (tgt := 18) hx hb dX4_mayBeNumber_13 (by decide) (fun hc20 => ?_) (fun hc20 => ?_)
      · have hf := gx_neg hc20 hf
        refine lv_iload_n hx hb dX4_mayBeNumber_18 rfl (lv_at hl 0 rfl) ?_
        refine lv_if_ne (tgt := 26) hx hb dX4_mayBeNumber_19 (by decide) (fun hc21 => ?_) (fun hc21 => absurd hc21 hc1)
        refine lv_iload_n hx hb dX4_mayBeNumber_26 rfl (lv_at hl 0 rfl) ?_
        refine lv_bipush (v := (6 : Int32)) hx hb dX4_mayBeNumber_27 (by decide) ?_
        refine lv_icmp_eq (tgt := 38) hx hb dX4_mayBeNumber_29 (by decide) (fun hc22 => ?_) (fun hc22 => ?_)
        · have hf := gx_pos hc22 hf
          refine lv_bipush (v := (-100 : Int32)) hx hb dX4_mayBeNumber_38 (by decide) ?_
          refine lv_goto (tgt := 44) hx hb dX4_mayBeNumber_40 (by decide) ?_
          refine lv_istore_n (lv' := [(2, .int (-100 : Int32)), (0, .int a0), (1, .int a1)]) hx hb dX4_mayBeNumber_44 rfl hl (by decide) rfl (fun ls hl => ?_)
          refine lv_iload_n hx hb dX4_mayBeNumber_45 rfl (lv_at hl 2 rfl) ?_
          refine lv_iload_n hx hb dX4_mayBeNumber_46 rfl (lv_at hl 0 rfl) ?_
          refine lv_iload_n hx hb dX4_mayBeNumber_47 rfl (lv_at hl 1 rfl) ?_
          obtain ⟨r23, hr23, hf⟩ := gx_bnd hf
          refine gx_sR (v := (some (.int r23))) (rest := [.int (-100 : Int32), .int a1]) C hH hS [.int a0] (t_X4_mostOf l G σ a0 r23  hr23) lk_X4_68 ⟨rfl, rfl, Nat.le_of_ble_eq_true rfl, Nat.le_of_ble_eq_true rfl⟩ ⟨Nat.zero_le _, Nat.zero_le _⟩ hl.1 rfl (Nat.le_of_ble_eq_true rfl) dX4_mayBeNumber_48 ?_
          refine gx_e0 (st := [.int r23, .int (-100 : Int32), .int a1]) ?_ rfl
          obtain ⟨r24, hr24, hf⟩ := gx_bnd hf
          refine gx_sR (v := (some (.int r24))) (rest := []) C hH hS [.int a1, .int (-100 : Int32), .int r23] (t_X4_within l G σ a1 (-100 : Int32) r23 r24  hr24) lk_X4_59 ⟨rfl, rfl, Nat.le_of_ble_eq_true rfl, Nat.le_of_ble_eq_true rfl⟩ ⟨Nat.zero_le _, Nat.zero_le _⟩ hl.1 rfl (Nat.le_of_ble_eq_true rfl) dX4_mayBeNumber_51 ?_
          refine gx_e0 (st := [.int r24]) ?_ rfl
          obtain ⟨hz25, hf⟩ := gx_chk hf
          obtain rfl := Option.some.inj hf
          exact gx_zretR C hr hlocks (Decidable.of_not_not hz25) dX4_mayBeNumber_54
        · have hf := gx_neg hc22 hf
          refine lv_iload_n hx hb dX4_mayBeNumber_32 rfl (lv_at hl 0 rfl) ?_
          refine lv_bipush (v := (7 : Int32)) hx hb dX4_mayBeNumber_33 (by decide) ?_
          refine lv_icmp_ne (tgt := 43) hx hb dX4_mayBeNumber_35 (by decide) (fun hc26 => ?_) (fun hc26 => ?_)
          · have hf := gx_neg hc26 hf
            refine lv_iconst (v := (0 : Int32)) hx hb dX4_mayBeNumber_43 (by decide) ?_
            refine lv_istore_n (lv' := [(2, .int (0 : Int32)), (0, .int a0), (1, .int a1)]) hx hb dX4_mayBeNumber_44 rfl hl (by decide) rfl (fun ls hl => ?_)
            refine lv_iload_n hx hb dX4_mayBeNumber_45 rfl (lv_at hl 2 rfl) ?_
            refine lv_iload_n hx hb dX4_mayBeNumber_46 rfl (lv_at hl 0 rfl) ?_
            refine lv_iload_n hx hb dX4_mayBeNumber_47 rfl (lv_at hl 1 rfl) ?_
            obtain ⟨r27, hr27, hf⟩ := gx_bnd hf
            refine gx_sR (v := (some (.int r27))) (rest := [.int (0 : Int32), .int a1]) C hH hS [.int a0] (t_X4_mostOf l G σ a0 r27  hr27) lk_X4_68 ⟨rfl, rfl, Nat.le_of_ble_eq_true rfl, Nat.le_of_ble_eq_true rfl⟩ ⟨Nat.zero_le _, Nat.zero_le _⟩ hl.1 rfl (Nat.le_of_ble_eq_true rfl) dX4_mayBeNumber_48 ?_
            refine gx_e0 (st := [.int r27, .int (0 : Int32), .int a1]) ?_ rfl
            obtain ⟨r28, hr28, hf⟩ := gx_bnd hf
            refine gx_sR (v := (some (.int r28))) (rest := []) C hH hS [.int a1, .int (0 : Int32), .int r27] (t_X4_within l G σ a1 (0 : Int32) r27 r28  hr28) lk_X4_59 ⟨rfl, rfl, Nat.le_of_ble_eq_true rfl, Nat.le_of_ble_eq_true rfl⟩ ⟨Nat.zero_le _, Nat.zero_le _⟩ hl.1 rfl (Nat.le_of_ble_eq_true rfl) dX4_mayBeNumber_51 ?_
            refine gx_e0 (st := [.int r28]) ?_ rfl
            obtain ⟨hz29, hf⟩ := gx_chk hf
            obtain rfl := Option.some.inj hf
            exact gx_zretR C hr hlocks (Decidable.of_not_not hz29) dX4_mayBeNumber_54
          · have hf := gx_pos hc26 hf
            refine lv_bipush (v := (-100 : Int32)) hx hb dX4_mayBeNumber_38 (by decide) ?_
            refine lv_goto (tgt := 44) hx hb dX4_mayBeNumber_40 (by decide) ?_
            refine lv_istore_n (lv' := [(2, .int (-100 : Int32)), (0, .int a0), (1, .int a1)]) hx hb dX4_mayBeNumber_44 rfl hl (by decide) rfl (fun ls hl => ?_)
            refine lv_iload_n hx hb dX4_mayBeNumber_45 rfl (lv_at hl 2 rfl) ?_
            refine lv_iload_n hx hb dX4_mayBeNumber_46 rfl (lv_at hl 0 rfl) ?_
            refine lv_iload_n hx hb dX4_mayBeNumber_47 rfl (lv_at hl 1 rfl) ?_
            obtain ⟨r30, hr30, hf⟩ := gx_bnd hf
            refine gx_sR (v := (some (.int r30))) (rest := [.int (-100 : Int32), .int a1]) C hH hS [.int a0] (t_X4_mostOf l G σ a0 r30  hr30) lk_X4_68 ⟨rfl, rfl, Nat.le_of_ble_eq_true rfl, Nat.le_of_ble_eq_true rfl⟩ ⟨Nat.zero_le _, Nat.zero_le _⟩ hl.1 rfl (Nat.le_of_ble_eq_true rfl) dX4_mayBeNumber_48 ?_
            refine gx_e0 (st := [.int r30, .int (-100 : Int32), .int a1]) ?_ rfl
            obtain ⟨r31, hr31, hf⟩ := gx_bnd hf
            refine gx_sR (v := (some (.int r31))) (rest := []) C hH hS [.int a1, .int (-100 : Int32), .int r30] (t_X4_within l G σ a1 (-100 : Int32) r30 r31  hr31) lk_X4_59 ⟨rfl, rfl, Nat.le_of_ble_eq_true rfl, Nat.le_of_ble_eq_true rfl⟩ ⟨Nat.zero_le _, Nat.zero_le _⟩ hl.1 rfl (Nat.le_of_ble_eq_true rfl) dX4_mayBeNumber_51 ?_
            refine gx_e0 (st := [.int r31]) ?_ rfl
            obtain ⟨hz32, hf⟩ := gx_chk hf
            obtain rfl := Option.some.inj hf
            exact gx_zretR C hr hlocks (Decidable.of_not_not hz32) dX4_mayBeNumber_54
      · have hf := gx_pos hc20 hf
        refine lv_iconst (v := (1 : Int32)) hx hb dX4_mayBeNumber_16 (by decide) ?_
        obtain rfl := Option.some.inj hf
        exact gx_zretR C hr hlocks (by decide) dX4_mayBeNumber_17
abbrev rm_X4_tellNumber : Room := { frames := 1, cells := 0, slots := 0, locals := 22 }
def f_X4_tellNumber (σ : gx_St) (a1 a2 : Int32) : Option Int32 :=
  (f_X4_numberOf σ a1 a2).bind fun r1 =>
  if a2 = (6 : Int32) then (some (r1 + (10000 : Int32))) else (if a2 = (7 : Int32) then (some (r1 + (10000 : Int32))) else (some (r1 + (0 : Int32))))
set_option maxHeartbeats 4000000 in
set_option maxRecDepth 100000 in
theorem t_X4_tellNumber (l : Launch) (G : gx_G) (σ : gx_St) (a1 a2 : Int32) (r : Int32)  (hf : f_X4_tellNumber σ a1 a2 = some r) : Met l yX4_tellNumber (Cond.code yX4_tellNumber cX4_tellNumber 3 (some .int) :: wT) rm_X4_tellNumber (va_Pc [.ref (gx_q G 0), .int a1, .int a2] (gx_S G 13 (gm_mk G) σ)) (gx_QR (some (.int r))) 0 0 (fun _ => False) := by
  refine Met.ofW (cc := cX4_tellNumber) (maxL := 3) (ret := (some .int)) (by decide) rfl ?_
  intro p e s m args below meth c s₁ B hml hv
  obtain ⟨rfl, hH, hE⟩ := hv
  have C := gx_C.of (G := G) B hml hE
  have hx := C.1.1
  have hb := C.1.2.1
  have hr := B.returns
  have hlocks := B.notSynchronized
  have hS : va_S (gx_A G) s.heap s.heap [] := va_S.rf
  have hl := lv_entry ([.ref (gx_q G 0), .int a1, .int a2]) (n := 3) (Nat.le_of_ble_eq_true rfl)
  rw [lg_entry_eq]
  generalize (lg_sl ([.ref (gx_q G 0), .int a1, .int a2]) ++ List.replicate (3 - (lg_sl ([.ref (gx_q G 0), .int a1, .int a2])).length) Slot.unset).toArray = ls at hl ⊢
  have hl : lv_has ls 3 [(0, .ref (gx_q G 0)), (1, .int a1), (2, .int a2)] := hl
  unfold f_X4_tellNumber at hf
  refine lv_aload_n hx hb dX4_tellNumber_0 rfl (lv_at hl 0 rfl) ?_
  refine lv_iload_n hx hb dX4_tellNumber_1 rfl (lv_at hl 1 rfl) ?_
  refine lv_iload_n hx hb dX4_tellNumber_2 rfl (lv_at hl 2 rfl) ?_
  obtain ⟨r1, hr1, hf⟩ := gx_bnd hf
  refine gx_vR (v := (some (.int r1))) (rest := []) C hH hS 0 (by decide) rfl rfl [.int a1, .int a2] (t_X4_numberOf l G σ a1 a2 r1  hr1) lk_X4_72 ⟨rfl, rfl, Nat.le_of_ble_eq_true rfl, Nat.le_of_ble_eq_true rfl⟩ ⟨Nat.zero_le _, Nat.zero_le _⟩ hl.1 rfl (Nat.le_of_ble_eq_true rfl) dX4_tellNumber_3 ?_
  refine gx_e0 (st := [.int r1]) ?_ rfl
  refine lv_iload_n hx hb dX4_tellNumber_6 rfl (lv_at hl 2 rfl) ?_
  refine lv_bipush (v := (6 : Int32)) hx hb dX4_tellNumber_7 (by decide) ?_
  refine lv_icmp_eq (tgt := 18) hx hb dX4_tellNumber_9 (by decide) (fun hc2 => ?_) (fun hc2 => ?_)
  · have hf := gx_pos hc2 hf
    refine lv_sipush (v := (10000 : Int32)) hx hb dX4_tellNumber_18 (by decide) ?_
    refine lv_goto (tgt := 25) hx hb dX4_tellNumber_21 (by decide) ?_
    refine lv_iadd hx hb dX4_tellNumber_25 ?_
    obtain rfl := Option.some.inj hf
    exact gx_iretR C hr hlocks dX4_tellNumber_26
  · have hf := gx_neg hc2 hf
    refine lv_iload_n hx hb dX4_tellNumber_12 rfl (lv_at hl 2 rfl) ?_
    refine lv_bipush (v := (7 : Int32)) hx hb dX4_tellNumber_13 (by decide) ?_
    refine lv_icmp_ne (tgt := 24) hx hb dX4_tellNumber_15 (by decide) (fun hc3 => ?_) (fun hc3 => ?_)
    · have hf := gx_neg hc3 hf
      refine lv_iconst (v := (0 : Int32)) hx hb dX4_tellNumber_24 (by decide) ?_
      refine lv_iadd hx hb dX4_tellNumber_25 ?_
      obtain rfl := Option.some.inj hf
      exact gx_iretR C hr hlocks dX4_tellNumber_26
    · have hf := gx_pos hc3 hf
      refine lv_sipush (v := (10000 : Int32)) hx hb dX4_tellNumber_18 (by decide) ?_
      refine lv_goto (tgt := 25) hx hb dX4_tellNumber_21 (by decide) ?_
      refine lv_iadd hx hb dX4_tellNumber_25 ?_
      obtain rfl := Option.some.inj hf
      exact gx_iretR C hr hlocks dX4_tellNumber_26
abbrev rm_X4_set : Room := { frames := 2, cells := 0, slots := 0, locals := 44 }
def f_X4_set (σ : gx_St) (a1 a2 a3 : Int32) : Option (Int32 × gx_St) :=
  (f_X4_isEffect σ a1).bind fun r1 =>
  if r1 = 0 then (some ((-1 : Int32), σ)) else ((f_X4_within a2 (0 : Int32) (11 : Int32)).bind fun r3 =>
  if r3 = 0 then (some ((-2 : Int32), σ)) else ((f_X4_mayBeNumber a2 a3).bind fun r5 =>
  if r5 = 0 then (some ((-2 : Int32), σ)) else ((f_X4_tellNumber σ a1 a2).bind fun r7 =>
  if ((((12 : Int32) * a1) + a2) < 0 ∨ 144 ≤ (((12 : Int32) * a1) + a2).toNatClampNeg) then none else
  gx_lt (gx_w2 σ (8) (((12 : Int32) * a1) + a2).toNatClampNeg a3) fun σ9 =>
  some (r7, σ9))))
set_option maxHeartbeats 4000000 in
set_option maxRecDepth 100000 in
theorem t_X4_set (l : Launch) (G : gx_G) (hG : gx_D G 13) (σ : gx_St) (a1 a2 a3 : Int32) (r : Int32) (σ' : gx_St)  (hf : f_X4_set σ a1 a2 a3 = some (r, σ')) : Met l yX4_set (Cond.code yX4_set cX4_set 5 (some .int) :: wT) rm_X4_set (va_Pc [.ref (gx_q G 0), .int a1, .int a2, .int a3] (gx_S G 13 (gm_mk G) σ)) (gx_QM G 13 (gm_mk G) (some (.int r)) σ') 0 0 (gx_A G) := by
  refine Met.ofW (cc := cX4_set) (maxL := 5) (ret := (some .int)) (by decide) rfl ?_
  intro p e s m args below meth c s₁ B hml hv
  obtain ⟨rfl, hH, hE⟩ := hv
  have C := gx_C.of (G := G) B hml hE
  have hx := C.1.1
  have hb := C.1.2.1
  have hr := B.returns
  have hlocks := B.notSynchronized
  have hS : va_S (gx_A G) s.heap s.heap [] := va_S.rf
  have hl := lv_entry ([.ref (gx_q G 0), .int a1, .int a2, .int a3]) (n := 5) (Nat.le_of_ble_eq_true rfl)
  rw [lg_entry_eq]
  generalize (lg_sl ([.ref (gx_q G 0), .int a1, .int a2, .int a3]) ++ List.replicate (5 - (lg_sl ([.ref (gx_q G 0), .int a1, .int a2, .int a3])).length) Slot.unset).toArray = ls at hl ⊢
  have hl : lv_has ls 5 [(0, .ref (gx_q G 0)), (1, .int a1), (2, .int a2), (3, .int a3)] := hl
  unfold f_X4_set at hf
  refine lv_aload_n hx hb dX4_set_0 rfl (lv_at hl 0 rfl) ?_
  refine lv_iload_n hx hb dX4_set_1 rfl (lv_at hl 1 rfl) ?_
  obtain ⟨r1, hr1, hf⟩ := gx_bnd hf
  refine gx_vR (v := (some (.int r1))) (rest := []) C hH hS 0 (by decide) rfl rfl [.int a1] (t_X4_isEffect l G σ a1 r1  hr1) lk_X4_76 ⟨rfl, rfl, Nat.le_of_ble_eq_true rfl, Nat.le_of_ble_eq_true rfl⟩ ⟨Nat.zero_le _, Nat.zero_le _⟩ hl.1 rfl (Nat.le_of_ble_eq_true rfl) dX4_set_2 ?_
  refine gx_e0 (st := [.int r1]) ?_ rfl
  refine lv_if_ne (tgt := 10) hx hb dX4_set_5 (by decide) (fun hc2 => ?_) (fun hc2 => ?_)
  · have hf := gx_neg hc2 hf
    refine lv_iload_n hx hb dX4_set_10 rfl (lv_at hl 2 rfl) ?_
    refine lv_iconst (v := (0 : Int32)) hx hb dX4_set_11 (by decide) ?_
    refine lv_bipush (v := (11 : Int32)) hx hb dX4_set_12 (by decide) ?_
    obtain ⟨r3, hr3, hf⟩ := gx_bnd hf
    refine gx_sR (v := (some (.int r3))) (rest := []) C hH hS [.int a2, .int (0 : Int32), .int (11 : Int32)] (t_X4_within l G σ a2 (0 : Int32) (11 : Int32) r3  hr3) lk_X4_59 ⟨rfl, rfl, Nat.le_of_ble_eq_true rfl, Nat.le_of_ble_eq_true rfl⟩ ⟨Nat.zero_le _, Nat.zero_le _⟩ hl.1 rfl (Nat.le_of_ble_eq_true rfl) dX4_set_14 ?_
    refine gx_e0 (st := [.int r3]) ?_ rfl
    refine lv_if_eq (tgt := 28) hx hb dX4_set_17 (by decide) (fun hc4 => ?_) (fun hc4 => ?_)
    · have hf := gx_pos hc4 hf
      refine lv_bipush (v := (-2 : Int32)) hx hb dX4_set_28 (by decide) ?_
      cases hf
      exact gx_iretM C hr hlocks hH hS dX4_set_30
    · have hf := gx_neg hc4 hf
      refine lv_iload_n hx hb dX4_set_20 rfl (lv_at hl 2 rfl) ?_
      refine lv_iload_n hx hb dX4_set_21 rfl (lv_at hl 3 rfl) ?_
      obtain ⟨r5, hr5, hf⟩ := gx_bnd hf
      refine gx_sR (v := (some (.int r5))) (rest := []) C hH hS [.int a2, .int a3] (t_X4_mayBeNumber l G σ a2 a3 r5  hr5) lk_X4_80 ⟨rfl, rfl, Nat.le_of_ble_eq_true rfl, Nat.le_of_ble_eq_true rfl⟩ ⟨Nat.zero_le _, Nat.zero_le _⟩ hl.1 rfl (Nat.le_of_ble_eq_true rfl) dX4_set_22 ?_
      refine gx_e0 (st := [.int r5]) ?_ rfl
      refine lv_if_ne (tgt := 31) hx hb dX4_set_25 (by decide) (fun hc6 => ?_) (fun hc6 => ?_)
      · have hf := gx_neg hc6 hf
        refine lv_aload_n hx hb dX4_set_31 rfl (lv_at hl 0 rfl) ?_
        refine lv_iload_n hx hb dX4_set_32 rfl (lv_at hl 1 rfl) ?_
        refine lv_iload_n hx hb dX4_set_33 rfl (lv_at hl 2 rfl) ?_
        obtain ⟨r7, hr7, hf⟩ := gx_bnd hf
        refine gx_vR (v := (some (.int r7))) (rest := []) C hH hS 0 (by decide) rfl rfl [.int a1, .int a2] (t_X4_tellNumber l G σ a1 a2 r7  hr7) lk_X4_84 ⟨rfl, rfl, Nat.le_of_ble_eq_true rfl, Nat.le_of_ble_eq_true rfl⟩ ⟨Nat.zero_le _, Nat.zero_le _⟩ hl.1 rfl (Nat.le_of_ble_eq_true rfl) dX4_set_34 ?_
        refine gx_e0 (st := [.int r7]) ?_ rfl
        refine lv_istore (lv' := [(4, .int r7), (0, .ref (gx_q G 0)), (1, .int a1), (2, .int a2), (3, .int a3)]) hx hb dX4_set_37 hl (by decide) rfl (fun ls hl => ?_)
        refine lv_aload_n hx hb dX4_set_39 rfl (lv_at hl 1 rfl) ?_
        refine gx_get C hH 0 (by decide) rfl fl_X4_31 rfl dX4_set_40 ?_
        refine lv_bipush (v := (12 : Int32)) hx hb dX4_set_43 (by decide) ?_
        refine lv_iload_n hx hb dX4_set_45 rfl (lv_at hl 2 rfl) ?_
        refine lv_imul hx hb dX4_set_46 ?_
        refine lv_iload_n hx hb dX4_set_47 rfl (lv_at hl 3 rfl) ?_
        refine lv_iadd hx hb dX4_set_48 ?_
        refine lv_iload_n hx hb dX4_set_49 rfl (lv_at hl 4 rfl) ?_
        obtain ⟨hb8, hf⟩ := gx_chk hf
        refine gx_iast C hG hH hS (8) (by decide) (fun _ => rfl) hb8 dX4_set_50 (fun H locs σ9 hσ9 hH hS => ?_)
        have hf := gx_let hf σ9 hσ9
        refine lv_iload hx hb dX4_set_51 (lv_at hl 0 rfl) ?_
        cases hf
        exact gx_iretM C hr hlocks hH hS dX4_set_53
      · have hf := gx_pos hc6 hf
        refine lv_bipush (v := (-2 : Int32)) hx hb dX4_set_28 (by decide) ?_
        cases hf
        exact gx_iretM C hr hlocks hH hS dX4_set_30
  · have hf := gx_pos hc2 hf
    refine lv_iconst (v := (-1 : Int32)) hx hb dX4_set_8 (by decide) ?_
    cases hf
    exact gx_iretM C hr hlocks hH hS dX4_set_9
abbrev rm_X4_slotOf : Room := { frames := 0, cells := 0, slots := 0, locals := 0 }
def fL_X4_slotOf_2 : Nat → gx_St → Int32 → Int32 → Option Int32
  | 0, _, _, _ => none
  | N + 1, σ, v1, v2 =>
    if (6 : Int32) ≤ v2 then (some (-9 : Int32)) else (if (v2 < 0 ∨ 6 ≤ v2.toNatClampNeg) then none else
    if (σ (10) v2.toNatClampNeg) = v1 then (some v2) else (gx_lt (v2 + (1 : Int32)) fun x4 =>
    fL_X4_slotOf_2 N σ v1 x4))
set_option maxHeartbeats 4000000 in
set_option maxRecDepth 100000 in
theorem w_X4_slotOf_2 {p : Program} {l : Launch} {e : Env} {s : State} {m : MethodId} {args : Array Value} {below : List Frame} {meth : Method} {c : Code} (G : gx_G) (C : gx_C p m c cX4_slotOf 3 s args RX4 G) (hr : meth.sig.returnType = (some .int)) (hlocks : meth.locks = false) (σ : gx_St) (hH : gx_H G 13 (gm_mk G) σ s.heap) : ∀ (N : Nat) (v1 v2 : Int32)  (z : Int32), fL_X4_slotOf_2 N σ v1 v2 = some z → ∀ (ls : Array Slot), lv_has ls 3 [(0, .ref (gx_q G 0)), (1, .int v1), (2, .int v2)] → W p l e rm_X4_slotOf s m args below meth c s.heap [] 0 0 (MQ below (gx_QR (some (.int z))) args s 0 0 (fun _ => False)) (F0 m 2 ls []) := by
  have hx := C.1.1
  have hb := C.1.2.1
  have hS : va_S (gx_A G) s.heap s.heap [] := va_S.rf
  intro N
  induction N with
  | zero =>
    intro v1 v2  z hf ls hl
    cases (show (none : Option Int32) = some z from hf)
  | succ N ih =>
    intro v1 v2  z hf ls hl
    rw [fL_X4_slotOf_2] at hf
    refine lv_iload_n hx hb dX4_slotOf_2 rfl (lv_at hl 2 rfl) ?_
    refine lv_bipush (v := (6 : Int32)) hx hb dX4_slotOf_3 (by decide) ?_
    refine lv_icmp_ge (tgt := 26) hx hb dX4_slotOf_5 (by decide) (fun hc1 => ?_) (fun hc1 => ?_)
    · have hf := gx_pos hc1 hf
      refine lv_bipush (v := (-9 : Int32)) hx hb dX4_slotOf_26 (by decide) ?_
      obtain rfl := Option.some.inj hf
      exact gx_iretR C hr hlocks dX4_slotOf_28
    · have hf := gx_neg hc1 hf
      refine lv_aload_n hx hb dX4_slotOf_8 rfl (lv_at hl 0 rfl) ?_
      refine gx_get C hH 0 (by decide) rfl fl_X4_41 rfl dX4_slotOf_9 ?_
      refine lv_iload_n hx hb dX4_slotOf_12 rfl (lv_at hl 2 rfl) ?_
      obtain ⟨hb2, hf⟩ := gx_chk hf
      refine gx_iald C hH (10) (by decide) rfl hb2 dX4_slotOf_13 ?_
      refine lv_iload_n hx hb dX4_slotOf_14 rfl (lv_at hl 1 rfl) ?_
      refine lv_icmp_ne (tgt := 20) hx hb dX4_slotOf_15 (by decide) (fun hc3 => ?_) (fun hc3 => ?_)
      · have hf := gx_neg hc3 hf
        obtain ⟨x4, hx4⟩ : ∃ z : Int32, z = (v2 + (1 : Int32)) := ⟨_, rfl⟩
        have hf := gx_let hf x4 hx4
        refine lv_iinc (v := x4) (lv' := [(2, .int x4), (0, .ref (gx_q G 0)), (1, .int v1)]) hx hb dX4_slotOf_20 hl (k := 2) rfl (by rw [hx4]; rfl) (by decide) rfl (fun ls hl => ?_)
        refine lv_goto (tgt := 2) hx hb dX4_slotOf_23 (by decide) ?_
        exact ih v1 x4  _ hf ls (lv_sub hl [1, 2, 0] rfl)
      · have hf := gx_pos hc3 hf
        refine lv_iload_n hx hb dX4_slotOf_18 rfl (lv_at hl 2 rfl) ?_
        obtain rfl := Option.some.inj hf
        exact gx_iretR C hr hlocks dX4_slotOf_19
def f_X4_slotOf (σ : gx_St) (a1 : Int32) : Option Int32 :=
  fL_X4_slotOf_2 7 σ a1 (0 : Int32)
set_option maxHeartbeats 4000000 in
set_option maxRecDepth 100000 in
theorem t_X4_slotOf (l : Launch) (G : gx_G) (σ : gx_St) (a1 : Int32) (r : Int32)  (hf : f_X4_slotOf σ a1 = some r) : Met l yX4_slotOf (Cond.code yX4_slotOf cX4_slotOf 3 (some .int) :: wT) rm_X4_slotOf (va_Pc [.ref (gx_q G 0), .int a1] (gx_S G 13 (gm_mk G) σ)) (gx_QR (some (.int r))) 0 0 (fun _ => False) := by
  refine Met.ofW (cc := cX4_slotOf) (maxL := 3) (ret := (some .int)) (by decide) rfl ?_
  intro p e s m args below meth c s₁ B hml hv
  obtain ⟨rfl, hH, hE⟩ := hv
  have C := gx_C.of (G := G) B hml hE
  have hx := C.1.1
  have hb := C.1.2.1
  have hr := B.returns
  have hlocks := B.notSynchronized
  have hS : va_S (gx_A G) s.heap s.heap [] := va_S.rf
  have hl := lv_entry ([.ref (gx_q G 0), .int a1]) (n := 3) (Nat.le_of_ble_eq_true rfl)
  rw [lg_entry_eq]
  generalize (lg_sl ([.ref (gx_q G 0), .int a1]) ++ List.replicate (3 - (lg_sl ([.ref (gx_q G 0), .int a1])).length) Slot.unset).toArray = ls at hl ⊢
  have hl : lv_has ls 3 [(0, .ref (gx_q G 0)), (1, .int a1)] := hl
  unfold f_X4_slotOf at hf
  refine lv_iconst (v := (0 : Int32)) hx hb dX4_slotOf_0 (by decide) ?_
  refine lv_istore_n (lv' := [(2, .int (0 : Int32)), (0, .ref (gx_q G 0)), (1, .int a1)]) hx hb dX4_slotOf_1 rfl hl (by decide) rfl (fun ls hl => ?_)
  exact w_X4_slotOf_2 (l := l) G C hr hlocks σ hH 7 a1 (0 : Int32)  _ hf ls (lv_sub hl [1, 2, 0] rfl)
abbrev rm_X4_goes : Room := { frames := 1, cells := 0, slots := 0, locals := 22 }
def fL_X4_goes_30 : Nat → gx_St → Int32 → Int32 → Option gx_St
  | 0, _, _, _ => none
  | N + 1, σ, v1, v3 =>
    if (4 : Int32) ≤ v3 then (some σ) else (if ((((12 : Int32) * v3) + v1) < 0 ∨ 48 ≤ (((12 : Int32) * v3) + v1).toNatClampNeg) then none else
    gx_lt (gx_w2 σ (12) (((12 : Int32) * v3) + v1).toNatClampNeg (0 : Int32)) fun σ7 =>
    gx_lt (v3 + (1 : Int32)) fun x8 =>
    fL_X4_goes_30 N σ7 v1 x8)
set_option maxHeartbeats 4000000 in
set_option maxRecDepth 100000 in
theorem w_X4_goes_30 {p : Program} {l : Launch} {e : Env} {s : State} {m : MethodId} {args : Array Value} {below : List Frame} {meth : Method} {c : Code} (G : gx_G) (hG : gx_D G 13) (C : gx_C p m c cX4_goes 4 s args RX4 G) (hr : meth.sig.returnType = none) (hlocks : meth.locks = false) : ∀ (N : Nat) (σ : gx_St) (v1 v3 : Int32)  (z : gx_St), fL_X4_goes_30 N σ v1 v3 = some z → ∀ (H : Heap) (locs : List Loc) (ls : Array Slot), gx_H G 13 (gm_mk G) σ H → va_S (gx_A G) s.heap H locs → lv_has ls 4 [(0, .ref (gx_q G 0)), (1, .int v1), (3, .int v3)] → W p l e rm_X4_goes s m args below meth c H locs 0 0 (MQ below (gx_QM G 13 (gm_mk G) none z) args s 0 0 (gx_A G)) (F0 m 30 ls []) := by
  have hx := C.1.1
  have hb := C.1.2.1
  intro N
  induction N with
  | zero =>
    intro σ v1 v3  z hf H locs ls hH hS hl
    cases (show (none : Option gx_St) = some z from hf)
  | succ N ih =>
    intro σ v1 v3  z hf H locs ls hH hS hl
    rw [fL_X4_goes_30] at hf
    refine lv_iload_n hx hb dX4_goes_30 rfl (lv_at hl 2 rfl) ?_
    refine lv_iconst (v := (4 : Int32)) hx hb dX4_goes_31 (by decide) ?_
    refine lv_icmp_ge (tgt := 53) hx hb dX4_goes_32 (by decide) (fun hc5 => ?_) (fun hc5 => ?_)
    · have hf := gx_pos hc5 hf
      cases hf
      exact gx_vretM C hr hlocks hH hS dX4_goes_53
    · have hf := gx_neg hc5 hf
      refine lv_aload_n hx hb dX4_goes_35 rfl (lv_at hl 0 rfl) ?_
      refine gx_get C hH 0 (by decide) rfl fl_X4_47 rfl dX4_goes_36 ?_
      refine lv_bipush (v := (12 : Int32)) hx hb dX4_goes_39 (by decide) ?_
      refine lv_iload_n hx hb dX4_goes_41 rfl (lv_at hl 2 rfl) ?_
      refine lv_imul hx hb dX4_goes_42 ?_
      refine lv_iload_n hx hb dX4_goes_43 rfl (lv_at hl 1 rfl) ?_
      refine lv_iadd hx hb dX4_goes_44 ?_
      refine lv_iconst (v := (0 : Int32)) hx hb dX4_goes_45 (by decide) ?_
      obtain ⟨hb6, hf⟩ := gx_chk hf
      refine gx_iast C hG hH hS (12) (by decide) (fun _ => rfl) hb6 dX4_goes_46 (fun H locs σ7 hσ7 hH hS => ?_)
      have hf := gx_let hf σ7 hσ7
      obtain ⟨x8, hx8⟩ : ∃ z : Int32, z = (v3 + (1 : Int32)) := ⟨_, rfl⟩
      have hf := gx_let hf x8 hx8
      refine lv_iinc (v := x8) (lv' := [(3, .int x8), (0, .ref (gx_q G 0)), (1, .int v1)]) hx hb dX4_goes_47 hl (k := 2) rfl (by rw [hx8]; rfl) (by decide) rfl (fun ls hl => ?_)
      refine lv_goto (tgt := 30) hx hb dX4_goes_50 (by decide) ?_
      exact ih σ7 v1 x8  _ hf _ _ ls hH hS (lv_sub hl [1, 2, 0] rfl)
def f_X4_goes (σ : gx_St) (a1 : Int32) : Option gx_St :=
  (f_X4_slotOf σ a1).bind fun r1 =>
  if r1 = (-9 : Int32) then (if (a1 < 0 ∨ 12 ≤ a1.toNatClampNeg) then none else
  gx_lt (gx_w2 σ (9) a1.toNatClampNeg (-9 : Int32)) fun σ4 =>
  fL_X4_goes_30 5 σ4 a1 (0 : Int32)) else (if (r1 < 0 ∨ 6 ≤ r1.toNatClampNeg) then none else
  gx_lt (gx_w2 σ (10) r1.toNatClampNeg (-9 : Int32)) fun σ10 =>
  if (a1 < 0 ∨ 12 ≤ a1.toNatClampNeg) then none else
  gx_lt (gx_w2 σ10 (9) a1.toNatClampNeg (-9 : Int32)) fun σ12 =>
  fL_X4_goes_30 5 σ12 a1 (0 : Int32))
set_option maxHeartbeats 4000000 in
set_option maxRecDepth 100000 in
theorem t_X4_goes (l : Launch) (G : gx_G) (hG : gx_D G 13) (σ : gx_St) (a1 : Int32) (σ' : gx_St)  (hf : f_X4_goes σ a1 = some σ') : Met l yX4_goes (Cond.code yX4_goes cX4_goes 4 none :: wT) rm_X4_goes (va_Pc [.ref (gx_q G 0), .int a1] (gx_S G 13 (gm_mk G) σ)) (gx_QM G 13 (gm_mk G) none σ') 0 0 (gx_A G) := by
  refine Met.ofW (cc := cX4_goes) (maxL := 4) (ret := none) (by decide) rfl ?_
  intro p e s m args below meth c s₁ B hml hv
  obtain ⟨rfl, hH, hE⟩ := hv
  have C := gx_C.of (G := G) B hml hE
  have hx := C.1.1
  have hb := C.1.2.1
  have hr := B.returns
  have hlocks := B.notSynchronized
  have hS : va_S (gx_A G) s.heap s.heap [] := va_S.rf
  have hl := lv_entry ([.ref (gx_q G 0), .int a1]) (n := 4) (Nat.le_of_ble_eq_true rfl)
  rw [lg_entry_eq]
  generalize (lg_sl ([.ref (gx_q G 0), .int a1]) ++ List.replicate (4 - (lg_sl ([.ref (gx_q G 0), .int a1])).length) Slot.unset).toArray = ls at hl ⊢
  have hl : lv_has ls 4 [(0, .ref (gx_q G 0)), (1, .int a1)] := hl
  unfold f_X4_goes at hf
  refine lv_aload_n hx hb dX4_goes_0 rfl (lv_at hl 0 rfl) ?_
  refine lv_iload_n hx hb dX4_goes_1 rfl (lv_at hl 1 rfl) ?_
  obtain ⟨r1, hr1, hf⟩ := gx_bnd hf
  refine gx_vR (v := (some (.int r1))) (rest := []) C hH hS 0 (by decide) rfl rfl [.int a1] (t_X4_slotOf l G σ a1 r1  hr1) lk_X4_105 ⟨rfl, rfl, Nat.le_of_ble_eq_true rfl, Nat.le_of_ble_eq_true rfl⟩ ⟨Nat.zero_le _, Nat.zero_le _⟩ hl.1 rfl (Nat.le_of_ble_eq_true rfl) dX4_goes_2 ?_
  refine gx_e0 (st := [.int r1]) ?_ rfl
  refine lv_istore_n (lv' := [(2, .int r1), (0, .ref (gx_q G 0)), (1, .int a1)]) hx hb dX4_goes_5 rfl hl (by decide) rfl (fun ls hl => ?_)
  refine lv_iload_n hx hb dX4_goes_6 rfl (lv_at hl 0 rfl) ?_
  refine lv_bipush (v := (-9 : Int32)) hx hb dX4_goes_7 (by decide) ?_
  refine lv_icmp_eq (tgt := 20) hx hb dX4_goes_9 (by decide) (fun hc2 => ?_) (fun hc2 => ?_)
  · have hf := gx_pos hc2 hf
    refine lv_aload_n hx hb dX4_goes_20 rfl (lv_at hl 1 rfl) ?_
    refine gx_get C hH 0 (by decide) rfl fl_X4_34 rfl dX4_goes_21 ?_
    refine lv_iload_n hx hb dX4_goes_24 rfl (lv_at hl 2 rfl) ?_
    refine lv_bipush (v := (-9 : Int32)) hx hb dX4_goes_25 (by decide) ?_
    obtain ⟨hb3, hf⟩ := gx_chk hf
    refine gx_iast C hG hH hS (9) (by decide) (fun _ => rfl) hb3 dX4_goes_27 (fun H locs σ4 hσ4 hH hS => ?_)
    have hf := gx_let hf σ4 hσ4
    refine lv_iconst (v := (0 : Int32)) hx hb dX4_goes_28 (by decide) ?_
    refine lv_istore_n (lv' := [(3, .int (0 : Int32)), (2, .int r1), (0, .ref (gx_q G 0)), (1, .int a1)]) hx hb dX4_goes_29 rfl hl (by decide) rfl (fun ls hl => ?_)
    exact w_X4_goes_30 (l := l) G hG C hr hlocks 5 σ4 a1 (0 : Int32)  _ hf _ _ ls hH hS (lv_sub hl [2, 3, 0] rfl)
  · have hf := gx_neg hc2 hf
    refine lv_aload_n hx hb dX4_goes_12 rfl (lv_at hl 1 rfl) ?_
    refine gx_get C hH 0 (by decide) rfl fl_X4_41 rfl dX4_goes_13 ?_
    refine lv_iload_n hx hb dX4_goes_16 rfl (lv_at hl 0 rfl) ?_
    refine lv_bipush (v := (-9 : Int32)) hx hb dX4_goes_17 (by decide) ?_
    obtain ⟨hb9, hf⟩ := gx_chk hf
    refine gx_iast C hG hH hS (10) (by decide) (fun _ => rfl) hb9 dX4_goes_19 (fun H locs σ10 hσ10 hH hS => ?_)
    have hf := gx_let hf σ10 hσ10
    refine lv_aload_n hx hb dX4_goes_20 rfl (lv_at hl 1 rfl) ?_
    refine gx_get C hH 0 (by decide) rfl fl_X4_34 rfl dX4_goes_21 ?_
    refine lv_iload_n hx hb dX4_goes_24 rfl (lv_at hl 2 rfl) ?_
    refine lv_bipush (v := (-9 : Int32)) hx hb dX4_goes_25 (by decide) ?_
    obtain ⟨hb11, hf⟩ := gx_chk hf
    refine gx_iast C hG hH hS (9) (by decide) (fun _ => rfl) hb11 dX4_goes_27 (fun H locs σ12 hσ12 hH hS => ?_)
    have hf := gx_let hf σ12 hσ12
    refine lv_iconst (v := (0 : Int32)) hx hb dX4_goes_28 (by decide) ?_
    refine lv_istore_n (lv' := [(3, .int (0 : Int32)), (2, .int r1), (0, .ref (gx_q G 0)), (1, .int a1)]) hx hb dX4_goes_29 rfl hl (by decide) rfl (fun ls hl => ?_)
    exact w_X4_goes_30 (l := l) G hG C hr hlocks 5 σ12 a1 (0 : Int32)  _ hf _ _ ls hH hS (lv_sub hl [2, 3, 0] rfl)
abbrev rm_X4_drop : Room := { frames := 2, cells := 0, slots := 0, locals := 45 }
def f_X4_drop (σ : gx_St) : Option (Int32 × gx_St) :=
  if (σ 0 4) = 0 then (some ((-3 : Int32), σ)) else ((f_X4_goes σ ((σ 0 4) - (1 : Int32))).bind fun σ2 =>
  gx_lt (gx_w2 σ2 0 4 ((σ2 0 4) - (1 : Int32))) fun σ4 =>
  some ((σ4 0 4), σ4))
set_option maxHeartbeats 4000000 in
set_option maxRecDepth 100000 in
theorem t_X4_drop (l : Launch) (G : gx_G) (hG : gx_D G 13) (σ : gx_St) (r : Int32) (σ' : gx_St)  (hf : f_X4_drop σ = some (r, σ')) : Met l yX4_drop (Cond.code yX4_drop cX4_drop 1 (some .int) :: wT) rm_X4_drop (va_Pc [.ref (gx_q G 0)] (gx_S G 13 (gm_mk G) σ)) (gx_QM G 13 (gm_mk G) (some (.int r)) σ') 0 0 (gx_A G) := by
  refine Met.ofW (cc := cX4_drop) (maxL := 1) (ret := (some .int)) (by decide) rfl ?_
  intro p e s m args below meth c s₁ B hml hv
  obtain ⟨rfl, hH, hE⟩ := hv
  have C := gx_C.of (G := G) B hml hE
  have hx := C.1.1
  have hb := C.1.2.1
  have hr := B.returns
  have hlocks := B.notSynchronized
  have hS : va_S (gx_A G) s.heap s.heap [] := va_S.rf
  have hl := lv_entry ([.ref (gx_q G 0)]) (n := 1) (Nat.le_of_ble_eq_true rfl)
  rw [lg_entry_eq]
  generalize (lg_sl ([.ref (gx_q G 0)]) ++ List.replicate (1 - (lg_sl ([.ref (gx_q G 0)])).length) Slot.unset).toArray = ls at hl ⊢
  have hl : lv_has ls 1 [(0, .ref (gx_q G 0))] := hl
  unfold f_X4_drop at hf
  refine lv_aload_n hx hb dX4_drop_0 rfl (lv_at hl 0 rfl) ?_
  refine gx_get C hH 0 (by decide) rfl fl_X4_56 rfl dX4_drop_1 ?_
  refine lv_if_ne (tgt := 10) hx hb dX4_drop_4 (by decide) (fun hc1 => ?_) (fun hc1 => ?_)
  · have hf := gx_neg hc1 hf
    refine lv_aload_n hx hb dX4_drop_10 rfl (lv_at hl 0 rfl) ?_
    refine lv_aload_n hx hb dX4_drop_11 rfl (lv_at hl 0 rfl) ?_
    refine gx_get C hH 0 (by decide) rfl fl_X4_56 rfl dX4_drop_12 ?_
    refine lv_iconst (v := (1 : Int32)) hx hb dX4_drop_15 (by decide) ?_
    refine lv_isub hx hb dX4_drop_16 ?_
    obtain ⟨σ2, hr3, hf⟩ := gx_bnd hf
    refine gx_vM (v := none) (rest := []) C hH hS 0 (by decide) rfl rfl [.int ((σ 0 4) - (1 : Int32))] (t_X4_goes l G hG σ ((σ 0 4) - (1 : Int32)) σ2  hr3) lk_X4_87 ⟨rfl, rfl, Nat.le_of_ble_eq_true rfl, Nat.le_of_ble_eq_true rfl⟩ ⟨Nat.zero_le _, Nat.zero_le _⟩ hl.1 rfl (Nat.le_of_ble_eq_true rfl) dX4_drop_17 (fun H locs hH hS => ?_)
    refine gx_e0 (st := []) ?_ rfl
    refine lv_aload_n hx hb dX4_drop_20 rfl (lv_at hl 0 rfl) ?_
    refine lv_dup hx hb dX4_drop_21 rfl ?_
    refine gx_get C hH 0 (by decide) rfl fl_X4_56 rfl dX4_drop_22 ?_
    refine lv_iconst (v := (1 : Int32)) hx hb dX4_drop_25 (by decide) ?_
    refine lv_isub hx hb dX4_drop_26 ?_
    refine gx_put C hG hH hS 0 (by decide) rfl fl_X4_56 fw_X4_4 (pw_X4_4 _ _) rfl rfl (Nat.le_of_ble_eq_true rfl) dX4_drop_27 (fun H locs σ4 hσ4 hH hS => ?_)
    have hf := gx_let hf σ4 hσ4
    refine lv_aload_n hx hb dX4_drop_30 rfl (lv_at hl 0 rfl) ?_
    refine gx_get C hH 0 (by decide) rfl fl_X4_56 rfl dX4_drop_31 ?_
    cases hf
    exact gx_iretM C hr hlocks hH hS dX4_drop_34
  · have hf := gx_pos hc1 hf
    refine lv_bipush (v := (-3 : Int32)) hx hb dX4_drop_7 (by decide) ?_
    cases hf
    exact gx_iretM C hr hlocks hH hS dX4_drop_9
abbrev rm_X4_moves : Room := { frames := 0, cells := 0, slots := 0, locals := 0 }
def f_X4_moves (σ : gx_St) (a1 a2 : Int32) : Option gx_St :=
  gx_lt ((σ 0 0) - (σ 0 1)) fun x1 =>
  if x1 ≤ 0 then (if (a1 < 0 ∨ 2 ≤ a1.toNatClampNeg) then none else
  gx_lt (gx_w2 σ (1) a1.toNatClampNeg a2) fun σ4 =>
  some σ4) else (if (a1 < 0 ∨ 2 ≤ a1.toNatClampNeg) then none else
  if x1 = 0 then none else
  if (a1 < 0 ∨ 2 ≤ a1.toNatClampNeg) then none else
  gx_lt (gx_w2 σ (2) a1.toNatClampNeg (((1000 : Int32) * (a2 - (σ (1) a1.toNatClampNeg))) / x1)) fun σ8 =>
  if (a1 < 0 ∨ 2 ≤ a1.toNatClampNeg) then none else
  gx_lt (gx_w2 σ8 (1) a1.toNatClampNeg a2) fun σ10 =>
  some σ10)
set_option maxHeartbeats 4000000 in
set_option maxRecDepth 100000 in
theorem t_X4_moves (l : Launch) (G : gx_G) (hG : gx_D G 13) (σ : gx_St) (a1 a2 : Int32) (σ' : gx_St)  (hf : f_X4_moves σ a1 a2 = some σ') : Met l yX4_moves (Cond.code yX4_moves cX4_moves 4 none :: wT) rm_X4_moves (va_Pc [.ref (gx_q G 0), .int a1, .int a2] (gx_S G 13 (gm_mk G) σ)) (gx_QM G 13 (gm_mk G) none σ') 0 0 (gx_A G) := by
  refine Met.ofW (cc := cX4_moves) (maxL := 4) (ret := none) (by decide) rfl ?_
  intro p e s m args below meth c s₁ B hml hv
  obtain ⟨rfl, hH, hE⟩ := hv
  have C := gx_C.of (G := G) B hml hE
  have hx := C.1.1
  have hb := C.1.2.1
  have hr := B.returns
  have hlocks := B.notSynchronized
  have hS : va_S (gx_A G) s.heap s.heap [] := va_S.rf
  have hl := lv_entry ([.ref (gx_q G 0), .int a1, .int a2]) (n := 4) (Nat.le_of_ble_eq_true rfl)
  rw [lg_entry_eq]
  generalize (lg_sl ([.ref (gx_q G 0), .int a1, .int a2]) ++ List.replicate (4 - (lg_sl ([.ref (gx_q G 0), .int a1, .int a2])).length) Slot.unset).toArray = ls at hl ⊢
  have hl : lv_has ls 4 [(0, .ref (gx_q G 0)), (1, .int a1), (2, .int a2)] := hl
  unfold f_X4_moves at hf
  refine lv_aload_n hx hb dX4_moves_0 rfl (lv_at hl 0 rfl) ?_
  refine gx_get C hH 0 (by decide) rfl fl_X4_91 rfl dX4_moves_1 ?_
  refine lv_aload_n hx hb dX4_moves_4 rfl (lv_at hl 0 rfl) ?_
  refine gx_get C hH 0 (by decide) rfl fl_X4_94 rfl dX4_moves_5 ?_
  refine lv_isub hx hb dX4_moves_8 ?_
  refine lv_topi (fun x1 hx1 => ?_)
  have hf := gx_let hf x1 hx1
  refine lv_istore_n (lv' := [(3, .int x1), (0, .ref (gx_q G 0)), (1, .int a1), (2, .int a2)]) hx hb dX4_moves_9 rfl hl (by decide) rfl (fun ls hl => ?_)
  refine lv_iload_n hx hb dX4_moves_10 rfl (lv_at hl 0 rfl) ?_
  refine lv_if_le (tgt := 34) hx hb dX4_moves_11 (by decide) (fun hc2 => ?_) (fun hc2 => ?_)
  · have hf := gx_pos hc2 hf
    refine lv_aload_n hx hb dX4_moves_34 rfl (lv_at hl 1 rfl) ?_
    refine gx_get C hH 0 (by decide) rfl fl_X4_7 rfl dX4_moves_35 ?_
    refine lv_iload_n hx hb dX4_moves_38 rfl (lv_at hl 2 rfl) ?_
    refine lv_iload_n hx hb dX4_moves_39 rfl (lv_at hl 3 rfl) ?_
    obtain ⟨hb3, hf⟩ := gx_chk hf
    refine gx_iast C hG hH hS (1) (by decide) (fun _ => rfl) hb3 dX4_moves_40 (fun H locs σ4 hσ4 hH hS => ?_)
    have hf := gx_let hf σ4 hσ4
    cases hf
    exact gx_vretM C hr hlocks hH hS dX4_moves_41
  · have hf := gx_neg hc2 hf
    refine lv_aload_n hx hb dX4_moves_14 rfl (lv_at hl 1 rfl) ?_
    refine gx_get C hH 0 (by decide) rfl fl_X4_13 rfl dX4_moves_15 ?_
    refine lv_iload_n hx hb dX4_moves_18 rfl (lv_at hl 2 rfl) ?_
    refine lv_sipush (v := (1000 : Int32)) hx hb dX4_moves_19 (by decide) ?_
    refine lv_iload_n hx hb dX4_moves_22 rfl (lv_at hl 3 rfl) ?_
    refine lv_aload_n hx hb dX4_moves_23 rfl (lv_at hl 1 rfl) ?_
    refine gx_get C hH 0 (by decide) rfl fl_X4_7 rfl dX4_moves_24 ?_
    refine lv_iload_n hx hb dX4_moves_27 rfl (lv_at hl 2 rfl) ?_
    obtain ⟨hb5, hf⟩ := gx_chk hf
    refine gx_iald C hH (1) (by decide) rfl hb5 dX4_moves_28 ?_
    refine lv_isub hx hb dX4_moves_29 ?_
    refine lv_imul hx hb dX4_moves_30 ?_
    refine lv_iload_n hx hb dX4_moves_31 rfl (lv_at hl 0 rfl) ?_
    obtain ⟨hz6, hf⟩ := gx_chk hf
    refine lv_idiv hx hb dX4_moves_32 hz6 ?_
    obtain ⟨hb7, hf⟩ := gx_chk hf
    refine gx_iast C hG hH hS (2) (by decide) (fun _ => rfl) hb7 dX4_moves_33 (fun H locs σ8 hσ8 hH hS => ?_)
    have hf := gx_let hf σ8 hσ8
    refine lv_aload_n hx hb dX4_moves_34 rfl (lv_at hl 1 rfl) ?_
    refine gx_get C hH 0 (by decide) rfl fl_X4_7 rfl dX4_moves_35 ?_
    refine lv_iload_n hx hb dX4_moves_38 rfl (lv_at hl 2 rfl) ?_
    refine lv_iload_n hx hb dX4_moves_39 rfl (lv_at hl 3 rfl) ?_
    obtain ⟨hb9, hf⟩ := gx_chk hf
    refine gx_iast C hG hH hS (1) (by decide) (fun _ => rfl) hb9 dX4_moves_40 (fun H locs σ10 hσ10 hH hS => ?_)
    have hf := gx_let hf σ10 hσ10
    cases hf
    exact gx_vretM C hr hlocks hH hS dX4_moves_41
