abbrev rm_X4_part : Room := { frames := 4, cells := 0, slots := 0, locals := 95 }
def f_X4_part (σ : gx_St) (a1 a2 : Int32) : Option Int32 :=
  (f_X4_isEffect σ a1).bind fun r1 =>
  if r1 = 0 then (some (-1 : Int32)) else ((f_X4_isAxis a2).bind fun r3 =>
  if r3 = 0 then (some (-1 : Int32)) else (if (a1 < 0 ∨ 12 ≤ a1.toNatClampNeg) then none else
  (f_X4_partAt σ a1 a2 (σ (9) a1.toNatClampNeg) (σ 0 0)).bind fun r6 =>
  some (r6 + (10000 : Int32))))
set_option maxHeartbeats 4000000 in
set_option maxRecDepth 100000 in
theorem t_X4_part (l : Launch) (G : gx_G) (σ : gx_St) (a1 a2 : Int32) (r : Int32)  (hf : f_X4_part σ a1 a2 = some r) : Met l yX4_part (Cond.code yX4_part cX4_part 3 (some .int) :: wT) rm_X4_part (va_Pc [.ref (gx_q G 0), .int a1, .int a2] (gx_S G 13 (gm_mk G) σ)) (gx_QR (some (.int r))) 0 0 (fun _ => False) := by
  refine Met.ofW (cc := cX4_part) (maxL := 3) (ret := (some .int)) (by decide) rfl ?_
  intro p e s m args below meth c s₁ B hml hv
  obtain ⟨rfl, hH, hE⟩ := hv
  have C := gx_C.of (G := G) B hml hE
  have hx := C.1.1
  have hb := C.1.2.1
  have hr := B.returns
  have hlocks := B.notSynchronized
  have hS : va_S (gx_A G) s.heap s.heap [] := va_S.rf
  have hl := lv_entry ([.ref (gx_q G 0), .int a1, .int a2]) (n := 3) (Nat.le_of_ble_eq_true rfl)
  rw [lg_entry_eq]
  generalize (lg_sl ([.ref (gx_q G 0), .int a1, .int a2]) ++ List.replicate (3 - (lg_sl ([.ref (gx_q G 0), .int a1, .int a2])).length) Slot.unset).toArray = ls at hl ⊢
  have hl : lv_has ls 3 [(0, .ref (gx_q G 0)), (1, .int a1), (2, .int a2)] := hl
  unfold f_X4_part at hf
  refine lv_aload_n hx hb dX4_part_0 rfl (lv_at hl 0 rfl) ?_
  refine lv_iload_n hx hb dX4_part_1 rfl (lv_at hl 1 rfl) ?_
  obtain ⟨r1, hr1, hf⟩ := gx_bnd hf
  refine gx_vR (v := (some (.int r1))) (rest := []) C hH hS 0 (by decide) rfl rfl [.int a1] (t_X4_isEffect l G σ a1 r1  hr1) lk_X4_76 ⟨rfl, rfl, Nat.le_of_ble_eq_true rfl, Nat.le_of_ble_eq_true rfl⟩ ⟨Nat.zero_le _, Nat.zero_le _⟩ hl.1 rfl (Nat.le_of_ble_eq_true rfl) dX4_part_2 ?_
  refine gx_e0 (st := [.int r1]) ?_ rfl
  refine lv_if_eq (tgt := 15) hx hb dX4_part_5 (by decide) (fun hc2 => ?_) (fun hc2 => ?_)
  · have hf := gx_pos hc2 hf
    refine lv_iconst (v := (-1 : Int32)) hx hb dX4_part_15 (by decide) ?_
    obtain rfl := Option.some.inj hf
    exact gx_iretR C hr hlocks dX4_part_16
  · have hf := gx_neg hc2 hf
    refine lv_iload_n hx hb dX4_part_8 rfl (lv_at hl 2 rfl) ?_
    obtain ⟨r3, hr3, hf⟩ := gx_bnd hf
    refine gx_sR (v := (some (.int r3))) (rest := []) C hH hS [.int a2] (t_X4_isAxis l G σ a2 r3  hr3) lk_X4_101 ⟨rfl, rfl, Nat.le_of_ble_eq_true rfl, Nat.le_of_ble_eq_true rfl⟩ ⟨Nat.zero_le _, Nat.zero_le _⟩ hl.1 rfl (Nat.le_of_ble_eq_true rfl) dX4_part_9 ?_
    refine gx_e0 (st := [.int r3]) ?_ rfl
    refine lv_if_ne (tgt := 17) hx hb dX4_part_12 (by decide) (fun hc4 => ?_) (fun hc4 => ?_)
    · have hf := gx_neg hc4 hf
      refine lv_aload_n hx hb dX4_part_17 rfl (lv_at hl 0 rfl) ?_
      refine lv_iload_n hx hb dX4_part_18 rfl (lv_at hl 1 rfl) ?_
      refine lv_iload_n hx hb dX4_part_19 rfl (lv_at hl 2 rfl) ?_
      refine lv_aload_n hx hb dX4_part_20 rfl (lv_at hl 0 rfl) ?_
      refine gx_get C hH 0 (by decide) rfl fl_X4_34 rfl dX4_part_21 ?_
      refine lv_iload_n hx hb dX4_part_24 rfl (lv_at hl 1 rfl) ?_
      obtain ⟨hb5, hf⟩ := gx_chk hf
      refine gx_iald C hH (9) (by decide) rfl hb5 dX4_part_25 ?_
      refine lv_aload_n hx hb dX4_part_26 rfl (lv_at hl 0 rfl) ?_
      refine gx_get C hH 0 (by decide) rfl fl_X4_91 rfl dX4_part_27 ?_
      obtain ⟨r6, hr6, hf⟩ := gx_bnd hf
      refine gx_vR (v := (some (.int r6))) (rest := []) C hH hS 0 (by decide) rfl rfl [.int a1, .int a2, .int (σ (9) a1.toNatClampNeg), .int (σ 0 0)] (t_X4_partAt l G σ a1 a2 (σ (9) a1.toNatClampNeg) (σ 0 0) r6  hr6) lk_X4_173 ⟨rfl, rfl, Nat.le_of_ble_eq_true rfl, Nat.le_of_ble_eq_true rfl⟩ ⟨Nat.zero_le _, Nat.zero_le _⟩ hl.1 rfl (Nat.le_of_ble_eq_true rfl) dX4_part_30 ?_
      refine gx_e0 (st := [.int r6]) ?_ rfl
      refine lv_sipush (v := (10000 : Int32)) hx hb dX4_part_33 (by decide) ?_
      refine lv_iadd hx hb dX4_part_36 ?_
      obtain rfl := Option.some.inj hf
      exact gx_iretR C hr hlocks dX4_part_37
    · have hf := gx_pos hc4 hf
      refine lv_iconst (v := (-1 : Int32)) hx hb dX4_part_15 (by decide) ?_
      obtain rfl := Option.some.inj hf
      exact gx_iretR C hr hlocks dX4_part_16
abbrev rm_X4_envelope : Room := { frames := 3, cells := 0, slots := 0, locals := 69 }
def f_X4_envelope (σ : gx_St) (a1 : Int32) : Option Int32 :=
  (f_X4_isEffect σ a1).bind fun r1 =>
  if r1 = 0 then (some (-1 : Int32)) else (if (a1 < 0 ∨ 12 ≤ a1.toNatClampNeg) then none else
  (f_X4_isOn σ a1 (σ (9) a1.toNatClampNeg) (σ 0 0)).bind fun r4 =>
  if r4 = 0 then (some (-9 : Int32)) else (if (a1 < 0 ∨ 12 ≤ a1.toNatClampNeg) then none else
  if (4 : Int32) ≤ (σ (3) a1.toNatClampNeg) then (some (-9 : Int32)) else (if (a1 < 0 ∨ 12 ≤ a1.toNatClampNeg) then none else
  (f_X4_numberOf σ a1 (1 : Int32)).bind fun r12 =>
  (f_X4_envelopeAt σ a1 (((σ 0 0) - (σ (9) a1.toNatClampNeg)) - r12)).bind fun r13 =>
  some r13)))
set_option maxHeartbeats 4000000 in
set_option maxRecDepth 100000 in
theorem t_X4_envelope (l : Launch) (G : gx_G) (σ : gx_St) (a1 : Int32) (r : Int32)  (hf : f_X4_envelope σ a1 = some r) : Met l yX4_envelope (Cond.code yX4_envelope cX4_envelope 3 (some .int) :: wT) rm_X4_envelope (va_Pc [.ref (gx_q G 0), .int a1] (gx_S G 13 (gm_mk G) σ)) (gx_QR (some (.int r))) 0 0 (fun _ => False) := by
  refine Met.ofW (cc := cX4_envelope) (maxL := 3) (ret := (some .int)) (by decide) rfl ?_
  intro p e s m args below meth c s₁ B hml hv
  obtain ⟨rfl, hH, hE⟩ := hv
  have C := gx_C.of (G := G) B hml hE
  have hx := C.1.1
  have hb := C.1.2.1
  have hr := B.returns
  have hlocks := B.notSynchronized
  have hS : va_S (gx_A G) s.heap s.heap [] := va_S.rf
  have hl := lv_entry ([.ref (gx_q G 0), .int a1]) (n := 3) (Nat.le_of_ble_eq_true rfl)
  rw [lg_entry_eq]
  generalize (lg_sl ([.ref (gx_q G 0), .int a1]) ++ List.replicate (3 - (lg_sl ([.ref (gx_q G 0), .int a1])).length) Slot.unset).toArray = ls at hl ⊢
  have hl : lv_has ls 3 [(0, .ref (gx_q G 0)), (1, .int a1)] := hl
  unfold f_X4_envelope at hf
  refine lv_aload_n hx hb dX4_envelope_0 rfl (lv_at hl 0 rfl) ?_
  refine lv_iload_n hx hb dX4_envelope_1 rfl (lv_at hl 1 rfl) ?_
  obtain ⟨r1, hr1, hf⟩ := gx_bnd hf
  refine gx_vR (v := (some (.int r1))) (rest := []) C hH hS 0 (by decide) rfl rfl [.int a1] (t_X4_isEffect l G σ a1 r1  hr1) lk_X4_76 ⟨rfl, rfl, Nat.le_of_ble_eq_true rfl, Nat.le_of_ble_eq_true rfl⟩ ⟨Nat.zero_le _, Nat.zero_le _⟩ hl.1 rfl (Nat.le_of_ble_eq_true rfl) dX4_envelope_2 ?_
  refine gx_e0 (st := [.int r1]) ?_ rfl
  refine lv_if_ne (tgt := 10) hx hb dX4_envelope_5 (by decide) (fun hc2 => ?_) (fun hc2 => ?_)
  · have hf := gx_neg hc2 hf
    refine lv_aload_n hx hb dX4_envelope_10 rfl (lv_at hl 0 rfl) ?_
    refine lv_iload_n hx hb dX4_envelope_11 rfl (lv_at hl 1 rfl) ?_
    refine lv_aload_n hx hb dX4_envelope_12 rfl (lv_at hl 0 rfl) ?_
    refine gx_get C hH 0 (by decide) rfl fl_X4_34 rfl dX4_envelope_13 ?_
    refine lv_iload_n hx hb dX4_envelope_16 rfl (lv_at hl 1 rfl) ?_
    obtain ⟨hb3, hf⟩ := gx_chk hf
    refine gx_iald C hH (9) (by decide) rfl hb3 dX4_envelope_17 ?_
    refine lv_aload_n hx hb dX4_envelope_18 rfl (lv_at hl 0 rfl) ?_
    refine gx_get C hH 0 (by decide) rfl fl_X4_91 rfl dX4_envelope_19 ?_
    obtain ⟨r4, hr4, hf⟩ := gx_bnd hf
    refine gx_vR (v := (some (.int r4))) (rest := []) C hH hS 0 (by decide) rfl rfl [.int a1, .int (σ (9) a1.toNatClampNeg), .int (σ 0 0)] (t_X4_isOn l G σ a1 (σ (9) a1.toNatClampNeg) (σ 0 0) r4  hr4) lk_X4_111 ⟨rfl, rfl, Nat.le_of_ble_eq_true rfl, Nat.le_of_ble_eq_true rfl⟩ ⟨Nat.zero_le _, Nat.zero_le _⟩ hl.1 rfl (Nat.le_of_ble_eq_true rfl) dX4_envelope_22 ?_
    refine gx_e0 (st := [.int r4]) ?_ rfl
    refine lv_if_eq (tgt := 42) hx hb dX4_envelope_25 (by decide) (fun hc5 => ?_) (fun hc5 => ?_)
    · have hf := gx_pos hc5 hf
      refine lv_iconst (v := (0 : Int32)) hx hb dX4_envelope_42 (by decide) ?_
      refine lv_istore_n (lv' := [(2, .int (0 : Int32)), (0, .ref (gx_q G 0)), (1, .int a1)]) hx hb dX4_envelope_43 rfl hl (by decide) rfl (fun ls hl => ?_)
      refine lv_iload_n hx hb dX4_envelope_44 rfl (lv_at hl 0 rfl) ?_
      refine lv_if_eq (tgt := 74) hx hb dX4_envelope_45 (by decide) (fun hc6 => ?_) (fun hc6 => absurd hc6 (by decide))
      refine lv_bipush (v := (-9 : Int32)) hx hb dX4_envelope_74 (by decide) ?_
      obtain rfl := Option.some.inj hf
      exact gx_iretR C hr hlocks dX4_envelope_76
    · have hf := gx_neg hc5 hf
      refine lv_aload_n hx hb dX4_envelope_28 rfl (lv_at hl 0 rfl) ?_
      refine gx_get C hH 0 (by decide) rfl fl_X4_16 rfl dX4_envelope_29 ?_
      refine lv_iload_n hx hb dX4_envelope_32 rfl (lv_at hl 1 rfl) ?_
      obtain ⟨hb7, hf⟩ := gx_chk hf
      refine gx_iald C hH (3) (by decide) rfl hb7 dX4_envelope_33 ?_
      refine lv_iconst (v := (4 : Int32)) hx hb dX4_envelope_34 (by decide) ?_
      refine lv_icmp_ge (tgt := 42) hx hb dX4_envelope_35 (by decide) (fun hc8 => ?_) (fun hc8 => ?_)
      · have hf := gx_pos hc8 hf
        refine lv_iconst (v := (0 : Int32)) hx hb dX4_envelope_42 (by decide) ?_
        refine lv_istore_n (lv' := [(2, .int (0 : Int32)), (0, .ref (gx_q G 0)), (1, .int a1)]) hx hb dX4_envelope_43 rfl hl (by decide) rfl (fun ls hl => ?_)
        refine lv_iload_n hx hb dX4_envelope_44 rfl (lv_at hl 0 rfl) ?_
        refine lv_if_eq (tgt := 74) hx hb dX4_envelope_45 (by decide) (fun hc9 => ?_) (fun hc9 => absurd hc9 (by decide))
        refine lv_bipush (v := (-9 : Int32)) hx hb dX4_envelope_74 (by decide) ?_
        obtain rfl := Option.some.inj hf
        exact gx_iretR C hr hlocks dX4_envelope_76
      · have hf := gx_neg hc8 hf
        refine lv_iconst (v := (1 : Int32)) hx hb dX4_envelope_38 (by decide) ?_
        refine lv_goto (tgt := 43) hx hb dX4_envelope_39 (by decide) ?_
        refine lv_istore_n (lv' := [(2, .int (1 : Int32)), (0, .ref (gx_q G 0)), (1, .int a1)]) hx hb dX4_envelope_43 rfl hl (by decide) rfl (fun ls hl => ?_)
        refine lv_iload_n hx hb dX4_envelope_44 rfl (lv_at hl 0 rfl) ?_
        refine lv_if_eq (tgt := 74) hx hb dX4_envelope_45 (by decide) (fun hc10 => absurd hc10 (by decide)) (fun hc10 => ?_)
        refine lv_aload_n hx hb dX4_envelope_48 rfl (lv_at hl 1 rfl) ?_
        refine lv_iload_n hx hb dX4_envelope_49 rfl (lv_at hl 2 rfl) ?_
        refine lv_aload_n hx hb dX4_envelope_50 rfl (lv_at hl 1 rfl) ?_
        refine gx_get C hH 0 (by decide) rfl fl_X4_91 rfl dX4_envelope_51 ?_
        refine lv_aload_n hx hb dX4_envelope_54 rfl (lv_at hl 1 rfl) ?_
        refine gx_get C hH 0 (by decide) rfl fl_X4_34 rfl dX4_envelope_55 ?_
        refine lv_iload_n hx hb dX4_envelope_58 rfl (lv_at hl 2 rfl) ?_
        obtain ⟨hb11, hf⟩ := gx_chk hf
        refine gx_iald C hH (9) (by decide) rfl hb11 dX4_envelope_59 ?_
        refine lv_isub hx hb dX4_envelope_60 ?_
        refine lv_aload_n hx hb dX4_envelope_61 rfl (lv_at hl 1 rfl) ?_
        refine lv_iload_n hx hb dX4_envelope_62 rfl (lv_at hl 2 rfl) ?_
        refine lv_iconst (v := (1 : Int32)) hx hb dX4_envelope_63 (by decide) ?_
        obtain ⟨r12, hr12, hf⟩ := gx_bnd hf
        refine gx_vR (v := (some (.int r12))) (rest := [.int ((σ 0 0) - (σ (9) a1.toNatClampNeg)), .int a1, .ref (gx_q G 0)]) C hH hS 0 (by decide) rfl rfl [.int a1, .int (1 : Int32)] (t_X4_numberOf l G σ a1 (1 : Int32) r12  hr12) lk_X4_72 ⟨rfl, rfl, Nat.le_of_ble_eq_true rfl, Nat.le_of_ble_eq_true rfl⟩ ⟨Nat.zero_le _, Nat.zero_le _⟩ hl.1 rfl (Nat.le_of_ble_eq_true rfl) dX4_envelope_64 ?_
        refine gx_e0 (st := [.int r12, .int ((σ 0 0) - (σ (9) a1.toNatClampNeg)), .int a1, .ref (gx_q G 0)]) ?_ rfl
        refine lv_isub hx hb dX4_envelope_67 ?_
        obtain ⟨r13, hr13, hf⟩ := gx_bnd hf
        refine gx_vR (v := (some (.int r13))) (rest := []) C hH hS 0 (by decide) rfl rfl [.int a1, .int (((σ 0 0) - (σ (9) a1.toNatClampNeg)) - r12)] (t_X4_envelopeAt l G σ a1 (((σ 0 0) - (σ (9) a1.toNatClampNeg)) - r12) r13  hr13) lk_X4_167 ⟨rfl, rfl, Nat.le_of_ble_eq_true rfl, Nat.le_of_ble_eq_true rfl⟩ ⟨Nat.zero_le _, Nat.zero_le _⟩ hl.1 rfl (Nat.le_of_ble_eq_true rfl) dX4_envelope_68 ?_
        refine gx_e0 (st := [.int r13]) ?_ rfl
        refine lv_goto (tgt := 76) hx hb dX4_envelope_71 (by decide) ?_
        obtain rfl := Option.some.inj hf
        exact gx_iretR C hr hlocks dX4_envelope_76
  · have hf := gx_pos hc2 hf
    refine lv_iconst (v := (-1 : Int32)) hx hb dX4_envelope_8 (by decide) ?_
    obtain rfl := Option.some.inj hf
    exact gx_iretR C hr hlocks dX4_envelope_9
abbrev rm_X4_force : Room := { frames := 5, cells := 0, slots := 0, locals := 121 }
def f_X4_force (σ : gx_St) (a1 a2 : Int32) : Option Int32 :=
  (f_X4_isAxis a1).bind fun r1 =>
  if r1 = 0 then (some (-1 : Int32)) else ((f_X4_within a2 (0 : Int32) (1 : Int32)).bind fun r3 =>
  if r3 = 0 then (some (-2 : Int32)) else ((f_X4_rawAt σ a1 (σ 0 0) (0 : Int32)).bind fun r5 =>
  if a2 = 0 then (some (r5 + (100000 : Int32))) else ((f_X4_held r5 (1000 : Int32)).bind fun r7 =>
  some (((r7 * (σ 0 19)) / (100 : Int32)) + (10000 : Int32)))))
set_option maxHeartbeats 4000000 in
set_option maxRecDepth 100000 in
theorem t_X4_force (l : Launch) (G : gx_G) (σ : gx_St) (a1 a2 : Int32) (r : Int32)  (hf : f_X4_force σ a1 a2 = some r) : Met l yX4_force (Cond.code yX4_force cX4_force 4 (some .int) :: wT) rm_X4_force (va_Pc [.ref (gx_q G 0), .int a1, .int a2] (gx_S G 13 (gm_mk G) σ)) (gx_QR (some (.int r))) 0 0 (fun _ => False) := by
  refine Met.ofW (cc := cX4_force) (maxL := 4) (ret := (some .int)) (by decide) rfl ?_
  intro p e s m args below meth c s₁ B hml hv
  obtain ⟨rfl, hH, hE⟩ := hv
  have C := gx_C.of (G := G) B hml hE
  have hx := C.1.1
  have hb := C.1.2.1
  have hr := B.returns
  have hlocks := B.notSynchronized
  have hS : va_S (gx_A G) s.heap s.heap [] := va_S.rf
  have hl := lv_entry ([.ref (gx_q G 0), .int a1, .int a2]) (n := 4) (Nat.le_of_ble_eq_true rfl)
  rw [lg_entry_eq]
  generalize (lg_sl ([.ref (gx_q G 0), .int a1, .int a2]) ++ List.replicate (4 - (lg_sl ([.ref (gx_q G 0), .int a1, .int a2])).length) Slot.unset).toArray = ls at hl ⊢
  have hl : lv_has ls 4 [(0, .ref (gx_q G 0)), (1, .int a1), (2, .int a2)] := hl
  unfold f_X4_force at hf
  refine lv_iload_n hx hb dX4_force_0 rfl (lv_at hl 1 rfl) ?_
  obtain ⟨r1, hr1, hf⟩ := gx_bnd hf
  refine gx_sR (v := (some (.int r1))) (rest := []) C hH hS [.int a1] (t_X4_isAxis l G σ a1 r1  hr1) lk_X4_101 ⟨rfl, rfl, Nat.le_of_ble_eq_true rfl, Nat.le_of_ble_eq_true rfl⟩ ⟨Nat.zero_le _, Nat.zero_le _⟩ hl.1 rfl (Nat.le_of_ble_eq_true rfl) dX4_force_1 ?_
  refine gx_e0 (st := [.int r1]) ?_ rfl
  refine lv_if_ne (tgt := 9) hx hb dX4_force_4 (by decide) (fun hc2 => ?_) (fun hc2 => ?_)
  · have hf := gx_neg hc2 hf
    refine lv_iload_n hx hb dX4_force_9 rfl (lv_at hl 2 rfl) ?_
    refine lv_iconst (v := (0 : Int32)) hx hb dX4_force_10 (by decide) ?_
    refine lv_iconst (v := (1 : Int32)) hx hb dX4_force_11 (by decide) ?_
    obtain ⟨r3, hr3, hf⟩ := gx_bnd hf
    refine gx_sR (v := (some (.int r3))) (rest := []) C hH hS [.int a2, .int (0 : Int32), .int (1 : Int32)] (t_X4_within l G σ a2 (0 : Int32) (1 : Int32) r3  hr3) lk_X4_59 ⟨rfl, rfl, Nat.le_of_ble_eq_true rfl, Nat.le_of_ble_eq_true rfl⟩ ⟨Nat.zero_le _, Nat.zero_le _⟩ hl.1 rfl (Nat.le_of_ble_eq_true rfl) dX4_force_12 ?_
    refine gx_e0 (st := [.int r3]) ?_ rfl
    refine lv_if_ne (tgt := 21) hx hb dX4_force_15 (by decide) (fun hc4 => ?_) (fun hc4 => ?_)
    · have hf := gx_neg hc4 hf
      refine lv_aload_n hx hb dX4_force_21 rfl (lv_at hl 0 rfl) ?_
      refine lv_iload_n hx hb dX4_force_22 rfl (lv_at hl 1 rfl) ?_
      refine lv_aload_n hx hb dX4_force_23 rfl (lv_at hl 0 rfl) ?_
      refine gx_get C hH 0 (by decide) rfl fl_X4_91 rfl dX4_force_24 ?_
      refine lv_iconst (v := (0 : Int32)) hx hb dX4_force_27 (by decide) ?_
      obtain ⟨r5, hr5, hf⟩ := gx_bnd hf
      refine gx_vR (v := (some (.int r5))) (rest := []) C hH hS 0 (by decide) rfl rfl [.int a1, .int (σ 0 0), .int (0 : Int32)] (t_X4_rawAt l G σ a1 (σ 0 0) (0 : Int32) r5  hr5) lk_X4_177 ⟨rfl, rfl, Nat.le_of_ble_eq_true rfl, Nat.le_of_ble_eq_true rfl⟩ ⟨Nat.zero_le _, Nat.zero_le _⟩ hl.1 rfl (Nat.le_of_ble_eq_true rfl) dX4_force_28 ?_
      refine gx_e0 (st := [.int r5]) ?_ rfl
      refine lv_istore_n (lv' := [(3, .int r5), (0, .ref (gx_q G 0)), (1, .int a1), (2, .int a2)]) hx hb dX4_force_31 rfl hl (by decide) rfl (fun ls hl => ?_)
      refine lv_iload_n hx hb dX4_force_32 rfl (lv_at hl 3 rfl) ?_
      refine lv_if_ne (tgt := 43) hx hb dX4_force_33 (by decide) (fun hc6 => ?_) (fun hc6 => ?_)
      · have hf := gx_neg hc6 hf
        refine lv_iload_n hx hb dX4_force_43 rfl (lv_at hl 0 rfl) ?_
        refine lv_sipush (v := (1000 : Int32)) hx hb dX4_force_44 (by decide) ?_
        obtain ⟨r7, hr7, hf⟩ := gx_bnd hf
        refine gx_sR (v := (some (.int r7))) (rest := []) C hH hS [.int r5, .int (1000 : Int32)] (t_X4_held l G σ r5 (1000 : Int32) r7  hr7) lk_X4_161 ⟨rfl, rfl, Nat.le_of_ble_eq_true rfl, Nat.le_of_ble_eq_true rfl⟩ ⟨Nat.zero_le _, Nat.zero_le _⟩ hl.1 rfl (Nat.le_of_ble_eq_true rfl) dX4_force_47 ?_
        refine gx_e0 (st := [.int r7]) ?_ rfl
        refine lv_aload_n hx hb dX4_force_50 rfl (lv_at hl 1 rfl) ?_
        refine gx_get C hH 0 (by decide) rfl fl_X4_50 rfl dX4_force_51 ?_
        refine lv_imul hx hb dX4_force_54 ?_
        refine lv_bipush (v := (100 : Int32)) hx hb dX4_force_55 (by decide) ?_
        refine lv_idiv hx hb dX4_force_57 (by decide) ?_
        refine lv_sipush (v := (10000 : Int32)) hx hb dX4_force_58 (by decide) ?_
        refine lv_iadd hx hb dX4_force_61 ?_
        obtain rfl := Option.some.inj hf
        exact gx_iretR C hr hlocks dX4_force_62
      · have hf := gx_pos hc6 hf
        refine lv_iload_n hx hb dX4_force_36 rfl (lv_at hl 0 rfl) ?_
        refine lv_ldc hx hb C.1.2.2.2.1 (C.1.2.2.2.2 _ kw_669) dX4_force_37 ?_
        refine lv_iadd hx hb dX4_force_39 ?_
        refine lv_goto (tgt := 62) hx hb dX4_force_40 (by decide) ?_
        obtain rfl := Option.some.inj hf
        exact gx_iretR C hr hlocks dX4_force_62
    · have hf := gx_pos hc4 hf
      refine lv_bipush (v := (-2 : Int32)) hx hb dX4_force_18 (by decide) ?_
      obtain rfl := Option.some.inj hf
      exact gx_iretR C hr hlocks dX4_force_20
  · have hf := gx_pos hc2 hf
    refine lv_iconst (v := (-1 : Int32)) hx hb dX4_force_7 (by decide) ?_
    obtain rfl := Option.some.inj hf
    exact gx_iretR C hr hlocks dX4_force_8
abbrev rm_X4_rate : Room := { frames := 1, cells := 0, slots := 0, locals := 22 }
def f_X4_rate (σ : gx_St) (a1 : Int32) : Option (Int32 × gx_St) :=
  (f_X4_within a1 (1 : Int32) (1000 : Int32)).bind fun r1 =>
  if r1 = 0 then (some ((-2 : Int32), σ)) else (gx_lt (σ 0 20) fun x3 =>
  gx_lt (gx_w2 σ 0 20 a1) fun σ4 =>
  some (x3, σ4))
set_option maxHeartbeats 4000000 in
set_option maxRecDepth 100000 in
theorem t_X4_rate (l : Launch) (G : gx_G) (hG : gx_D G 13) (σ : gx_St) (a1 : Int32) (r : Int32) (σ' : gx_St)  (hf : f_X4_rate σ a1 = some (r, σ')) : Met l yX4_rate (Cond.code yX4_rate cX4_rate 3 (some .int) :: wT) rm_X4_rate (va_Pc [.ref (gx_q G 0), .int a1] (gx_S G 13 (gm_mk G) σ)) (gx_QM G 13 (gm_mk G) (some (.int r)) σ') 0 0 (gx_A G) := by
  refine Met.ofW (cc := cX4_rate) (maxL := 3) (ret := (some .int)) (by decide) rfl ?_
  intro p e s m args below meth c s₁ B hml hv
  obtain ⟨rfl, hH, hE⟩ := hv
  have C := gx_C.of (G := G) B hml hE
  have hx := C.1.1
  have hb := C.1.2.1
  have hr := B.returns
  have hlocks := B.notSynchronized
  have hS : va_S (gx_A G) s.heap s.heap [] := va_S.rf
  have hl := lv_entry ([.ref (gx_q G 0), .int a1]) (n := 3) (Nat.le_of_ble_eq_true rfl)
  rw [lg_entry_eq]
  generalize (lg_sl ([.ref (gx_q G 0), .int a1]) ++ List.replicate (3 - (lg_sl ([.ref (gx_q G 0), .int a1])).length) Slot.unset).toArray = ls at hl ⊢
  have hl : lv_has ls 3 [(0, .ref (gx_q G 0)), (1, .int a1)] := hl
  unfold f_X4_rate at hf
  refine lv_iload_n hx hb dX4_rate_0 rfl (lv_at hl 1 rfl) ?_
  refine lv_iconst (v := (1 : Int32)) hx hb dX4_rate_1 (by decide) ?_
  refine lv_sipush (v := (1000 : Int32)) hx hb dX4_rate_2 (by decide) ?_
  obtain ⟨r1, hr1, hf⟩ := gx_bnd hf
  refine gx_sR (v := (some (.int r1))) (rest := []) C hH hS [.int a1, .int (1 : Int32), .int (1000 : Int32)] (t_X4_within l G σ a1 (1 : Int32) (1000 : Int32) r1  hr1) lk_X4_59 ⟨rfl, rfl, Nat.le_of_ble_eq_true rfl, Nat.le_of_ble_eq_true rfl⟩ ⟨Nat.zero_le _, Nat.zero_le _⟩ hl.1 rfl (Nat.le_of_ble_eq_true rfl) dX4_rate_5 ?_
  refine gx_e0 (st := [.int r1]) ?_ rfl
  refine lv_if_ne (tgt := 14) hx hb dX4_rate_8 (by decide) (fun hc2 => ?_) (fun hc2 => ?_)
  · have hf := gx_neg hc2 hf
    refine lv_aload_n hx hb dX4_rate_14 rfl (lv_at hl 0 rfl) ?_
    refine gx_get C hH 0 (by decide) rfl fl_X4_53 rfl dX4_rate_15 ?_
    refine lv_topi (fun x3 hx3 => ?_)
    have hf := gx_let hf x3 hx3
    refine lv_istore_n (lv' := [(2, .int x3), (0, .ref (gx_q G 0)), (1, .int a1)]) hx hb dX4_rate_18 rfl hl (by decide) rfl (fun ls hl => ?_)
    refine lv_aload_n hx hb dX4_rate_19 rfl (lv_at hl 1 rfl) ?_
    refine lv_iload_n hx hb dX4_rate_20 rfl (lv_at hl 2 rfl) ?_
    refine gx_put C hG hH hS 0 (by decide) rfl fl_X4_53 fw_X4_20 (pw_X4_20 _ _) rfl rfl (Nat.le_of_ble_eq_true rfl) dX4_rate_21 (fun H locs σ4 hσ4 hH hS => ?_)
    have hf := gx_let hf σ4 hσ4
    refine lv_iload_n hx hb dX4_rate_24 rfl (lv_at hl 0 rfl) ?_
    cases hf
    exact gx_iretM C hr hlocks hH hS dX4_rate_25
  · have hf := gx_pos hc2 hf
    refine lv_bipush (v := (-2 : Int32)) hx hb dX4_rate_11 (by decide) ?_
    cases hf
    exact gx_iretM C hr hlocks hH hS dX4_rate_13
abbrev rm_X4_frame : Room := { frames := 1, cells := 0, slots := 0, locals := 22 }
def f_X4_frame (σ : gx_St) (a1 : Int32) : Option Int32 :=
  (f_X4_within a1 (0 : Int32) (1000000 : Int32)).bind fun r1 =>
  if r1 = 0 then (some (-2 : Int32)) else (if (σ 0 20) = 0 then none else
  some (((1000 : Int32) * a1) / (σ 0 20)))
set_option maxHeartbeats 4000000 in
set_option maxRecDepth 100000 in
theorem t_X4_frame (l : Launch) (G : gx_G) (σ : gx_St) (a1 : Int32) (r : Int32)  (hf : f_X4_frame σ a1 = some r) : Met l yX4_frame (Cond.code yX4_frame cX4_frame 2 (some .int) :: wT) rm_X4_frame (va_Pc [.ref (gx_q G 0), .int a1] (gx_S G 13 (gm_mk G) σ)) (gx_QR (some (.int r))) 0 0 (fun _ => False) := by
  refine Met.ofW (cc := cX4_frame) (maxL := 2) (ret := (some .int)) (by decide) rfl ?_
  intro p e s m args below meth c s₁ B hml hv
  obtain ⟨rfl, hH, hE⟩ := hv
  have C := gx_C.of (G := G) B hml hE
  have hx := C.1.1
  have hb := C.1.2.1
  have hr := B.returns
  have hlocks := B.notSynchronized
  have hS : va_S (gx_A G) s.heap s.heap [] := va_S.rf
  have hl := lv_entry ([.ref (gx_q G 0), .int a1]) (n := 2) (Nat.le_of_ble_eq_true rfl)
  rw [lg_entry_eq]
  generalize (lg_sl ([.ref (gx_q G 0), .int a1]) ++ List.replicate (2 - (lg_sl ([.ref (gx_q G 0), .int a1])).length) Slot.unset).toArray = ls at hl ⊢
  have hl : lv_has ls 2 [(0, .ref (gx_q G 0)), (1, .int a1)] := hl
  unfold f_X4_frame at hf
  refine lv_iload_n hx hb dX4_frame_0 rfl (lv_at hl 1 rfl) ?_
  refine lv_iconst (v := (0 : Int32)) hx hb dX4_frame_1 (by decide) ?_
  refine lv_ldc hx hb C.1.2.2.2.1 (C.1.2.2.2.2 _ kw_750) dX4_frame_2 ?_
  obtain ⟨r1, hr1, hf⟩ := gx_bnd hf
  refine gx_sR (v := (some (.int r1))) (rest := []) C hH hS [.int a1, .int (0 : Int32), .int (1000000 : Int32)] (t_X4_within l G σ a1 (0 : Int32) (1000000 : Int32) r1  hr1) lk_X4_59 ⟨rfl, rfl, Nat.le_of_ble_eq_true rfl, Nat.le_of_ble_eq_true rfl⟩ ⟨Nat.zero_le _, Nat.zero_le _⟩ hl.1 rfl (Nat.le_of_ble_eq_true rfl) dX4_frame_4 ?_
  refine gx_e0 (st := [.int r1]) ?_ rfl
  refine lv_if_eq (tgt := 23) hx hb dX4_frame_7 (by decide) (fun hc2 => ?_) (fun hc2 => ?_)
  · have hf := gx_pos hc2 hf
    refine lv_bipush (v := (-2 : Int32)) hx hb dX4_frame_23 (by decide) ?_
    obtain rfl := Option.some.inj hf
    exact gx_iretR C hr hlocks dX4_frame_25
  · have hf := gx_neg hc2 hf
    refine lv_sipush (v := (1000 : Int32)) hx hb dX4_frame_10 (by decide) ?_
    refine lv_iload_n hx hb dX4_frame_13 rfl (lv_at hl 1 rfl) ?_
    refine lv_imul hx hb dX4_frame_14 ?_
    refine lv_aload_n hx hb dX4_frame_15 rfl (lv_at hl 0 rfl) ?_
    refine gx_get C hH 0 (by decide) rfl fl_X4_53 rfl dX4_frame_16 ?_
    obtain ⟨hz3, hf⟩ := gx_chk hf
    refine lv_idiv hx hb dX4_frame_19 hz3 ?_
    refine lv_goto (tgt := 25) hx hb dX4_frame_20 (by decide) ?_
    obtain rfl := Option.some.inj hf
    exact gx_iretR C hr hlocks dX4_frame_25
abbrev rm_X4_frames : Room := { frames := 0, cells := 0, slots := 0, locals := 0 }
def f_X4_frames (σ : gx_St) : Option Int32 :=
  some (((((((σ 0 0).toInt64 + (1 : Int64)) * (σ 0 20).toInt64) - (1 : Int64)) / (1000 : Int64))).toInt32 + (1 : Int32))
set_option maxHeartbeats 4000000 in
set_option maxRecDepth 100000 in
theorem t_X4_frames (l : Launch) (G : gx_G) (σ : gx_St) (r : Int32)  (hf : f_X4_frames σ = some r) : Met l yX4_frames (Cond.code yX4_frames cX4_frames 1 (some .int) :: wT) rm_X4_frames (va_Pc [.ref (gx_q G 0)] (gx_S G 13 (gm_mk G) σ)) (gx_QR (some (.int r))) 0 0 (fun _ => False) := by
  refine Met.ofW (cc := cX4_frames) (maxL := 1) (ret := (some .int)) (by decide) rfl ?_
  intro p e s m args below meth c s₁ B hml hv
  obtain ⟨rfl, hH, hE⟩ := hv
  have C := gx_C.of (G := G) B hml hE
  have hx := C.1.1
  have hb := C.1.2.1
  have hr := B.returns
  have hlocks := B.notSynchronized
  have hS : va_S (gx_A G) s.heap s.heap [] := va_S.rf
  have hl := lv_entry ([.ref (gx_q G 0)]) (n := 1) (Nat.le_of_ble_eq_true rfl)
  rw [lg_entry_eq]
  generalize (lg_sl ([.ref (gx_q G 0)]) ++ List.replicate (1 - (lg_sl ([.ref (gx_q G 0)])).length) Slot.unset).toArray = ls at hl ⊢
  have hl : lv_has ls 1 [(0, .ref (gx_q G 0))] := hl
  unfold f_X4_frames at hf
  refine lv_aload_n hx hb dX4_frames_0 rfl (lv_at hl 0 rfl) ?_
  refine gx_get C hH 0 (by decide) rfl fl_X4_91 rfl dX4_frames_1 ?_
  refine lv_i2l (v := (σ 0 0).toInt64) hx hb dX4_frames_4 rfl ?_
  refine lv_lconst (v := (1 : Int64)) hx hb dX4_frames_5 (by decide) ?_
  refine lv_ladd hx hb dX4_frames_6 ?_
  refine lv_aload_n hx hb dX4_frames_7 rfl (lv_at hl 0 rfl) ?_
  refine gx_get C hH 0 (by decide) rfl fl_X4_53 rfl dX4_frames_8 ?_
  refine lv_i2l (v := (σ 0 20).toInt64) hx hb dX4_frames_11 rfl ?_
  refine lv_lmul hx hb dX4_frames_12 ?_
  refine lv_lconst (v := (1 : Int64)) hx hb dX4_frames_13 (by decide) ?_
  refine lv_lsub hx hb dX4_frames_14 ?_
  refine lv_ldc2 hx hb C.1.2.2.2.1 (C.1.2.2.2.2 _ kw_755) dX4_frames_15 ?_
  refine lv_ldiv hx hb dX4_frames_18 (by decide) ?_
  refine lv_l2i (v := ((((((σ 0 0).toInt64 + (1 : Int64)) * (σ 0 20).toInt64) - (1 : Int64)) / (1000 : Int64))).toInt32) hx hb dX4_frames_19 rfl ?_
  refine lv_iconst (v := (1 : Int32)) hx hb dX4_frames_20 (by decide) ?_
  refine lv_iadd hx hb dX4_frames_21 ?_
  obtain rfl := Option.some.inj hf
  exact gx_iretR C hr hlocks dX4_frames_22
abbrev rm_X4_peak : Room := { frames := 5, cells := 0, slots := 0, locals := 121 }
def fL_X4_peak_41 : Nat → gx_St → Int32 → Int32 → Int32 → Int32 → Int32 → Int32 → Option Int32
  | 0, _, _, _, _, _, _, _ => none
  | N + 1, σ, v1, v2, v3, v4, v5, v6 =>
    if v2 ≤ v6 then (if v3 = 0 then (some v4) else (some v5)) else ((f_X4_rawAt σ v1 ((σ 0 0) + v6) (0 : Int32)).bind fun r9 =>
    (f_X4_size r9).bind fun r10 =>
    if r10 ≤ v4 then (gx_lt (v6 + (1 : Int32)) fun x12 =>
    fL_X4_peak_41 N σ v1 v2 v3 v4 v5 x12) else (gx_lt (v6 + (1 : Int32)) fun x13 =>
    fL_X4_peak_41 N σ v1 v2 v3 r10 v6 x13))
set_option maxHeartbeats 4000000 in
set_option maxRecDepth 100000 in
theorem w_X4_peak_41 {p : Program} {l : Launch} {e : Env} {s : State} {m : MethodId} {args : Array Value} {below : List Frame} {meth : Method} {c : Code} (G : gx_G) (C : gx_C p m c cX4_peak 8 s args RX4 G) (hr : meth.sig.returnType = (some .int)) (hlocks : meth.locks = false) (σ : gx_St) (hH : gx_H G 13 (gm_mk G) σ s.heap) : ∀ (N : Nat) (v1 v2 v3 v4 v5 v6 : Int32)  (z : Int32), fL_X4_peak_41 N σ v1 v2 v3 v4 v5 v6 = some z → ∀ (ls : Array Slot), lv_has ls 8 [(0, .ref (gx_q G 0)), (1, .int v1), (2, .int v2), (3, .int v3), (4, .int v4), (5, .int v5), (6, .int v6)] → W p l e rm_X4_peak s m args below meth c s.heap [] 0 0 (MQ below (gx_QR (some (.int z))) args s 0 0 (fun _ => False)) (F0 m 41 ls []) := by
  have hx := C.1.1
  have hb := C.1.2.1
  have hS : va_S (gx_A G) s.heap s.heap [] := va_S.rf
  intro N
  induction N with
  | zero =>
    intro v1 v2 v3 v4 v5 v6  z hf ls hl
    cases (show (none : Option Int32) = some z from hf)
  | succ N ih =>
    intro v1 v2 v3 v4 v5 v6  z hf ls hl
    rw [fL_X4_peak_41] at hf
    refine lv_iload hx hb dX4_peak_41 (lv_at hl 6 rfl) ?_
    refine lv_iload_n hx hb dX4_peak_43 rfl (lv_at hl 2 rfl) ?_
    refine lv_icmp_ge (tgt := 86) hx hb dX4_peak_44 (by decide) (fun hc7 => ?_) (fun hc7 => ?_)
    · have hf := gx_pos hc7 hf
      refine lv_iload_n hx hb dX4_peak_86 rfl (lv_at hl 3 rfl) ?_
      refine lv_if_ne (tgt := 95) hx hb dX4_peak_87 (by decide) (fun hc8 => ?_) (fun hc8 => ?_)
      · have hf := gx_neg hc8 hf
        refine lv_iload hx hb dX4_peak_95 (lv_at hl 5 rfl) ?_
        obtain rfl := Option.some.inj hf
        exact gx_iretR C hr hlocks dX4_peak_97
      · have hf := gx_pos hc8 hf
        refine lv_iload hx hb dX4_peak_90 (lv_at hl 4 rfl) ?_
        refine lv_goto (tgt := 97) hx hb dX4_peak_92 (by decide) ?_
        obtain rfl := Option.some.inj hf
        exact gx_iretR C hr hlocks dX4_peak_97
    · have hf := gx_neg hc7 hf
      refine lv_aload_n hx hb dX4_peak_47 rfl (lv_at hl 0 rfl) ?_
      refine lv_iload_n hx hb dX4_peak_48 rfl (lv_at hl 1 rfl) ?_
      refine lv_aload_n hx hb dX4_peak_49 rfl (lv_at hl 0 rfl) ?_
      refine gx_get C hH 0 (by decide) rfl fl_X4_91 rfl dX4_peak_50 ?_
      refine lv_iload hx hb dX4_peak_53 (lv_at hl 6 rfl) ?_
      refine lv_iadd hx hb dX4_peak_55 ?_
      refine lv_iconst (v := (0 : Int32)) hx hb dX4_peak_56 (by decide) ?_
      obtain ⟨r9, hr9, hf⟩ := gx_bnd hf
      refine gx_vR (v := (some (.int r9))) (rest := []) C hH hS 0 (by decide) rfl rfl [.int v1, .int ((σ 0 0) + v6), .int (0 : Int32)] (t_X4_rawAt l G σ v1 ((σ 0 0) + v6) (0 : Int32) r9  hr9) lk_X4_177 ⟨rfl, rfl, Nat.le_of_ble_eq_true rfl, Nat.le_of_ble_eq_true rfl⟩ ⟨Nat.zero_le _, Nat.zero_le _⟩ hl.1 rfl (Nat.le_of_ble_eq_true rfl) dX4_peak_57 ?_
      refine gx_e0 (st := [.int r9]) ?_ rfl
      obtain ⟨r10, hr10, hf⟩ := gx_bnd hf
      refine gx_sR (v := (some (.int r10))) (rest := []) C hH hS [.int r9] (t_X4_size l G σ r9 r10  hr10) lk_X4_155 ⟨rfl, rfl, Nat.le_of_ble_eq_true rfl, Nat.le_of_ble_eq_true rfl⟩ ⟨Nat.zero_le _, Nat.zero_le _⟩ hl.1 rfl (Nat.le_of_ble_eq_true rfl) dX4_peak_60 ?_
      refine gx_e0 (st := [.int r10]) ?_ rfl
      refine lv_istore (lv' := [(7, .int r10), (0, .ref (gx_q G 0)), (1, .int v1), (2, .int v2), (3, .int v3), (4, .int v4), (5, .int v5), (6, .int v6)]) hx hb dX4_peak_63 hl (by decide) rfl (fun ls hl => ?_)
      refine lv_iload hx hb dX4_peak_65 (lv_at hl 0 rfl) ?_
      refine lv_iload hx hb dX4_peak_67 (lv_at hl 5 rfl) ?_
      refine lv_icmp_le (tgt := 80) hx hb dX4_peak_69 (by decide) (fun hc11 => ?_) (fun hc11 => ?_)
      · have hf := gx_pos hc11 hf
        obtain ⟨x12, hx12⟩ : ∃ z : Int32, z = (v6 + (1 : Int32)) := ⟨_, rfl⟩
        have hf := gx_let hf x12 hx12
        refine lv_iinc (v := x12) (lv' := [(6, .int x12), (7, .int r10), (0, .ref (gx_q G 0)), (1, .int v1), (2, .int v2), (3, .int v3), (4, .int v4), (5, .int v5)]) hx hb dX4_peak_80 hl (k := 7) rfl (by rw [hx12]; rfl) (by decide) rfl (fun ls hl => ?_)
        refine lv_goto (tgt := 41) hx hb dX4_peak_83 (by decide) ?_
        exact ih v1 v2 v3 v4 v5 x12  _ hf ls (lv_sub hl [2, 3, 4, 5, 6, 7, 0] rfl)
      · have hf := gx_neg hc11 hf
        refine lv_iload hx hb dX4_peak_72 (lv_at hl 0 rfl) ?_
        refine lv_istore (lv' := [(4, .int r10), (7, .int r10), (0, .ref (gx_q G 0)), (1, .int v1), (2, .int v2), (3, .int v3), (5, .int v5), (6, .int v6)]) hx hb dX4_peak_74 hl (by decide) rfl (fun ls hl => ?_)
        refine lv_iload hx hb dX4_peak_76 (lv_at hl 7 rfl) ?_
        refine lv_istore (lv' := [(5, .int v6), (4, .int r10), (7, .int r10), (0, .ref (gx_q G 0)), (1, .int v1), (2, .int v2), (3, .int v3), (6, .int v6)]) hx hb dX4_peak_78 hl (by decide) rfl (fun ls hl => ?_)
        obtain ⟨x13, hx13⟩ : ∃ z : Int32, z = (v6 + (1 : Int32)) := ⟨_, rfl⟩
        have hf := gx_let hf x13 hx13
        refine lv_iinc (v := x13) (lv' := [(6, .int x13), (5, .int v6), (4, .int r10), (7, .int r10), (0, .ref (gx_q G 0)), (1, .int v1), (2, .int v2), (3, .int v3)]) hx hb dX4_peak_80 hl (k := 7) rfl (by rw [hx13]; rfl) (by decide) rfl (fun ls hl => ?_)
        refine lv_goto (tgt := 41) hx hb dX4_peak_83 (by decide) ?_
        exact ih v1 v2 v3 r10 v6 x13  _ hf ls (lv_sub hl [4, 5, 6, 7, 2, 1, 0] rfl)
def f_X4_peak (σ : gx_St) (a1 a2 a3 : Int32) : Option Int32 :=
  (f_X4_isAxis a1).bind fun r1 =>
  if r1 = 0 then (some (-1 : Int32)) else ((f_X4_within a2 (1 : Int32) (2000 : Int32)).bind fun r3 =>
  if r3 = 0 then (some (-2 : Int32)) else ((f_X4_within a3 (0 : Int32) (1 : Int32)).bind fun r5 =>
  if r5 = 0 then (some (-2 : Int32)) else (fL_X4_peak_41 2001 σ a1 a2 a3 (-1 : Int32) (0 : Int32) (0 : Int32))))
set_option maxHeartbeats 4000000 in
set_option maxRecDepth 100000 in
theorem t_X4_peak (l : Launch) (G : gx_G) (σ : gx_St) (a1 a2 a3 : Int32) (r : Int32)  (hf : f_X4_peak σ a1 a2 a3 = some r) : Met l yX4_peak (Cond.code yX4_peak cX4_peak 8 (some .int) :: wT) rm_X4_peak (va_Pc [.ref (gx_q G 0), .int a1, .int a2, .int a3] (gx_S G 13 (gm_mk G) σ)) (gx_QR (some (.int r))) 0 0 (fun _ => False) := by
  refine Met.ofW (cc := cX4_peak) (maxL := 8) (ret := (some .int)) (by decide) rfl ?_
  intro p e s m args below meth c s₁ B hml hv
  obtain ⟨rfl, hH, hE⟩ := hv
  have C := gx_C.of (G := G) B hml hE
  have hx := C.1.1
  have hb := C.1.2.1
  have hr := B.returns
  have hlocks := B.notSynchronized
  have hS : va_S (gx_A G) s.heap s.heap [] := va_S.rf
  have hl := lv_entry ([.ref (gx_q G 0), .int a1, .int a2, .int a3]) (n := 8) (Nat.le_of_ble_eq_true rfl)
  rw [lg_entry_eq]
  generalize (lg_sl ([.ref (gx_q G 0), .int a1, .int a2, .int a3]) ++ List.replicate (8 - (lg_sl ([.ref (gx_q G 0), .int a1, .int a2, .int a3])).length) Slot.unset).toArray = ls at hl ⊢
  have hl : lv_has ls 8 [(0, .ref (gx_q G 0)), (1, .int a1), (2, .int a2), (3, .int a3)] := hl
  unfold f_X4_peak at hf
  refine lv_iload_n hx hb dX4_peak_0 rfl (lv_at hl 1 rfl) ?_
  obtain ⟨r1, hr1, hf⟩ := gx_bnd hf
  refine gx_sR (v := (some (.int r1))) (rest := []) C hH hS [.int a1] (t_X4_isAxis l G σ a1 r1  hr1) lk_X4_101 ⟨rfl, rfl, Nat.le_of_ble_eq_true rfl, Nat.le_of_ble_eq_true rfl⟩ ⟨Nat.zero_le _, Nat.zero_le _⟩ hl.1 rfl (Nat.le_of_ble_eq_true rfl) dX4_peak_1 ?_
  refine gx_e0 (st := [.int r1]) ?_ rfl
  refine lv_if_ne (tgt := 9) hx hb dX4_peak_4 (by decide) (fun hc2 => ?_) (fun hc2 => ?_)
  · have hf := gx_neg hc2 hf
    refine lv_iload_n hx hb dX4_peak_9 rfl (lv_at hl 2 rfl) ?_
    refine lv_iconst (v := (1 : Int32)) hx hb dX4_peak_10 (by decide) ?_
    refine lv_sipush (v := (2000 : Int32)) hx hb dX4_peak_11 (by decide) ?_
    obtain ⟨r3, hr3, hf⟩ := gx_bnd hf
    refine gx_sR (v := (some (.int r3))) (rest := []) C hH hS [.int a2, .int (1 : Int32), .int (2000 : Int32)] (t_X4_within l G σ a2 (1 : Int32) (2000 : Int32) r3  hr3) lk_X4_59 ⟨rfl, rfl, Nat.le_of_ble_eq_true rfl, Nat.le_of_ble_eq_true rfl⟩ ⟨Nat.zero_le _, Nat.zero_le _⟩ hl.1 rfl (Nat.le_of_ble_eq_true rfl) dX4_peak_14 ?_
    refine gx_e0 (st := [.int r3]) ?_ rfl
    refine lv_if_eq (tgt := 29) hx hb dX4_peak_17 (by decide) (fun hc4 => ?_) (fun hc4 => ?_)
    · have hf := gx_pos hc4 hf
      refine lv_bipush (v := (-2 : Int32)) hx hb dX4_peak_29 (by decide) ?_
      obtain rfl := Option.some.inj hf
      exact gx_iretR C hr hlocks dX4_peak_31
    · have hf := gx_neg hc4 hf
      refine lv_iload_n hx hb dX4_peak_20 rfl (lv_at hl 3 rfl) ?_
      refine lv_iconst (v := (0 : Int32)) hx hb dX4_peak_21 (by decide) ?_
      refine lv_iconst (v := (1 : Int32)) hx hb dX4_peak_22 (by decide) ?_
      obtain ⟨r5, hr5, hf⟩ := gx_bnd hf
      refine gx_sR (v := (some (.int r5))) (rest := []) C hH hS [.int a3, .int (0 : Int32), .int (1 : Int32)] (t_X4_within l G σ a3 (0 : Int32) (1 : Int32) r5  hr5) lk_X4_59 ⟨rfl, rfl, Nat.le_of_ble_eq_true rfl, Nat.le_of_ble_eq_true rfl⟩ ⟨Nat.zero_le _, Nat.zero_le _⟩ hl.1 rfl (Nat.le_of_ble_eq_true rfl) dX4_peak_23 ?_
      refine gx_e0 (st := [.int r5]) ?_ rfl
      refine lv_if_ne (tgt := 32) hx hb dX4_peak_26 (by decide) (fun hc6 => ?_) (fun hc6 => ?_)
      · have hf := gx_neg hc6 hf
        refine lv_iconst (v := (-1 : Int32)) hx hb dX4_peak_32 (by decide) ?_
        refine lv_istore (lv' := [(4, .int (-1 : Int32)), (0, .ref (gx_q G 0)), (1, .int a1), (2, .int a2), (3, .int a3)]) hx hb dX4_peak_33 hl (by decide) rfl (fun ls hl => ?_)
        refine lv_iconst (v := (0 : Int32)) hx hb dX4_peak_35 (by decide) ?_
        refine lv_istore (lv' := [(5, .int (0 : Int32)), (4, .int (-1 : Int32)), (0, .ref (gx_q G 0)), (1, .int a1), (2, .int a2), (3, .int a3)]) hx hb dX4_peak_36 hl (by decide) rfl (fun ls hl => ?_)
        refine lv_iconst (v := (0 : Int32)) hx hb dX4_peak_38 (by decide) ?_
        refine lv_istore (lv' := [(6, .int (0 : Int32)), (5, .int (0 : Int32)), (4, .int (-1 : Int32)), (0, .ref (gx_q G 0)), (1, .int a1), (2, .int a2), (3, .int a3)]) hx hb dX4_peak_39 hl (by decide) rfl (fun ls hl => ?_)
        exact w_X4_peak_41 (l := l) G C hr hlocks σ hH 2001 a1 a2 a3 (-1 : Int32) (0 : Int32) (0 : Int32)  _ hf ls (lv_sub hl [3, 4, 5, 6, 2, 1, 0] rfl)
      · have hf := gx_pos hc6 hf
        refine lv_bipush (v := (-2 : Int32)) hx hb dX4_peak_29 (by decide) ?_
        obtain rfl := Option.some.inj hf
        exact gx_iretR C hr hlocks dX4_peak_31
  · have hf := gx_pos hc2 hf
    refine lv_iconst (v := (-1 : Int32)) hx hb dX4_peak_7 (by decide) ?_
    obtain rfl := Option.some.inj hf
    exact gx_iretR C hr hlocks dX4_peak_8
abbrev rm_X4_isHeldBack : Room := { frames := 5, cells := 0, slots := 0, locals := 121 }
def f_X4_isHeldBack (σ : gx_St) (a1 a2 : Int32) : Option Int32 :=
  (f_X4_rawAt σ (0 : Int32) a1 a2).bind fun r1 =>
  (f_X4_size r1).bind fun r2 =>
  if (1000 : Int32) < r2 then (some (1 : Int32)) else ((f_X4_rawAt σ (1 : Int32) a1 a2).bind fun r4 =>
  (f_X4_size r4).bind fun r5 =>
  if r5 ≤ (1000 : Int32) then (some (0 : Int32)) else (some (1 : Int32)))
set_option maxHeartbeats 4000000 in
set_option maxRecDepth 100000 in
theorem t_X4_isHeldBack (l : Launch) (G : gx_G) (σ : gx_St) (a1 a2 : Int32) (r : Int32)  (hf : f_X4_isHeldBack σ a1 a2 = some r) : Met l yX4_isHeldBack (Cond.code yX4_isHeldBack cX4_isHeldBack 3 (some .boolean) :: wT) rm_X4_isHeldBack (va_Pc [.ref (gx_q G 0), .int a1, .int a2] (gx_S G 13 (gm_mk G) σ)) (gx_QR (some (.int r))) 0 0 (fun _ => False) := by
  refine Met.ofW (cc := cX4_isHeldBack) (maxL := 3) (ret := (some .boolean)) (by decide) rfl ?_
  intro p e s m args below meth c s₁ B hml hv
  obtain ⟨rfl, hH, hE⟩ := hv
  have C := gx_C.of (G := G) B hml hE
  have hx := C.1.1
  have hb := C.1.2.1
  have hr := B.returns
  have hlocks := B.notSynchronized
  have hS : va_S (gx_A G) s.heap s.heap [] := va_S.rf
  have hl := lv_entry ([.ref (gx_q G 0), .int a1, .int a2]) (n := 3) (Nat.le_of_ble_eq_true rfl)
  rw [lg_entry_eq]
  generalize (lg_sl ([.ref (gx_q G 0), .int a1, .int a2]) ++ List.replicate (3 - (lg_sl ([.ref (gx_q G 0), .int a1, .int a2])).length) Slot.unset).toArray = ls at hl ⊢
  have hl : lv_has ls 3 [(0, .ref (gx_q G 0)), (1, .int a1), (2, .int a2)] := hl
  unfold f_X4_isHeldBack at hf
  refine lv_aload_n hx hb dX4_isHeldBack_0 rfl (lv_at hl 0 rfl) ?_
  refine lv_iconst (v := (0 : Int32)) hx hb dX4_isHeldBack_1 (by decide) ?_
  refine lv_iload_n hx hb dX4_isHeldBack_2 rfl (lv_at hl 1 rfl) ?_
  refine lv_iload_n hx hb dX4_isHeldBack_3 rfl (lv_at hl 2 rfl) ?_
  obtain ⟨r1, hr1, hf⟩ := gx_bnd hf
  refine gx_vR (v := (some (.int r1))) (rest := []) C hH hS 0 (by decide) rfl rfl [.int (0 : Int32), .int a1, .int a2] (t_X4_rawAt l G σ (0 : Int32) a1 a2 r1  hr1) lk_X4_177 ⟨rfl, rfl, Nat.le_of_ble_eq_true rfl, Nat.le_of_ble_eq_true rfl⟩ ⟨Nat.zero_le _, Nat.zero_le _⟩ hl.1 rfl (Nat.le_of_ble_eq_true rfl) dX4_isHeldBack_4 ?_
  refine gx_e0 (st := [.int r1]) ?_ rfl
  obtain ⟨r2, hr2, hf⟩ := gx_bnd hf
  refine gx_sR (v := (some (.int r2))) (rest := []) C hH hS [.int r1] (t_X4_size l G σ r1 r2  hr2) lk_X4_155 ⟨rfl, rfl, Nat.le_of_ble_eq_true rfl, Nat.le_of_ble_eq_true rfl⟩ ⟨Nat.zero_le _, Nat.zero_le _⟩ hl.1 rfl (Nat.le_of_ble_eq_true rfl) dX4_isHeldBack_7 ?_
  refine gx_e0 (st := [.int r2]) ?_ rfl
  refine lv_sipush (v := (1000 : Int32)) hx hb dX4_isHeldBack_10 (by decide) ?_
  refine lv_icmp_gt (tgt := 32) hx hb dX4_isHeldBack_13 (by decide) (fun hc3 => ?_) (fun hc3 => ?_)
  · have hf := gx_pos hc3 hf
    refine lv_iconst (v := (1 : Int32)) hx hb dX4_isHeldBack_32 (by decide) ?_
    refine lv_goto (tgt := 37) hx hb dX4_isHeldBack_33 (by decide) ?_
    obtain rfl := Option.some.inj hf
    exact gx_zretR C hr hlocks (by decide) dX4_isHeldBack_37
  · have hf := gx_neg hc3 hf
    refine lv_aload_n hx hb dX4_isHeldBack_16 rfl (lv_at hl 0 rfl) ?_
    refine lv_iconst (v := (1 : Int32)) hx hb dX4_isHeldBack_17 (by decide) ?_
    refine lv_iload_n hx hb dX4_isHeldBack_18 rfl (lv_at hl 1 rfl) ?_
    refine lv_iload_n hx hb dX4_isHeldBack_19 rfl (lv_at hl 2 rfl) ?_
    obtain ⟨r4, hr4, hf⟩ := gx_bnd hf
    refine gx_vR (v := (some (.int r4))) (rest := []) C hH hS 0 (by decide) rfl rfl [.int (1 : Int32), .int a1, .int a2] (t_X4_rawAt l G σ (1 : Int32) a1 a2 r4  hr4) lk_X4_177 ⟨rfl, rfl, Nat.le_of_ble_eq_true rfl, Nat.le_of_ble_eq_true rfl⟩ ⟨Nat.zero_le _, Nat.zero_le _⟩ hl.1 rfl (Nat.le_of_ble_eq_true rfl) dX4_isHeldBack_20 ?_
    refine gx_e0 (st := [.int r4]) ?_ rfl
    obtain ⟨r5, hr5, hf⟩ := gx_bnd hf
    refine gx_sR (v := (some (.int r5))) (rest := []) C hH hS [.int r4] (t_X4_size l G σ r4 r5  hr5) lk_X4_155 ⟨rfl, rfl, Nat.le_of_ble_eq_true rfl, Nat.le_of_ble_eq_true rfl⟩ ⟨Nat.zero_le _, Nat.zero_le _⟩ hl.1 rfl (Nat.le_of_ble_eq_true rfl) dX4_isHeldBack_23 ?_
    refine gx_e0 (st := [.int r5]) ?_ rfl
    refine lv_sipush (v := (1000 : Int32)) hx hb dX4_isHeldBack_26 (by decide) ?_
    refine lv_icmp_le (tgt := 36) hx hb dX4_isHeldBack_29 (by decide) (fun hc6 => ?_) (fun hc6 => ?_)
    · have hf := gx_pos hc6 hf
      refine lv_iconst (v := (0 : Int32)) hx hb dX4_isHeldBack_36 (by decide) ?_
      obtain rfl := Option.some.inj hf
      exact gx_zretR C hr hlocks (by decide) dX4_isHeldBack_37
    · have hf := gx_neg hc6 hf
      refine lv_iconst (v := (1 : Int32)) hx hb dX4_isHeldBack_32 (by decide) ?_
      refine lv_goto (tgt := 37) hx hb dX4_isHeldBack_33 (by decide) ?_
      obtain rfl := Option.some.inj hf
      exact gx_zretR C hr hlocks (by decide) dX4_isHeldBack_37
abbrev rm_X4_soLong : Room := { frames := 6, cells := 0, slots := 0, locals := 143 }
def fL_X4_soLong_18 : Nat → gx_St → Int32 → Int32 → Int32 → Option Int32
  | 0, _, _, _, _ => none
  | N + 1, σ, v1, v2, v3 =>
    if v1 ≤ v3 then (some v2) else ((f_X4_isHeldBack σ ((σ 0 0) + v3) (0 : Int32)).bind fun r4 =>
    if r4 = 0 then (gx_lt (v2 + (0 : Int32)) fun x6 =>
    gx_lt (v3 + (1 : Int32)) fun x7 =>
    fL_X4_soLong_18 N σ v1 x6 x7) else (gx_lt (v2 + (1 : Int32)) fun x8 =>
    gx_lt (v3 + (1 : Int32)) fun x9 =>
    fL_X4_soLong_18 N σ v1 x8 x9))
set_option maxHeartbeats 4000000 in
set_option maxRecDepth 100000 in
theorem w_X4_soLong_18 {p : Program} {l : Launch} {e : Env} {s : State} {m : MethodId} {args : Array Value} {below : List Frame} {meth : Method} {c : Code} (G : gx_G) (C : gx_C p m c cX4_soLong 4 s args RX4 G) (hr : meth.sig.returnType = (some .int)) (hlocks : meth.locks = false) (σ : gx_St) (hH : gx_H G 13 (gm_mk G) σ s.heap) : ∀ (N : Nat) (v1 v2 v3 : Int32)  (z : Int32), fL_X4_soLong_18 N σ v1 v2 v3 = some z → ∀ (ls : Array Slot), lv_has ls 4 [(0, .ref (gx_q G 0)), (1, .int v1), (2, .int v2), (3, .int v3)] → W p l e rm_X4_soLong s m args below meth c s.heap [] 0 0 (MQ below (gx_QR (some (.int z))) args s 0 0 (fun _ => False)) (F0 m 18 ls []) := by
  have hx := C.1.1
  have hb := C.1.2.1
  have hS : va_S (gx_A G) s.heap s.heap [] := va_S.rf
  intro N
  induction N with
  | zero =>
    intro v1 v2 v3  z hf ls hl
    cases (show (none : Option Int32) = some z from hf)
  | succ N ih =>
    intro v1 v2 v3  z hf ls hl
    rw [fL_X4_soLong_18] at hf
    refine lv_iload_n hx hb dX4_soLong_18 rfl (lv_at hl 3 rfl) ?_
    refine lv_iload_n hx hb dX4_soLong_19 rfl (lv_at hl 1 rfl) ?_
    refine lv_icmp_ge (tgt := 51) hx hb dX4_soLong_20 (by decide) (fun hc3 => ?_) (fun hc3 => ?_)
    · have hf := gx_pos hc3 hf
      refine lv_iload_n hx hb dX4_soLong_51 rfl (lv_at hl 2 rfl) ?_
      obtain rfl := Option.some.inj hf
      exact gx_iretR C hr hlocks dX4_soLong_52
    · have hf := gx_neg hc3 hf
      refine lv_iload_n hx hb dX4_soLong_23 rfl (lv_at hl 2 rfl) ?_
      refine lv_aload_n hx hb dX4_soLong_24 rfl (lv_at hl 0 rfl) ?_
      refine lv_aload_n hx hb dX4_soLong_25 rfl (lv_at hl 0 rfl) ?_
      refine gx_get C hH 0 (by decide) rfl fl_X4_91 rfl dX4_soLong_26 ?_
      refine lv_iload_n hx hb dX4_soLong_29 rfl (lv_at hl 3 rfl) ?_
      refine lv_iadd hx hb dX4_soLong_30 ?_
      refine lv_iconst (v := (0 : Int32)) hx hb dX4_soLong_31 (by decide) ?_
      obtain ⟨r4, hr4, hf⟩ := gx_bnd hf
      refine gx_vR (v := (some (.int r4))) (rest := [.int v2]) C hH hS 0 (by decide) rfl rfl [.int ((σ 0 0) + v3), .int (0 : Int32)] (t_X4_isHeldBack l G σ ((σ 0 0) + v3) (0 : Int32) r4  hr4) lk_X4_183 ⟨rfl, rfl, Nat.le_of_ble_eq_true rfl, Nat.le_of_ble_eq_true rfl⟩ ⟨Nat.zero_le _, Nat.zero_le _⟩ hl.1 rfl (Nat.le_of_ble_eq_true rfl) dX4_soLong_32 ?_
      refine gx_e0 (st := [.int r4, .int v2]) ?_ rfl
      refine lv_if_eq (tgt := 42) hx hb dX4_soLong_35 (by decide) (fun hc5 => ?_) (fun hc5 => ?_)
      · have hf := gx_pos hc5 hf
        refine lv_iconst (v := (0 : Int32)) hx hb dX4_soLong_42 (by decide) ?_
        refine lv_iadd hx hb dX4_soLong_43 ?_
        refine lv_topi (fun x6 hx6 => ?_)
        have hf := gx_let hf x6 hx6
        refine lv_istore_n (lv' := [(2, .int x6), (0, .ref (gx_q G 0)), (1, .int v1), (3, .int v3)]) hx hb dX4_soLong_44 rfl hl (by decide) rfl (fun ls hl => ?_)
        obtain ⟨x7, hx7⟩ : ∃ z : Int32, z = (v3 + (1 : Int32)) := ⟨_, rfl⟩
        have hf := gx_let hf x7 hx7
        refine lv_iinc (v := x7) (lv' := [(3, .int x7), (2, .int x6), (0, .ref (gx_q G 0)), (1, .int v1)]) hx hb dX4_soLong_45 hl (k := 3) rfl (by rw [hx7]; rfl) (by decide) rfl (fun ls hl => ?_)
        refine lv_goto (tgt := 18) hx hb dX4_soLong_48 (by decide) ?_
        exact ih v1 x6 x7  _ hf ls (lv_sub hl [2, 3, 1, 0] rfl)
      · have hf := gx_neg hc5 hf
        refine lv_iconst (v := (1 : Int32)) hx hb dX4_soLong_38 (by decide) ?_
        refine lv_goto (tgt := 43) hx hb dX4_soLong_39 (by decide) ?_
        refine lv_iadd hx hb dX4_soLong_43 ?_
        refine lv_topi (fun x8 hx8 => ?_)
        have hf := gx_let hf x8 hx8
        refine lv_istore_n (lv' := [(2, .int x8), (0, .ref (gx_q G 0)), (1, .int v1), (3, .int v3)]) hx hb dX4_soLong_44 rfl hl (by decide) rfl (fun ls hl => ?_)
        obtain ⟨x9, hx9⟩ : ∃ z : Int32, z = (v3 + (1 : Int32)) := ⟨_, rfl⟩
        have hf := gx_let hf x9 hx9
        refine lv_iinc (v := x9) (lv' := [(3, .int x9), (2, .int x8), (0, .ref (gx_q G 0)), (1, .int v1)]) hx hb dX4_soLong_45 hl (k := 3) rfl (by rw [hx9]; rfl) (by decide) rfl (fun ls hl => ?_)
        refine lv_goto (tgt := 18) hx hb dX4_soLong_48 (by decide) ?_
        exact ih v1 x8 x9  _ hf ls (lv_sub hl [2, 3, 1, 0] rfl)
def f_X4_soLong (σ : gx_St) (a1 : Int32) : Option Int32 :=
  (f_X4_within a1 (1 : Int32) (2000 : Int32)).bind fun r1 =>
  if r1 = 0 then (some (-2 : Int32)) else (fL_X4_soLong_18 2001 σ a1 (0 : Int32) (0 : Int32))
set_option maxHeartbeats 4000000 in
set_option maxRecDepth 100000 in
theorem t_X4_soLong (l : Launch) (G : gx_G) (σ : gx_St) (a1 : Int32) (r : Int32)  (hf : f_X4_soLong σ a1 = some r) : Met l yX4_soLong (Cond.code yX4_soLong cX4_soLong 4 (some .int) :: wT) rm_X4_soLong (va_Pc [.ref (gx_q G 0), .int a1] (gx_S G 13 (gm_mk G) σ)) (gx_QR (some (.int r))) 0 0 (fun _ => False) := by
  refine Met.ofW (cc := cX4_soLong) (maxL := 4) (ret := (some .int)) (by decide) rfl ?_
  intro p e s m args below meth c s₁ B hml hv
  obtain ⟨rfl, hH, hE⟩ := hv
  have C := gx_C.of (G := G) B hml hE
  have hx := C.1.1
  have hb := C.1.2.1
  have hr := B.returns
  have hlocks := B.notSynchronized
  have hS : va_S (gx_A G) s.heap s.heap [] := va_S.rf
  have hl := lv_entry ([.ref (gx_q G 0), .int a1]) (n := 4) (Nat.le_of_ble_eq_true rfl)
  rw [lg_entry_eq]
  generalize (lg_sl ([.ref (gx_q G 0), .int a1]) ++ List.replicate (4 - (lg_sl ([.ref (gx_q G 0), .int a1])).length) Slot.unset).toArray = ls at hl ⊢
  have hl : lv_has ls 4 [(0, .ref (gx_q G 0)), (1, .int a1)] := hl
  unfold f_X4_soLong at hf
  refine lv_iload_n hx hb dX4_soLong_0 rfl (lv_at hl 1 rfl) ?_
  refine lv_iconst (v := (1 : Int32)) hx hb dX4_soLong_1 (by decide) ?_
  refine lv_sipush (v := (2000 : Int32)) hx hb dX4_soLong_2 (by decide) ?_
  obtain ⟨r1, hr1, hf⟩ := gx_bnd hf
  refine gx_sR (v := (some (.int r1))) (rest := []) C hH hS [.int a1, .int (1 : Int32), .int (2000 : Int32)] (t_X4_within l G σ a1 (1 : Int32) (2000 : Int32) r1  hr1) lk_X4_59 ⟨rfl, rfl, Nat.le_of_ble_eq_true rfl, Nat.le_of_ble_eq_true rfl⟩ ⟨Nat.zero_le _, Nat.zero_le _⟩ hl.1 rfl (Nat.le_of_ble_eq_true rfl) dX4_soLong_5 ?_
  refine gx_e0 (st := [.int r1]) ?_ rfl
  refine lv_if_ne (tgt := 14) hx hb dX4_soLong_8 (by decide) (fun hc2 => ?_) (fun hc2 => ?_)
  · have hf := gx_neg hc2 hf
    refine lv_iconst (v := (0 : Int32)) hx hb dX4_soLong_14 (by decide) ?_
    refine lv_istore_n (lv' := [(2, .int (0 : Int32)), (0, .ref (gx_q G 0)), (1, .int a1)]) hx hb dX4_soLong_15 rfl hl (by decide) rfl (fun ls hl => ?_)
    refine lv_iconst (v := (0 : Int32)) hx hb dX4_soLong_16 (by decide) ?_
    refine lv_istore_n (lv' := [(3, .int (0 : Int32)), (2, .int (0 : Int32)), (0, .ref (gx_q G 0)), (1, .int a1)]) hx hb dX4_soLong_17 rfl hl (by decide) rfl (fun ls hl => ?_)
    exact w_X4_soLong_18 (l := l) G C hr hlocks σ hH 2001 a1 (0 : Int32) (0 : Int32)  _ hf ls (lv_sub hl [2, 3, 1, 0] rfl)
  · have hf := gx_pos hc2 hf
    refine lv_bipush (v := (-2 : Int32)) hx hb dX4_soLong_11 (by decide) ?_
    obtain rfl := Option.some.inj hf
    exact gx_iretR C hr hlocks dX4_soLong_13
abbrev rm_X4_isQuiet : Room := { frames := 6, cells := 0, slots := 0, locals := 143 }
def fL_X4_isQuiet_2 : Nat → gx_St → Int32 → Int32 → Int32 → Option Int32
  | 0, _, _, _, _ => none
  | N + 1, σ, v1, v2, v3 =>
    if v1 ≤ v3 then (some (1 : Int32)) else ((f_X4_isHeldBack σ ((σ 0 0) + v3) v2).bind fun r2 =>
    if r2 = 0 then (gx_lt (v3 + (1 : Int32)) fun x4 =>
    fL_X4_isQuiet_2 N σ v1 v2 x4) else (some (0 : Int32)))
set_option maxHeartbeats 4000000 in
set_option maxRecDepth 100000 in
theorem w_X4_isQuiet_2 {p : Program} {l : Launch} {e : Env} {s : State} {m : MethodId} {args : Array Value} {below : List Frame} {meth : Method} {c : Code} (G : gx_G) (C : gx_C p m c cX4_isQuiet 4 s args RX4 G) (hr : meth.sig.returnType = (some .boolean)) (hlocks : meth.locks = false) (σ : gx_St) (hH : gx_H G 13 (gm_mk G) σ s.heap) : ∀ (N : Nat) (v1 v2 v3 : Int32)  (z : Int32), fL_X4_isQuiet_2 N σ v1 v2 v3 = some z → ∀ (ls : Array Slot), lv_has ls 4 [(0, .ref (gx_q G 0)), (1, .int v1), (2, .int v2), (3, .int v3)] → W p l e rm_X4_isQuiet s m args below meth c s.heap [] 0 0 (MQ below (gx_QR (some (.int z))) args s 0 0 (fun _ => False)) (F0 m 2 ls []) := by
  have hx := C.1.1
  have hb := C.1.2.1
  have hS : va_S (gx_A G) s.heap s.heap [] := va_S.rf
  intro N
  induction N with
  | zero =>
    intro v1 v2 v3  z hf ls hl
    cases (show (none : Option Int32) = some z from hf)
  | succ N ih =>
    intro v1 v2 v3  z hf ls hl
    rw [fL_X4_isQuiet_2] at hf
    refine lv_iload_n hx hb dX4_isQuiet_2 rfl (lv_at hl 3 rfl) ?_
    refine lv_iload_n hx hb dX4_isQuiet_3 rfl (lv_at hl 1 rfl) ?_
    refine lv_icmp_ge (tgt := 29) hx hb dX4_isQuiet_4 (by decide) (fun hc1 => ?_) (fun hc1 => ?_)
    · have hf := gx_pos hc1 hf
      refine lv_iconst (v := (1 : Int32)) hx hb dX4_isQuiet_29 (by decide) ?_
      obtain rfl := Option.some.inj hf
      exact gx_zretR C hr hlocks (by decide) dX4_isQuiet_30
    · have hf := gx_neg hc1 hf
      refine lv_aload_n hx hb dX4_isQuiet_7 rfl (lv_at hl 0 rfl) ?_
      refine lv_aload_n hx hb dX4_isQuiet_8 rfl (lv_at hl 0 rfl) ?_
      refine gx_get C hH 0 (by decide) rfl fl_X4_91 rfl dX4_isQuiet_9 ?_
      refine lv_iload_n hx hb dX4_isQuiet_12 rfl (lv_at hl 3 rfl) ?_
      refine lv_iadd hx hb dX4_isQuiet_13 ?_
      refine lv_iload_n hx hb dX4_isQuiet_14 rfl (lv_at hl 2 rfl) ?_
      obtain ⟨r2, hr2, hf⟩ := gx_bnd hf
      refine gx_vR (v := (some (.int r2))) (rest := []) C hH hS 0 (by decide) rfl rfl [.int ((σ 0 0) + v3), .int v2] (t_X4_isHeldBack l G σ ((σ 0 0) + v3) v2 r2  hr2) lk_X4_183 ⟨rfl, rfl, Nat.le_of_ble_eq_true rfl, Nat.le_of_ble_eq_true rfl⟩ ⟨Nat.zero_le _, Nat.zero_le _⟩ hl.1 rfl (Nat.le_of_ble_eq_true rfl) dX4_isQuiet_15 ?_
      refine gx_e0 (st := [.int r2]) ?_ rfl
      refine lv_if_eq (tgt := 23) hx hb dX4_isQuiet_18 (by decide) (fun hc3 => ?_) (fun hc3 => ?_)
      · have hf := gx_pos hc3 hf
        obtain ⟨x4, hx4⟩ : ∃ z : Int32, z = (v3 + (1 : Int32)) := ⟨_, rfl⟩
        have hf := gx_let hf x4 hx4
        refine lv_iinc (v := x4) (lv' := [(3, .int x4), (0, .ref (gx_q G 0)), (1, .int v1), (2, .int v2)]) hx hb dX4_isQuiet_23 hl (k := 3) rfl (by rw [hx4]; rfl) (by decide) rfl (fun ls hl => ?_)
        refine lv_goto (tgt := 2) hx hb dX4_isQuiet_26 (by decide) ?_
        exact ih v1 v2 x4  _ hf ls (lv_sub hl [1, 2, 3, 0] rfl)
      · have hf := gx_neg hc3 hf
        refine lv_iconst (v := (0 : Int32)) hx hb dX4_isQuiet_21 (by decide) ?_
        obtain rfl := Option.some.inj hf
        exact gx_zretR C hr hlocks (by decide) dX4_isQuiet_22
def f_X4_isQuiet (σ : gx_St) (a1 a2 : Int32) : Option Int32 :=
  fL_X4_isQuiet_2 401 σ a1 a2 (0 : Int32)
set_option maxHeartbeats 4000000 in
set_option maxRecDepth 100000 in
theorem t_X4_isQuiet (l : Launch) (G : gx_G) (σ : gx_St) (a1 a2 : Int32) (r : Int32)  (hf : f_X4_isQuiet σ a1 a2 = some r) : Met l yX4_isQuiet (Cond.code yX4_isQuiet cX4_isQuiet 4 (some .boolean) :: wT) rm_X4_isQuiet (va_Pc [.ref (gx_q G 0), .int a1, .int a2] (gx_S G 13 (gm_mk G) σ)) (gx_QR (some (.int r))) 0 0 (fun _ => False) := by
  refine Met.ofW (cc := cX4_isQuiet) (maxL := 4) (ret := (some .boolean)) (by decide) rfl ?_
  intro p e s m args below meth c s₁ B hml hv
  obtain ⟨rfl, hH, hE⟩ := hv
  have C := gx_C.of (G := G) B hml hE
  have hx := C.1.1
  have hb := C.1.2.1
  have hr := B.returns
  have hlocks := B.notSynchronized
  have hS : va_S (gx_A G) s.heap s.heap [] := va_S.rf
  have hl := lv_entry ([.ref (gx_q G 0), .int a1, .int a2]) (n := 4) (Nat.le_of_ble_eq_true rfl)
  rw [lg_entry_eq]
  generalize (lg_sl ([.ref (gx_q G 0), .int a1, .int a2]) ++ List.replicate (4 - (lg_sl ([.ref (gx_q G 0), .int a1, .int a2])).length) Slot.unset).toArray = ls at hl ⊢
  have hl : lv_has ls 4 [(0, .ref (gx_q G 0)), (1, .int a1), (2, .int a2)] := hl
  unfold f_X4_isQuiet at hf
  refine lv_iconst (v := (0 : Int32)) hx hb dX4_isQuiet_0 (by decide) ?_
  refine lv_istore_n (lv' := [(3, .int (0 : Int32)), (0, .ref (gx_q G 0)), (1, .int a1), (2, .int a2)]) hx hb dX4_isQuiet_1 rfl hl (by decide) rfl (fun ls hl => ?_)
  exact w_X4_isQuiet_2 (l := l) G C hr hlocks σ hH 401 a1 a2 (0 : Int32)  _ hf ls (lv_sub hl [1, 2, 3, 0] rfl)
abbrev rm_X4_manyOf : Room := { frames := 0, cells := 0, slots := 0, locals := 0 }
def fL_X4_manyOf_4 : Nat → Int32 → Int32 → Option Int32
  | 0, _, _ => none
  | N + 1, v1, v2 =>
    if v2 ≤ 0 then (some v1) else (gx_lt (v1 + (v2 &&& (1 : Int32))) fun x2 =>
    gx_lt (v2 >>> ((1 : Int32) &&& 31)) fun x3 =>
    fL_X4_manyOf_4 N x2 x3)
set_option maxHeartbeats 4000000 in
set_option maxRecDepth 100000 in
theorem w_X4_manyOf_4 {p : Program} {l : Launch} {e : Env} {s : State} {m : MethodId} {args : Array Value} {below : List Frame} {meth : Method} {c : Code} (G : gx_G) (C : gx_C p m c cX4_manyOf 3 s args RX4 G) (hr : meth.sig.returnType = (some .int)) (hlocks : meth.locks = false) (σ : gx_St) (hH : gx_H G 13 (gm_mk G) σ s.heap) : ∀ (N : Nat) (v1 v2 : Int32)  (z : Int32), fL_X4_manyOf_4 N v1 v2 = some z → ∀ (ls : Array Slot), lv_has ls 3 [(1, .int v1), (2, .int v2)] → W p l e rm_X4_manyOf s m args below meth c s.heap [] 0 0 (MQ below (gx_QR (some (.int z))) args s 0 0 (fun _ => False)) (F0 m 4 ls []) := by
  have hx := C.1.1
  have hb := C.1.2.1
  have hS : va_S (gx_A G) s.heap s.heap [] := va_S.rf
  intro N
  induction N with
  | zero =>
    intro v1 v2  z hf ls hl
    cases (show (none : Option Int32) = some z from hf)
  | succ N ih =>
    intro v1 v2  z hf ls hl
    rw [fL_X4_manyOf_4] at hf
    refine lv_iload_n hx hb dX4_manyOf_4 rfl (lv_at hl 1 rfl) ?_
    refine lv_if_le (tgt := 21) hx hb dX4_manyOf_5 (by decide) (fun hc1 => ?_) (fun hc1 => ?_)
    · have hf := gx_pos hc1 hf
      refine lv_iload_n hx hb dX4_manyOf_21 rfl (lv_at hl 0 rfl) ?_
      obtain rfl := Option.some.inj hf
      exact gx_iretR C hr hlocks dX4_manyOf_22
    · have hf := gx_neg hc1 hf
      refine lv_iload_n hx hb dX4_manyOf_8 rfl (lv_at hl 0 rfl) ?_
      refine lv_iload_n hx hb dX4_manyOf_9 rfl (lv_at hl 1 rfl) ?_
      refine lv_iconst (v := (1 : Int32)) hx hb dX4_manyOf_10 (by decide) ?_
      refine lv_iand hx hb dX4_manyOf_11 ?_
      refine lv_iadd hx hb dX4_manyOf_12 ?_
      refine lv_topi (fun x2 hx2 => ?_)
      have hf := gx_let hf x2 hx2
      refine lv_istore_n (lv' := [(1, .int x2), (2, .int v2)]) hx hb dX4_manyOf_13 rfl hl (by decide) rfl (fun ls hl => ?_)
      refine lv_iload_n hx hb dX4_manyOf_14 rfl (lv_at hl 1 rfl) ?_
      refine lv_iconst (v := (1 : Int32)) hx hb dX4_manyOf_15 (by decide) ?_
      refine lv_ishr hx hb dX4_manyOf_16 ?_
      refine lv_topi (fun x3 hx3 => ?_)
      have hf := gx_let hf x3 hx3
      refine lv_istore_n (lv' := [(2, .int x3), (1, .int x2)]) hx hb dX4_manyOf_17 rfl hl (by decide) rfl (fun ls hl => ?_)
      refine lv_goto (tgt := 4) hx hb dX4_manyOf_18 (by decide) ?_
      exact ih x2 x3  _ hf ls (lv_sub hl [1, 0] rfl)
def f_X4_manyOf (a0 : Int32) : Option Int32 :=
  fL_X4_manyOf_4 33 (0 : Int32) a0
set_option maxHeartbeats 4000000 in
set_option maxRecDepth 100000 in
theorem t_X4_manyOf (l : Launch) (G : gx_G) (σ : gx_St) (a0 : Int32) (r : Int32)  (hf : f_X4_manyOf a0 = some r) : Met l yX4_manyOf (Cond.code yX4_manyOf cX4_manyOf 3 (some .int) :: wT) rm_X4_manyOf (va_Pc [.int a0] (gx_S G 13 (gm_mk G) σ)) (gx_QR (some (.int r))) 0 0 (fun _ => False) := by
  refine Met.ofW (cc := cX4_manyOf) (maxL := 3) (ret := (some .int)) (by decide) rfl ?_
  intro p e s m args below meth c s₁ B hml hv
  obtain ⟨rfl, hH, hE⟩ := hv
  have C := gx_C.of (G := G) B hml hE
  have hx := C.1.1
  have hb := C.1.2.1
  have hr := B.returns
  have hlocks := B.notSynchronized
  have hS : va_S (gx_A G) s.heap s.heap [] := va_S.rf
  have hl := lv_entry ([.int a0]) (n := 3) (Nat.le_of_ble_eq_true rfl)
  rw [lg_entry_eq]
  generalize (lg_sl ([.int a0]) ++ List.replicate (3 - (lg_sl ([.int a0])).length) Slot.unset).toArray = ls at hl ⊢
  have hl : lv_has ls 3 [(0, .int a0)] := hl
  unfold f_X4_manyOf at hf
  refine lv_iconst (v := (0 : Int32)) hx hb dX4_manyOf_0 (by decide) ?_
  refine lv_istore_n (lv' := [(1, .int (0 : Int32)), (0, .int a0)]) hx hb dX4_manyOf_1 rfl hl (by decide) rfl (fun ls hl => ?_)
  refine lv_iload_n hx hb dX4_manyOf_2 rfl (lv_at hl 1 rfl) ?_
  refine lv_istore_n (lv' := [(2, .int a0), (1, .int (0 : Int32)), (0, .int a0)]) hx hb dX4_manyOf_3 rfl hl (by decide) rfl (fun ls hl => ?_)
  exact w_X4_manyOf_4 (l := l) G C hr hlocks σ hH 33 (0 : Int32) a0  _ hf ls (lv_sub hl [1, 0] rfl)
abbrev rm_X4_quiet : Room := { frames := 7, cells := 0, slots := 0, locals := 166 }
def fL_X4_quiet_66 : Nat → gx_St → Int32 → Int32 → Int32 → Int32 → Option Int32
  | 0, _, _, _, _, _ => none
  | N + 1, σ, v1, v2, v3, v4 =>
    if v2 < v4 then (some v3) else (if (v4 &&& (v2 ^^^ (-1 : Int32))) = 0 then (if v3 = (-9 : Int32) then ((f_X4_isQuiet σ v1 v4).bind fun r10 =>
    if r10 = 0 then (gx_lt (v4 + (1 : Int32)) fun x12 =>
    fL_X4_quiet_66 N σ v1 v2 v3 x12) else (gx_lt (v4 + (1 : Int32)) fun x13 =>
    fL_X4_quiet_66 N σ v1 v2 v4 x13)) else ((f_X4_manyOf v4).bind fun r14 =>
    (f_X4_manyOf v3).bind fun r15 =>
    if r15 ≤ r14 then (gx_lt (v4 + (1 : Int32)) fun x18 =>
    fL_X4_quiet_66 N σ v1 v2 v3 x18) else ((f_X4_isQuiet σ v1 v4).bind fun r20 =>
    if r20 = 0 then (gx_lt (v4 + (1 : Int32)) fun x22 =>
    fL_X4_quiet_66 N σ v1 v2 v3 x22) else (gx_lt (v4 + (1 : Int32)) fun x23 =>
    fL_X4_quiet_66 N σ v1 v2 v4 x23)))) else (gx_lt (v4 + (1 : Int32)) fun x7 =>
    fL_X4_quiet_66 N σ v1 v2 v3 x7))
set_option maxHeartbeats 4000000 in
set_option maxRecDepth 100000 in
theorem w_X4_quiet_66 {p : Program} {l : Launch} {e : Env} {s : State} {m : MethodId} {args : Array Value} {below : List Frame} {meth : Method} {c : Code} (G : gx_G) (C : gx_C p m c cX4_quiet 6 s args RX4 G) (hr : meth.sig.returnType = (some .int)) (hlocks : meth.locks = false) (σ : gx_St) (hH : gx_H G 13 (gm_mk G) σ s.heap) : ∀ (N : Nat) (v1 v2 v3 v4 : Int32)  (z : Int32), fL_X4_quiet_66 N σ v1 v2 v3 v4 = some z → ∀ (ls : Array Slot), lv_has ls 6 [(0, .ref (gx_q G 0)), (1, .int v1), (2, .int v2), (3, .int v3), (4, .int v4)] → W p l e rm_X4_quiet s m args below meth c s.heap [] 0 0 (MQ below (gx_QR (some (.int z))) args s 0 0 (fun _ => False)) (F0 m 66 ls []) := by
  have hx := C.1.1
  have hb := C.1.2.1
  have hS : va_S (gx_A G) s.heap s.heap [] := va_S.rf
  intro N
  induction N with
  | zero =>
    intro v1 v2 v3 v4  z hf ls hl
    cases (show (none : Option Int32) = some z from hf)
  | succ N ih =>
    intro v1 v2 v3 v4  z hf ls hl
    rw [fL_X4_quiet_66] at hf
    refine lv_iload hx hb dX4_quiet_66 (lv_at hl 4 rfl) ?_
    refine lv_iload_n hx hb dX4_quiet_68 rfl (lv_at hl 2 rfl) ?_
    refine lv_icmp_gt (tgt := 130) hx hb dX4_quiet_69 (by decide) (fun hc4 => ?_) (fun hc4 => ?_)
    · have hf := gx_pos hc4 hf
      refine lv_iload_n hx hb dX4_quiet_130 rfl (lv_at hl 3 rfl) ?_
      obtain rfl := Option.some.inj hf
      exact gx_iretR C hr hlocks dX4_quiet_131
    · have hf := gx_neg hc4 hf
      refine lv_iload hx hb dX4_quiet_72 (lv_at hl 4 rfl) ?_
      refine lv_iload_n hx hb dX4_quiet_74 rfl (lv_at hl 2 rfl) ?_
      refine lv_iconst (v := (-1 : Int32)) hx hb dX4_quiet_75 (by decide) ?_
      refine lv_ixor hx hb dX4_quiet_76 ?_
      refine lv_iand hx hb dX4_quiet_77 ?_
      refine lv_if_ne (tgt := 103) hx hb dX4_quiet_78 (by decide) (fun hc5 => ?_) (fun hc5 => ?_)
      · have hf := gx_neg hc5 hf
        refine lv_iconst (v := (0 : Int32)) hx hb dX4_quiet_103 (by decide) ?_
        refine lv_istore (lv' := [(5, .int (0 : Int32)), (0, .ref (gx_q G 0)), (1, .int v1), (2, .int v2), (3, .int v3), (4, .int v4)]) hx hb dX4_quiet_104 hl (by decide) rfl (fun ls hl => ?_)
        refine lv_iload hx hb dX4_quiet_106 (lv_at hl 0 rfl) ?_
        refine lv_if_eq (tgt := 124) hx hb dX4_quiet_108 (by decide) (fun hc6 => ?_) (fun hc6 => absurd hc6 (by decide))
        obtain ⟨x7, hx7⟩ : ∃ z : Int32, z = (v4 + (1 : Int32)) := ⟨_, rfl⟩
        have hf := gx_let hf x7 hx7
        refine lv_iinc (v := x7) (lv' := [(4, .int x7), (5, .int (0 : Int32)), (0, .ref (gx_q G 0)), (1, .int v1), (2, .int v2), (3, .int v3)]) hx hb dX4_quiet_124 hl (k := 5) rfl (by rw [hx7]; rfl) (by decide) rfl (fun ls hl => ?_)
        refine lv_goto (tgt := 66) hx hb dX4_quiet_127 (by decide) ?_
        exact ih v1 v2 v3 x7  _ hf ls (lv_sub hl [2, 3, 4, 5, 0] rfl)
      · have hf := gx_pos hc5 hf
        refine lv_iload_n hx hb dX4_quiet_81 rfl (lv_at hl 3 rfl) ?_
        refine lv_bipush (v := (-9 : Int32)) hx hb dX4_quiet_82 (by decide) ?_
        refine lv_icmp_eq (tgt := 99) hx hb dX4_quiet_84 (by decide) (fun hc8 => ?_) (fun hc8 => ?_)
        · have hf := gx_pos hc8 hf
          refine lv_iconst (v := (1 : Int32)) hx hb dX4_quiet_99 (by decide) ?_
          refine lv_goto (tgt := 104) hx hb dX4_quiet_100 (by decide) ?_
          refine lv_istore (lv' := [(5, .int (1 : Int32)), (0, .ref (gx_q G 0)), (1, .int v1), (2, .int v2), (3, .int v3), (4, .int v4)]) hx hb dX4_quiet_104 hl (by decide) rfl (fun ls hl => ?_)
          refine lv_iload hx hb dX4_quiet_106 (lv_at hl 0 rfl) ?_
          refine lv_if_eq (tgt := 124) hx hb dX4_quiet_108 (by decide) (fun hc9 => absurd hc9 (by decide)) (fun hc9 => ?_)
          refine lv_aload_n hx hb dX4_quiet_111 rfl (lv_at hl 1 rfl) ?_
          refine lv_iload_n hx hb dX4_quiet_112 rfl (lv_at hl 2 rfl) ?_
          refine lv_iload hx hb dX4_quiet_113 (lv_at hl 5 rfl) ?_
          obtain ⟨r10, hr10, hf⟩ := gx_bnd hf
          refine gx_vR (v := (some (.int r10))) (rest := []) C hH hS 0 (by decide) rfl rfl [.int v1, .int v4] (t_X4_isQuiet l G σ v1 v4 r10  hr10) lk_X4_189 ⟨rfl, rfl, Nat.le_of_ble_eq_true rfl, Nat.le_of_ble_eq_true rfl⟩ ⟨Nat.zero_le _, Nat.zero_le _⟩ hl.1 rfl (Nat.le_of_ble_eq_true rfl) dX4_quiet_115 ?_
          refine gx_e0 (st := [.int r10]) ?_ rfl
          refine lv_if_eq (tgt := 124) hx hb dX4_quiet_118 (by decide) (fun hc11 => ?_) (fun hc11 => ?_)
          · have hf := gx_pos hc11 hf
            obtain ⟨x12, hx12⟩ : ∃ z : Int32, z = (v4 + (1 : Int32)) := ⟨_, rfl⟩
            have hf := gx_let hf x12 hx12
            refine lv_iinc (v := x12) (lv' := [(4, .int x12), (5, .int (1 : Int32)), (0, .ref (gx_q G 0)), (1, .int v1), (2, .int v2), (3, .int v3)]) hx hb dX4_quiet_124 hl (k := 5) rfl (by rw [hx12]; rfl) (by decide) rfl (fun ls hl => ?_)
            refine lv_goto (tgt := 66) hx hb dX4_quiet_127 (by decide) ?_
            exact ih v1 v2 v3 x12  _ hf ls (lv_sub hl [2, 3, 4, 5, 0] rfl)
          · have hf := gx_neg hc11 hf
            refine lv_iload hx hb dX4_quiet_121 (lv_at hl 5 rfl) ?_
            refine lv_istore_n (lv' := [(3, .int v4), (5, .int (1 : Int32)), (0, .ref (gx_q G 0)), (1, .int v1), (2, .int v2), (4, .int v4)]) hx hb dX4_quiet_123 rfl hl (by decide) rfl (fun ls hl => ?_)
            obtain ⟨x13, hx13⟩ : ∃ z : Int32, z = (v4 + (1 : Int32)) := ⟨_, rfl⟩
            have hf := gx_let hf x13 hx13
            refine lv_iinc (v := x13) (lv' := [(4, .int x13), (3, .int v4), (5, .int (1 : Int32)), (0, .ref (gx_q G 0)), (1, .int v1), (2, .int v2)]) hx hb dX4_quiet_124 hl (k := 5) rfl (by rw [hx13]; rfl) (by decide) rfl (fun ls hl => ?_)
            refine lv_goto (tgt := 66) hx hb dX4_quiet_127 (by decide) ?_
            exact ih v1 v2 v4 x13  _ hf ls (lv_sub hl [3, 4, 5, 1, 0] rfl)
        · have hf := gx_neg hc8 hf
          refine lv_iload hx hb dX4_quiet_87 (lv_at hl 4 rfl) ?_
          obtain ⟨r14, hr14, hf⟩ := gx_bnd hf
          refine gx_sR (v := (some (.int r14))) (rest := []) C hH hS [.int v4] (t_X4_manyOf l G σ v4 r14  hr14) lk_X4_186 ⟨rfl, rfl, Nat.le_of_ble_eq_true rfl, Nat.le_of_ble_eq_true rfl⟩ ⟨Nat.zero_le _, Nat.zero_le _⟩ hl.1 rfl (Nat.le_of_ble_eq_true rfl) dX4_quiet_89 ?_
          refine gx_e0 (st := [.int r14]) ?_ rfl
          refine lv_iload_n hx hb dX4_quiet_92 rfl (lv_at hl 3 rfl) ?_
          obtain ⟨r15, hr15, hf⟩ := gx_bnd hf
          refine gx_sR (v := (some (.int r15))) (rest := [.int r14]) C hH hS [.int v3] (t_X4_manyOf l G σ v3 r15  hr15) lk_X4_186 ⟨rfl, rfl, Nat.le_of_ble_eq_true rfl, Nat.le_of_ble_eq_true rfl⟩ ⟨Nat.zero_le _, Nat.zero_le _⟩ hl.1 rfl (Nat.le_of_ble_eq_true rfl) dX4_quiet_93 ?_
          refine gx_e0 (st := [.int r15, .int r14]) ?_ rfl
          refine lv_icmp_ge (tgt := 103) hx hb dX4_quiet_96 (by decide) (fun hc16 => ?_) (fun hc16 => ?_)
          · have hf := gx_pos hc16 hf
            refine lv_iconst (v := (0 : Int32)) hx hb dX4_quiet_103 (by decide) ?_
            refine lv_istore (lv' := [(5, .int (0 : Int32)), (0, .ref (gx_q G 0)), (1, .int v1), (2, .int v2), (3, .int v3), (4, .int v4)]) hx hb dX4_quiet_104 hl (by decide) rfl (fun ls hl => ?_)
            refine lv_iload hx hb dX4_quiet_106 (lv_at hl 0 rfl) ?_
            refine lv_if_eq (tgt := 124) hx hb dX4_quiet_108 (by decide) (fun hc17 => ?_) (fun hc17 => absurd hc17 (by decide))
            obtain ⟨x18, hx18⟩ : ∃ z : Int32, z = (v4 + (1 : Int32)) := ⟨_, rfl⟩
            have hf := gx_let hf x18 hx18
            refine lv_iinc (v := x18) (lv' := [(4, .int x18), (5, .int (0 : Int32)), (0, .ref (gx_q G 0)), (1, .int v1), (2, .int v2), (3, .int v3)]) hx hb dX4_quiet_124 hl (k := 5) rfl (by rw [hx18]; rfl) (by decide) rfl (fun ls hl => ?_)
            refine lv_goto (tgt := 66) hx hb dX4_quiet_127 (by decide) ?_
            exact ih v1 v2 v3 x18  _ hf ls (lv_sub hl [2, 3, 4, 5, 0] rfl)
          · have hf := gx_neg hc16 hf
            refine lv_iconst (v := (1 : Int32)) hx hb dX4_quiet_99 (by decide) ?_
            refine lv_goto (tgt := 104) hx hb dX4_quiet_100 (by decide) ?_
            refine lv_istore (lv' := [(5, .int (1 : Int32)), (0, .ref (gx_q G 0)), (1, .int v1), (2, .int v2), (3, .int v3), (4, .int v4)]) hx hb dX4_quiet_104 hl (by decide) rfl (fun ls hl => ?_)
            refine lv_iload hx hb dX4_quiet_106 (lv_at hl 0 rfl) ?_
            refine lv_if_eq (tgt := 124) hx hb dX4_quiet_108 (by decide) (fun hc19 => absurd hc19 (by decide)) (fun hc19 => ?_)
            refine lv_aload_n hx hb dX4_quiet_111 rfl (lv_at hl 1 rfl) ?_
            refine lv_iload_n hx hb dX4_quiet_112 rfl (lv_at hl 2 rfl) ?_
            refine lv_iload hx hb dX4_quiet_113 (lv_at hl 5 rfl) ?_
            obtain ⟨r20, hr20, hf⟩ := gx_bnd hf
            refine gx_vR (v := (some (.int r20))) (rest := []) C hH hS 0 (by decide) rfl rfl [.int v1, .int v4] (t_X4_isQuiet l G σ v1 v4 r20  hr20) lk_X4_189 ⟨rfl, rfl, Nat.le_of_ble_eq_true rfl, Nat.le_of_ble_eq_true rfl⟩ ⟨Nat.zero_le _, Nat.zero_le _⟩ hl.1 rfl (Nat.le_of_ble_eq_true rfl) dX4_quiet_115 ?_
            refine gx_e0 (st := [.int r20]) ?_ rfl
            refine lv_if_eq (tgt := 124) hx hb dX4_quiet_118 (by decide) (fun hc21 => ?_) (fun hc21 => ?_)
            · have hf := gx_pos hc21 hf
              obtain ⟨x22, hx22⟩ : ∃ z : Int32, z = (v4 + (1 : Int32)) := ⟨_, rfl⟩
              have hf := gx_let hf x22 hx22
              refine lv_iinc (v := x22) (lv' := [(4, .int x22), (5, .int (1 : Int32)), (0, .ref (gx_q G 0)), (1, .int v1), (2, .int v2), (3, .int v3)]) hx hb dX4_quiet_124 hl (k := 5) rfl (by rw [hx22]; rfl) (by decide) rfl (fun ls hl => ?_)
              refine lv_goto (tgt := 66) hx hb dX4_quiet_127 (by decide) ?_
              exact ih v1 v2 v3 x22  _ hf ls (lv_sub hl [2, 3, 4, 5, 0] rfl)
            · have hf := gx_neg hc21 hf
              refine lv_iload hx hb dX4_quiet_121 (lv_at hl 5 rfl) ?_
              refine lv_istore_n (lv' := [(3, .int v4), (5, .int (1 : Int32)), (0, .ref (gx_q G 0)), (1, .int v1), (2, .int v2), (4, .int v4)]) hx hb dX4_quiet_123 rfl hl (by decide) rfl (fun ls hl => ?_)
              obtain ⟨x23, hx23⟩ : ∃ z : Int32, z = (v4 + (1 : Int32)) := ⟨_, rfl⟩
              have hf := gx_let hf x23 hx23
              refine lv_iinc (v := x23) (lv' := [(4, .int x23), (3, .int v4), (5, .int (1 : Int32)), (0, .ref (gx_q G 0)), (1, .int v1), (2, .int v2)]) hx hb dX4_quiet_124 hl (k := 5) rfl (by rw [hx23]; rfl) (by decide) rfl (fun ls hl => ?_)
              refine lv_goto (tgt := 66) hx hb dX4_quiet_127 (by decide) ?_
              exact ih v1 v2 v4 x23  _ hf ls (lv_sub hl [3, 4, 5, 1, 0] rfl)
def fL_X4_quiet_18 : Nat → gx_St → Int32 → Int32 → Int32 → Option Int32
  | 0, _, _, _, _ => none
  | N + 1, σ, v1, v2, v3 =>
    if (σ 0 4) ≤ v3 then (fL_X4_quiet_66 4097 σ v1 v2 (-9 : Int32) (0 : Int32)) else (if (v3 < 0 ∨ 12 ≤ v3.toNatClampNeg) then none else
    (f_X4_doesPlay σ v3 (σ (9) v3.toNatClampNeg) (σ 0 0)).bind fun r25 =>
    if r25 = 0 then (gx_lt (v2 ||| (0 : Int32)) fun x27 =>
    gx_lt (v3 + (1 : Int32)) fun x28 =>
    fL_X4_quiet_18 N σ v1 x27 x28) else (gx_lt (v2 ||| ((1 : Int32) <<< (v3 &&& 31))) fun x29 =>
    gx_lt (v3 + (1 : Int32)) fun x30 =>
    fL_X4_quiet_18 N σ v1 x29 x30))
set_option maxHeartbeats 4000000 in
set_option maxRecDepth 100000 in
theorem w_X4_quiet_18 {p : Program} {l : Launch} {e : Env} {s : State} {m : MethodId} {args : Array Value} {below : List Frame} {meth : Method} {c : Code} (G : gx_G) (C : gx_C p m c cX4_quiet 6 s args RX4 G) (hr : meth.sig.returnType = (some .int)) (hlocks : meth.locks = false) (σ : gx_St) (hH : gx_H G 13 (gm_mk G) σ s.heap) : ∀ (N : Nat) (v1 v2 v3 : Int32)  (z : Int32), fL_X4_quiet_18 N σ v1 v2 v3 = some z → ∀ (ls : Array Slot), lv_has ls 6 [(0, .ref (gx_q G 0)), (1, .int v1), (2, .int v2), (3, .int v3)] → W p l e rm_X4_quiet s m args below meth c s.heap [] 0 0 (MQ below (gx_QR (some (.int z))) args s 0 0 (fun _ => False)) (F0 m 18 ls []) := by
  have hx := C.1.1
  have hb := C.1.2.1
  have hS : va_S (gx_A G) s.heap s.heap [] := va_S.rf
  intro N
  induction N with
  | zero =>
    intro v1 v2 v3  z hf ls hl
    cases (show (none : Option Int32) = some z from hf)
  | succ N ih =>
    intro v1 v2 v3  z hf ls hl
    rw [fL_X4_quiet_18] at hf
    refine lv_iload_n hx hb dX4_quiet_18 rfl (lv_at hl 3 rfl) ?_
    refine lv_aload_n hx hb dX4_quiet_19 rfl (lv_at hl 0 rfl) ?_
    refine gx_get C hH 0 (by decide) rfl fl_X4_56 rfl dX4_quiet_20 ?_
    refine lv_icmp_ge (tgt := 60) hx hb dX4_quiet_23 (by decide) (fun hc3 => ?_) (fun hc3 => ?_)
    · have hf := gx_pos hc3 hf
      refine lv_bipush (v := (-9 : Int32)) hx hb dX4_quiet_60 (by decide) ?_
      refine lv_istore_n (lv' := [(3, .int (-9 : Int32)), (0, .ref (gx_q G 0)), (1, .int v1), (2, .int v2)]) hx hb dX4_quiet_62 rfl hl (by decide) rfl (fun ls hl => ?_)
      refine lv_iconst (v := (0 : Int32)) hx hb dX4_quiet_63 (by decide) ?_
      refine lv_istore (lv' := [(4, .int (0 : Int32)), (3, .int (-9 : Int32)), (0, .ref (gx_q G 0)), (1, .int v1), (2, .int v2)]) hx hb dX4_quiet_64 hl (by decide) rfl (fun ls hl => ?_)
      exact w_X4_quiet_66 (l := l) G C hr hlocks σ hH 4097 v1 v2 (-9 : Int32) (0 : Int32)  _ hf ls (lv_sub hl [2, 3, 4, 1, 0] rfl)
    · have hf := gx_neg hc3 hf
      refine lv_iload_n hx hb dX4_quiet_26 rfl (lv_at hl 2 rfl) ?_
      refine lv_aload_n hx hb dX4_quiet_27 rfl (lv_at hl 0 rfl) ?_
      refine lv_iload_n hx hb dX4_quiet_28 rfl (lv_at hl 3 rfl) ?_
      refine lv_aload_n hx hb dX4_quiet_29 rfl (lv_at hl 0 rfl) ?_
      refine gx_get C hH 0 (by decide) rfl fl_X4_34 rfl dX4_quiet_30 ?_
      refine lv_iload_n hx hb dX4_quiet_33 rfl (lv_at hl 3 rfl) ?_
      obtain ⟨hb24, hf⟩ := gx_chk hf
      refine gx_iald C hH (9) (by decide) rfl hb24 dX4_quiet_34 ?_
      refine lv_aload_n hx hb dX4_quiet_35 rfl (lv_at hl 0 rfl) ?_
      refine gx_get C hH 0 (by decide) rfl fl_X4_91 rfl dX4_quiet_36 ?_
      obtain ⟨r25, hr25, hf⟩ := gx_bnd hf
      refine gx_vR (v := (some (.int r25))) (rest := [.int v2]) C hH hS 0 (by decide) rfl rfl [.int v3, .int (σ (9) v3.toNatClampNeg), .int (σ 0 0)] (t_X4_doesPlay l G σ v3 (σ (9) v3.toNatClampNeg) (σ 0 0) r25  hr25) lk_X4_108 ⟨rfl, rfl, Nat.le_of_ble_eq_true rfl, Nat.le_of_ble_eq_true rfl⟩ ⟨Nat.zero_le _, Nat.zero_le _⟩ hl.1 rfl (Nat.le_of_ble_eq_true rfl) dX4_quiet_39 ?_
      refine gx_e0 (st := [.int r25, .int v2]) ?_ rfl
      refine lv_if_eq (tgt := 51) hx hb dX4_quiet_42 (by decide) (fun hc26 => ?_) (fun hc26 => ?_)
      · have hf := gx_pos hc26 hf
        refine lv_iconst (v := (0 : Int32)) hx hb dX4_quiet_51 (by decide) ?_
        refine lv_ior hx hb dX4_quiet_52 ?_
        refine lv_topi (fun x27 hx27 => ?_)
        have hf := gx_let hf x27 hx27
        refine lv_istore_n (lv' := [(2, .int x27), (0, .ref (gx_q G 0)), (1, .int v1), (3, .int v3)]) hx hb dX4_quiet_53 rfl hl (by decide) rfl (fun ls hl => ?_)
        obtain ⟨x28, hx28⟩ : ∃ z : Int32, z = (v3 + (1 : Int32)) := ⟨_, rfl⟩
        have hf := gx_let hf x28 hx28
        refine lv_iinc (v := x28) (lv' := [(3, .int x28), (2, .int x27), (0, .ref (gx_q G 0)), (1, .int v1)]) hx hb dX4_quiet_54 hl (k := 3) rfl (by rw [hx28]; rfl) (by decide) rfl (fun ls hl => ?_)
        refine lv_goto (tgt := 18) hx hb dX4_quiet_57 (by decide) ?_
        exact ih v1 x27 x28  _ hf ls (lv_sub hl [2, 3, 1, 0] rfl)
      · have hf := gx_neg hc26 hf
        refine lv_iconst (v := (1 : Int32)) hx hb dX4_quiet_45 (by decide) ?_
        refine lv_iload_n hx hb dX4_quiet_46 rfl (lv_at hl 3 rfl) ?_
        refine lv_ishl hx hb dX4_quiet_47 ?_
        refine lv_goto (tgt := 52) hx hb dX4_quiet_48 (by decide) ?_
        refine lv_ior hx hb dX4_quiet_52 ?_
        refine lv_topi (fun x29 hx29 => ?_)
        have hf := gx_let hf x29 hx29
        refine lv_istore_n (lv' := [(2, .int x29), (0, .ref (gx_q G 0)), (1, .int v1), (3, .int v3)]) hx hb dX4_quiet_53 rfl hl (by decide) rfl (fun ls hl => ?_)
        obtain ⟨x30, hx30⟩ : ∃ z : Int32, z = (v3 + (1 : Int32)) := ⟨_, rfl⟩
        have hf := gx_let hf x30 hx30
        refine lv_iinc (v := x30) (lv' := [(3, .int x30), (2, .int x29), (0, .ref (gx_q G 0)), (1, .int v1)]) hx hb dX4_quiet_54 hl (k := 3) rfl (by rw [hx30]; rfl) (by decide) rfl (fun ls hl => ?_)
        refine lv_goto (tgt := 18) hx hb dX4_quiet_57 (by decide) ?_
        exact ih v1 x29 x30  _ hf ls (lv_sub hl [2, 3, 1, 0] rfl)
def f_X4_quiet (σ : gx_St) (a1 : Int32) : Option Int32 :=
  (f_X4_within a1 (1 : Int32) (400 : Int32)).bind fun r1 =>
  if r1 = 0 then (some (-2 : Int32)) else (fL_X4_quiet_18 13 σ a1 (0 : Int32) (0 : Int32))
set_option maxHeartbeats 4000000 in
set_option maxRecDepth 100000 in
theorem t_X4_quiet (l : Launch) (G : gx_G) (σ : gx_St) (a1 : Int32) (r : Int32)  (hf : f_X4_quiet σ a1 = some r) : Met l yX4_quiet (Cond.code yX4_quiet cX4_quiet 6 (some .int) :: wT) rm_X4_quiet (va_Pc [.ref (gx_q G 0), .int a1] (gx_S G 13 (gm_mk G) σ)) (gx_QR (some (.int r))) 0 0 (fun _ => False) := by
  refine Met.ofW (cc := cX4_quiet) (maxL := 6) (ret := (some .int)) (by decide) rfl ?_
  intro p e s m args below meth c s₁ B hml hv
  obtain ⟨rfl, hH, hE⟩ := hv
  have C := gx_C.of (G := G) B hml hE
  have hx := C.1.1
  have hb := C.1.2.1
  have hr := B.returns
  have hlocks := B.notSynchronized
  have hS : va_S (gx_A G) s.heap s.heap [] := va_S.rf
  have hl := lv_entry ([.ref (gx_q G 0), .int a1]) (n := 6) (Nat.le_of_ble_eq_true rfl)
  rw [lg_entry_eq]
  generalize (lg_sl ([.ref (gx_q G 0), .int a1]) ++ List.replicate (6 - (lg_sl ([.ref (gx_q G 0), .int a1])).length) Slot.unset).toArray = ls at hl ⊢
  have hl : lv_has ls 6 [(0, .ref (gx_q G 0)), (1, .int a1)] := hl
  unfold f_X4_quiet at hf
  refine lv_iload_n hx hb dX4_quiet_0 rfl (lv_at hl 1 rfl) ?_
  refine lv_iconst (v := (1 : Int32)) hx hb dX4_quiet_1 (by decide) ?_
  refine lv_sipush (v := (400 : Int32)) hx hb dX4_quiet_2 (by decide) ?_
  obtain ⟨r1, hr1, hf⟩ := gx_bnd hf
  refine gx_sR (v := (some (.int r1))) (rest := []) C hH hS [.int a1, .int (1 : Int32), .int (400 : Int32)] (t_X4_within l G σ a1 (1 : Int32) (400 : Int32) r1  hr1) lk_X4_59 ⟨rfl, rfl, Nat.le_of_ble_eq_true rfl, Nat.le_of_ble_eq_true rfl⟩ ⟨Nat.zero_le _, Nat.zero_le _⟩ hl.1 rfl (Nat.le_of_ble_eq_true rfl) dX4_quiet_5 ?_
  refine gx_e0 (st := [.int r1]) ?_ rfl
  refine lv_if_ne (tgt := 14) hx hb dX4_quiet_8 (by decide) (fun hc2 => ?_) (fun hc2 => ?_)
  · have hf := gx_neg hc2 hf
    refine lv_iconst (v := (0 : Int32)) hx hb dX4_quiet_14 (by decide) ?_
    refine lv_istore_n (lv' := [(2, .int (0 : Int32)), (0, .ref (gx_q G 0)), (1, .int a1)]) hx hb dX4_quiet_15 rfl hl (by decide) rfl (fun ls hl => ?_)
    refine lv_iconst (v := (0 : Int32)) hx hb dX4_quiet_16 (by decide) ?_
    refine lv_istore_n (lv' := [(3, .int (0 : Int32)), (2, .int (0 : Int32)), (0, .ref (gx_q G 0)), (1, .int a1)]) hx hb dX4_quiet_17 rfl hl (by decide) rfl (fun ls hl => ?_)
    exact w_X4_quiet_18 (l := l) G C hr hlocks σ hH 13 a1 (0 : Int32) (0 : Int32)  _ hf ls (lv_sub hl [2, 3, 1, 0] rfl)
  · have hf := gx_pos hc2 hf
    refine lv_bipush (v := (-2 : Int32)) hx hb dX4_quiet_11 (by decide) ?_
    obtain rfl := Option.some.inj hf
    exact gx_iretR C hr hlocks dX4_quiet_13
abbrev rm_X4_manyOn : Room := { frames := 3, cells := 0, slots := 0, locals := 69 }
def fL_X4_manyOn_4 : Nat → gx_St → Int32 → Int32 → Option Int32
  | 0, _, _, _ => none
  | N + 1, σ, v1, v2 =>
    if (σ 0 4) ≤ v2 then (some v1) else (if (v2 < 0 ∨ 12 ≤ v2.toNatClampNeg) then none else
    (f_X4_isOn σ v2 (σ (9) v2.toNatClampNeg) (σ 0 0)).bind fun r3 =>
    if r3 = 0 then (gx_lt (v1 + (0 : Int32)) fun x5 =>
    gx_lt (v2 + (1 : Int32)) fun x6 =>
    fL_X4_manyOn_4 N σ x5 x6) else (gx_lt (v1 + (1 : Int32)) fun x7 =>
    gx_lt (v2 + (1 : Int32)) fun x8 =>
    fL_X4_manyOn_4 N σ x7 x8))
set_option maxHeartbeats 4000000 in
set_option maxRecDepth 100000 in
theorem w_X4_manyOn_4 {p : Program} {l : Launch} {e : Env} {s : State} {m : MethodId} {args : Array Value} {below : List Frame} {meth : Method} {c : Code} (G : gx_G) (C : gx_C p m c cX4_manyOn 3 s args RX4 G) (hr : meth.sig.returnType = (some .int)) (hlocks : meth.locks = false) (σ : gx_St) (hH : gx_H G 13 (gm_mk G) σ s.heap) : ∀ (N : Nat) (v1 v2 : Int32)  (z : Int32), fL_X4_manyOn_4 N σ v1 v2 = some z → ∀ (ls : Array Slot), lv_has ls 3 [(0, .ref (gx_q G 0)), (1, .int v1), (2, .int v2)] → W p l e rm_X4_manyOn s m args below meth c s.heap [] 0 0 (MQ below (gx_QR (some (.int z))) args s 0 0 (fun _ => False)) (F0 m 4 ls []) := by
  have hx := C.1.1
  have hb := C.1.2.1
  have hS : va_S (gx_A G) s.heap s.heap [] := va_S.rf
  intro N
  induction N with
  | zero =>
    intro v1 v2  z hf ls hl
    cases (show (none : Option Int32) = some z from hf)
  | succ N ih =>
    intro v1 v2  z hf ls hl
    rw [fL_X4_manyOn_4] at hf
    refine lv_iload_n hx hb dX4_manyOn_4 rfl (lv_at hl 2 rfl) ?_
    refine lv_aload_n hx hb dX4_manyOn_5 rfl (lv_at hl 0 rfl) ?_
    refine gx_get C hH 0 (by decide) rfl fl_X4_56 rfl dX4_manyOn_6 ?_
    refine lv_icmp_ge (tgt := 44) hx hb dX4_manyOn_9 (by decide) (fun hc1 => ?_) (fun hc1 => ?_)
    · have hf := gx_pos hc1 hf
      refine lv_iload_n hx hb dX4_manyOn_44 rfl (lv_at hl 1 rfl) ?_
      obtain rfl := Option.some.inj hf
      exact gx_iretR C hr hlocks dX4_manyOn_45
    · have hf := gx_neg hc1 hf
      refine lv_iload_n hx hb dX4_manyOn_12 rfl (lv_at hl 1 rfl) ?_
      refine lv_aload_n hx hb dX4_manyOn_13 rfl (lv_at hl 0 rfl) ?_
      refine lv_iload_n hx hb dX4_manyOn_14 rfl (lv_at hl 2 rfl) ?_
      refine lv_aload_n hx hb dX4_manyOn_15 rfl (lv_at hl 0 rfl) ?_
      refine gx_get C hH 0 (by decide) rfl fl_X4_34 rfl dX4_manyOn_16 ?_
      refine lv_iload_n hx hb dX4_manyOn_19 rfl (lv_at hl 2 rfl) ?_
      obtain ⟨hb2, hf⟩ := gx_chk hf
      refine gx_iald C hH (9) (by decide) rfl hb2 dX4_manyOn_20 ?_
      refine lv_aload_n hx hb dX4_manyOn_21 rfl (lv_at hl 0 rfl) ?_
      refine gx_get C hH 0 (by decide) rfl fl_X4_91 rfl dX4_manyOn_22 ?_
      obtain ⟨r3, hr3, hf⟩ := gx_bnd hf
      refine gx_vR (v := (some (.int r3))) (rest := [.int v1]) C hH hS 0 (by decide) rfl rfl [.int v2, .int (σ (9) v2.toNatClampNeg), .int (σ 0 0)] (t_X4_isOn l G σ v2 (σ (9) v2.toNatClampNeg) (σ 0 0) r3  hr3) lk_X4_111 ⟨rfl, rfl, Nat.le_of_ble_eq_true rfl, Nat.le_of_ble_eq_true rfl⟩ ⟨Nat.zero_le _, Nat.zero_le _⟩ hl.1 rfl (Nat.le_of_ble_eq_true rfl) dX4_manyOn_25 ?_
      refine gx_e0 (st := [.int r3, .int v1]) ?_ rfl
      refine lv_if_eq (tgt := 35) hx hb dX4_manyOn_28 (by decide) (fun hc4 => ?_) (fun hc4 => ?_)
      · have hf := gx_pos hc4 hf
        refine lv_iconst (v := (0 : Int32)) hx hb dX4_manyOn_35 (by decide) ?_
        refine lv_iadd hx hb dX4_manyOn_36 ?_
        refine lv_topi (fun x5 hx5 => ?_)
        have hf := gx_let hf x5 hx5
        refine lv_istore_n (lv' := [(1, .int x5), (0, .ref (gx_q G 0)), (2, .int v2)]) hx hb dX4_manyOn_37 rfl hl (by decide) rfl (fun ls hl => ?_)
        obtain ⟨x6, hx6⟩ : ∃ z : Int32, z = (v2 + (1 : Int32)) := ⟨_, rfl⟩
        have hf := gx_let hf x6 hx6
        refine lv_iinc (v := x6) (lv' := [(2, .int x6), (1, .int x5), (0, .ref (gx_q G 0))]) hx hb dX4_manyOn_38 hl (k := 2) rfl (by rw [hx6]; rfl) (by decide) rfl (fun ls hl => ?_)
        refine lv_goto (tgt := 4) hx hb dX4_manyOn_41 (by decide) ?_
        exact ih x5 x6  _ hf ls (lv_sub hl [2, 1, 0] rfl)
      · have hf := gx_neg hc4 hf
        refine lv_iconst (v := (1 : Int32)) hx hb dX4_manyOn_31 (by decide) ?_
        refine lv_goto (tgt := 36) hx hb dX4_manyOn_32 (by decide) ?_
        refine lv_iadd hx hb dX4_manyOn_36 ?_
        refine lv_topi (fun x7 hx7 => ?_)
        have hf := gx_let hf x7 hx7
        refine lv_istore_n (lv' := [(1, .int x7), (0, .ref (gx_q G 0)), (2, .int v2)]) hx hb dX4_manyOn_37 rfl hl (by decide) rfl (fun ls hl => ?_)
        obtain ⟨x8, hx8⟩ : ∃ z : Int32, z = (v2 + (1 : Int32)) := ⟨_, rfl⟩
        have hf := gx_let hf x8 hx8
        refine lv_iinc (v := x8) (lv' := [(2, .int x8), (1, .int x7), (0, .ref (gx_q G 0))]) hx hb dX4_manyOn_38 hl (k := 2) rfl (by rw [hx8]; rfl) (by decide) rfl (fun ls hl => ?_)
        refine lv_goto (tgt := 4) hx hb dX4_manyOn_41 (by decide) ?_
        exact ih x7 x8  _ hf ls (lv_sub hl [2, 1, 0] rfl)
def f_X4_manyOn (σ : gx_St) : Option Int32 :=
  fL_X4_manyOn_4 13 σ (0 : Int32) (0 : Int32)
set_option maxHeartbeats 4000000 in
set_option maxRecDepth 100000 in
theorem t_X4_manyOn (l : Launch) (G : gx_G) (σ : gx_St) (r : Int32)  (hf : f_X4_manyOn σ = some r) : Met l yX4_manyOn (Cond.code yX4_manyOn cX4_manyOn 3 (some .int) :: wT) rm_X4_manyOn (va_Pc [.ref (gx_q G 0)] (gx_S G 13 (gm_mk G) σ)) (gx_QR (some (.int r))) 0 0 (fun _ => False) := by
  refine Met.ofW (cc := cX4_manyOn) (maxL := 3) (ret := (some .int)) (by decide) rfl ?_
  intro p e s m args below meth c s₁ B hml hv
  obtain ⟨rfl, hH, hE⟩ := hv
  have C := gx_C.of (G := G) B hml hE
  have hx := C.1.1
  have hb := C.1.2.1
  have hr := B.returns
  have hlocks := B.notSynchronized
  have hS : va_S (gx_A G) s.heap s.heap [] := va_S.rf
  have hl := lv_entry ([.ref (gx_q G 0)]) (n := 3) (Nat.le_of_ble_eq_true rfl)
  rw [lg_entry_eq]
  generalize (lg_sl ([.ref (gx_q G 0)]) ++ List.replicate (3 - (lg_sl ([.ref (gx_q G 0)])).length) Slot.unset).toArray = ls at hl ⊢
  have hl : lv_has ls 3 [(0, .ref (gx_q G 0))] := hl
  unfold f_X4_manyOn at hf
  refine lv_iconst (v := (0 : Int32)) hx hb dX4_manyOn_0 (by decide) ?_
  refine lv_istore_n (lv' := [(1, .int (0 : Int32)), (0, .ref (gx_q G 0))]) hx hb dX4_manyOn_1 rfl hl (by decide) rfl (fun ls hl => ?_)
  refine lv_iconst (v := (0 : Int32)) hx hb dX4_manyOn_2 (by decide) ?_
  refine lv_istore_n (lv' := [(2, .int (0 : Int32)), (1, .int (0 : Int32)), (0, .ref (gx_q G 0))]) hx hb dX4_manyOn_3 rfl hl (by decide) rfl (fun ls hl => ?_)
  exact w_X4_manyOn_4 (l := l) G C hr hlocks σ hH 13 (0 : Int32) (0 : Int32)  _ hf ls (lv_sub hl [2, 1, 0] rfl)
abbrev rm_X4_manyLoaded : Room := { frames := 0, cells := 0, slots := 0, locals := 0 }
def fL_X4_manyLoaded_4 : Nat → gx_St → Int32 → Int32 → Option Int32
  | 0, _, _, _ => none
  | N + 1, σ, v1, v2 =>
    if (6 : Int32) ≤ v2 then (some v1) else (if (v2 < 0 ∨ 6 ≤ v2.toNatClampNeg) then none else
    if (σ (10) v2.toNatClampNeg) = (-9 : Int32) then (gx_lt (v1 + (0 : Int32)) fun x4 =>
    gx_lt (v2 + (1 : Int32)) fun x5 =>
    fL_X4_manyLoaded_4 N σ x4 x5) else (gx_lt (v1 + (1 : Int32)) fun x6 =>
    gx_lt (v2 + (1 : Int32)) fun x7 =>
    fL_X4_manyLoaded_4 N σ x6 x7))
set_option maxHeartbeats 4000000 in
set_option maxRecDepth 100000 in
theorem w_X4_manyLoaded_4 {p : Program} {l : Launch} {e : Env} {s : State} {m : MethodId} {args : Array Value} {below : List Frame} {meth : Method} {c : Code} (G : gx_G) (C : gx_C p m c cX4_manyLoaded 3 s args RX4 G) (hr : meth.sig.returnType = (some .int)) (hlocks : meth.locks = false) (σ : gx_St) (hH : gx_H G 13 (gm_mk G) σ s.heap) : ∀ (N : Nat) (v1 v2 : Int32)  (z : Int32), fL_X4_manyLoaded_4 N σ v1 v2 = some z → ∀ (ls : Array Slot), lv_has ls 3 [(0, .ref (gx_q G 0)), (1, .int v1), (2, .int v2)] → W p l e rm_X4_manyLoaded s m args below meth c s.heap [] 0 0 (MQ below (gx_QR (some (.int z))) args s 0 0 (fun _ => False)) (F0 m 4 ls []) := by
  have hx := C.1.1
  have hb := C.1.2.1
  have hS : va_S (gx_A G) s.heap s.heap [] := va_S.rf
  intro N
  induction N with
  | zero =>
    intro v1 v2  z hf ls hl
    cases (show (none : Option Int32) = some z from hf)
  | succ N ih =>
    intro v1 v2  z hf ls hl
    rw [fL_X4_manyLoaded_4] at hf
    refine lv_iload_n hx hb dX4_manyLoaded_4 rfl (lv_at hl 2 rfl) ?_
    refine lv_bipush (v := (6 : Int32)) hx hb dX4_manyLoaded_5 (by decide) ?_
    refine lv_icmp_ge (tgt := 35) hx hb dX4_manyLoaded_7 (by decide) (fun hc1 => ?_) (fun hc1 => ?_)
    · have hf := gx_pos hc1 hf
      refine lv_iload_n hx hb dX4_manyLoaded_35 rfl (lv_at hl 1 rfl) ?_
      obtain rfl := Option.some.inj hf
      exact gx_iretR C hr hlocks dX4_manyLoaded_36
    · have hf := gx_neg hc1 hf
      refine lv_iload_n hx hb dX4_manyLoaded_10 rfl (lv_at hl 1 rfl) ?_
      refine lv_aload_n hx hb dX4_manyLoaded_11 rfl (lv_at hl 0 rfl) ?_
      refine gx_get C hH 0 (by decide) rfl fl_X4_41 rfl dX4_manyLoaded_12 ?_
      refine lv_iload_n hx hb dX4_manyLoaded_15 rfl (lv_at hl 2 rfl) ?_
      obtain ⟨hb2, hf⟩ := gx_chk hf
      refine gx_iald C hH (10) (by decide) rfl hb2 dX4_manyLoaded_16 ?_
      refine lv_bipush (v := (-9 : Int32)) hx hb dX4_manyLoaded_17 (by decide) ?_
      refine lv_icmp_eq (tgt := 26) hx hb dX4_manyLoaded_19 (by decide) (fun hc3 => ?_) (fun hc3 => ?_)
      · have hf := gx_pos hc3 hf
        refine lv_iconst (v := (0 : Int32)) hx hb dX4_manyLoaded_26 (by decide) ?_
        refine lv_iadd hx hb dX4_manyLoaded_27 ?_
        refine lv_topi (fun x4 hx4 => ?_)
        have hf := gx_let hf x4 hx4
        refine lv_istore_n (lv' := [(1, .int x4), (0, .ref (gx_q G 0)), (2, .int v2)]) hx hb dX4_manyLoaded_28 rfl hl (by decide) rfl (fun ls hl => ?_)
        obtain ⟨x5, hx5⟩ : ∃ z : Int32, z = (v2 + (1 : Int32)) := ⟨_, rfl⟩
        have hf := gx_let hf x5 hx5
        refine lv_iinc (v := x5) (lv' := [(2, .int x5), (1, .int x4), (0, .ref (gx_q G 0))]) hx hb dX4_manyLoaded_29 hl (k := 2) rfl (by rw [hx5]; rfl) (by decide) rfl (fun ls hl => ?_)
        refine lv_goto (tgt := 4) hx hb dX4_manyLoaded_32 (by decide) ?_
        exact ih x4 x5  _ hf ls (lv_sub hl [2, 1, 0] rfl)
      · have hf := gx_neg hc3 hf
        refine lv_iconst (v := (1 : Int32)) hx hb dX4_manyLoaded_22 (by decide) ?_
        refine lv_goto (tgt := 27) hx hb dX4_manyLoaded_23 (by decide) ?_
        refine lv_iadd hx hb dX4_manyLoaded_27 ?_
        refine lv_topi (fun x6 hx6 => ?_)
        have hf := gx_let hf x6 hx6
        refine lv_istore_n (lv' := [(1, .int x6), (0, .ref (gx_q G 0)), (2, .int v2)]) hx hb dX4_manyLoaded_28 rfl hl (by decide) rfl (fun ls hl => ?_)
        obtain ⟨x7, hx7⟩ : ∃ z : Int32, z = (v2 + (1 : Int32)) := ⟨_, rfl⟩
        have hf := gx_let hf x7 hx7
        refine lv_iinc (v := x7) (lv' := [(2, .int x7), (1, .int x6), (0, .ref (gx_q G 0))]) hx hb dX4_manyLoaded_29 hl (k := 2) rfl (by rw [hx7]; rfl) (by decide) rfl (fun ls hl => ?_)
        refine lv_goto (tgt := 4) hx hb dX4_manyLoaded_32 (by decide) ?_
        exact ih x6 x7  _ hf ls (lv_sub hl [2, 1, 0] rfl)
def f_X4_manyLoaded (σ : gx_St) : Option Int32 :=
  fL_X4_manyLoaded_4 7 σ (0 : Int32) (0 : Int32)
set_option maxHeartbeats 4000000 in
set_option maxRecDepth 100000 in
theorem t_X4_manyLoaded (l : Launch) (G : gx_G) (σ : gx_St) (r : Int32)  (hf : f_X4_manyLoaded σ = some r) : Met l yX4_manyLoaded (Cond.code yX4_manyLoaded cX4_manyLoaded 3 (some .int) :: wT) rm_X4_manyLoaded (va_Pc [.ref (gx_q G 0)] (gx_S G 13 (gm_mk G) σ)) (gx_QR (some (.int r))) 0 0 (fun _ => False) := by
  refine Met.ofW (cc := cX4_manyLoaded) (maxL := 3) (ret := (some .int)) (by decide) rfl ?_
  intro p e s m args below meth c s₁ B hml hv
  obtain ⟨rfl, hH, hE⟩ := hv
  have C := gx_C.of (G := G) B hml hE
  have hx := C.1.1
  have hb := C.1.2.1
  have hr := B.returns
  have hlocks := B.notSynchronized
  have hS : va_S (gx_A G) s.heap s.heap [] := va_S.rf
  have hl := lv_entry ([.ref (gx_q G 0)]) (n := 3) (Nat.le_of_ble_eq_true rfl)
  rw [lg_entry_eq]
  generalize (lg_sl ([.ref (gx_q G 0)]) ++ List.replicate (3 - (lg_sl ([.ref (gx_q G 0)])).length) Slot.unset).toArray = ls at hl ⊢
  have hl : lv_has ls 3 [(0, .ref (gx_q G 0))] := hl
  unfold f_X4_manyLoaded at hf
  refine lv_iconst (v := (0 : Int32)) hx hb dX4_manyLoaded_0 (by decide) ?_
  refine lv_istore_n (lv' := [(1, .int (0 : Int32)), (0, .ref (gx_q G 0))]) hx hb dX4_manyLoaded_1 rfl hl (by decide) rfl (fun ls hl => ?_)
  refine lv_iconst (v := (0 : Int32)) hx hb dX4_manyLoaded_2 (by decide) ?_
  refine lv_istore_n (lv' := [(2, .int (0 : Int32)), (1, .int (0 : Int32)), (0, .ref (gx_q G 0))]) hx hb dX4_manyLoaded_3 rfl hl (by decide) rfl (fun ls hl => ?_)
  exact w_X4_manyLoaded_4 (l := l) G C hr hlocks σ hH 7 (0 : Int32) (0 : Int32)  _ hf ls (lv_sub hl [2, 1, 0] rfl)
abbrev rm_X4_manyHeld : Room := { frames := 0, cells := 0, slots := 0, locals := 0 }
def fL_X4_manyHeld_4 : Nat → gx_St → Int32 → Int32 → Option Int32
  | 0, _, _, _ => none
  | N + 1, σ, v1, v2 =>
    if (4 : Int32) ≤ v2 then (some v1) else (if (v2 < 0 ∨ 4 ≤ v2.toNatClampNeg) then none else
    if (σ (11) v2.toNatClampNeg) = (-9 : Int32) then (gx_lt (v1 + (0 : Int32)) fun x4 =>
    gx_lt (v2 + (1 : Int32)) fun x5 =>
    fL_X4_manyHeld_4 N σ x4 x5) else (gx_lt (v1 + (1 : Int32)) fun x6 =>
    gx_lt (v2 + (1 : Int32)) fun x7 =>
    fL_X4_manyHeld_4 N σ x6 x7))
set_option maxHeartbeats 4000000 in
set_option maxRecDepth 100000 in
theorem w_X4_manyHeld_4 {p : Program} {l : Launch} {e : Env} {s : State} {m : MethodId} {args : Array Value} {below : List Frame} {meth : Method} {c : Code} (G : gx_G) (C : gx_C p m c cX4_manyHeld 3 s args RX4 G) (hr : meth.sig.returnType = (some .int)) (hlocks : meth.locks = false) (σ : gx_St) (hH : gx_H G 13 (gm_mk G) σ s.heap) : ∀ (N : Nat) (v1 v2 : Int32)  (z : Int32), fL_X4_manyHeld_4 N σ v1 v2 = some z → ∀ (ls : Array Slot), lv_has ls 3 [(0, .ref (gx_q G 0)), (1, .int v1), (2, .int v2)] → W p l e rm_X4_manyHeld s m args below meth c s.heap [] 0 0 (MQ below (gx_QR (some (.int z))) args s 0 0 (fun _ => False)) (F0 m 4 ls []) := by
  have hx := C.1.1
  have hb := C.1.2.1
  have hS : va_S (gx_A G) s.heap s.heap [] := va_S.rf
  intro N
  induction N with
  | zero =>
    intro v1 v2  z hf ls hl
    cases (show (none : Option Int32) = some z from hf)
  | succ N ih =>
    intro v1 v2  z hf ls hl
    rw [fL_X4_manyHeld_4] at hf
    refine lv_iload_n hx hb dX4_manyHeld_4 rfl (lv_at hl 2 rfl) ?_
    refine lv_iconst (v := (4 : Int32)) hx hb dX4_manyHeld_5 (by decide) ?_
    refine lv_icmp_ge (tgt := 34) hx hb dX4_manyHeld_6 (by decide) (fun hc1 => ?_) (fun hc1 => ?_)
    · have hf := gx_pos hc1 hf
      refine lv_iload_n hx hb dX4_manyHeld_34 rfl (lv_at hl 1 rfl) ?_
      obtain rfl := Option.some.inj hf
      exact gx_iretR C hr hlocks dX4_manyHeld_35
    · have hf := gx_neg hc1 hf
      refine lv_iload_n hx hb dX4_manyHeld_9 rfl (lv_at hl 1 rfl) ?_
      refine lv_aload_n hx hb dX4_manyHeld_10 rfl (lv_at hl 0 rfl) ?_
      refine gx_get C hH 0 (by decide) rfl fl_X4_44 rfl dX4_manyHeld_11 ?_
      refine lv_iload_n hx hb dX4_manyHeld_14 rfl (lv_at hl 2 rfl) ?_
      obtain ⟨hb2, hf⟩ := gx_chk hf
      refine gx_iald C hH (11) (by decide) rfl hb2 dX4_manyHeld_15 ?_
      refine lv_bipush (v := (-9 : Int32)) hx hb dX4_manyHeld_16 (by decide) ?_
      refine lv_icmp_eq (tgt := 25) hx hb dX4_manyHeld_18 (by decide) (fun hc3 => ?_) (fun hc3 => ?_)
      · have hf := gx_pos hc3 hf
        refine lv_iconst (v := (0 : Int32)) hx hb dX4_manyHeld_25 (by decide) ?_
        refine lv_iadd hx hb dX4_manyHeld_26 ?_
        refine lv_topi (fun x4 hx4 => ?_)
        have hf := gx_let hf x4 hx4
        refine lv_istore_n (lv' := [(1, .int x4), (0, .ref (gx_q G 0)), (2, .int v2)]) hx hb dX4_manyHeld_27 rfl hl (by decide) rfl (fun ls hl => ?_)
        obtain ⟨x5, hx5⟩ : ∃ z : Int32, z = (v2 + (1 : Int32)) := ⟨_, rfl⟩
        have hf := gx_let hf x5 hx5
        refine lv_iinc (v := x5) (lv' := [(2, .int x5), (1, .int x4), (0, .ref (gx_q G 0))]) hx hb dX4_manyHeld_28 hl (k := 2) rfl (by rw [hx5]; rfl) (by decide) rfl (fun ls hl => ?_)
        refine lv_goto (tgt := 4) hx hb dX4_manyHeld_31 (by decide) ?_
        exact ih x4 x5  _ hf ls (lv_sub hl [2, 1, 0] rfl)
      · have hf := gx_neg hc3 hf
        refine lv_iconst (v := (1 : Int32)) hx hb dX4_manyHeld_21 (by decide) ?_
        refine lv_goto (tgt := 26) hx hb dX4_manyHeld_22 (by decide) ?_
        refine lv_iadd hx hb dX4_manyHeld_26 ?_
        refine lv_topi (fun x6 hx6 => ?_)
        have hf := gx_let hf x6 hx6
        refine lv_istore_n (lv' := [(1, .int x6), (0, .ref (gx_q G 0)), (2, .int v2)]) hx hb dX4_manyHeld_27 rfl hl (by decide) rfl (fun ls hl => ?_)
        obtain ⟨x7, hx7⟩ : ∃ z : Int32, z = (v2 + (1 : Int32)) := ⟨_, rfl⟩
        have hf := gx_let hf x7 hx7
        refine lv_iinc (v := x7) (lv' := [(2, .int x7), (1, .int x6), (0, .ref (gx_q G 0))]) hx hb dX4_manyHeld_28 hl (k := 2) rfl (by rw [hx7]; rfl) (by decide) rfl (fun ls hl => ?_)
        refine lv_goto (tgt := 4) hx hb dX4_manyHeld_31 (by decide) ?_
        exact ih x6 x7  _ hf ls (lv_sub hl [2, 1, 0] rfl)
def f_X4_manyHeld (σ : gx_St) : Option Int32 :=
  fL_X4_manyHeld_4 5 σ (0 : Int32) (0 : Int32)
set_option maxHeartbeats 4000000 in
set_option maxRecDepth 100000 in
theorem t_X4_manyHeld (l : Launch) (G : gx_G) (σ : gx_St) (r : Int32)  (hf : f_X4_manyHeld σ = some r) : Met l yX4_manyHeld (Cond.code yX4_manyHeld cX4_manyHeld 3 (some .int) :: wT) rm_X4_manyHeld (va_Pc [.ref (gx_q G 0)] (gx_S G 13 (gm_mk G) σ)) (gx_QR (some (.int r))) 0 0 (fun _ => False) := by
  refine Met.ofW (cc := cX4_manyHeld) (maxL := 3) (ret := (some .int)) (by decide) rfl ?_
  intro p e s m args below meth c s₁ B hml hv
  obtain ⟨rfl, hH, hE⟩ := hv
  have C := gx_C.of (G := G) B hml hE
  have hx := C.1.1
  have hb := C.1.2.1
  have hr := B.returns
  have hlocks := B.notSynchronized
  have hS : va_S (gx_A G) s.heap s.heap [] := va_S.rf
  have hl := lv_entry ([.ref (gx_q G 0)]) (n := 3) (Nat.le_of_ble_eq_true rfl)
  rw [lg_entry_eq]
  generalize (lg_sl ([.ref (gx_q G 0)]) ++ List.replicate (3 - (lg_sl ([.ref (gx_q G 0)])).length) Slot.unset).toArray = ls at hl ⊢
  have hl : lv_has ls 3 [(0, .ref (gx_q G 0))] := hl
  unfold f_X4_manyHeld at hf
  refine lv_iconst (v := (0 : Int32)) hx hb dX4_manyHeld_0 (by decide) ?_
  refine lv_istore_n (lv' := [(1, .int (0 : Int32)), (0, .ref (gx_q G 0))]) hx hb dX4_manyHeld_1 rfl hl (by decide) rfl (fun ls hl => ?_)
  refine lv_iconst (v := (0 : Int32)) hx hb dX4_manyHeld_2 (by decide) ?_
  refine lv_istore_n (lv' := [(2, .int (0 : Int32)), (1, .int (0 : Int32)), (0, .ref (gx_q G 0))]) hx hb dX4_manyHeld_3 rfl hl (by decide) rfl (fun ls hl => ?_)
  exact w_X4_manyHeld_4 (l := l) G C hr hlocks σ hH 5 (0 : Int32) (0 : Int32)  _ hf ls (lv_sub hl [2, 1, 0] rfl)
abbrev rm_X4_many : Room := { frames := 4, cells := 0, slots := 0, locals := 91 }
def f_X4_many (σ : gx_St) (a1 : Int32) : Option Int32 :=
  if a1 = (0 : Int32) then (some (σ 0 4)) else if a1 = (1 : Int32) then ((f_X4_manyLoaded σ ).bind fun r3 =>
  some r3) else if a1 = (2 : Int32) then ((f_X4_manyPlay σ ).bind fun r5 =>
  some r5) else if a1 = (3 : Int32) then ((f_X4_manyOn σ ).bind fun r7 =>
  some r7) else if a1 = (4 : Int32) then (some (σ 0 12)) else if a1 = (5 : Int32) then ((f_X4_manyHeld σ ).bind fun r10 =>
  some r10) else if a1 = (6 : Int32) then (some (σ 0 0)) else if a1 = (7 : Int32) then (if (σ 0 18) = 0 then (some (0 : Int32)) else (some (1 : Int32))) else if a1 = (8 : Int32) then (some (σ 0 16)) else if a1 = (9 : Int32) then (some (σ 0 19)) else if a1 = (10 : Int32) then (some (σ 0 20)) else (some (-2 : Int32))
set_option maxHeartbeats 4000000 in
set_option maxRecDepth 100000 in
theorem t_X4_many (l : Launch) (G : gx_G) (σ : gx_St) (a1 : Int32) (r : Int32)  (hf : f_X4_many σ a1 = some r) : Met l yX4_many (Cond.code yX4_many cX4_many 2 (some .int) :: wT) rm_X4_many (va_Pc [.ref (gx_q G 0), .int a1] (gx_S G 13 (gm_mk G) σ)) (gx_QR (some (.int r))) 0 0 (fun _ => False) := by
  refine Met.ofW (cc := cX4_many) (maxL := 2) (ret := (some .int)) (by decide) rfl ?_
  intro p e s m args below meth c s₁ B hml hv
  obtain ⟨rfl, hH, hE⟩ := hv
  have C := gx_C.of (G := G) B hml hE
  have hx := C.1.1
  have hb := C.1.2.1
  have hr := B.returns
  have hlocks := B.notSynchronized
  have hS : va_S (gx_A G) s.heap s.heap [] := va_S.rf
  have hl := lv_entry ([.ref (gx_q G 0), .int a1]) (n := 2) (Nat.le_of_ble_eq_true rfl)
  rw [lg_entry_eq]
  generalize (lg_sl ([.ref (gx_q G 0), .int a1]) ++ List.replicate (2 - (lg_sl ([.ref (gx_q G 0), .int a1])).length) Slot.unset).toArray = ls at hl ⊢
  have hl : lv_has ls 2 [(0, .ref (gx_q G 0)), (1, .int a1)] := hl
  unfold f_X4_many at hf
  refine lv_iload_n hx hb dX4_many_0 rfl (lv_at hl 1 rfl) ?_
  by_cases hc1 : a1 = (0 : Int32)
  · have hf := gx_pos hc1 hf
    refine lv_tableIn (tgt := 60) hx hb dX4_many_1 (by rw [hc1]; decide) (by rw [hc1]; decide) (by rw [hc1]; rfl) (by decide) ?_
    refine lv_aload_n hx hb dX4_many_60 rfl (lv_at hl 0 rfl) ?_
    refine gx_get C hH 0 (by decide) rfl fl_X4_56 rfl dX4_many_61 ?_
    obtain rfl := Option.some.inj hf
    exact gx_iretR C hr hlocks dX4_many_64
  · have hf := gx_neg hc1 hf
    by_cases hc2 : a1 = (1 : Int32)
    · have hf := gx_pos hc2 hf
      refine lv_tableIn (tgt := 65) hx hb dX4_many_1 (by rw [hc2]; decide) (by rw [hc2]; decide) (by rw [hc2]; rfl) (by decide) ?_
      refine lv_aload_n hx hb dX4_many_65 rfl (lv_at hl 0 rfl) ?_
      obtain ⟨r3, hr3, hf⟩ := gx_bnd hf
      refine gx_vR (v := (some (.int r3))) (rest := []) C hH hS 0 (by decide) rfl rfl [] (t_X4_manyLoaded l G σ  r3  hr3) lk_X4_192 ⟨rfl, rfl, Nat.le_of_ble_eq_true rfl, Nat.le_of_ble_eq_true rfl⟩ ⟨Nat.zero_le _, Nat.zero_le _⟩ hl.1 rfl (Nat.le_of_ble_eq_true rfl) dX4_many_66 ?_
      refine gx_e0 (st := [.int r3]) ?_ rfl
      obtain rfl := Option.some.inj hf
      exact gx_iretR C hr hlocks dX4_many_69
    · have hf := gx_neg hc2 hf
      by_cases hc4 : a1 = (2 : Int32)
      · have hf := gx_pos hc4 hf
        refine lv_tableIn (tgt := 70) hx hb dX4_many_1 (by rw [hc4]; decide) (by rw [hc4]; decide) (by rw [hc4]; rfl) (by decide) ?_
        refine lv_aload_n hx hb dX4_many_70 rfl (lv_at hl 0 rfl) ?_
        obtain ⟨r5, hr5, hf⟩ := gx_bnd hf
        refine gx_vR (v := (some (.int r5))) (rest := []) C hH hS 0 (by decide) rfl rfl [] (t_X4_manyPlay l G σ  r5  hr5) lk_X4_149 ⟨rfl, rfl, Nat.le_of_ble_eq_true rfl, Nat.le_of_ble_eq_true rfl⟩ ⟨Nat.zero_le _, Nat.zero_le _⟩ hl.1 rfl (Nat.le_of_ble_eq_true rfl) dX4_many_71 ?_
        refine gx_e0 (st := [.int r5]) ?_ rfl
        obtain rfl := Option.some.inj hf
        exact gx_iretR C hr hlocks dX4_many_74
      · have hf := gx_neg hc4 hf
        by_cases hc6 : a1 = (3 : Int32)
        · have hf := gx_pos hc6 hf
          refine lv_tableIn (tgt := 75) hx hb dX4_many_1 (by rw [hc6]; decide) (by rw [hc6]; decide) (by rw [hc6]; rfl) (by decide) ?_
          refine lv_aload_n hx hb dX4_many_75 rfl (lv_at hl 0 rfl) ?_
          obtain ⟨r7, hr7, hf⟩ := gx_bnd hf
          refine gx_vR (v := (some (.int r7))) (rest := []) C hH hS 0 (by decide) rfl rfl [] (t_X4_manyOn l G σ  r7  hr7) lk_X4_195 ⟨rfl, rfl, Nat.le_of_ble_eq_true rfl, Nat.le_of_ble_eq_true rfl⟩ ⟨Nat.zero_le _, Nat.zero_le _⟩ hl.1 rfl (Nat.le_of_ble_eq_true rfl) dX4_many_76 ?_
          refine gx_e0 (st := [.int r7]) ?_ rfl
          obtain rfl := Option.some.inj hf
          exact gx_iretR C hr hlocks dX4_many_79
        · have hf := gx_neg hc6 hf
          by_cases hc8 : a1 = (4 : Int32)
          · have hf := gx_pos hc8 hf
            refine lv_tableIn (tgt := 80) hx hb dX4_many_1 (by rw [hc8]; decide) (by rw [hc8]; decide) (by rw [hc8]; rfl) (by decide) ?_
            refine lv_aload_n hx hb dX4_many_80 rfl (lv_at hl 0 rfl) ?_
            refine gx_get C hH 0 (by decide) rfl fl_X4_37 rfl dX4_many_81 ?_
            obtain rfl := Option.some.inj hf
            exact gx_iretR C hr hlocks dX4_many_84
          · have hf := gx_neg hc8 hf
            by_cases hc9 : a1 = (5 : Int32)
            · have hf := gx_pos hc9 hf
              refine lv_tableIn (tgt := 85) hx hb dX4_many_1 (by rw [hc9]; decide) (by rw [hc9]; decide) (by rw [hc9]; rfl) (by decide) ?_
              refine lv_aload_n hx hb dX4_many_85 rfl (lv_at hl 0 rfl) ?_
              obtain ⟨r10, hr10, hf⟩ := gx_bnd hf
              refine gx_vR (v := (some (.int r10))) (rest := []) C hH hS 0 (by decide) rfl rfl [] (t_X4_manyHeld l G σ  r10  hr10) lk_X4_198 ⟨rfl, rfl, Nat.le_of_ble_eq_true rfl, Nat.le_of_ble_eq_true rfl⟩ ⟨Nat.zero_le _, Nat.zero_le _⟩ hl.1 rfl (Nat.le_of_ble_eq_true rfl) dX4_many_86 ?_
              refine gx_e0 (st := [.int r10]) ?_ rfl
              obtain rfl := Option.some.inj hf
              exact gx_iretR C hr hlocks dX4_many_89
            · have hf := gx_neg hc9 hf
              by_cases hc11 : a1 = (6 : Int32)
              · have hf := gx_pos hc11 hf
                refine lv_tableIn (tgt := 90) hx hb dX4_many_1 (by rw [hc11]; decide) (by rw [hc11]; decide) (by rw [hc11]; rfl) (by decide) ?_
                refine lv_aload_n hx hb dX4_many_90 rfl (lv_at hl 0 rfl) ?_
                refine gx_get C hH 0 (by decide) rfl fl_X4_91 rfl dX4_many_91 ?_
                obtain rfl := Option.some.inj hf
                exact gx_iretR C hr hlocks dX4_many_94
              · have hf := gx_neg hc11 hf
                by_cases hc12 : a1 = (7 : Int32)
                · have hf := gx_pos hc12 hf
                  refine lv_tableIn (tgt := 95) hx hb dX4_many_1 (by rw [hc12]; decide) (by rw [hc12]; decide) (by rw [hc12]; rfl) (by decide) ?_
                  refine lv_aload_n hx hb dX4_many_95 rfl (lv_at hl 0 rfl) ?_
                  refine gx_get C hH 0 (by decide) rfl fl_X4_125 rfl dX4_many_96 ?_
                  refine lv_if_eq (tgt := 106) hx hb dX4_many_99 (by decide) (fun hc13 => ?_) (fun hc13 => ?_)
                  · have hf := gx_pos hc13 hf
                    refine lv_iconst (v := (0 : Int32)) hx hb dX4_many_106 (by decide) ?_
                    obtain rfl := Option.some.inj hf
                    exact gx_iretR C hr hlocks dX4_many_107
                  · have hf := gx_neg hc13 hf
                    refine lv_iconst (v := (1 : Int32)) hx hb dX4_many_102 (by decide) ?_
                    refine lv_goto (tgt := 107) hx hb dX4_many_103 (by decide) ?_
                    obtain rfl := Option.some.inj hf
                    exact gx_iretR C hr hlocks dX4_many_107
                · have hf := gx_neg hc12 hf
                  by_cases hc14 : a1 = (8 : Int32)
                  · have hf := gx_pos hc14 hf
                    refine lv_tableIn (tgt := 108) hx hb dX4_many_1 (by rw [hc14]; decide) (by rw [hc14]; decide) (by rw [hc14]; rfl) (by decide) ?_
                    refine lv_aload_n hx hb dX4_many_108 rfl (lv_at hl 0 rfl) ?_
                    refine gx_get C hH 0 (by decide) rfl fl_X4_132 rfl dX4_many_109 ?_
                    obtain rfl := Option.some.inj hf
                    exact gx_iretR C hr hlocks dX4_many_112
                  · have hf := gx_neg hc14 hf
                    by_cases hc15 : a1 = (9 : Int32)
                    · have hf := gx_pos hc15 hf
                      refine lv_tableIn (tgt := 113) hx hb dX4_many_1 (by rw [hc15]; decide) (by rw [hc15]; decide) (by rw [hc15]; rfl) (by decide) ?_
                      refine lv_aload_n hx hb dX4_many_113 rfl (lv_at hl 0 rfl) ?_
                      refine gx_get C hH 0 (by decide) rfl fl_X4_50 rfl dX4_many_114 ?_
                      obtain rfl := Option.some.inj hf
                      exact gx_iretR C hr hlocks dX4_many_117
                    · have hf := gx_neg hc15 hf
                      by_cases hc16 : a1 = (10 : Int32)
                      · have hf := gx_pos hc16 hf
                        refine lv_tableIn (tgt := 118) hx hb dX4_many_1 (by rw [hc16]; decide) (by rw [hc16]; decide) (by rw [hc16]; rfl) (by decide) ?_
                        refine lv_aload_n hx hb dX4_many_118 rfl (lv_at hl 0 rfl) ?_
                        refine gx_get C hH 0 (by decide) rfl fl_X4_53 rfl dX4_many_119 ?_
                        obtain rfl := Option.some.inj hf
                        exact gx_iretR C hr hlocks dX4_many_122
                      · have hf := gx_neg hc16 hf
                        refine lv_tableOut (tgt := 123) hx hb dX4_many_1 (by have q0 := lv_neT hc1 (a := 0) rfl; have q1 := lv_neT hc2 (a := 1) rfl; have q2 := lv_neT hc4 (a := 2) rfl; have q3 := lv_neT hc6 (a := 3) rfl; have q4 := lv_neT hc8 (a := 4) rfl; have q5 := lv_neT hc9 (a := 5) rfl; have q6 := lv_neT hc11 (a := 6) rfl; have q7 := lv_neT hc12 (a := 7) rfl; have q8 := lv_neT hc14 (a := 8) rfl; have q9 := lv_neT hc15 (a := 9) rfl; have q10 := lv_neT hc16 (a := 10) rfl; omega) (by decide) ?_
                        refine lv_bipush (v := (-2 : Int32)) hx hb dX4_many_123 (by decide) ?_
                        obtain rfl := Option.some.inj hf
                        exact gx_iretR C hr hlocks dX4_many_125
