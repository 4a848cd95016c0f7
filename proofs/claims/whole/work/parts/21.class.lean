abbrev rm_X2_partAt : Room := { frames := 3, cells := 0, slots := 0, locals := 67 }
def f_X2_partAt (σ : gx_St) (ee a1 a2 a3 : Int32) : Option Int32 :=
  (f_X2_isOnAt σ ee a1 a2).bind fun r1 =>
  if r1 = 0 then (some (0 : Int32)) else ((f_X2_sinceDelay σ ee a1 a2).bind fun r3 =>
  (f_X2_valueAt σ ee r3 a3).bind fun r4 =>
  if ((σ (44 + 1 * a3.toNatClampNeg) 0) < 0 ∨ 12 ≤ (σ (44 + 1 * a3.toNatClampNeg) 0).toNatClampNeg) then none else
  some ((((r4 * (σ (8 + 3 * ee.toNatClampNeg + 1) 8)) / (100 : Int32)) * (σ (8 + 3 * ee.toNatClampNeg + 1) (σ (44 + 1 * a3.toNatClampNeg) 0).toNatClampNeg)) / (100 : Int32)))
set_option maxHeartbeats 4000000 in
set_option maxRecDepth 100000 in
theorem t_X2_partAt (l : Launch) (G : gx_G) (σ : gx_St) (ee a1 a2 a3 : Int32) (r : Int32) (hl_ee : ee.toNatClampNeg < 12) (hl_a3 : a3.toNatClampNeg < 2) (hf : f_X2_partAt σ ee a1 a2 a3 = some r) : Met l yX2_partAt (Cond.code yX2_partAt cX2_partAt 5 (some .int) :: wT) rm_X2_partAt (va_Pc [.ref (gx_q G (8 + 3 * ee.toNatClampNeg)), .int a1, .int a2, .ref (gx_q G (44 + 1 * a3.toNatClampNeg))] (gx_S G 50 (gc_mk G) σ)) (gx_QR (some (.int r))) 0 0 (fun _ => False) := by
  refine Met.ofW (cc := cX2_partAt) (maxL := 5) (ret := (some .int)) (by decide) rfl ?_
  intro p e s m args below meth c s₁ B hml hv
  obtain ⟨rfl, hH, hE⟩ := hv
  have C := gx_C.of (G := G) B hml hE
  have hx := C.1.1
  have hb := C.1.2.1
  have hr := B.returns
  have hlocks := B.notSynchronized
  have hS : va_S (gx_A G) s.heap s.heap [] := va_S.rf
  have hl := lv_entry ([.ref (gx_q G (8 + 3 * ee.toNatClampNeg)), .int a1, .int a2, .ref (gx_q G (44 + 1 * a3.toNatClampNeg))]) (n := 5) (Nat.le_of_ble_eq_true rfl)
  rw [lg_entry_eq]
  generalize (lg_sl ([.ref (gx_q G (8 + 3 * ee.toNatClampNeg)), .int a1, .int a2, .ref (gx_q G (44 + 1 * a3.toNatClampNeg))]) ++ List.replicate (5 - (lg_sl ([.ref (gx_q G (8 + 3 * ee.toNatClampNeg)), .int a1, .int a2, .ref (gx_q G (44 + 1 * a3.toNatClampNeg))])).length) Slot.unset).toArray = ls at hl ⊢
  have hl : lv_has ls 5 [(0, .ref (gx_q G (8 + 3 * ee.toNatClampNeg))), (1, .int a1), (2, .int a2), (3, .ref (gx_q G (44 + 1 * a3.toNatClampNeg)))] := hl
  unfold f_X2_partAt at hf
  refine lv_aload_n hx hb dX2_partAt_0 rfl (lv_at hl 0 rfl) ?_
  refine lv_iload_n hx hb dX2_partAt_1 rfl (lv_at hl 1 rfl) ?_
  refine lv_iload_n hx hb dX2_partAt_2 rfl (lv_at hl 2 rfl) ?_
  obtain ⟨r1, hr1, hf⟩ := gx_bnd hf
  refine gx_vR (v := (some (.int r1))) (rest := []) C hH hS (8 + 3 * ee.toNatClampNeg) (gc_ke hl_ee) (gc_e _ hl_ee) rfl [.int a1, .int a2] (t_X2_isOnAt l G σ ee a1 a2 r1 hl_ee hr1) lk_X2_60 ⟨rfl, rfl, Nat.le_of_ble_eq_true rfl, Nat.le_of_ble_eq_true rfl⟩ ⟨Nat.zero_le _, Nat.zero_le _⟩ hl.1 rfl (Nat.le_of_ble_eq_true rfl) dX2_partAt_3 ?_
  refine gx_e0 (st := [.int r1]) ?_ rfl
  refine lv_if_ne (tgt := 11) hx hb dX2_partAt_6 (by decide) (fun hc2 => ?_) (fun hc2 => ?_)
  · have hf := gx_neg hc2 hf
    refine lv_aload_n hx hb dX2_partAt_11 rfl (lv_at hl 0 rfl) ?_
    refine lv_aload_n hx hb dX2_partAt_12 rfl (lv_at hl 0 rfl) ?_
    refine lv_iload_n hx hb dX2_partAt_13 rfl (lv_at hl 1 rfl) ?_
    refine lv_iload_n hx hb dX2_partAt_14 rfl (lv_at hl 2 rfl) ?_
    obtain ⟨r3, hr3, hf⟩ := gx_bnd hf
    refine gx_vR (v := (some (.int r3))) (rest := [.ref (gx_q G (8 + 3 * ee.toNatClampNeg))]) C hH hS (8 + 3 * ee.toNatClampNeg) (gc_ke hl_ee) (gc_e _ hl_ee) rfl [.int a1, .int a2] (t_X2_sinceDelay l G σ ee a1 a2 r3 hl_ee hr3) lk_X2_63 ⟨rfl, rfl, Nat.le_of_ble_eq_true rfl, Nat.le_of_ble_eq_true rfl⟩ ⟨Nat.zero_le _, Nat.zero_le _⟩ hl.1 rfl (Nat.le_of_ble_eq_true rfl) dX2_partAt_15 ?_
    refine gx_e0 (st := [.int r3, .ref (gx_q G (8 + 3 * ee.toNatClampNeg))]) ?_ rfl
    refine lv_aload_n hx hb dX2_partAt_18 rfl (lv_at hl 3 rfl) ?_
    obtain ⟨r4, hr4, hf⟩ := gx_bnd hf
    refine gx_vR (v := (some (.int r4))) (rest := []) C hH hS (8 + 3 * ee.toNatClampNeg) (gc_ke hl_ee) (gc_e _ hl_ee) rfl [.int r3, .ref (gx_q G (44 + 1 * a3.toNatClampNeg))] (t_X2_valueAt l G σ ee r3 a3 r4 hl_ee hl_a3 hr4) lk_X2_66 ⟨rfl, rfl, Nat.le_of_ble_eq_true rfl, Nat.le_of_ble_eq_true rfl⟩ ⟨Nat.zero_le _, Nat.zero_le _⟩ hl.1 rfl (Nat.le_of_ble_eq_true rfl) dX2_partAt_19 ?_
    refine gx_e0 (st := [.int r4]) ?_ rfl
    refine lv_istore (lv' := [(4, .int r4), (0, .ref (gx_q G (8 + 3 * ee.toNatClampNeg))), (1, .int a1), (2, .int a2), (3, .ref (gx_q G (44 + 1 * a3.toNatClampNeg)))]) hx hb dX2_partAt_22 hl (by decide) rfl (fun ls hl => ?_)
    refine lv_iload hx hb dX2_partAt_24 (lv_at hl 0 rfl) ?_
    refine lv_aload_n hx hb dX2_partAt_26 rfl (lv_at hl 1 rfl) ?_
    refine gx_get C hH (8 + 3 * ee.toNatClampNeg) (gc_ke hl_ee) (gc_e _ hl_ee) fl_X2_27 rfl dX2_partAt_27 ?_
    refine lv_bipush (v := (8 : Int32)) hx hb dX2_partAt_30 (by decide) ?_
    refine gx_ialdL C hH (8 + 3 * ee.toNatClampNeg + 1) (gc_kn hl_ee) (gc_n _ hl_ee) 8 (by decide) dX2_partAt_32 ?_
    refine lv_imul hx hb dX2_partAt_33 ?_
    refine lv_bipush (v := (100 : Int32)) hx hb dX2_partAt_34 (by decide) ?_
    refine lv_idiv hx hb dX2_partAt_36 (by decide) ?_
    refine lv_aload_n hx hb dX2_partAt_37 rfl (lv_at hl 1 rfl) ?_
    refine gx_get C hH (8 + 3 * ee.toNatClampNeg) (gc_ke hl_ee) (gc_e _ hl_ee) fl_X2_27 rfl dX2_partAt_38 ?_
    refine lv_aload_n hx hb dX2_partAt_41 rfl (lv_at hl 4 rfl) ?_
    refine gx_get C hH (44 + 1 * a3.toNatClampNeg) (gc_ka hl_a3) (gc_a _ hl_a3) fl_X2_70 rfl dX2_partAt_42 ?_
    obtain ⟨hb5, hf⟩ := gx_chk hf
    refine gx_iald C hH (8 + 3 * ee.toNatClampNeg + 1) (gc_kn hl_ee) (gc_n _ hl_ee) hb5 dX2_partAt_45 ?_
    refine lv_imul hx hb dX2_partAt_46 ?_
    refine lv_bipush (v := (100 : Int32)) hx hb dX2_partAt_47 (by decide) ?_
    refine lv_idiv hx hb dX2_partAt_49 (by decide) ?_
    obtain rfl := Option.some.inj hf
    exact gx_iretR C hr hlocks dX2_partAt_50
  · have hf := gx_pos hc2 hf
    refine lv_iconst (v := (0 : Int32)) hx hb dX2_partAt_9 (by decide) ?_
    obtain rfl := Option.some.inj hf
    exact gx_iretR C hr hlocks dX2_partAt_10
abbrev rm_X3_isWithin : Room := { frames := 0, cells := 0, slots := 0, locals := 0 }
def f_X3_isWithin (a0 a1 a2 : Int32) : Option Int32 :=
  if a0 < a1 then (some (0 : Int32)) else (if a2 < a0 then (some (0 : Int32)) else (some (1 : Int32)))
set_option maxHeartbeats 4000000 in
set_option maxRecDepth 100000 in
theorem t_X3_isWithin (l : Launch) (G : gx_G) (σ : gx_St) (a0 a1 a2 : Int32) (r : Int32)  (hf : f_X3_isWithin a0 a1 a2 = some r) : Met l yX3_isWithin (Cond.code yX3_isWithin cX3_isWithin 3 (some .boolean) :: wT) rm_X3_isWithin (va_Pc [.int a0, .int a1, .int a2] (gx_S G 50 (gc_mk G) σ)) (gx_QR (some (.int r))) 0 0 (fun _ => False) := by
  refine Met.ofW (cc := cX3_isWithin) (maxL := 3) (ret := (some .boolean)) (by decide) rfl ?_
  intro p e s m args below meth c s₁ B hml hv
  obtain ⟨rfl, hH, hE⟩ := hv
  have C := gx_C.of (G := G) B hml hE
  have hx := C.1.1
  have hb := C.1.2.1
  have hr := B.returns
  have hlocks := B.notSynchronized
  have hS : va_S (gx_A G) s.heap s.heap [] := va_S.rf
  have hl := lv_entry ([.int a0, .int a1, .int a2]) (n := 3) (Nat.le_of_ble_eq_true rfl)
  rw [lg_entry_eq]
  generalize (lg_sl ([.int a0, .int a1, .int a2]) ++ List.replicate (3 - (lg_sl ([.int a0, .int a1, .int a2])).length) Slot.unset).toArray = ls at hl ⊢
  have hl : lv_has ls 3 [(0, .int a0), (1, .int a1), (2, .int a2)] := hl
  unfold f_X3_isWithin at hf
  refine lv_iload_n hx hb dX3_isWithin_0 rfl (lv_at hl 0 rfl) ?_
  refine lv_iload_n hx hb dX3_isWithin_1 rfl (lv_at hl 1 rfl) ?_
  refine lv_icmp_lt (tgt := 14) hx hb dX3_isWithin_2 (by decide) (fun hc1 => ?_) (fun hc1 => ?_)
  · have hf := gx_pos hc1 hf
    refine lv_iconst (v := (0 : Int32)) hx hb dX3_isWithin_14 (by decide) ?_
    obtain rfl := Option.some.inj hf
    exact gx_zretR C hr hlocks (by decide) dX3_isWithin_15
  · have hf := gx_neg hc1 hf
    refine lv_iload_n hx hb dX3_isWithin_5 rfl (lv_at hl 0 rfl) ?_
    refine lv_iload_n hx hb dX3_isWithin_6 rfl (lv_at hl 2 rfl) ?_
    refine lv_icmp_gt (tgt := 14) hx hb dX3_isWithin_7 (by decide) (fun hc2 => ?_) (fun hc2 => ?_)
    · have hf := gx_pos hc2 hf
      refine lv_iconst (v := (0 : Int32)) hx hb dX3_isWithin_14 (by decide) ?_
      obtain rfl := Option.some.inj hf
      exact gx_zretR C hr hlocks (by decide) dX3_isWithin_15
    · have hf := gx_neg hc2 hf
      refine lv_iconst (v := (1 : Int32)) hx hb dX3_isWithin_10 (by decide) ?_
      refine lv_goto (tgt := 15) hx hb dX3_isWithin_11 (by decide) ?_
      obtain rfl := Option.some.inj hf
      exact gx_zretR C hr hlocks (by decide) dX3_isWithin_15
abbrev rm_X3_isShapeNumber : Room := { frames := 1, cells := 0, slots := 0, locals := 22 }
def f_X3_isShapeNumber (σ : gx_St) (a0 a1 a2 : Int32) : Option Int32 :=
  gx_lt (((4 : Int32) * a0) + a1) fun x1 =>
  if (x1 < 0 ∨ 28 ≤ x1.toNatClampNeg) then none else
  if (x1 < 0 ∨ 28 ≤ x1.toNatClampNeg) then none else
  (f_X3_isWithin a2 (gx_tv 0 x1.toNatClampNeg) (gx_tv 1 x1.toNatClampNeg)).bind fun r4 =>
  if ¬ (r4 = 0 ∨ r4 = 1) then none else
  some r4
set_option maxHeartbeats 4000000 in
set_option maxRecDepth 100000 in
theorem t_X3_isShapeNumber (l : Launch) (G : gx_G) (σ : gx_St) (a0 a1 a2 : Int32) (r : Int32)  (hf : f_X3_isShapeNumber σ a0 a1 a2 = some r) : Met l yX3_isShapeNumber (Cond.code yX3_isShapeNumber cX3_isShapeNumber 4 (some .boolean) :: wT) rm_X3_isShapeNumber (va_Pc [.int a0, .int a1, .int a2] (gx_S G 50 (gc_mk G) σ)) (gx_QR (some (.int r))) 0 0 (fun _ => False) := by
  refine Met.ofW (cc := cX3_isShapeNumber) (maxL := 4) (ret := (some .boolean)) (by decide) rfl ?_
  intro p e s m args below meth c s₁ B hml hv
  obtain ⟨rfl, hH, hE⟩ := hv
  have C := gx_C.of (G := G) B hml hE
  have hx := C.1.1
  have hb := C.1.2.1
  have hr := B.returns
  have hlocks := B.notSynchronized
  have hS : va_S (gx_A G) s.heap s.heap [] := va_S.rf
  have hl := lv_entry ([.int a0, .int a1, .int a2]) (n := 4) (Nat.le_of_ble_eq_true rfl)
  rw [lg_entry_eq]
  generalize (lg_sl ([.int a0, .int a1, .int a2]) ++ List.replicate (4 - (lg_sl ([.int a0, .int a1, .int a2])).length) Slot.unset).toArray = ls at hl ⊢
  have hl : lv_has ls 4 [(0, .int a0), (1, .int a1), (2, .int a2)] := hl
  unfold f_X3_isShapeNumber at hf
  refine lv_iconst (v := (4 : Int32)) hx hb dX3_isShapeNumber_0 (by decide) ?_
  refine lv_iload_n hx hb dX3_isShapeNumber_1 rfl (lv_at hl 0 rfl) ?_
  refine lv_imul hx hb dX3_isShapeNumber_2 ?_
  refine lv_iload_n hx hb dX3_isShapeNumber_3 rfl (lv_at hl 1 rfl) ?_
  refine lv_iadd hx hb dX3_isShapeNumber_4 ?_
  refine lv_topi (fun x1 hx1 => ?_)
  have hf := gx_let hf x1 hx1
  refine lv_istore_n (lv' := [(3, .int x1), (0, .int a0), (1, .int a1), (2, .int a2)]) hx hb dX3_isShapeNumber_5 rfl hl (by decide) rfl (fun ls hl => ?_)
  refine lv_iload_n hx hb dX3_isShapeNumber_6 rfl (lv_at hl 3 rfl) ?_
  refine gx_gets C hS 0 (by decide) kw_163 dX3_isShapeNumber_7 ?_
  refine lv_iload_n hx hb dX3_isShapeNumber_10 rfl (lv_at hl 0 rfl) ?_
  obtain ⟨hb2, hf⟩ := gx_chk hf
  refine gx_tald C hS 0 (by decide) rfl hb2 dX3_isShapeNumber_11 ?_
  refine gx_gets C hS 1 (by decide) kw_165 dX3_isShapeNumber_12 ?_
  refine lv_iload_n hx hb dX3_isShapeNumber_15 rfl (lv_at hl 0 rfl) ?_
  obtain ⟨hb3, hf⟩ := gx_chk hf
  refine gx_tald C hS 1 (by decide) rfl hb3 dX3_isShapeNumber_16 ?_
  obtain ⟨r4, hr4, hf⟩ := gx_bnd hf
  refine gx_sR (v := (some (.int r4))) (rest := []) C hH hS [.int a2, .int (gx_tv 0 x1.toNatClampNeg), .int (gx_tv 1 x1.toNatClampNeg)] (t_X3_isWithin l G σ a2 (gx_tv 0 x1.toNatClampNeg) (gx_tv 1 x1.toNatClampNeg) r4  hr4) lk_X3_102 ⟨rfl, rfl, Nat.le_of_ble_eq_true rfl, Nat.le_of_ble_eq_true rfl⟩ ⟨Nat.zero_le _, Nat.zero_le _⟩ hl.1 rfl (Nat.le_of_ble_eq_true rfl) dX3_isShapeNumber_17 ?_
  refine gx_e0 (st := [.int r4]) ?_ rfl
  obtain ⟨hz5, hf⟩ := gx_chk hf
  obtain rfl := Option.some.inj hf
  exact gx_zretR C hr hlocks (Decidable.of_not_not hz5) dX3_isShapeNumber_20
abbrev rm_X3_isShape : Room := { frames := 2, cells := 0, slots := 0, locals := 45 }
def f_X3_isShape (σ : gx_St) (a0 a1 a2 a3 a4 : Int32) : Option Int32 :=
  if a0 < 0 then (some (0 : Int32)) else (if a0 < (7 : Int32) then (if a0 = (1 : Int32) then ((f_X3_isShapeNumber σ a0 (0 : Int32) a1).bind fun r4 =>
  if r4 = 0 then (some (0 : Int32)) else ((f_X3_isShapeNumber σ a0 (1 : Int32) a2).bind fun r6 =>
  if r6 = 0 then (some (0 : Int32)) else ((f_X3_isShapeNumber σ a0 (2 : Int32) a3).bind fun r8 =>
  if r8 = 0 then (some (0 : Int32)) else ((f_X3_isShapeNumber σ a0 (3 : Int32) a4).bind fun r10 =>
  if r10 = 0 then (some (0 : Int32)) else (if a3 ≤ a4 then (some (0 : Int32)) else (some (1 : Int32))))))) else (if a0 = (2 : Int32) then ((f_X3_isShapeNumber σ a0 (0 : Int32) a1).bind fun r24 =>
  if r24 = 0 then (some (0 : Int32)) else ((f_X3_isShapeNumber σ a0 (1 : Int32) a2).bind fun r26 =>
  if r26 = 0 then (some (0 : Int32)) else ((f_X3_isShapeNumber σ a0 (2 : Int32) a3).bind fun r28 =>
  if r28 = 0 then (some (0 : Int32)) else ((f_X3_isShapeNumber σ a0 (3 : Int32) a4).bind fun r30 =>
  if r30 = 0 then (some (0 : Int32)) else (if a3 ≤ a4 then (some (0 : Int32)) else (some (1 : Int32))))))) else ((f_X3_isShapeNumber σ a0 (0 : Int32) a1).bind fun r15 =>
  if r15 = 0 then (some (0 : Int32)) else ((f_X3_isShapeNumber σ a0 (1 : Int32) a2).bind fun r17 =>
  if r17 = 0 then (some (0 : Int32)) else ((f_X3_isShapeNumber σ a0 (2 : Int32) a3).bind fun r19 =>
  if r19 = 0 then (some (0 : Int32)) else ((f_X3_isShapeNumber σ a0 (3 : Int32) a4).bind fun r21 =>
  if r21 = 0 then (some (0 : Int32)) else (some (1 : Int32)))))))) else (some (0 : Int32)))
set_option maxHeartbeats 4000000 in
set_option maxRecDepth 100000 in
theorem t_X3_isShape (l : Launch) (G : gx_G) (σ : gx_St) (a0 a1 a2 a3 a4 : Int32) (r : Int32)  (hf : f_X3_isShape σ a0 a1 a2 a3 a4 = some r) : Met l yX3_isShape (Cond.code yX3_isShape cX3_isShape 6 (some .boolean) :: wT) rm_X3_isShape (va_Pc [.int a0, .int a1, .int a2, .int a3, .int a4] (gx_S G 50 (gc_mk G) σ)) (gx_QR (some (.int r))) 0 0 (fun _ => False) := by
  refine Met.ofW (cc := cX3_isShape) (maxL := 6) (ret := (some .boolean)) (by decide) rfl ?_
  intro p e s m args below meth c s₁ B hml hv
  obtain ⟨rfl, hH, hE⟩ := hv
  have C := gx_C.of (G := G) B hml hE
  have hx := C.1.1
  have hb := C.1.2.1
  have hr := B.returns
  have hlocks := B.notSynchronized
  have hS : va_S (gx_A G) s.heap s.heap [] := va_S.rf
  have hl := lv_entry ([.int a0, .int a1, .int a2, .int a3, .int a4]) (n := 6) (Nat.le_of_ble_eq_true rfl)
  rw [lg_entry_eq]
  generalize (lg_sl ([.int a0, .int a1, .int a2, .int a3, .int a4]) ++ List.replicate (6 - (lg_sl ([.int a0, .int a1, .int a2, .int a3, .int a4])).length) Slot.unset).toArray = ls at hl ⊢
  have hl : lv_has ls 6 [(0, .int a0), (1, .int a1), (2, .int a2), (3, .int a3), (4, .int a4)] := hl
  unfold f_X3_isShape at hf
  refine lv_iload_n hx hb dX3_isShape_0 rfl (lv_at hl 0 rfl) ?_
  refine lv_if_lt (tgt := 10) hx hb dX3_isShape_1 (by decide) (fun hc1 => ?_) (fun hc1 => ?_)
  · have hf := gx_pos hc1 hf
    refine lv_iconst (v := (0 : Int32)) hx hb dX3_isShape_10 (by decide) ?_
    obtain rfl := Option.some.inj hf
    exact gx_zretR C hr hlocks (by decide) dX3_isShape_11
  · have hf := gx_neg hc1 hf
    refine lv_iload_n hx hb dX3_isShape_4 rfl (lv_at hl 0 rfl) ?_
    refine lv_bipush (v := (7 : Int32)) hx hb dX3_isShape_5 (by decide) ?_
    refine lv_icmp_lt (tgt := 12) hx hb dX3_isShape_7 (by decide) (fun hc2 => ?_) (fun hc2 => ?_)
    · have hf := gx_pos hc2 hf
      refine lv_iload_n hx hb dX3_isShape_12 rfl (lv_at hl 0 rfl) ?_
      refine lv_iconst (v := (1 : Int32)) hx hb dX3_isShape_13 (by decide) ?_
      refine lv_icmp_eq (tgt := 22) hx hb dX3_isShape_14 (by decide) (fun hc3 => ?_) (fun hc3 => ?_)
      · have hf := gx_pos hc3 hf
        refine lv_iconst (v := (1 : Int32)) hx hb dX3_isShape_22 (by decide) ?_
        refine lv_goto (tgt := 27) hx hb dX3_isShape_23 (by decide) ?_
        refine lv_istore (lv' := [(5, .int (1 : Int32)), (0, .int a0), (1, .int a1), (2, .int a2), (3, .int a3), (4, .int a4)]) hx hb dX3_isShape_27 hl (by decide) rfl (fun ls hl => ?_)
        refine lv_iload_n hx hb dX3_isShape_29 rfl (lv_at hl 1 rfl) ?_
        refine lv_iconst (v := (0 : Int32)) hx hb dX3_isShape_30 (by decide) ?_
        refine lv_iload_n hx hb dX3_isShape_31 rfl (lv_at hl 2 rfl) ?_
        obtain ⟨r4, hr4, hf⟩ := gx_bnd hf
        refine gx_sR (v := (some (.int r4))) (rest := []) C hH hS [.int a0, .int (0 : Int32), .int a1] (t_X3_isShapeNumber l G σ a0 (0 : Int32) a1 r4  hr4) lk_X3_250 ⟨rfl, rfl, Nat.le_of_ble_eq_true rfl, Nat.le_of_ble_eq_true rfl⟩ ⟨Nat.zero_le _, Nat.zero_le _⟩ hl.1 rfl (Nat.le_of_ble_eq_true rfl) dX3_isShape_32 ?_
        refine gx_e0 (st := [.int r4]) ?_ rfl
        refine lv_if_eq (tgt := 81) hx hb dX3_isShape_35 (by decide) (fun hc5 => ?_) (fun hc5 => ?_)
        · have hf := gx_pos hc5 hf
          refine lv_iconst (v := (0 : Int32)) hx hb dX3_isShape_81 (by decide) ?_
          obtain rfl := Option.some.inj hf
          exact gx_zretR C hr hlocks (by decide) dX3_isShape_82
        · have hf := gx_neg hc5 hf
          refine lv_iload_n hx hb dX3_isShape_38 rfl (lv_at hl 1 rfl) ?_
          refine lv_iconst (v := (1 : Int32)) hx hb dX3_isShape_39 (by decide) ?_
          refine lv_iload_n hx hb dX3_isShape_40 rfl (lv_at hl 3 rfl) ?_
          obtain ⟨r6, hr6, hf⟩ := gx_bnd hf
          refine gx_sR (v := (some (.int r6))) (rest := []) C hH hS [.int a0, .int (1 : Int32), .int a2] (t_X3_isShapeNumber l G σ a0 (1 : Int32) a2 r6  hr6) lk_X3_250 ⟨rfl, rfl, Nat.le_of_ble_eq_true rfl, Nat.le_of_ble_eq_true rfl⟩ ⟨Nat.zero_le _, Nat.zero_le _⟩ hl.1 rfl (Nat.le_of_ble_eq_true rfl) dX3_isShape_41 ?_
          refine gx_e0 (st := [.int r6]) ?_ rfl
          refine lv_if_eq (tgt := 81) hx hb dX3_isShape_44 (by decide) (fun hc7 => ?_) (fun hc7 => ?_)
          · have hf := gx_pos hc7 hf
            refine lv_iconst (v := (0 : Int32)) hx hb dX3_isShape_81 (by decide) ?_
            obtain rfl := Option.some.inj hf
            exact gx_zretR C hr hlocks (by decide) dX3_isShape_82
          · have hf := gx_neg hc7 hf
            refine lv_iload_n hx hb dX3_isShape_47 rfl (lv_at hl 1 rfl) ?_
            refine lv_iconst (v := (2 : Int32)) hx hb dX3_isShape_48 (by decide) ?_
            refine lv_iload_n hx hb dX3_isShape_49 rfl (lv_at hl 4 rfl) ?_
            obtain ⟨r8, hr8, hf⟩ := gx_bnd hf
            refine gx_sR (v := (some (.int r8))) (rest := []) C hH hS [.int a0, .int (2 : Int32), .int a3] (t_X3_isShapeNumber l G σ a0 (2 : Int32) a3 r8  hr8) lk_X3_250 ⟨rfl, rfl, Nat.le_of_ble_eq_true rfl, Nat.le_of_ble_eq_true rfl⟩ ⟨Nat.zero_le _, Nat.zero_le _⟩ hl.1 rfl (Nat.le_of_ble_eq_true rfl) dX3_isShape_50 ?_
            refine gx_e0 (st := [.int r8]) ?_ rfl
            refine lv_if_eq (tgt := 81) hx hb dX3_isShape_53 (by decide) (fun hc9 => ?_) (fun hc9 => ?_)
            · have hf := gx_pos hc9 hf
              refine lv_iconst (v := (0 : Int32)) hx hb dX3_isShape_81 (by decide) ?_
              obtain rfl := Option.some.inj hf
              exact gx_zretR C hr hlocks (by decide) dX3_isShape_82
            · have hf := gx_neg hc9 hf
              refine lv_iload_n hx hb dX3_isShape_56 rfl (lv_at hl 1 rfl) ?_
              refine lv_iconst (v := (3 : Int32)) hx hb dX3_isShape_57 (by decide) ?_
              refine lv_iload hx hb dX3_isShape_58 (lv_at hl 5 rfl) ?_
              obtain ⟨r10, hr10, hf⟩ := gx_bnd hf
              refine gx_sR (v := (some (.int r10))) (rest := []) C hH hS [.int a0, .int (3 : Int32), .int a4] (t_X3_isShapeNumber l G σ a0 (3 : Int32) a4 r10  hr10) lk_X3_250 ⟨rfl, rfl, Nat.le_of_ble_eq_true rfl, Nat.le_of_ble_eq_true rfl⟩ ⟨Nat.zero_le _, Nat.zero_le _⟩ hl.1 rfl (Nat.le_of_ble_eq_true rfl) dX3_isShape_60 ?_
              refine gx_e0 (st := [.int r10]) ?_ rfl
              refine lv_if_eq (tgt := 81) hx hb dX3_isShape_63 (by decide) (fun hc11 => ?_) (fun hc11 => ?_)
              · have hf := gx_pos hc11 hf
                refine lv_iconst (v := (0 : Int32)) hx hb dX3_isShape_81 (by decide) ?_
                obtain rfl := Option.some.inj hf
                exact gx_zretR C hr hlocks (by decide) dX3_isShape_82
              · have hf := gx_neg hc11 hf
                refine lv_iload hx hb dX3_isShape_66 (lv_at hl 0 rfl) ?_
                refine lv_if_eq (tgt := 77) hx hb dX3_isShape_68 (by decide) (fun hc12 => absurd hc12 (by decide)) (fun hc12 => ?_)
                refine lv_iload hx hb dX3_isShape_71 (lv_at hl 5 rfl) ?_
                refine lv_iload_n hx hb dX3_isShape_73 rfl (lv_at hl 4 rfl) ?_
                refine lv_icmp_ge (tgt := 81) hx hb dX3_isShape_74 (by decide) (fun hc13 => ?_) (fun hc13 => ?_)
                · have hf := gx_pos hc13 hf
                  refine lv_iconst (v := (0 : Int32)) hx hb dX3_isShape_81 (by decide) ?_
                  obtain rfl := Option.some.inj hf
                  exact gx_zretR C hr hlocks (by decide) dX3_isShape_82
                · have hf := gx_neg hc13 hf
                  refine lv_iconst (v := (1 : Int32)) hx hb dX3_isShape_77 (by decide) ?_
                  refine lv_goto (tgt := 82) hx hb dX3_isShape_78 (by decide) ?_
                  obtain rfl := Option.some.inj hf
                  exact gx_zretR C hr hlocks (by decide) dX3_isShape_82
      · have hf := gx_neg hc3 hf
        refine lv_iload_n hx hb dX3_isShape_17 rfl (lv_at hl 0 rfl) ?_
        refine lv_iconst (v := (2 : Int32)) hx hb dX3_isShape_18 (by decide) ?_
        refine lv_icmp_ne (tgt := 26) hx hb dX3_isShape_19 (by decide) (fun hc14 => ?_) (fun hc14 => ?_)
        · have hf := gx_neg hc14 hf
          refine lv_iconst (v := (0 : Int32)) hx hb dX3_isShape_26 (by decide) ?_
          refine lv_istore (lv' := [(5, .int (0 : Int32)), (0, .int a0), (1, .int a1), (2, .int a2), (3, .int a3), (4, .int a4)]) hx hb dX3_isShape_27 hl (by decide) rfl (fun ls hl => ?_)
          refine lv_iload_n hx hb dX3_isShape_29 rfl (lv_at hl 1 rfl) ?_
          refine lv_iconst (v := (0 : Int32)) hx hb dX3_isShape_30 (by decide) ?_
          refine lv_iload_n hx hb dX3_isShape_31 rfl (lv_at hl 2 rfl) ?_
          obtain ⟨r15, hr15, hf⟩ := gx_bnd hf
          refine gx_sR (v := (some (.int r15))) (rest := []) C hH hS [.int a0, .int (0 : Int32), .int a1] (t_X3_isShapeNumber l G σ a0 (0 : Int32) a1 r15  hr15) lk_X3_250 ⟨rfl, rfl, Nat.le_of_ble_eq_true rfl, Nat.le_of_ble_eq_true rfl⟩ ⟨Nat.zero_le _, Nat.zero_le _⟩ hl.1 rfl (Nat.le_of_ble_eq_true rfl) dX3_isShape_32 ?_
          refine gx_e0 (st := [.int r15]) ?_ rfl
          refine lv_if_eq (tgt := 81) hx hb dX3_isShape_35 (by decide) (fun hc16 => ?_) (fun hc16 => ?_)
          · have hf := gx_pos hc16 hf
            refine lv_iconst (v := (0 : Int32)) hx hb dX3_isShape_81 (by decide) ?_
            obtain rfl := Option.some.inj hf
            exact gx_zretR C hr hlocks (by decide) dX3_isShape_82
          · have hf := gx_neg hc16 hf
            refine lv_iload_n hx hb dX3_isShape_38 rfl (lv_at hl 1 rfl) ?_
            refine lv_iconst (v := (1 : Int32)) hx hb dX3_isShape_39 (by decide) ?_
            refine lv_iload_n hx hb dX3_isShape_40 rfl (lv_at hl 3 rfl) ?_
            obtain ⟨r17, hr17, hf⟩ := gx_bnd hf
            refine gx_sR (v := (some (.int r17))) (rest := []) C hH hS [.int a0, .int (1 : Int32), .int a2] (t_X3_isShapeNumber l G σ a0 (1 : Int32) a2 r17  hr17) lk_X3_250 ⟨rfl, rfl, Nat.le_of_ble_eq_true rfl, Nat.le_of_ble_eq_true rfl⟩ ⟨Nat.zero_le _, Nat.zero_le _⟩ hl.1 rfl (Nat.le_of_ble_eq_true rfl) dX3_isShape_41 ?_
            refine gx_e0 (st := [.int r17]) ?_ rfl
            refine lv_if_eq (tgt := 81) hx hb dX3_isShape_44 (by decide) (fun hc18 => ?_) (fun hc18 => ?_)
            · have hf := gx_pos hc18 hf
              refine lv_iconst (v := (0 : Int32)) hx hb dX3_isShape_81 (by decide) ?_
              obtain rfl := Option.some.inj hf
              exact gx_zretR C hr hlocks (by decide) dX3_isShape_82
            · have hf := gx_neg hc18 hf
              refine lv_iload_n hx hb dX3_isShape_47 rfl (lv_at hl 1 rfl) ?_
              refine lv_iconst (v := (2 : Int32)) hx hb dX3_isShape_48 (by decide) ?_
              refine lv_iload_n hx hb dX3_isShape_49 rfl (lv_at hl 4 rfl) ?_
              obtain ⟨r19, hr19, hf⟩ := gx_bnd hf
              refine gx_sR (v := (some (.int r19))) (rest := []) C hH hS [.int a0, .int (2 : Int32), .int a3] (t_X3_isShapeNumber l G σ a0 (2 : Int32) a3 r19  hr19) lk_X3_250 ⟨rfl, rfl, Nat.le_of_ble_eq_true rfl, Nat.le_of_ble_eq_true rfl⟩ ⟨Nat.zero_le _, Nat.zero_le _⟩ hl.1 rfl (Nat.le_of_ble_eq_true rfl) dX3_isShape_50 ?_
              refine gx_e0 (st := [.int r19]) ?_ rfl
              refine lv_if_eq (tgt := 81) hx hb dX3_isShape_53 (by decide) (fun hc20 => ?_) (fun hc20 => ?_)
              · have hf := gx_pos hc20 hf
                refine lv_iconst (v := (0 : Int32)) hx hb dX3_isShape_81 (by decide) ?_
                obtain rfl := Option.some.inj hf
                exact gx_zretR C hr hlocks (by decide) dX3_isShape_82
              · have hf := gx_neg hc20 hf
                refine lv_iload_n hx hb dX3_isShape_56 rfl (lv_at hl 1 rfl) ?_
                refine lv_iconst (v := (3 : Int32)) hx hb dX3_isShape_57 (by decide) ?_
                refine lv_iload hx hb dX3_isShape_58 (lv_at hl 5 rfl) ?_
                obtain ⟨r21, hr21, hf⟩ := gx_bnd hf
                refine gx_sR (v := (some (.int r21))) (rest := []) C hH hS [.int a0, .int (3 : Int32), .int a4] (t_X3_isShapeNumber l G σ a0 (3 : Int32) a4 r21  hr21) lk_X3_250 ⟨rfl, rfl, Nat.le_of_ble_eq_true rfl, Nat.le_of_ble_eq_true rfl⟩ ⟨Nat.zero_le _, Nat.zero_le _⟩ hl.1 rfl (Nat.le_of_ble_eq_true rfl) dX3_isShape_60 ?_
                refine gx_e0 (st := [.int r21]) ?_ rfl
                refine lv_if_eq (tgt := 81) hx hb dX3_isShape_63 (by decide) (fun hc22 => ?_) (fun hc22 => ?_)
                · have hf := gx_pos hc22 hf
                  refine lv_iconst (v := (0 : Int32)) hx hb dX3_isShape_81 (by decide) ?_
                  obtain rfl := Option.some.inj hf
                  exact gx_zretR C hr hlocks (by decide) dX3_isShape_82
                · have hf := gx_neg hc22 hf
                  refine lv_iload hx hb dX3_isShape_66 (lv_at hl 0 rfl) ?_
                  refine lv_if_eq (tgt := 77) hx hb dX3_isShape_68 (by decide) (fun hc23 => ?_) (fun hc23 => absurd hc23 (by decide))
                  refine lv_iconst (v := (1 : Int32)) hx hb dX3_isShape_77 (by decide) ?_
                  refine lv_goto (tgt := 82) hx hb dX3_isShape_78 (by decide) ?_
                  obtain rfl := Option.some.inj hf
                  exact gx_zretR C hr hlocks (by decide) dX3_isShape_82
        · have hf := gx_pos hc14 hf
          refine lv_iconst (v := (1 : Int32)) hx hb dX3_isShape_22 (by decide) ?_
          refine lv_goto (tgt := 27) hx hb dX3_isShape_23 (by decide) ?_
          refine lv_istore (lv' := [(5, .int (1 : Int32)), (0, .int a0), (1, .int a1), (2, .int a2), (3, .int a3), (4, .int a4)]) hx hb dX3_isShape_27 hl (by decide) rfl (fun ls hl => ?_)
          refine lv_iload_n hx hb dX3_isShape_29 rfl (lv_at hl 1 rfl) ?_
          refine lv_iconst (v := (0 : Int32)) hx hb dX3_isShape_30 (by decide) ?_
          refine lv_iload_n hx hb dX3_isShape_31 rfl (lv_at hl 2 rfl) ?_
          obtain ⟨r24, hr24, hf⟩ := gx_bnd hf
          refine gx_sR (v := (some (.int r24))) (rest := []) C hH hS [.int a0, .int (0 : Int32), .int a1] (t_X3_isShapeNumber l G σ a0 (0 : Int32) a1 r24  hr24) lk_X3_250 ⟨rfl, rfl, Nat.le_of_ble_eq_true rfl, Nat.le_of_ble_eq_true rfl⟩ ⟨Nat.zero_le _, Nat.zero_le _⟩ hl.1 rfl (Nat.le_of_ble_eq_true rfl) dX3_isShape_32 ?_
          refine gx_e0 (st := [.int r24]) ?_ rfl
          refine lv_if_eq (tgt := 81) hx hb dX3_isShape_35 (by decide) (fun hc25 => ?_) (fun hc25 => ?_)
          · have hf := gx_pos hc25 hf
            refine lv_iconst (v := (0 : Int32)) hx hb dX3_isShape_81 (by decide) ?_
            obtain rfl := Option.some.inj hf
            exact gx_zretR C hr hlocks (by decide) dX3_isShape_82
          · have hf := gx_neg hc25 hf
            refine lv_iload_n hx hb dX3_isShape_38 rfl (lv_at hl 1 rfl) ?_
            refine lv_iconst (v := (1 : Int32)) hx hb dX3_isShape_39 (by decide) ?_
            refine lv_iload_n hx hb dX3_isShape_40 rfl (lv_at hl 3 rfl) ?_
            obtain ⟨r26, hr26, hf⟩ := gx_bnd hf
            refine gx_sR (v := (some (.int r26))) (rest := []) C hH hS [.int a0, .int (1 : Int32), .int a2] (t_X3_isShapeNumber l G σ a0 (1 : Int32) a2 r26  hr26) lk_X3_250 ⟨rfl, rfl, Nat.le_of_ble_eq_true rfl, Nat.le_of_ble_eq_true rfl⟩ ⟨Nat.zero_le _, Nat.zero_le _⟩ hl.1 rfl (Nat.le_of_ble_eq_true rfl) dX3_isShape_41 ?_
            refine gx_e0 (st := [.int r26]) ?_ rfl
            refine lv_if_eq (tgt := 81) hx hb dX3_isShape_44 (by decide) (fun hc27 => ?_) (fun hc27 => ?_)
            · have hf := gx_pos hc27 hf
              refine lv_iconst (v := (0 : Int32)) hx hb dX3_isShape_81 (by decide) ?_
              obtain rfl := Option.some.inj hf
              exact gx_zretR C hr hlocks (by decide) dX3_isShape_82
            · have hf := gx_neg hc27 hf
              refine lv_iload_n hx hb dX3_isShape_47 rfl (lv_at hl 1 rfl) ?_
              refine lv_iconst (v := (2 : Int32)) hx hb dX3_isShape_48 (by decide) ?_
              refine lv_iload_n hx hb dX3_isShape_49 rfl (lv_at hl 4 rfl) ?_
              obtain ⟨r28, hr28, hf⟩ := gx_bnd hf
              refine gx_sR (v := (some (.int r28))) (rest := []) C hH hS [.int a0, .int (2 : Int32), .int a3] (t_X3_isShapeNumber l G σ a0 (2 : Int32) a3 r28  hr28) lk_X3_250 ⟨rfl, rfl, Nat.le_of_ble_eq_true rfl, Nat.le_of_ble_eq_true rfl⟩ ⟨Nat.zero_le _, Nat.zero_le _⟩ hl.1 rfl (Nat.le_of_ble_eq_true rfl) dX3_isShape_50 ?_
              refine gx_e0 (st := [.int r28]) ?_ rfl
              refine lv_if_eq (tgt := 81) hx hb dX3_isShape_53 (by decide) (fun hc29 => ?_) (fun hc29 => ?_)
              · have hf := gx_pos hc29 hf
                refine lv_iconst (v := (0 : Int32)) hx hb dX3_isShape_81 (by decide) ?_
                obtain rfl := Option.some.inj hf
                exact gx_zretR C hr hlocks (by decide) dX3_isShape_82
              · have hf := gx_neg hc29 hf
                refine lv_iload_n hx hb dX3_isShape_56 rfl (lv_at hl 1 rfl) ?_
                refine lv_iconst (v := (3 : Int32)) hx hb dX3_isShape_57 (by decide) ?_
                refine lv_iload hx hb dX3_isShape_58 (lv_at hl 5 rfl) ?_
                obtain ⟨r30, hr30, hf⟩ := gx_bnd hf
                refine gx_sR (v := (some (.int r30))) (rest := []) C hH hS [.int a0, .int (3 : Int32), .int a4] (t_X3_isShapeNumber l G σ a0 (3 : Int32) a4 r30  hr30) lk_X3_250 ⟨rfl, rfl, Nat.le_of_ble_eq_true rfl, Nat.le_of_ble_eq_true rfl⟩ ⟨Nat.zero_le _, Nat.zero_le _⟩ hl.1 rfl (Nat.le_of_ble_eq_true rfl) dX3_isShape_60 ?_
                refine gx_e0 (st := [.int r30]) ?_ rfl
                refine lv_if_eq (tgt := 81) hx hb dX3_isShape_63 (by decide) (fun hc31 => ?_) (fun hc31 => ?_)
                · have hf := gx_pos hc31 hf
                  refine lv_iconst (v := (0 : Int32)) hx hb dX3_isShape_81 (by decide) ?_
                  obtain rfl := Option.some.inj hf
                  exact gx_zretR C hr hlocks (by decide) dX3_isShape_82
                · have hf := gx_neg hc31 hf
                  refine lv_iload hx hb dX3_isShape_66 (lv_at hl 0 rfl) ?_
                  refine lv_if_eq (tgt := 77) hx hb dX3_isShape_68 (by decide) (fun hc32 => absurd hc32 (by decide)) (fun hc32 => ?_)
                  refine lv_iload hx hb dX3_isShape_71 (lv_at hl 5 rfl) ?_
                  refine lv_iload_n hx hb dX3_isShape_73 rfl (lv_at hl 4 rfl) ?_
                  refine lv_icmp_ge (tgt := 81) hx hb dX3_isShape_74 (by decide) (fun hc33 => ?_) (fun hc33 => ?_)
                  · have hf := gx_pos hc33 hf
                    refine lv_iconst (v := (0 : Int32)) hx hb dX3_isShape_81 (by decide) ?_
                    obtain rfl := Option.some.inj hf
                    exact gx_zretR C hr hlocks (by decide) dX3_isShape_82
                  · have hf := gx_neg hc33 hf
                    refine lv_iconst (v := (1 : Int32)) hx hb dX3_isShape_77 (by decide) ?_
                    refine lv_goto (tgt := 82) hx hb dX3_isShape_78 (by decide) ?_
                    obtain rfl := Option.some.inj hf
                    exact gx_zretR C hr hlocks (by decide) dX3_isShape_82
    · have hf := gx_neg hc2 hf
      refine lv_iconst (v := (0 : Int32)) hx hb dX3_isShape_10 (by decide) ?_
      obtain rfl := Option.some.inj hf
      exact gx_zretR C hr hlocks (by decide) dX3_isShape_11
abbrev rm_X3_effect : Room := { frames := 3, cells := 0, slots := 0, locals := 70 }
def f_X3_effect (σ : gx_St) (a1 a2 a3 a4 a5 : Int32) : Option (Int32 × gx_St) :=
  (f_X3_isShape σ a1 a2 a3 a4 a5).bind fun r1 =>
  if r1 = 0 then (some ((-2 : Int32), σ)) else (if (σ 0 1) < (12 : Int32) then (gx_lt (σ 0 1) fun x4 =>
  if (x4 < 0 ∨ 12 ≤ x4.toNatClampNeg) then none else
  (f_X2_become σ x4 a1 a2 a3 a4 a5).bind fun σ8 =>
  gx_lt (gx_w2 σ8 0 1 ((σ8 0 1) + (1 : Int32))) fun σ10 =>
  some (x4, σ10)) else (some ((-4 : Int32), σ)))
set_option maxHeartbeats 4000000 in
set_option maxRecDepth 100000 in
theorem t_X3_effect (l : Launch) (G : gx_G) (hG : gx_D G 50) (σ : gx_St) (a1 a2 a3 a4 a5 : Int32) (r : Int32) (σ' : gx_St)  (hf : f_X3_effect σ a1 a2 a3 a4 a5 = some (r, σ')) : Met l yX3_effect (Cond.code yX3_effect cX3_effect 7 (some .int) :: wT) rm_X3_effect (va_Pc [.ref (gx_q G 0), .int a1, .int a2, .int a3, .int a4, .int a5] (gx_S G 50 (gc_mk G) σ)) (gx_QM G 50 (gc_mk G) (some (.int r)) σ') 0 0 (gx_A G) := by
  refine Met.ofW (cc := cX3_effect) (maxL := 7) (ret := (some .int)) (by decide) rfl ?_
  intro p e s m args below meth c s₁ B hml hv
  obtain ⟨rfl, hH, hE⟩ := hv
  have C := gx_C.of (G := G) B hml hE
  have hx := C.1.1
  have hb := C.1.2.1
  have hr := B.returns
  have hlocks := B.notSynchronized
  have hS : va_S (gx_A G) s.heap s.heap [] := va_S.rf
  have hl := lv_entry ([.ref (gx_q G 0), .int a1, .int a2, .int a3, .int a4, .int a5]) (n := 7) (Nat.le_of_ble_eq_true rfl)
  rw [lg_entry_eq]
  generalize (lg_sl ([.ref (gx_q G 0), .int a1, .int a2, .int a3, .int a4, .int a5]) ++ List.replicate (7 - (lg_sl ([.ref (gx_q G 0), .int a1, .int a2, .int a3, .int a4, .int a5])).length) Slot.unset).toArray = ls at hl ⊢
  have hl : lv_has ls 7 [(0, .ref (gx_q G 0)), (1, .int a1), (2, .int a2), (3, .int a3), (4, .int a4), (5, .int a5)] := hl
  unfold f_X3_effect at hf
  refine lv_iload_n hx hb dX3_effect_0 rfl (lv_at hl 1 rfl) ?_
  refine lv_iload_n hx hb dX3_effect_1 rfl (lv_at hl 2 rfl) ?_
  refine lv_iload_n hx hb dX3_effect_2 rfl (lv_at hl 3 rfl) ?_
  refine lv_iload hx hb dX3_effect_3 (lv_at hl 4 rfl) ?_
  refine lv_iload hx hb dX3_effect_5 (lv_at hl 5 rfl) ?_
  obtain ⟨r1, hr1, hf⟩ := gx_bnd hf
  refine gx_sR (v := (some (.int r1))) (rest := []) C hH hS [.int a1, .int a2, .int a3, .int a4, .int a5] (t_X3_isShape l G σ a1 a2 a3 a4 a5 r1  hr1) lk_X3_75 ⟨rfl, rfl, Nat.le_of_ble_eq_true rfl, Nat.le_of_ble_eq_true rfl⟩ ⟨Nat.zero_le _, Nat.zero_le _⟩ hl.1 rfl (Nat.le_of_ble_eq_true rfl) dX3_effect_7 ?_
  refine gx_e0 (st := [.int r1]) ?_ rfl
  refine lv_if_ne (tgt := 16) hx hb dX3_effect_10 (by decide) (fun hc2 => ?_) (fun hc2 => ?_)
  · have hf := gx_neg hc2 hf
    refine lv_aload_n hx hb dX3_effect_16 rfl (lv_at hl 0 rfl) ?_
    refine gx_get C hH 0 (by decide) rfl fl_X3_15 rfl dX3_effect_17 ?_
    refine lv_bipush (v := (12 : Int32)) hx hb dX3_effect_20 (by decide) ?_
    refine lv_icmp_lt (tgt := 28) hx hb dX3_effect_22 (by decide) (fun hc3 => ?_) (fun hc3 => ?_)
    · have hf := gx_pos hc3 hf
      refine lv_aload_n hx hb dX3_effect_28 rfl (lv_at hl 0 rfl) ?_
      refine gx_get C hH 0 (by decide) rfl fl_X3_15 rfl dX3_effect_29 ?_
      refine lv_topi (fun x4 hx4 => ?_)
      have hf := gx_let hf x4 hx4
      refine lv_istore (lv' := [(6, .int x4), (0, .ref (gx_q G 0)), (1, .int a1), (2, .int a2), (3, .int a3), (4, .int a4), (5, .int a5)]) hx hb dX3_effect_32 hl (by decide) rfl (fun ls hl => ?_)
      refine lv_aload_n hx hb dX3_effect_34 rfl (lv_at hl 1 rfl) ?_
      refine gx_get C hH 0 (by decide) rfl fl_X3_11 rfl dX3_effect_35 ?_
      refine lv_iload hx hb dX3_effect_38 (lv_at hl 0 rfl) ?_
      obtain ⟨hb5, hf⟩ := gx_chk hf
      have hl6 := gx_lt12 hb5
      have hn7 := gx_ne9 hb5
      refine gx_aaldR C hH 1 (by decide) 2 rfl rfl hb5 rfl dX3_effect_40 ?_
      refine lv_iload_n hx hb dX3_effect_41 rfl (lv_at hl 2 rfl) ?_
      refine lv_iload_n hx hb dX3_effect_42 rfl (lv_at hl 3 rfl) ?_
      refine lv_iload_n hx hb dX3_effect_43 rfl (lv_at hl 4 rfl) ?_
      refine lv_iload hx hb dX3_effect_44 (lv_at hl 5 rfl) ?_
      refine lv_iload hx hb dX3_effect_46 (lv_at hl 6 rfl) ?_
      obtain ⟨σ8, hr9, hf⟩ := gx_bnd hf
      refine gx_vM (v := none) (rest := []) C hH hS (8 + 3 * x4.toNatClampNeg) (gc_ke hl6) (gc_e _ hl6) rfl [.int a1, .int a2, .int a3, .int a4, .int a5] (t_X2_become l G hG σ x4 a1 a2 a3 a4 a5 σ8 hl6 hr9) lk_X3_79 ⟨rfl, rfl, Nat.le_of_ble_eq_true rfl, Nat.le_of_ble_eq_true rfl⟩ ⟨Nat.zero_le _, Nat.zero_le _⟩ hl.1 rfl (Nat.le_of_ble_eq_true rfl) dX3_effect_48 (fun H locs hH hS => ?_)
      refine gx_e0 (st := []) ?_ rfl
      refine lv_aload_n hx hb dX3_effect_51 rfl (lv_at hl 1 rfl) ?_
      refine lv_dup hx hb dX3_effect_52 rfl ?_
      refine gx_get C hH 0 (by decide) rfl fl_X3_15 rfl dX3_effect_53 ?_
      refine lv_iconst (v := (1 : Int32)) hx hb dX3_effect_56 (by decide) ?_
      refine lv_iadd hx hb dX3_effect_57 ?_
      refine gx_put C hG hH hS 0 (by decide) rfl fl_X3_15 fw_X3_1 (pw_X3_1 _ _) rfl rfl (Nat.le_of_ble_eq_true rfl) dX3_effect_58 (fun H locs σ10 hσ10 hH hS => ?_)
      have hf := gx_let hf σ10 hσ10
      refine lv_iload hx hb dX3_effect_61 (lv_at hl 0 rfl) ?_
      cases hf
      exact gx_iretM C hr hlocks hH hS dX3_effect_63
    · have hf := gx_neg hc3 hf
      refine lv_bipush (v := (-4 : Int32)) hx hb dX3_effect_25 (by decide) ?_
      cases hf
      exact gx_iretM C hr hlocks hH hS dX3_effect_27
  · have hf := gx_pos hc2 hf
    refine lv_bipush (v := (-2 : Int32)) hx hb dX3_effect_13 (by decide) ?_
    cases hf
    exact gx_iretM C hr hlocks hH hS dX3_effect_15
abbrev rm_X3_isEffect : Room := { frames := 0, cells := 0, slots := 0, locals := 0 }
def f_X3_isEffect (σ : gx_St) (a1 : Int32) : Option Int32 :=
  if a1 < 0 then (some (0 : Int32)) else (if (σ 0 1) ≤ a1 then (some (0 : Int32)) else (if (12 : Int32) ≤ a1 then (some (0 : Int32)) else (some (1 : Int32))))
set_option maxHeartbeats 4000000 in
set_option maxRecDepth 100000 in
theorem t_X3_isEffect (l : Launch) (G : gx_G) (σ : gx_St) (a1 : Int32) (r : Int32)  (hf : f_X3_isEffect σ a1 = some r) : Met l yX3_isEffect (Cond.code yX3_isEffect cX3_isEffect 2 (some .boolean) :: wT) rm_X3_isEffect (va_Pc [.ref (gx_q G 0), .int a1] (gx_S G 50 (gc_mk G) σ)) (gx_QR (some (.int r))) 0 0 (fun _ => False) := by
  refine Met.ofW (cc := cX3_isEffect) (maxL := 2) (ret := (some .boolean)) (by decide) rfl ?_
  intro p e s m args below meth c s₁ B hml hv
  obtain ⟨rfl, hH, hE⟩ := hv
  have C := gx_C.of (G := G) B hml hE
  have hx := C.1.1
  have hb := C.1.2.1
  have hr := B.returns
  have hlocks := B.notSynchronized
  have hS : va_S (gx_A G) s.heap s.heap [] := va_S.rf
  have hl := lv_entry ([.ref (gx_q G 0), .int a1]) (n := 2) (Nat.le_of_ble_eq_true rfl)
  rw [lg_entry_eq]
  generalize (lg_sl ([.ref (gx_q G 0), .int a1]) ++ List.replicate (2 - (lg_sl ([.ref (gx_q G 0), .int a1])).length) Slot.unset).toArray = ls at hl ⊢
  have hl : lv_has ls 2 [(0, .ref (gx_q G 0)), (1, .int a1)] := hl
  unfold f_X3_isEffect at hf
  refine lv_iload_n hx hb dX3_isEffect_0 rfl (lv_at hl 1 rfl) ?_
  refine lv_if_lt (tgt := 22) hx hb dX3_isEffect_1 (by decide) (fun hc1 => ?_) (fun hc1 => ?_)
  · have hf := gx_pos hc1 hf
    refine lv_iconst (v := (0 : Int32)) hx hb dX3_isEffect_22 (by decide) ?_
    obtain rfl := Option.some.inj hf
    exact gx_zretR C hr hlocks (by decide) dX3_isEffect_23
  · have hf := gx_neg hc1 hf
    refine lv_iload_n hx hb dX3_isEffect_4 rfl (lv_at hl 1 rfl) ?_
    refine lv_aload_n hx hb dX3_isEffect_5 rfl (lv_at hl 0 rfl) ?_
    refine gx_get C hH 0 (by decide) rfl fl_X3_15 rfl dX3_isEffect_6 ?_
    refine lv_icmp_ge (tgt := 22) hx hb dX3_isEffect_9 (by decide) (fun hc2 => ?_) (fun hc2 => ?_)
    · have hf := gx_pos hc2 hf
      refine lv_iconst (v := (0 : Int32)) hx hb dX3_isEffect_22 (by decide) ?_
      obtain rfl := Option.some.inj hf
      exact gx_zretR C hr hlocks (by decide) dX3_isEffect_23
    · have hf := gx_neg hc2 hf
      refine lv_iload_n hx hb dX3_isEffect_12 rfl (lv_at hl 1 rfl) ?_
      refine lv_bipush (v := (12 : Int32)) hx hb dX3_isEffect_13 (by decide) ?_
      refine lv_icmp_ge (tgt := 22) hx hb dX3_isEffect_15 (by decide) (fun hc3 => ?_) (fun hc3 => ?_)
      · have hf := gx_pos hc3 hf
        refine lv_iconst (v := (0 : Int32)) hx hb dX3_isEffect_22 (by decide) ?_
        obtain rfl := Option.some.inj hf
        exact gx_zretR C hr hlocks (by decide) dX3_isEffect_23
      · have hf := gx_neg hc3 hf
        refine lv_iconst (v := (1 : Int32)) hx hb dX3_isEffect_18 (by decide) ?_
        refine lv_goto (tgt := 23) hx hb dX3_isEffect_19 (by decide) ?_
        obtain rfl := Option.some.inj hf
        exact gx_zretR C hr hlocks (by decide) dX3_isEffect_23
abbrev rm_X3_isNumber : Room := { frames := 1, cells := 0, slots := 0, locals := 22 }
def f_X3_isNumber (σ : gx_St) (a0 a1 : Int32) : Option Int32 :=
  if a0 < 0 then (some (0 : Int32)) else (if a0 < (12 : Int32) then (if a1 = (-9 : Int32) then (if a0 = 0 then (some (1 : Int32)) else (if a0 = (10 : Int32) then (some (1 : Int32)) else (if (a0 < 0 ∨ 12 ≤ a0.toNatClampNeg) then none else
  if (a0 < 0 ∨ 12 ≤ a0.toNatClampNeg) then none else
  (f_X3_isWithin a1 (gx_tv 2 a0.toNatClampNeg) (gx_tv 3 a0.toNatClampNeg)).bind fun r12 =>
  if ¬ (r12 = 0 ∨ r12 = 1) then none else
  some r12))) else (if (a0 < 0 ∨ 12 ≤ a0.toNatClampNeg) then none else
  if (a0 < 0 ∨ 12 ≤ a0.toNatClampNeg) then none else
  (f_X3_isWithin a1 (gx_tv 2 a0.toNatClampNeg) (gx_tv 3 a0.toNatClampNeg)).bind fun r6 =>
  if ¬ (r6 = 0 ∨ r6 = 1) then none else
  some r6)) else (some (0 : Int32)))
set_option maxHeartbeats 4000000 in
set_option maxRecDepth 100000 in
theorem t_X3_isNumber (l : Launch) (G : gx_G) (σ : gx_St) (a0 a1 : Int32) (r : Int32)  (hf : f_X3_isNumber σ a0 a1 = some r) : Met l yX3_isNumber (Cond.code yX3_isNumber cX3_isNumber 2 (some .boolean) :: wT) rm_X3_isNumber (va_Pc [.int a0, .int a1] (gx_S G 50 (gc_mk G) σ)) (gx_QR (some (.int r))) 0 0 (fun _ => False) := by
  refine Met.ofW (cc := cX3_isNumber) (maxL := 2) (ret := (some .boolean)) (by decide) rfl ?_
  intro p e s m args below meth c s₁ B hml hv
  obtain ⟨rfl, hH, hE⟩ := hv
  have C := gx_C.of (G := G) B hml hE
  have hx := C.1.1
  have hb := C.1.2.1
  have hr := B.returns
  have hlocks := B.notSynchronized
  have hS : va_S (gx_A G) s.heap s.heap [] := va_S.rf
  have hl := lv_entry ([.int a0, .int a1]) (n := 2) (Nat.le_of_ble_eq_true rfl)
  rw [lg_entry_eq]
  generalize (lg_sl ([.int a0, .int a1]) ++ List.replicate (2 - (lg_sl ([.int a0, .int a1])).length) Slot.unset).toArray = ls at hl ⊢
  have hl : lv_has ls 2 [(0, .int a0), (1, .int a1)] := hl
  unfold f_X3_isNumber at hf
  refine lv_iload_n hx hb dX3_isNumber_0 rfl (lv_at hl 0 rfl) ?_
  refine lv_if_lt (tgt := 10) hx hb dX3_isNumber_1 (by decide) (fun hc1 => ?_) (fun hc1 => ?_)
  · have hf := gx_pos hc1 hf
    refine lv_iconst (v := (0 : Int32)) hx hb dX3_isNumber_10 (by decide) ?_
    obtain rfl := Option.some.inj hf
    exact gx_zretR C hr hlocks (by decide) dX3_isNumber_11
  · have hf := gx_neg hc1 hf
    refine lv_iload_n hx hb dX3_isNumber_4 rfl (lv_at hl 0 rfl) ?_
    refine lv_bipush (v := (12 : Int32)) hx hb dX3_isNumber_5 (by decide) ?_
    refine lv_icmp_lt (tgt := 12) hx hb dX3_isNumber_7 (by decide) (fun hc2 => ?_) (fun hc2 => ?_)
    · have hf := gx_pos hc2 hf
      refine lv_iload_n hx hb dX3_isNumber_12 rfl (lv_at hl 1 rfl) ?_
      refine lv_bipush (v := (-9 : Int32)) hx hb dX3_isNumber_13 (by decide) ?_
      refine lv_icmp_ne (tgt := 30) hx hb dX3_isNumber_15 (by decide) (fun hc3 => ?_) (fun hc3 => ?_)
      · have hf := gx_neg hc3 hf
        refine lv_iload_n hx hb dX3_isNumber_30 rfl (lv_at hl 1 rfl) ?_
        refine gx_gets C hS 2 (by decide) kw_187 dX3_isNumber_31 ?_
        refine lv_iload_n hx hb dX3_isNumber_34 rfl (lv_at hl 0 rfl) ?_
        obtain ⟨hb4, hf⟩ := gx_chk hf
        refine gx_tald C hS 2 (by decide) rfl hb4 dX3_isNumber_35 ?_
        refine gx_gets C hS 3 (by decide) kw_189 dX3_isNumber_36 ?_
        refine lv_iload_n hx hb dX3_isNumber_39 rfl (lv_at hl 0 rfl) ?_
        obtain ⟨hb5, hf⟩ := gx_chk hf
        refine gx_tald C hS 3 (by decide) rfl hb5 dX3_isNumber_40 ?_
        obtain ⟨r6, hr6, hf⟩ := gx_bnd hf
        refine gx_sR (v := (some (.int r6))) (rest := []) C hH hS [.int a1, .int (gx_tv 2 a0.toNatClampNeg), .int (gx_tv 3 a0.toNatClampNeg)] (t_X3_isWithin l G σ a1 (gx_tv 2 a0.toNatClampNeg) (gx_tv 3 a0.toNatClampNeg) r6  hr6) lk_X3_102 ⟨rfl, rfl, Nat.le_of_ble_eq_true rfl, Nat.le_of_ble_eq_true rfl⟩ ⟨Nat.zero_le _, Nat.zero_le _⟩ hl.1 rfl (Nat.le_of_ble_eq_true rfl) dX3_isNumber_41 ?_
        refine gx_e0 (st := [.int r6]) ?_ rfl
        obtain ⟨hz7, hf⟩ := gx_chk hf
        obtain rfl := Option.some.inj hf
        exact gx_zretR C hr hlocks (Decidable.of_not_not hz7) dX3_isNumber_44
      · have hf := gx_pos hc3 hf
        refine lv_iload_n hx hb dX3_isNumber_18 rfl (lv_at hl 0 rfl) ?_
        refine lv_if_eq (tgt := 28) hx hb dX3_isNumber_19 (by decide) (fun hc8 => ?_) (fun hc8 => ?_)
        · have hf := gx_pos hc8 hf
          refine lv_iconst (v := (1 : Int32)) hx hb dX3_isNumber_28 (by decide) ?_
          obtain rfl := Option.some.inj hf
          exact gx_zretR C hr hlocks (by decide) dX3_isNumber_29
        · have hf := gx_neg hc8 hf
          refine lv_iload_n hx hb dX3_isNumber_22 rfl (lv_at hl 0 rfl) ?_
          refine lv_bipush (v := (10 : Int32)) hx hb dX3_isNumber_23 (by decide) ?_
          refine lv_icmp_ne (tgt := 30) hx hb dX3_isNumber_25 (by decide) (fun hc9 => ?_) (fun hc9 => ?_)
          · have hf := gx_neg hc9 hf
            refine lv_iload_n hx hb dX3_isNumber_30 rfl (lv_at hl 1 rfl) ?_
            refine gx_gets C hS 2 (by decide) kw_187 dX3_isNumber_31 ?_
            refine lv_iload_n hx hb dX3_isNumber_34 rfl (lv_at hl 0 rfl) ?_
            obtain ⟨hb10, hf⟩ := gx_chk hf
            refine gx_tald C hS 2 (by decide) rfl hb10 dX3_isNumber_35 ?_
            refine gx_gets C hS 3 (by decide) kw_189 dX3_isNumber_36 ?_
            refine lv_iload_n hx hb dX3_isNumber_39 rfl (lv_at hl 0 rfl) ?_
            obtain ⟨hb11, hf⟩ := gx_chk hf
            refine gx_tald C hS 3 (by decide) rfl hb11 dX3_isNumber_40 ?_
            obtain ⟨r12, hr12, hf⟩ := gx_bnd hf
            refine gx_sR (v := (some (.int r12))) (rest := []) C hH hS [.int a1, .int (gx_tv 2 a0.toNatClampNeg), .int (gx_tv 3 a0.toNatClampNeg)] (t_X3_isWithin l G σ a1 (gx_tv 2 a0.toNatClampNeg) (gx_tv 3 a0.toNatClampNeg) r12  hr12) lk_X3_102 ⟨rfl, rfl, Nat.le_of_ble_eq_true rfl, Nat.le_of_ble_eq_true rfl⟩ ⟨Nat.zero_le _, Nat.zero_le _⟩ hl.1 rfl (Nat.le_of_ble_eq_true rfl) dX3_isNumber_41 ?_
            refine gx_e0 (st := [.int r12]) ?_ rfl
            obtain ⟨hz13, hf⟩ := gx_chk hf
            obtain rfl := Option.some.inj hf
            exact gx_zretR C hr hlocks (Decidable.of_not_not hz13) dX3_isNumber_44
          · have hf := gx_pos hc9 hf
            refine lv_iconst (v := (1 : Int32)) hx hb dX3_isNumber_28 (by decide) ?_
            obtain rfl := Option.some.inj hf
            exact gx_zretR C hr hlocks (by decide) dX3_isNumber_29
    · have hf := gx_neg hc2 hf
      refine lv_iconst (v := (0 : Int32)) hx hb dX3_isNumber_10 (by decide) ?_
      obtain rfl := Option.some.inj hf
      exact gx_zretR C hr hlocks (by decide) dX3_isNumber_11
abbrev rm_X3_toldNumber : Room := { frames := 0, cells := 0, slots := 0, locals := 0 }
def f_X3_toldNumber (σ : gx_St) (a0 a1 : Int32) : Option Int32 :=
  if a1 = (6 : Int32) then (if (a1 < 0 ∨ 12 ≤ a1.toNatClampNeg) then none else
  some ((σ (8 + 3 * a0.toNatClampNeg + 1) a1.toNatClampNeg) + (10000 : Int32))) else (if a1 = (7 : Int32) then (if (a1 < 0 ∨ 12 ≤ a1.toNatClampNeg) then none else
  some ((σ (8 + 3 * a0.toNatClampNeg + 1) a1.toNatClampNeg) + (10000 : Int32))) else (if (a1 < 0 ∨ 12 ≤ a1.toNatClampNeg) then none else
  some (σ (8 + 3 * a0.toNatClampNeg + 1) a1.toNatClampNeg)))
set_option maxHeartbeats 4000000 in
set_option maxRecDepth 100000 in
theorem t_X3_toldNumber (l : Launch) (G : gx_G) (σ : gx_St) (a0 a1 : Int32) (r : Int32) (hl_a0 : a0.toNatClampNeg < 12) (hn_a0 : ¬ a0 = -9) (hf : f_X3_toldNumber σ a0 a1 = some r) : Met l yX3_toldNumber (Cond.code yX3_toldNumber cX3_toldNumber 2 (some .int) :: wT) rm_X3_toldNumber (va_Pc [.ref (gx_q G (8 + 3 * a0.toNatClampNeg)), .int a1] (gx_S G 50 (gc_mk G) σ)) (gx_QR (some (.int r))) 0 0 (fun _ => False) := by
  refine Met.ofW (cc := cX3_toldNumber) (maxL := 2) (ret := (some .int)) (by decide) rfl ?_
  intro p e s m args below meth c s₁ B hml hv
  obtain ⟨rfl, hH, hE⟩ := hv
  have C := gx_C.of (G := G) B hml hE
  have hx := C.1.1
  have hb := C.1.2.1
  have hr := B.returns
  have hlocks := B.notSynchronized
  have hS : va_S (gx_A G) s.heap s.heap [] := va_S.rf
  have hl := lv_entry ([.ref (gx_q G (8 + 3 * a0.toNatClampNeg)), .int a1]) (n := 2) (Nat.le_of_ble_eq_true rfl)
  rw [lg_entry_eq]
  generalize (lg_sl ([.ref (gx_q G (8 + 3 * a0.toNatClampNeg)), .int a1]) ++ List.replicate (2 - (lg_sl ([.ref (gx_q G (8 + 3 * a0.toNatClampNeg)), .int a1])).length) Slot.unset).toArray = ls at hl ⊢
  have hl : lv_has ls 2 [(0, .ref (gx_q G (8 + 3 * a0.toNatClampNeg))), (1, .int a1)] := hl
  unfold f_X3_toldNumber at hf
  refine lv_iload_n hx hb dX3_toldNumber_0 rfl (lv_at hl 1 rfl) ?_
  refine lv_bipush (v := (6 : Int32)) hx hb dX3_toldNumber_1 (by decide) ?_
  refine lv_icmp_eq (tgt := 12) hx hb dX3_toldNumber_3 (by decide) (fun hc1 => ?_) (fun hc1 => ?_)
  · have hf := gx_pos hc1 hf
    refine lv_aload_n hx hb dX3_toldNumber_12 rfl (lv_at hl 0 rfl) ?_
    refine gx_get C hH (8 + 3 * a0.toNatClampNeg) (gc_ke hl_a0) (gc_e _ hl_a0) fl_X3_95 rfl dX3_toldNumber_13 ?_
    refine lv_iload_n hx hb dX3_toldNumber_16 rfl (lv_at hl 1 rfl) ?_
    obtain ⟨hb2, hf⟩ := gx_chk hf
    refine gx_iald C hH (8 + 3 * a0.toNatClampNeg + 1) (gc_kn hl_a0) (gc_n _ hl_a0) hb2 dX3_toldNumber_17 ?_
    refine lv_sipush (v := (10000 : Int32)) hx hb dX3_toldNumber_18 (by decide) ?_
    refine lv_iadd hx hb dX3_toldNumber_21 ?_
    refine lv_goto (tgt := 31) hx hb dX3_toldNumber_22 (by decide) ?_
    obtain rfl := Option.some.inj hf
    exact gx_iretR C hr hlocks dX3_toldNumber_31
  · have hf := gx_neg hc1 hf
    refine lv_iload_n hx hb dX3_toldNumber_6 rfl (lv_at hl 1 rfl) ?_
    refine lv_bipush (v := (7 : Int32)) hx hb dX3_toldNumber_7 (by decide) ?_
    refine lv_icmp_ne (tgt := 25) hx hb dX3_toldNumber_9 (by decide) (fun hc3 => ?_) (fun hc3 => ?_)
    · have hf := gx_neg hc3 hf
      refine lv_aload_n hx hb dX3_toldNumber_25 rfl (lv_at hl 0 rfl) ?_
      refine gx_get C hH (8 + 3 * a0.toNatClampNeg) (gc_ke hl_a0) (gc_e _ hl_a0) fl_X3_95 rfl dX3_toldNumber_26 ?_
      refine lv_iload_n hx hb dX3_toldNumber_29 rfl (lv_at hl 1 rfl) ?_
      obtain ⟨hb4, hf⟩ := gx_chk hf
      refine gx_iald C hH (8 + 3 * a0.toNatClampNeg + 1) (gc_kn hl_a0) (gc_n _ hl_a0) hb4 dX3_toldNumber_30 ?_
      obtain rfl := Option.some.inj hf
      exact gx_iretR C hr hlocks dX3_toldNumber_31
    · have hf := gx_pos hc3 hf
      refine lv_aload_n hx hb dX3_toldNumber_12 rfl (lv_at hl 0 rfl) ?_
      refine gx_get C hH (8 + 3 * a0.toNatClampNeg) (gc_ke hl_a0) (gc_e _ hl_a0) fl_X3_95 rfl dX3_toldNumber_13 ?_
      refine lv_iload_n hx hb dX3_toldNumber_16 rfl (lv_at hl 1 rfl) ?_
      obtain ⟨hb5, hf⟩ := gx_chk hf
      refine gx_iald C hH (8 + 3 * a0.toNatClampNeg + 1) (gc_kn hl_a0) (gc_n _ hl_a0) hb5 dX3_toldNumber_17 ?_
      refine lv_sipush (v := (10000 : Int32)) hx hb dX3_toldNumber_18 (by decide) ?_
      refine lv_iadd hx hb dX3_toldNumber_21 ?_
      refine lv_goto (tgt := 31) hx hb dX3_toldNumber_22 (by decide) ?_
      obtain rfl := Option.some.inj hf
      exact gx_iretR C hr hlocks dX3_toldNumber_31
abbrev rm_X3_set : Room := { frames := 2, cells := 0, slots := 0, locals := 43 }
def f_X3_set (σ : gx_St) (a1 a2 a3 : Int32) : Option (Int32 × gx_St) :=
  (f_X3_isEffect σ a1).bind fun r1 =>
  if r1 = 0 then (some ((-1 : Int32), σ)) else ((f_X3_isNumber σ a2 a3).bind fun r3 =>
  if r3 = 0 then (some ((-2 : Int32), σ)) else (if (a1 < 0 ∨ 12 ≤ a1.toNatClampNeg) then none else
  (f_X3_toldNumber σ a1 a2).bind fun r8 =>
  if (a1 < 0 ∨ 12 ≤ a1.toNatClampNeg) then none else
  if (a2 < 0 ∨ 12 ≤ a2.toNatClampNeg) then none else
  gx_lt (gx_w2 σ (8 + 3 * a1.toNatClampNeg + 1) a2.toNatClampNeg a3) fun σ13 =>
  some (r8, σ13)))
set_option maxHeartbeats 4000000 in
set_option maxRecDepth 100000 in
theorem t_X3_set (l : Launch) (G : gx_G) (hG : gx_D G 50) (σ : gx_St) (a1 a2 a3 : Int32) (r : Int32) (σ' : gx_St)  (hf : f_X3_set σ a1 a2 a3 = some (r, σ')) : Met l yX3_set (Cond.code yX3_set cX3_set 5 (some .int) :: wT) rm_X3_set (va_Pc [.ref (gx_q G 0), .int a1, .int a2, .int a3] (gx_S G 50 (gc_mk G) σ)) (gx_QM G 50 (gc_mk G) (some (.int r)) σ') 0 0 (gx_A G) := by
  refine Met.ofW (cc := cX3_set) (maxL := 5) (ret := (some .int)) (by decide) rfl ?_
  intro p e s m args below meth c s₁ B hml hv
  obtain ⟨rfl, hH, hE⟩ := hv
  have C := gx_C.of (G := G) B hml hE
  have hx := C.1.1
  have hb := C.1.2.1
  have hr := B.returns
  have hlocks := B.notSynchronized
  have hS : va_S (gx_A G) s.heap s.heap [] := va_S.rf
  have hl := lv_entry ([.ref (gx_q G 0), .int a1, .int a2, .int a3]) (n := 5) (Nat.le_of_ble_eq_true rfl)
  rw [lg_entry_eq]
  generalize (lg_sl ([.ref (gx_q G 0), .int a1, .int a2, .int a3]) ++ List.replicate (5 - (lg_sl ([.ref (gx_q G 0), .int a1, .int a2, .int a3])).length) Slot.unset).toArray = ls at hl ⊢
  have hl : lv_has ls 5 [(0, .ref (gx_q G 0)), (1, .int a1), (2, .int a2), (3, .int a3)] := hl
  unfold f_X3_set at hf
  refine lv_aload_n hx hb dX3_set_0 rfl (lv_at hl 0 rfl) ?_
  refine lv_iload_n hx hb dX3_set_1 rfl (lv_at hl 1 rfl) ?_
  obtain ⟨r1, hr1, hf⟩ := gx_bnd hf
  refine gx_vR (v := (some (.int r1))) (rest := []) C hH hS 0 (by decide) rfl rfl [.int a1] (t_X3_isEffect l G σ a1 r1  hr1) lk_X3_83 ⟨rfl, rfl, Nat.le_of_ble_eq_true rfl, Nat.le_of_ble_eq_true rfl⟩ ⟨Nat.zero_le _, Nat.zero_le _⟩ hl.1 rfl (Nat.le_of_ble_eq_true rfl) dX3_set_2 ?_
  refine gx_e0 (st := [.int r1]) ?_ rfl
  refine lv_if_ne (tgt := 10) hx hb dX3_set_5 (by decide) (fun hc2 => ?_) (fun hc2 => ?_)
  · have hf := gx_neg hc2 hf
    refine lv_iload_n hx hb dX3_set_10 rfl (lv_at hl 2 rfl) ?_
    refine lv_iload_n hx hb dX3_set_11 rfl (lv_at hl 3 rfl) ?_
    obtain ⟨r3, hr3, hf⟩ := gx_bnd hf
    refine gx_sR (v := (some (.int r3))) (rest := []) C hH hS [.int a2, .int a3] (t_X3_isNumber l G σ a2 a3 r3  hr3) lk_X3_87 ⟨rfl, rfl, Nat.le_of_ble_eq_true rfl, Nat.le_of_ble_eq_true rfl⟩ ⟨Nat.zero_le _, Nat.zero_le _⟩ hl.1 rfl (Nat.le_of_ble_eq_true rfl) dX3_set_12 ?_
    refine gx_e0 (st := [.int r3]) ?_ rfl
    refine lv_if_ne (tgt := 21) hx hb dX3_set_15 (by decide) (fun hc4 => ?_) (fun hc4 => ?_)
    · have hf := gx_neg hc4 hf
      refine lv_aload_n hx hb dX3_set_21 rfl (lv_at hl 0 rfl) ?_
      refine gx_get C hH 0 (by decide) rfl fl_X3_11 rfl dX3_set_22 ?_
      refine lv_iload_n hx hb dX3_set_25 rfl (lv_at hl 1 rfl) ?_
      obtain ⟨hb5, hf⟩ := gx_chk hf
      have hl6 := gx_lt12 hb5
      have hn7 := gx_ne9 hb5
      refine gx_aaldR C hH 1 (by decide) 2 rfl rfl hb5 rfl dX3_set_26 ?_
      refine lv_iload_n hx hb dX3_set_27 rfl (lv_at hl 2 rfl) ?_
      obtain ⟨r8, hr8, hf⟩ := gx_bnd hf
      refine gx_sR (v := (some (.int r8))) (rest := []) C hH hS [.ref (gx_q G (8 + 3 * a1.toNatClampNeg)), .int a2] (t_X3_toldNumber l G σ a1 a2 r8 hl6 hn7 hr8) lk_X3_91 ⟨rfl, rfl, Nat.le_of_ble_eq_true rfl, Nat.le_of_ble_eq_true rfl⟩ ⟨Nat.zero_le _, Nat.zero_le _⟩ hl.1 rfl (Nat.le_of_ble_eq_true rfl) dX3_set_28 ?_
      refine gx_e0 (st := [.int r8]) ?_ rfl
      refine lv_istore (lv' := [(4, .int r8), (0, .ref (gx_q G 0)), (1, .int a1), (2, .int a2), (3, .int a3)]) hx hb dX3_set_31 hl (by decide) rfl (fun ls hl => ?_)
      refine lv_aload_n hx hb dX3_set_33 rfl (lv_at hl 1 rfl) ?_
      refine gx_get C hH 0 (by decide) rfl fl_X3_11 rfl dX3_set_34 ?_
      refine lv_iload_n hx hb dX3_set_37 rfl (lv_at hl 2 rfl) ?_
      obtain ⟨hb9, hf⟩ := gx_chk hf
      have hl10 := gx_lt12 hb9
      have hn11 := gx_ne9 hb9
      refine gx_aaldR C hH 1 (by decide) 2 rfl rfl hb9 rfl dX3_set_38 ?_
      refine gx_get C hH (8 + 3 * a1.toNatClampNeg) (gc_ke hl10) (gc_e _ hl10) fl_X3_95 rfl dX3_set_39 ?_
      refine lv_iload_n hx hb dX3_set_42 rfl (lv_at hl 3 rfl) ?_
      refine lv_iload_n hx hb dX3_set_43 rfl (lv_at hl 4 rfl) ?_
      obtain ⟨hb12, hf⟩ := gx_chk hf
      refine gx_iast C hG hH hS (8 + 3 * a1.toNatClampNeg + 1) (gc_kn hl10) (fun r => gc_n r hl10) hb12 dX3_set_44 (fun H locs σ13 hσ13 hH hS => ?_)
      have hf := gx_let hf σ13 hσ13
      refine lv_iload hx hb dX3_set_45 (lv_at hl 0 rfl) ?_
      cases hf
      exact gx_iretM C hr hlocks hH hS dX3_set_47
    · have hf := gx_pos hc4 hf
      refine lv_bipush (v := (-2 : Int32)) hx hb dX3_set_18 (by decide) ?_
      cases hf
      exact gx_iretM C hr hlocks hH hS dX3_set_20
  · have hf := gx_pos hc2 hf
    refine lv_iconst (v := (-1 : Int32)) hx hb dX3_set_8 (by decide) ?_
    cases hf
    exact gx_iretM C hr hlocks hH hS dX3_set_9
abbrev rm_X3_takeOut : Room := { frames := 0, cells := 0, slots := 0, locals := 0 }
def fL_X3_takeOut_36 : Nat → gx_St → Int32 → Int32 → Option gx_St
  | 0, _, _, _ => none
  | N + 1, σ, v1, v3 =>
    if (4 : Int32) ≤ v3 then (some σ) else (if (v3 < 0 ∨ 4 ≤ v3.toNatClampNeg) then none else
    gx_lt (gx_w2 σ (8 + 3 * v1.toNatClampNeg + 2) v3.toNatClampNeg (0 : Int32)) fun σ7 =>
    gx_lt (v3 + (1 : Int32)) fun x8 =>
    fL_X3_takeOut_36 N σ7 v1 x8)
set_option maxHeartbeats 4000000 in
set_option maxRecDepth 100000 in
theorem w_X3_takeOut_36 {p : Program} {l : Launch} {e : Env} {s : State} {m : MethodId} {args : Array Value} {below : List Frame} {meth : Method} {c : Code} (G : gx_G) (hG : gx_D G 50) (C : gx_C p m c cX3_takeOut 4 s args RX3 G) (hr : meth.sig.returnType = none) (hlocks : meth.locks = false) : ∀ (N : Nat) (σ : gx_St) (v1 v3 : Int32) (hl_v1 : v1.toNatClampNeg < 12) (hn_v1 : ¬ v1 = -9) (z : gx_St), fL_X3_takeOut_36 N σ v1 v3 = some z → ∀ (H : Heap) (locs : List Loc) (ls : Array Slot), gx_H G 50 (gc_mk G) σ H → va_S (gx_A G) s.heap H locs → lv_has ls 4 [(1, .ref (gx_q G (8 + 3 * v1.toNatClampNeg))), (3, .int v3)] → W p l e rm_X3_takeOut s m args below meth c H locs 0 0 (MQ below (gx_QM G 50 (gc_mk G) none z) args s 0 0 (gx_A G)) (F0 m 36 ls []) := by
  have hx := C.1.1
  have hb := C.1.2.1
  intro N
  induction N with
  | zero =>
    intro σ v1 v3 hl_v1 hn_v1 z hf H locs ls hH hS hl
    cases (show (none : Option gx_St) = some z from hf)
  | succ N ih =>
    intro σ v1 v3 hl_v1 hn_v1 z hf H locs ls hH hS hl
    rw [fL_X3_takeOut_36] at hf
    refine lv_iload_n hx hb dX3_takeOut_36 rfl (lv_at hl 1 rfl) ?_
    refine lv_iconst (v := (4 : Int32)) hx hb dX3_takeOut_37 (by decide) ?_
    refine lv_icmp_ge (tgt := 54) hx hb dX3_takeOut_38 (by decide) (fun hc5 => ?_) (fun hc5 => ?_)
    · have hf := gx_pos hc5 hf
      cases hf
      exact gx_vretM C hr hlocks hH hS dX3_takeOut_54
    · have hf := gx_neg hc5 hf
      refine lv_aload_n hx hb dX3_takeOut_41 rfl (lv_at hl 0 rfl) ?_
      refine gx_get C hH (8 + 3 * v1.toNatClampNeg) (gc_ke hl_v1) (gc_e _ hl_v1) fl_X3_163 rfl dX3_takeOut_42 ?_
      refine lv_iload_n hx hb dX3_takeOut_45 rfl (lv_at hl 1 rfl) ?_
      refine lv_iconst (v := (0 : Int32)) hx hb dX3_takeOut_46 (by decide) ?_
      obtain ⟨hb6, hf⟩ := gx_chk hf
      refine gx_iast C hG hH hS (8 + 3 * v1.toNatClampNeg + 2) (gc_kb hl_v1) (fun r => gc_b r hl_v1) hb6 dX3_takeOut_47 (fun H locs σ7 hσ7 hH hS => ?_)
      have hf := gx_let hf σ7 hσ7
      obtain ⟨x8, hx8⟩ : ∃ z : Int32, z = (v3 + (1 : Int32)) := ⟨_, rfl⟩
      have hf := gx_let hf x8 hx8
      refine lv_iinc (v := x8) (lv' := [(3, .int x8), (1, .ref (gx_q G (8 + 3 * v1.toNatClampNeg)))]) hx hb dX3_takeOut_48 hl (k := 1) rfl (by rw [hx8]; rfl) (by decide) rfl (fun ls hl => ?_)
      refine lv_goto (tgt := 36) hx hb dX3_takeOut_51 (by decide) ?_
      exact ih σ7 v1 x8 hl_v1 hn_v1 _ hf _ _ ls hH hS (lv_sub hl [1, 0] rfl)
def f_X3_takeOut (σ : gx_St) (a1 : Int32) : Option gx_St :=
  gx_lt (σ (8 + 3 * a1.toNatClampNeg) 7) fun x1 =>
  if x1 < 0 then (gx_lt (gx_w2 σ (8 + 3 * a1.toNatClampNeg) 7 (-9 : Int32)) fun σ3 =>
  gx_lt (gx_w2 σ3 (8 + 3 * a1.toNatClampNeg) 8 (-9 : Int32)) fun σ4 =>
  fL_X3_takeOut_36 5 σ4 a1 (0 : Int32)) else (if (6 : Int32) ≤ x1 then (gx_lt (gx_w2 σ (8 + 3 * a1.toNatClampNeg) 7 (-9 : Int32)) fun σ10 =>
  gx_lt (gx_w2 σ10 (8 + 3 * a1.toNatClampNeg) 8 (-9 : Int32)) fun σ11 =>
  fL_X3_takeOut_36 5 σ11 a1 (0 : Int32)) else (if (x1 < 0 ∨ 6 ≤ x1.toNatClampNeg) then none else
  gx_lt (gx_w2 σ 2 x1.toNatClampNeg (-9)) fun σ13 =>
  gx_lt (gx_w2 σ13 (8 + 3 * a1.toNatClampNeg) 7 (-9 : Int32)) fun σ14 =>
  gx_lt (gx_w2 σ14 (8 + 3 * a1.toNatClampNeg) 8 (-9 : Int32)) fun σ15 =>
  fL_X3_takeOut_36 5 σ15 a1 (0 : Int32)))
set_option maxHeartbeats 4000000 in
set_option maxRecDepth 100000 in
theorem t_X3_takeOut (l : Launch) (G : gx_G) (hG : gx_D G 50) (σ : gx_St) (a1 : Int32) (σ' : gx_St) (hl_a1 : a1.toNatClampNeg < 12) (hn_a1 : ¬ a1 = -9) (hf : f_X3_takeOut σ a1 = some σ') : Met l yX3_takeOut (Cond.code yX3_takeOut cX3_takeOut 4 none :: wT) rm_X3_takeOut (va_Pc [.ref (gx_q G 0), .ref (gx_q G (8 + 3 * a1.toNatClampNeg))] (gx_S G 50 (gc_mk G) σ)) (gx_QM G 50 (gc_mk G) none σ') 0 0 (gx_A G) := by
  refine Met.ofW (cc := cX3_takeOut) (maxL := 4) (ret := none) (by decide) rfl ?_
  intro p e s m args below meth c s₁ B hml hv
  obtain ⟨rfl, hH, hE⟩ := hv
  have C := gx_C.of (G := G) B hml hE
  have hx := C.1.1
  have hb := C.1.2.1
  have hr := B.returns
  have hlocks := B.notSynchronized
  have hS : va_S (gx_A G) s.heap s.heap [] := va_S.rf
  have hl := lv_entry ([.ref (gx_q G 0), .ref (gx_q G (8 + 3 * a1.toNatClampNeg))]) (n := 4) (Nat.le_of_ble_eq_true rfl)
  rw [lg_entry_eq]
  generalize (lg_sl ([.ref (gx_q G 0), .ref (gx_q G (8 + 3 * a1.toNatClampNeg))]) ++ List.replicate (4 - (lg_sl ([.ref (gx_q G 0), .ref (gx_q G (8 + 3 * a1.toNatClampNeg))])).length) Slot.unset).toArray = ls at hl ⊢
  have hl : lv_has ls 4 [(0, .ref (gx_q G 0)), (1, .ref (gx_q G (8 + 3 * a1.toNatClampNeg)))] := hl
  unfold f_X3_takeOut at hf
  refine lv_aload_n hx hb dX3_takeOut_0 rfl (lv_at hl 1 rfl) ?_
  refine gx_get C hH (8 + 3 * a1.toNatClampNeg) (gc_ke hl_a1) (gc_e _ hl_a1) fl_X3_135 rfl dX3_takeOut_1 ?_
  refine lv_topi (fun x1 hx1 => ?_)
  have hf := gx_let hf x1 hx1
  refine lv_istore_n (lv' := [(2, .int x1), (0, .ref (gx_q G 0)), (1, .ref (gx_q G (8 + 3 * a1.toNatClampNeg)))]) hx hb dX3_takeOut_4 rfl hl (by decide) rfl (fun ls hl => ?_)
  refine lv_iload_n hx hb dX3_takeOut_5 rfl (lv_at hl 0 rfl) ?_
  refine lv_if_lt (tgt := 22) hx hb dX3_takeOut_6 (by decide) (fun hc2 => ?_) (fun hc2 => ?_)
  · have hf := gx_pos hc2 hf
    refine lv_aload_n hx hb dX3_takeOut_22 rfl (lv_at hl 2 rfl) ?_
    refine lv_bipush (v := (-9 : Int32)) hx hb dX3_takeOut_23 (by decide) ?_
    refine gx_put C hG hH hS (8 + 3 * a1.toNatClampNeg) (gc_ke hl_a1) (gc_e _ hl_a1) fl_X3_135 fw_X2_7 (pw_X2_7 hl_a1 _ _) rfl rfl (Nat.le_of_ble_eq_true rfl) dX3_takeOut_25 (fun H locs σ3 hσ3 hH hS => ?_)
    have hf := gx_let hf σ3 hσ3
    refine lv_aload_n hx hb dX3_takeOut_28 rfl (lv_at hl 2 rfl) ?_
    refine lv_bipush (v := (-9 : Int32)) hx hb dX3_takeOut_29 (by decide) ?_
    refine gx_put C hG hH hS (8 + 3 * a1.toNatClampNeg) (gc_ke hl_a1) (gc_e _ hl_a1) fl_X3_138 fw_X2_8 (pw_X2_8 hl_a1 _ _) rfl rfl (Nat.le_of_ble_eq_true rfl) dX3_takeOut_31 (fun H locs σ4 hσ4 hH hS => ?_)
    have hf := gx_let hf σ4 hσ4
    refine lv_iconst (v := (0 : Int32)) hx hb dX3_takeOut_34 (by decide) ?_
    refine lv_istore_n (lv' := [(3, .int (0 : Int32)), (2, .int x1), (0, .ref (gx_q G 0)), (1, .ref (gx_q G (8 + 3 * a1.toNatClampNeg)))]) hx hb dX3_takeOut_35 rfl hl (by decide) rfl (fun ls hl => ?_)
    exact w_X3_takeOut_36 (l := l) G hG C hr hlocks 5 σ4 a1 (0 : Int32) hl_a1 hn_a1 _ hf _ _ ls hH hS (lv_sub hl [3, 0] rfl)
  · have hf := gx_neg hc2 hf
    refine lv_iload_n hx hb dX3_takeOut_9 rfl (lv_at hl 0 rfl) ?_
    refine lv_bipush (v := (6 : Int32)) hx hb dX3_takeOut_10 (by decide) ?_
    refine lv_icmp_ge (tgt := 22) hx hb dX3_takeOut_12 (by decide) (fun hc9 => ?_) (fun hc9 => ?_)
    · have hf := gx_pos hc9 hf
      refine lv_aload_n hx hb dX3_takeOut_22 rfl (lv_at hl 2 rfl) ?_
      refine lv_bipush (v := (-9 : Int32)) hx hb dX3_takeOut_23 (by decide) ?_
      refine gx_put C hG hH hS (8 + 3 * a1.toNatClampNeg) (gc_ke hl_a1) (gc_e _ hl_a1) fl_X3_135 fw_X2_7 (pw_X2_7 hl_a1 _ _) rfl rfl (Nat.le_of_ble_eq_true rfl) dX3_takeOut_25 (fun H locs σ10 hσ10 hH hS => ?_)
      have hf := gx_let hf σ10 hσ10
      refine lv_aload_n hx hb dX3_takeOut_28 rfl (lv_at hl 2 rfl) ?_
      refine lv_bipush (v := (-9 : Int32)) hx hb dX3_takeOut_29 (by decide) ?_
      refine gx_put C hG hH hS (8 + 3 * a1.toNatClampNeg) (gc_ke hl_a1) (gc_e _ hl_a1) fl_X3_138 fw_X2_8 (pw_X2_8 hl_a1 _ _) rfl rfl (Nat.le_of_ble_eq_true rfl) dX3_takeOut_31 (fun H locs σ11 hσ11 hH hS => ?_)
      have hf := gx_let hf σ11 hσ11
      refine lv_iconst (v := (0 : Int32)) hx hb dX3_takeOut_34 (by decide) ?_
      refine lv_istore_n (lv' := [(3, .int (0 : Int32)), (2, .int x1), (0, .ref (gx_q G 0)), (1, .ref (gx_q G (8 + 3 * a1.toNatClampNeg)))]) hx hb dX3_takeOut_35 rfl hl (by decide) rfl (fun ls hl => ?_)
      exact w_X3_takeOut_36 (l := l) G hG C hr hlocks 5 σ11 a1 (0 : Int32) hl_a1 hn_a1 _ hf _ _ ls hH hS (lv_sub hl [3, 0] rfl)
    · have hf := gx_neg hc9 hf
      refine lv_aload_n hx hb dX3_takeOut_15 rfl (lv_at hl 1 rfl) ?_
      refine gx_get C hH 0 (by decide) rfl fl_X3_19 rfl dX3_takeOut_16 ?_
      refine lv_iload_n hx hb dX3_takeOut_19 rfl (lv_at hl 0 rfl) ?_
      refine lv_null hx hb dX3_takeOut_20 ?_
      obtain ⟨hb12, hf⟩ := gx_chk hf
      refine gx_aastN C hG hH hS 2 (by decide) 2 rfl (fun _ => rfl) hb12 dX3_takeOut_21 (fun H locs σ13 hσ13 hH hS => ?_)
      have hf := gx_let hf σ13 hσ13
      refine lv_aload_n hx hb dX3_takeOut_22 rfl (lv_at hl 2 rfl) ?_
      refine lv_bipush (v := (-9 : Int32)) hx hb dX3_takeOut_23 (by decide) ?_
      refine gx_put C hG hH hS (8 + 3 * a1.toNatClampNeg) (gc_ke hl_a1) (gc_e _ hl_a1) fl_X3_135 fw_X2_7 (pw_X2_7 hl_a1 _ _) rfl rfl (Nat.le_of_ble_eq_true rfl) dX3_takeOut_25 (fun H locs σ14 hσ14 hH hS => ?_)
      have hf := gx_let hf σ14 hσ14
      refine lv_aload_n hx hb dX3_takeOut_28 rfl (lv_at hl 2 rfl) ?_
      refine lv_bipush (v := (-9 : Int32)) hx hb dX3_takeOut_29 (by decide) ?_
      refine gx_put C hG hH hS (8 + 3 * a1.toNatClampNeg) (gc_ke hl_a1) (gc_e _ hl_a1) fl_X3_138 fw_X2_8 (pw_X2_8 hl_a1 _ _) rfl rfl (Nat.le_of_ble_eq_true rfl) dX3_takeOut_31 (fun H locs σ15 hσ15 hH hS => ?_)
      have hf := gx_let hf σ15 hσ15
      refine lv_iconst (v := (0 : Int32)) hx hb dX3_takeOut_34 (by decide) ?_
      refine lv_istore_n (lv' := [(3, .int (0 : Int32)), (2, .int x1), (0, .ref (gx_q G 0)), (1, .ref (gx_q G (8 + 3 * a1.toNatClampNeg)))]) hx hb dX3_takeOut_35 rfl hl (by decide) rfl (fun ls hl => ?_)
      exact w_X3_takeOut_36 (l := l) G hG C hr hlocks 5 σ15 a1 (0 : Int32) hl_a1 hn_a1 _ hf _ _ ls hH hS (lv_sub hl [3, 0] rfl)
abbrev rm_X3_drop : Room := { frames := 1, cells := 0, slots := 0, locals := 23 }
def f_X3_drop (σ : gx_St) : Option (Int32 × gx_St) :=
  if (1 : Int32) ≤ (σ 0 1) then (if (((σ 0 1) - (1 : Int32)) < 0 ∨ 12 ≤ ((σ 0 1) - (1 : Int32)).toNatClampNeg) then none else
  (f_X3_takeOut σ ((σ 0 1) - (1 : Int32))).bind fun σ5 =>
  gx_lt (gx_w2 σ5 0 1 ((σ5 0 1) - (1 : Int32))) fun σ7 =>
  some ((σ7 0 1), σ7)) else (some ((-3 : Int32), σ))
set_option maxHeartbeats 4000000 in
set_option maxRecDepth 100000 in
theorem t_X3_drop (l : Launch) (G : gx_G) (hG : gx_D G 50) (σ : gx_St) (r : Int32) (σ' : gx_St)  (hf : f_X3_drop σ = some (r, σ')) : Met l yX3_drop (Cond.code yX3_drop cX3_drop 1 (some .int) :: wT) rm_X3_drop (va_Pc [.ref (gx_q G 0)] (gx_S G 50 (gc_mk G) σ)) (gx_QM G 50 (gc_mk G) (some (.int r)) σ') 0 0 (gx_A G) := by
  refine Met.ofW (cc := cX3_drop) (maxL := 1) (ret := (some .int)) (by decide) rfl ?_
  intro p e s m args below meth c s₁ B hml hv
  obtain ⟨rfl, hH, hE⟩ := hv
  have C := gx_C.of (G := G) B hml hE
  have hx := C.1.1
  have hb := C.1.2.1
  have hr := B.returns
  have hlocks := B.notSynchronized
  have hS : va_S (gx_A G) s.heap s.heap [] := va_S.rf
  have hl := lv_entry ([.ref (gx_q G 0)]) (n := 1) (Nat.le_of_ble_eq_true rfl)
  rw [lg_entry_eq]
  generalize (lg_sl ([.ref (gx_q G 0)]) ++ List.replicate (1 - (lg_sl ([.ref (gx_q G 0)])).length) Slot.unset).toArray = ls at hl ⊢
  have hl : lv_has ls 1 [(0, .ref (gx_q G 0))] := hl
  unfold f_X3_drop at hf
  refine lv_aload_n hx hb dX3_drop_0 rfl (lv_at hl 0 rfl) ?_
  refine gx_get C hH 0 (by decide) rfl fl_X3_15 rfl dX3_drop_1 ?_
  refine lv_iconst (v := (1 : Int32)) hx hb dX3_drop_4 (by decide) ?_
  refine lv_icmp_ge (tgt := 11) hx hb dX3_drop_5 (by decide) (fun hc1 => ?_) (fun hc1 => ?_)
  · have hf := gx_pos hc1 hf
    refine lv_aload_n hx hb dX3_drop_11 rfl (lv_at hl 0 rfl) ?_
    refine lv_aload_n hx hb dX3_drop_12 rfl (lv_at hl 0 rfl) ?_
    refine gx_get C hH 0 (by decide) rfl fl_X3_11 rfl dX3_drop_13 ?_
    refine lv_aload_n hx hb dX3_drop_16 rfl (lv_at hl 0 rfl) ?_
    refine gx_get C hH 0 (by decide) rfl fl_X3_15 rfl dX3_drop_17 ?_
    refine lv_iconst (v := (1 : Int32)) hx hb dX3_drop_20 (by decide) ?_
    refine lv_isub hx hb dX3_drop_21 ?_
    obtain ⟨hb2, hf⟩ := gx_chk hf
    have hl3 := gx_lt12 hb2
    have hn4 := gx_ne9 hb2
    refine gx_aaldR C hH 1 (by decide) 2 rfl rfl hb2 rfl dX3_drop_22 ?_
    obtain ⟨σ5, hr6, hf⟩ := gx_bnd hf
    refine gx_vM (v := none) (rest := []) C hH hS 0 (by decide) rfl rfl [.ref (gx_q G (8 + 3 * ((σ 0 1) - (1 : Int32)).toNatClampNeg))] (t_X3_takeOut l G hG σ ((σ 0 1) - (1 : Int32)) σ5 hl3 hn4 hr6) lk_X3_98 ⟨rfl, rfl, Nat.le_of_ble_eq_true rfl, Nat.le_of_ble_eq_true rfl⟩ ⟨Nat.zero_le _, Nat.zero_le _⟩ hl.1 rfl (Nat.le_of_ble_eq_true rfl) dX3_drop_23 (fun H locs hH hS => ?_)
    refine gx_e0 (st := []) ?_ rfl
    refine lv_aload_n hx hb dX3_drop_26 rfl (lv_at hl 0 rfl) ?_
    refine lv_dup hx hb dX3_drop_27 rfl ?_
    refine gx_get C hH 0 (by decide) rfl fl_X3_15 rfl dX3_drop_28 ?_
    refine lv_iconst (v := (1 : Int32)) hx hb dX3_drop_31 (by decide) ?_
    refine lv_isub hx hb dX3_drop_32 ?_
    refine gx_put C hG hH hS 0 (by decide) rfl fl_X3_15 fw_X3_1 (pw_X3_1 _ _) rfl rfl (Nat.le_of_ble_eq_true rfl) dX3_drop_33 (fun H locs σ7 hσ7 hH hS => ?_)
    have hf := gx_let hf σ7 hσ7
    refine lv_aload_n hx hb dX3_drop_36 rfl (lv_at hl 0 rfl) ?_
    refine gx_get C hH 0 (by decide) rfl fl_X3_15 rfl dX3_drop_37 ?_
    cases hf
    exact gx_iretM C hr hlocks hH hS dX3_drop_40
  · have hf := gx_neg hc1 hf
    refine lv_bipush (v := (-3 : Int32)) hx hb dX3_drop_8 (by decide) ?_
    cases hf
    exact gx_iretM C hr hlocks hH hS dX3_drop_10
abbrev rm_X3_hand : Room := { frames := 1, cells := 0, slots := 0, locals := 22 }
def f_X3_hand (σ : gx_St) (a1 a2 : Int32) : Option (Int32 × gx_St) :=
  (f_X3_isWithin a1 (-1000 : Int32) (1000 : Int32)).bind fun r1 =>
  if r1 = 0 then (some ((-2 : Int32), σ)) else ((f_X3_isWithin a2 (-1000 : Int32) (1000 : Int32)).bind fun r3 =>
  if r3 = 0 then (some ((-2 : Int32), σ)) else (gx_lt ((σ 0 7) - (σ 0 5)) fun x5 =>
  if ((0 : Int32) < 0 ∨ 2 ≤ (0 : Int32).toNatClampNeg) then none else
  (f_X0_moveTo σ (0 : Int32) a1 x5).bind fun σ9 =>
  if ((1 : Int32) < 0 ∨ 2 ≤ (1 : Int32).toNatClampNeg) then none else
  (f_X0_moveTo σ9 (1 : Int32) a2 x5).bind fun σ14 =>
  gx_lt (gx_w2 σ14 0 5 (σ14 0 7)) fun σ16 =>
  some ((1 : Int32), σ16)))
set_option maxHeartbeats 4000000 in
set_option maxRecDepth 100000 in
theorem t_X3_hand (l : Launch) (G : gx_G) (hG : gx_D G 50) (σ : gx_St) (a1 a2 : Int32) (r : Int32) (σ' : gx_St)  (hf : f_X3_hand σ a1 a2 = some (r, σ')) : Met l yX3_hand (Cond.code yX3_hand cX3_hand 4 (some .int) :: wT) rm_X3_hand (va_Pc [.ref (gx_q G 0), .int a1, .int a2] (gx_S G 50 (gc_mk G) σ)) (gx_QM G 50 (gc_mk G) (some (.int r)) σ') 0 0 (gx_A G) := by
  refine Met.ofW (cc := cX3_hand) (maxL := 4) (ret := (some .int)) (by decide) rfl ?_
  intro p e s m args below meth c s₁ B hml hv
  obtain ⟨rfl, hH, hE⟩ := hv
  have C := gx_C.of (G := G) B hml hE
  have hx := C.1.1
  have hb := C.1.2.1
  have hr := B.returns
  have hlocks := B.notSynchronized
  have hS : va_S (gx_A G) s.heap s.heap [] := va_S.rf
  have hl := lv_entry ([.ref (gx_q G 0), .int a1, .int a2]) (n := 4) (Nat.le_of_ble_eq_true rfl)
  rw [lg_entry_eq]
  generalize (lg_sl ([.ref (gx_q G 0), .int a1, .int a2]) ++ List.replicate (4 - (lg_sl ([.ref (gx_q G 0), .int a1, .int a2])).length) Slot.unset).toArray = ls at hl ⊢
  have hl : lv_has ls 4 [(0, .ref (gx_q G 0)), (1, .int a1), (2, .int a2)] := hl
  unfold f_X3_hand at hf
  refine lv_iload_n hx hb dX3_hand_0 rfl (lv_at hl 1 rfl) ?_
  refine lv_sipush (v := (-1000 : Int32)) hx hb dX3_hand_1 (by decide) ?_
  refine lv_sipush (v := (1000 : Int32)) hx hb dX3_hand_4 (by decide) ?_
  obtain ⟨r1, hr1, hf⟩ := gx_bnd hf
  refine gx_sR (v := (some (.int r1))) (rest := []) C hH hS [.int a1, .int (-1000 : Int32), .int (1000 : Int32)] (t_X3_isWithin l G σ a1 (-1000 : Int32) (1000 : Int32) r1  hr1) lk_X3_102 ⟨rfl, rfl, Nat.le_of_ble_eq_true rfl, Nat.le_of_ble_eq_true rfl⟩ ⟨Nat.zero_le _, Nat.zero_le _⟩ hl.1 rfl (Nat.le_of_ble_eq_true rfl) dX3_hand_7 ?_
  refine gx_e0 (st := [.int r1]) ?_ rfl
  refine lv_if_eq (tgt := 26) hx hb dX3_hand_10 (by decide) (fun hc2 => ?_) (fun hc2 => ?_)
  · have hf := gx_pos hc2 hf
    refine lv_bipush (v := (-2 : Int32)) hx hb dX3_hand_26 (by decide) ?_
    cases hf
    exact gx_iretM C hr hlocks hH hS dX3_hand_28
  · have hf := gx_neg hc2 hf
    refine lv_iload_n hx hb dX3_hand_13 rfl (lv_at hl 2 rfl) ?_
    refine lv_sipush (v := (-1000 : Int32)) hx hb dX3_hand_14 (by decide) ?_
    refine lv_sipush (v := (1000 : Int32)) hx hb dX3_hand_17 (by decide) ?_
    obtain ⟨r3, hr3, hf⟩ := gx_bnd hf
    refine gx_sR (v := (some (.int r3))) (rest := []) C hH hS [.int a2, .int (-1000 : Int32), .int (1000 : Int32)] (t_X3_isWithin l G σ a2 (-1000 : Int32) (1000 : Int32) r3  hr3) lk_X3_102 ⟨rfl, rfl, Nat.le_of_ble_eq_true rfl, Nat.le_of_ble_eq_true rfl⟩ ⟨Nat.zero_le _, Nat.zero_le _⟩ hl.1 rfl (Nat.le_of_ble_eq_true rfl) dX3_hand_20 ?_
    refine gx_e0 (st := [.int r3]) ?_ rfl
    refine lv_if_ne (tgt := 29) hx hb dX3_hand_23 (by decide) (fun hc4 => ?_) (fun hc4 => ?_)
    · have hf := gx_neg hc4 hf
      refine lv_aload_n hx hb dX3_hand_29 rfl (lv_at hl 0 rfl) ?_
      refine gx_get C hH 0 (by decide) rfl fl_X3_40 rfl dX3_hand_30 ?_
      refine lv_aload_n hx hb dX3_hand_33 rfl (lv_at hl 0 rfl) ?_
      refine gx_get C hH 0 (by decide) rfl fl_X3_31 rfl dX3_hand_34 ?_
      refine lv_isub hx hb dX3_hand_37 ?_
      refine lv_topi (fun x5 hx5 => ?_)
      have hf := gx_let hf x5 hx5
      refine lv_istore_n (lv' := [(3, .int x5), (0, .ref (gx_q G 0)), (1, .int a1), (2, .int a2)]) hx hb dX3_hand_38 rfl hl (by decide) rfl (fun ls hl => ?_)
      refine lv_aload_n hx hb dX3_hand_39 rfl (lv_at hl 1 rfl) ?_
      refine gx_get C hH 0 (by decide) rfl fl_X3_27 rfl dX3_hand_40 ?_
      refine lv_iconst (v := (0 : Int32)) hx hb dX3_hand_43 (by decide) ?_
      obtain ⟨hb6, hf⟩ := gx_chk hf
      have hl7 := gx_lt12 hb6
      have hn8 := gx_ne9 hb6
      refine gx_aaldR C hH 3 (by decide) 3 rfl rfl hb6 rfl dX3_hand_44 ?_
      refine lv_iload_n hx hb dX3_hand_45 rfl (lv_at hl 2 rfl) ?_
      refine lv_iload_n hx hb dX3_hand_46 rfl (lv_at hl 0 rfl) ?_
      obtain ⟨σ9, hr10, hf⟩ := gx_bnd hf
      refine gx_vM (v := none) (rest := []) C hH hS (44 + 1 * (0 : Int32).toNatClampNeg) (gc_ka hl7) (gc_a _ hl7) rfl [.int a1, .int x5] (t_X0_moveTo l G hG σ (0 : Int32) a1 x5 σ9 hl7 hr10) lk_X3_106 ⟨rfl, rfl, Nat.le_of_ble_eq_true rfl, Nat.le_of_ble_eq_true rfl⟩ ⟨Nat.zero_le _, Nat.zero_le _⟩ hl.1 rfl (Nat.le_of_ble_eq_true rfl) dX3_hand_47 (fun H locs hH hS => ?_)
      refine gx_e0 (st := []) ?_ rfl
      refine lv_aload_n hx hb dX3_hand_50 rfl (lv_at hl 1 rfl) ?_
      refine gx_get C hH 0 (by decide) rfl fl_X3_27 rfl dX3_hand_51 ?_
      refine lv_iconst (v := (1 : Int32)) hx hb dX3_hand_54 (by decide) ?_
      obtain ⟨hb11, hf⟩ := gx_chk hf
      have hl12 := gx_lt12 hb11
      have hn13 := gx_ne9 hb11
      refine gx_aaldR C hH 3 (by decide) 3 rfl rfl hb11 rfl dX3_hand_55 ?_
      refine lv_iload_n hx hb dX3_hand_56 rfl (lv_at hl 3 rfl) ?_
      refine lv_iload_n hx hb dX3_hand_57 rfl (lv_at hl 0 rfl) ?_
      obtain ⟨σ14, hr15, hf⟩ := gx_bnd hf
      refine gx_vM (v := none) (rest := []) C hH hS (44 + 1 * (1 : Int32).toNatClampNeg) (gc_ka hl12) (gc_a _ hl12) rfl [.int a2, .int x5] (t_X0_moveTo l G hG σ9 (1 : Int32) a2 x5 σ14 hl12 hr15) lk_X3_106 ⟨rfl, rfl, Nat.le_of_ble_eq_true rfl, Nat.le_of_ble_eq_true rfl⟩ ⟨Nat.zero_le _, Nat.zero_le _⟩ hl.1 rfl (Nat.le_of_ble_eq_true rfl) dX3_hand_58 (fun H locs hH hS => ?_)
      refine gx_e0 (st := []) ?_ rfl
      refine lv_aload_n hx hb dX3_hand_61 rfl (lv_at hl 1 rfl) ?_
      refine lv_aload_n hx hb dX3_hand_62 rfl (lv_at hl 1 rfl) ?_
      refine gx_get C hH 0 (by decide) rfl fl_X3_40 rfl dX3_hand_63 ?_
      refine gx_put C hG hH hS 0 (by decide) rfl fl_X3_31 fw_X3_5 (pw_X3_5 _ _) rfl rfl (Nat.le_of_ble_eq_true rfl) dX3_hand_66 (fun H locs σ16 hσ16 hH hS => ?_)
      have hf := gx_let hf σ16 hσ16
      refine lv_iconst (v := (1 : Int32)) hx hb dX3_hand_69 (by decide) ?_
      cases hf
      exact gx_iretM C hr hlocks hH hS dX3_hand_70
    · have hf := gx_pos hc4 hf
      refine lv_bipush (v := (-2 : Int32)) hx hb dX3_hand_26 (by decide) ?_
      cases hf
      exact gx_iretM C hr hlocks hH hS dX3_hand_28
abbrev rm_X3_isAxis : Room := { frames := 0, cells := 0, slots := 0, locals := 0 }
def f_X3_isAxis (a0 : Int32) : Option Int32 :=
  if a0 < 0 then (some (0 : Int32)) else (if (2 : Int32) ≤ a0 then (some (0 : Int32)) else (some (1 : Int32)))
set_option maxHeartbeats 4000000 in
set_option maxRecDepth 100000 in
theorem t_X3_isAxis (l : Launch) (G : gx_G) (σ : gx_St) (a0 : Int32) (r : Int32)  (hf : f_X3_isAxis a0 = some r) : Met l yX3_isAxis (Cond.code yX3_isAxis cX3_isAxis 1 (some .boolean) :: wT) rm_X3_isAxis (va_Pc [.int a0] (gx_S G 50 (gc_mk G) σ)) (gx_QR (some (.int r))) 0 0 (fun _ => False) := by
  refine Met.ofW (cc := cX3_isAxis) (maxL := 1) (ret := (some .boolean)) (by decide) rfl ?_
  intro p e s m args below meth c s₁ B hml hv
  obtain ⟨rfl, hH, hE⟩ := hv
  have C := gx_C.of (G := G) B hml hE
  have hx := C.1.1
  have hb := C.1.2.1
  have hr := B.returns
  have hlocks := B.notSynchronized
  have hS : va_S (gx_A G) s.heap s.heap [] := va_S.rf
  have hl := lv_entry ([.int a0]) (n := 1) (Nat.le_of_ble_eq_true rfl)
  rw [lg_entry_eq]
  generalize (lg_sl ([.int a0]) ++ List.replicate (1 - (lg_sl ([.int a0])).length) Slot.unset).toArray = ls at hl ⊢
  have hl : lv_has ls 1 [(0, .int a0)] := hl
  unfold f_X3_isAxis at hf
  refine lv_iload_n hx hb dX3_isAxis_0 rfl (lv_at hl 0 rfl) ?_
  refine lv_if_lt (tgt := 13) hx hb dX3_isAxis_1 (by decide) (fun hc1 => ?_) (fun hc1 => ?_)
  · have hf := gx_pos hc1 hf
    refine lv_iconst (v := (0 : Int32)) hx hb dX3_isAxis_13 (by decide) ?_
    obtain rfl := Option.some.inj hf
    exact gx_zretR C hr hlocks (by decide) dX3_isAxis_14
  · have hf := gx_neg hc1 hf
    refine lv_iload_n hx hb dX3_isAxis_4 rfl (lv_at hl 0 rfl) ?_
    refine lv_iconst (v := (2 : Int32)) hx hb dX3_isAxis_5 (by decide) ?_
    refine lv_icmp_ge (tgt := 13) hx hb dX3_isAxis_6 (by decide) (fun hc2 => ?_) (fun hc2 => ?_)
    · have hf := gx_pos hc2 hf
      refine lv_iconst (v := (0 : Int32)) hx hb dX3_isAxis_13 (by decide) ?_
      obtain rfl := Option.some.inj hf
      exact gx_zretR C hr hlocks (by decide) dX3_isAxis_14
    · have hf := gx_neg hc2 hf
      refine lv_iconst (v := (1 : Int32)) hx hb dX3_isAxis_9 (by decide) ?_
      refine lv_goto (tgt := 14) hx hb dX3_isAxis_10 (by decide) ?_
      obtain rfl := Option.some.inj hf
      exact gx_zretR C hr hlocks (by decide) dX3_isAxis_14
abbrev rm_X3_ofAxis : Room := { frames := 1, cells := 0, slots := 0, locals := 22 }
def f_X3_ofAxis (σ : gx_St) (a1 a2 : Int32) : Option Int32 :=
  (f_X3_isAxis a1).bind fun r1 =>
  if r1 = 0 then (some (-1 : Int32)) else ((f_X3_isWithin a2 (0 : Int32) (1 : Int32)).bind fun r3 =>
  if r3 = 0 then (some (-2 : Int32)) else (if a2 = 0 then (if (a1 < 0 ∨ 2 ≤ a1.toNatClampNeg) then none else
  some ((10000000 : Int32) + (σ (44 + 1 * a1.toNatClampNeg) 1))) else (if (a1 < 0 ∨ 2 ≤ a1.toNatClampNeg) then none else
  some ((10000000 : Int32) + (σ (44 + 1 * a1.toNatClampNeg) 2)))))
set_option maxHeartbeats 4000000 in
set_option maxRecDepth 100000 in
theorem t_X3_ofAxis (l : Launch) (G : gx_G) (σ : gx_St) (a1 a2 : Int32) (r : Int32)  (hf : f_X3_ofAxis σ a1 a2 = some r) : Met l yX3_ofAxis (Cond.code yX3_ofAxis cX3_ofAxis 3 (some .int) :: wT) rm_X3_ofAxis (va_Pc [.ref (gx_q G 0), .int a1, .int a2] (gx_S G 50 (gc_mk G) σ)) (gx_QR (some (.int r))) 0 0 (fun _ => False) := by
  refine Met.ofW (cc := cX3_ofAxis) (maxL := 3) (ret := (some .int)) (by decide) rfl ?_
  intro p e s m args below meth c s₁ B hml hv
  obtain ⟨rfl, hH, hE⟩ := hv
  have C := gx_C.of (G := G) B hml hE
  have hx := C.1.1
  have hb := C.1.2.1
  have hr := B.returns
  have hlocks := B.notSynchronized
  have hS : va_S (gx_A G) s.heap s.heap [] := va_S.rf
  have hl := lv_entry ([.ref (gx_q G 0), .int a1, .int a2]) (n := 3) (Nat.le_of_ble_eq_true rfl)
  rw [lg_entry_eq]
  generalize (lg_sl ([.ref (gx_q G 0), .int a1, .int a2]) ++ List.replicate (3 - (lg_sl ([.ref (gx_q G 0), .int a1, .int a2])).length) Slot.unset).toArray = ls at hl ⊢
  have hl : lv_has ls 3 [(0, .ref (gx_q G 0)), (1, .int a1), (2, .int a2)] := hl
  unfold f_X3_ofAxis at hf
  refine lv_iload_n hx hb dX3_ofAxis_0 rfl (lv_at hl 1 rfl) ?_
  obtain ⟨r1, hr1, hf⟩ := gx_bnd hf
  refine gx_sR (v := (some (.int r1))) (rest := []) C hH hS [.int a1] (t_X3_isAxis l G σ a1 r1  hr1) lk_X3_110 ⟨rfl, rfl, Nat.le_of_ble_eq_true rfl, Nat.le_of_ble_eq_true rfl⟩ ⟨Nat.zero_le _, Nat.zero_le _⟩ hl.1 rfl (Nat.le_of_ble_eq_true rfl) dX3_ofAxis_1 ?_
  refine gx_e0 (st := [.int r1]) ?_ rfl
  refine lv_if_ne (tgt := 9) hx hb dX3_ofAxis_4 (by decide) (fun hc2 => ?_) (fun hc2 => ?_)
  · have hf := gx_neg hc2 hf
    refine lv_iload_n hx hb dX3_ofAxis_9 rfl (lv_at hl 2 rfl) ?_
    refine lv_iconst (v := (0 : Int32)) hx hb dX3_ofAxis_10 (by decide) ?_
    refine lv_iconst (v := (1 : Int32)) hx hb dX3_ofAxis_11 (by decide) ?_
    obtain ⟨r3, hr3, hf⟩ := gx_bnd hf
    refine gx_sR (v := (some (.int r3))) (rest := []) C hH hS [.int a2, .int (0 : Int32), .int (1 : Int32)] (t_X3_isWithin l G σ a2 (0 : Int32) (1 : Int32) r3  hr3) lk_X3_102 ⟨rfl, rfl, Nat.le_of_ble_eq_true rfl, Nat.le_of_ble_eq_true rfl⟩ ⟨Nat.zero_le _, Nat.zero_le _⟩ hl.1 rfl (Nat.le_of_ble_eq_true rfl) dX3_ofAxis_12 ?_
    refine gx_e0 (st := [.int r3]) ?_ rfl
    refine lv_if_ne (tgt := 21) hx hb dX3_ofAxis_15 (by decide) (fun hc4 => ?_) (fun hc4 => ?_)
    · have hf := gx_neg hc4 hf
      refine lv_ldc hx hb C.1.2.2.2.1 (C.1.2.2.2.2 _ kw_217) dX3_ofAxis_21 ?_
      refine lv_iload_n hx hb dX3_ofAxis_23 rfl (lv_at hl 2 rfl) ?_
      refine lv_if_ne (tgt := 39) hx hb dX3_ofAxis_24 (by decide) (fun hc5 => ?_) (fun hc5 => ?_)
      · have hf := gx_neg hc5 hf
        refine lv_aload_n hx hb dX3_ofAxis_39 rfl (lv_at hl 0 rfl) ?_
        refine gx_get C hH 0 (by decide) rfl fl_X3_27 rfl dX3_ofAxis_40 ?_
        refine lv_iload_n hx hb dX3_ofAxis_43 rfl (lv_at hl 1 rfl) ?_
        obtain ⟨hb6, hf⟩ := gx_chk hf
        have hl7 := gx_lt12 hb6
        have hn8 := gx_ne9 hb6
        refine gx_aaldR C hH 3 (by decide) 3 rfl rfl hb6 rfl dX3_ofAxis_44 ?_
        refine gx_get C hH (44 + 1 * a1.toNatClampNeg) (gc_ka hl7) (gc_a _ hl7) fl_X3_117 rfl dX3_ofAxis_45 ?_
        refine lv_iadd hx hb dX3_ofAxis_48 ?_
        obtain rfl := Option.some.inj hf
        exact gx_iretR C hr hlocks dX3_ofAxis_49
      · have hf := gx_pos hc5 hf
        refine lv_aload_n hx hb dX3_ofAxis_27 rfl (lv_at hl 0 rfl) ?_
        refine gx_get C hH 0 (by decide) rfl fl_X3_27 rfl dX3_ofAxis_28 ?_
        refine lv_iload_n hx hb dX3_ofAxis_31 rfl (lv_at hl 1 rfl) ?_
        obtain ⟨hb9, hf⟩ := gx_chk hf
        have hl10 := gx_lt12 hb9
        have hn11 := gx_ne9 hb9
        refine gx_aaldR C hH 3 (by decide) 3 rfl rfl hb9 rfl dX3_ofAxis_32 ?_
        refine gx_get C hH (44 + 1 * a1.toNatClampNeg) (gc_ka hl10) (gc_a _ hl10) fl_X3_114 rfl dX3_ofAxis_33 ?_
        refine lv_goto (tgt := 48) hx hb dX3_ofAxis_36 (by decide) ?_
        refine lv_iadd hx hb dX3_ofAxis_48 ?_
        obtain rfl := Option.some.inj hf
        exact gx_iretR C hr hlocks dX3_ofAxis_49
    · have hf := gx_pos hc4 hf
      refine lv_bipush (v := (-2 : Int32)) hx hb dX3_ofAxis_18 (by decide) ?_
      obtain rfl := Option.some.inj hf
      exact gx_iretR C hr hlocks dX3_ofAxis_20
  · have hf := gx_pos hc2 hf
    refine lv_iconst (v := (-1 : Int32)) hx hb dX3_ofAxis_7 (by decide) ?_
    obtain rfl := Option.some.inj hf
    exact gx_iretR C hr hlocks dX3_ofAxis_8
abbrev rm_X3_ofEffect : Room := { frames := 2, cells := 0, slots := 0, locals := 45 }
def f_X3_ofEffect (σ : gx_St) (a1 a2 : Int32) : Option Int32 :=
  (f_X3_isEffect σ a1).bind fun r1 =>
  if r1 = 0 then (some (-1 : Int32)) else (if (a1 < 0 ∨ 12 ≤ a1.toNatClampNeg) then none else
  (f_X3_isWithin a2 (10 : Int32) (21 : Int32)).bind fun r6 =>
  if r6 = 0 then (if a2 = (0 : Int32) then (some (σ (8 + 3 * a1.toNatClampNeg) 1)) else if a2 = (1 : Int32) then (some ((σ (8 + 3 * a1.toNatClampNeg) 2) + (10000 : Int32))) else if a2 = (2 : Int32) then (some ((σ (8 + 3 * a1.toNatClampNeg) 3) + (10000 : Int32))) else if a2 = (3 : Int32) then (some ((σ (8 + 3 * a1.toNatClampNeg) 4) + (10000 : Int32))) else if a2 = (4 : Int32) then (some ((σ (8 + 3 * a1.toNatClampNeg) 5) + (10000 : Int32))) else if a2 = (5 : Int32) then (some (σ (8 + 3 * a1.toNatClampNeg) 7)) else if a2 = (6 : Int32) then ((f_X2_playsAt σ a1 (σ (8 + 3 * a1.toNatClampNeg) 8) (σ 0 7)).bind fun r15 =>
  if r15 = 0 then (some (0 : Int32)) else (some (1 : Int32))) else if a2 = (7 : Int32) then ((f_X2_isOnAt σ a1 (σ (8 + 3 * a1.toNatClampNeg) 8) (σ 0 7)).bind fun r18 =>
  if r18 = 0 then (some (0 : Int32)) else (some (1 : Int32))) else if a2 = (8 : Int32) then (some (σ (8 + 3 * a1.toNatClampNeg) 8)) else (some (-2 : Int32))) else ((f_X3_toldNumber σ a1 (a2 - (10 : Int32))).bind fun r21 =>
  some r21))
set_option maxHeartbeats 4000000 in
set_option maxRecDepth 100000 in
theorem t_X3_ofEffect (l : Launch) (G : gx_G) (σ : gx_St) (a1 a2 : Int32) (r : Int32)  (hf : f_X3_ofEffect σ a1 a2 = some r) : Met l yX3_ofEffect (Cond.code yX3_ofEffect cX3_ofEffect 4 (some .int) :: wT) rm_X3_ofEffect (va_Pc [.ref (gx_q G 0), .int a1, .int a2] (gx_S G 50 (gc_mk G) σ)) (gx_QR (some (.int r))) 0 0 (fun _ => False) := by
  refine Met.ofW (cc := cX3_ofEffect) (maxL := 4) (ret := (some .int)) (by decide) rfl ?_
  intro p e s m args below meth c s₁ B hml hv
  obtain ⟨rfl, hH, hE⟩ := hv
  have C := gx_C.of (G := G) B hml hE
  have hx := C.1.1
  have hb := C.1.2.1
  have hr := B.returns
  have hlocks := B.notSynchronized
  have hS : va_S (gx_A G) s.heap s.heap [] := va_S.rf
  have hl := lv_entry ([.ref (gx_q G 0), .int a1, .int a2]) (n := 4) (Nat.le_of_ble_eq_true rfl)
  rw [lg_entry_eq]
  generalize (lg_sl ([.ref (gx_q G 0), .int a1, .int a2]) ++ List.replicate (4 - (lg_sl ([.ref (gx_q G 0), .int a1, .int a2])).length) Slot.unset).toArray = ls at hl ⊢
  have hl : lv_has ls 4 [(0, .ref (gx_q G 0)), (1, .int a1), (2, .int a2)] := hl
  unfold f_X3_ofEffect at hf
  refine lv_aload_n hx hb dX3_ofEffect_0 rfl (lv_at hl 0 rfl) ?_
  refine lv_iload_n hx hb dX3_ofEffect_1 rfl (lv_at hl 1 rfl) ?_
  obtain ⟨r1, hr1, hf⟩ := gx_bnd hf
  refine gx_vR (v := (some (.int r1))) (rest := []) C hH hS 0 (by decide) rfl rfl [.int a1] (t_X3_isEffect l G σ a1 r1  hr1) lk_X3_83 ⟨rfl, rfl, Nat.le_of_ble_eq_true rfl, Nat.le_of_ble_eq_true rfl⟩ ⟨Nat.zero_le _, Nat.zero_le _⟩ hl.1 rfl (Nat.le_of_ble_eq_true rfl) dX3_ofEffect_2 ?_
  refine gx_e0 (st := [.int r1]) ?_ rfl
  refine lv_if_ne (tgt := 10) hx hb dX3_ofEffect_5 (by decide) (fun hc2 => ?_) (fun hc2 => ?_)
  · have hf := gx_neg hc2 hf
    refine lv_aload_n hx hb dX3_ofEffect_10 rfl (lv_at hl 0 rfl) ?_
    refine gx_get C hH 0 (by decide) rfl fl_X3_11 rfl dX3_ofEffect_11 ?_
    refine lv_iload_n hx hb dX3_ofEffect_14 rfl (lv_at hl 1 rfl) ?_
    obtain ⟨hb3, hf⟩ := gx_chk hf
    have hl4 := gx_lt12 hb3
    have hn5 := gx_ne9 hb3
    refine gx_aaldR C hH 1 (by decide) 2 rfl rfl hb3 rfl dX3_ofEffect_15 ?_
    refine lv_astore_n (lv' := [(3, .ref (gx_q G (8 + 3 * a1.toNatClampNeg))), (0, .ref (gx_q G 0)), (1, .int a1), (2, .int a2)]) hx hb dX3_ofEffect_16 rfl hl (by decide) rfl (fun ls hl => ?_)
    refine lv_iload_n hx hb dX3_ofEffect_17 rfl (lv_at hl 3 rfl) ?_
    refine lv_bipush (v := (10 : Int32)) hx hb dX3_ofEffect_18 (by decide) ?_
    refine lv_bipush (v := (21 : Int32)) hx hb dX3_ofEffect_20 (by decide) ?_
    obtain ⟨r6, hr6, hf⟩ := gx_bnd hf
    refine gx_sR (v := (some (.int r6))) (rest := []) C hH hS [.int a2, .int (10 : Int32), .int (21 : Int32)] (t_X3_isWithin l G σ a2 (10 : Int32) (21 : Int32) r6  hr6) lk_X3_102 ⟨rfl, rfl, Nat.le_of_ble_eq_true rfl, Nat.le_of_ble_eq_true rfl⟩ ⟨Nat.zero_le _, Nat.zero_le _⟩ hl.1 rfl (Nat.le_of_ble_eq_true rfl) dX3_ofEffect_22 ?_
    refine gx_e0 (st := [.int r6]) ?_ rfl
    refine lv_if_eq (tgt := 37) hx hb dX3_ofEffect_25 (by decide) (fun hc7 => ?_) (fun hc7 => ?_)
    · have hf := gx_pos hc7 hf
      refine lv_iload_n hx hb dX3_ofEffect_37 rfl (lv_at hl 3 rfl) ?_
      by_cases hc8 : a2 = (0 : Int32)
      · have hf := gx_pos hc8 hf
        refine lv_tableIn (tgt := 88) hx hb dX3_ofEffect_38 (by rw [hc8]; decide) (by rw [hc8]; decide) (by rw [hc8]; rfl) (by decide) ?_
        refine lv_aload_n hx hb dX3_ofEffect_88 rfl (lv_at hl 0 rfl) ?_
        refine gx_get C hH (8 + 3 * a1.toNatClampNeg) (gc_ke hl4) (gc_e _ hl4) fl_X3_120 rfl dX3_ofEffect_89 ?_
        obtain rfl := Option.some.inj hf
        exact gx_iretR C hr hlocks dX3_ofEffect_92
      · have hf := gx_neg hc8 hf
        by_cases hc9 : a2 = (1 : Int32)
        · have hf := gx_pos hc9 hf
          refine lv_tableIn (tgt := 93) hx hb dX3_ofEffect_38 (by rw [hc9]; decide) (by rw [hc9]; decide) (by rw [hc9]; rfl) (by decide) ?_
          refine lv_aload_n hx hb dX3_ofEffect_93 rfl (lv_at hl 0 rfl) ?_
          refine gx_get C hH (8 + 3 * a1.toNatClampNeg) (gc_ke hl4) (gc_e _ hl4) fl_X3_123 rfl dX3_ofEffect_94 ?_
          refine lv_sipush (v := (10000 : Int32)) hx hb dX3_ofEffect_97 (by decide) ?_
          refine lv_iadd hx hb dX3_ofEffect_100 ?_
          obtain rfl := Option.some.inj hf
          exact gx_iretR C hr hlocks dX3_ofEffect_101
        · have hf := gx_neg hc9 hf
          by_cases hc10 : a2 = (2 : Int32)
          · have hf := gx_pos hc10 hf
            refine lv_tableIn (tgt := 102) hx hb dX3_ofEffect_38 (by rw [hc10]; decide) (by rw [hc10]; decide) (by rw [hc10]; rfl) (by decide) ?_
            refine lv_aload_n hx hb dX3_ofEffect_102 rfl (lv_at hl 0 rfl) ?_
            refine gx_get C hH (8 + 3 * a1.toNatClampNeg) (gc_ke hl4) (gc_e _ hl4) fl_X3_126 rfl dX3_ofEffect_103 ?_
            refine lv_sipush (v := (10000 : Int32)) hx hb dX3_ofEffect_106 (by decide) ?_
            refine lv_iadd hx hb dX3_ofEffect_109 ?_
            obtain rfl := Option.some.inj hf
            exact gx_iretR C hr hlocks dX3_ofEffect_110
          · have hf := gx_neg hc10 hf
            by_cases hc11 : a2 = (3 : Int32)
            · have hf := gx_pos hc11 hf
              refine lv_tableIn (tgt := 111) hx hb dX3_ofEffect_38 (by rw [hc11]; decide) (by rw [hc11]; decide) (by rw [hc11]; rfl) (by decide) ?_
              refine lv_aload_n hx hb dX3_ofEffect_111 rfl (lv_at hl 0 rfl) ?_
              refine gx_get C hH (8 + 3 * a1.toNatClampNeg) (gc_ke hl4) (gc_e _ hl4) fl_X3_129 rfl dX3_ofEffect_112 ?_
              refine lv_sipush (v := (10000 : Int32)) hx hb dX3_ofEffect_115 (by decide) ?_
              refine lv_iadd hx hb dX3_ofEffect_118 ?_
              obtain rfl := Option.some.inj hf
              exact gx_iretR C hr hlocks dX3_ofEffect_119
            · have hf := gx_neg hc11 hf
              by_cases hc12 : a2 = (4 : Int32)
              · have hf := gx_pos hc12 hf
                refine lv_tableIn (tgt := 120) hx hb dX3_ofEffect_38 (by rw [hc12]; decide) (by rw [hc12]; decide) (by rw [hc12]; rfl) (by decide) ?_
                refine lv_aload_n hx hb dX3_ofEffect_120 rfl (lv_at hl 0 rfl) ?_
                refine gx_get C hH (8 + 3 * a1.toNatClampNeg) (gc_ke hl4) (gc_e _ hl4) fl_X3_132 rfl dX3_ofEffect_121 ?_
                refine lv_sipush (v := (10000 : Int32)) hx hb dX3_ofEffect_124 (by decide) ?_
                refine lv_iadd hx hb dX3_ofEffect_127 ?_
                obtain rfl := Option.some.inj hf
                exact gx_iretR C hr hlocks dX3_ofEffect_128
              · have hf := gx_neg hc12 hf
                by_cases hc13 : a2 = (5 : Int32)
                · have hf := gx_pos hc13 hf
                  refine lv_tableIn (tgt := 129) hx hb dX3_ofEffect_38 (by rw [hc13]; decide) (by rw [hc13]; decide) (by rw [hc13]; rfl) (by decide) ?_
                  refine lv_aload_n hx hb dX3_ofEffect_129 rfl (lv_at hl 0 rfl) ?_
                  refine gx_get C hH (8 + 3 * a1.toNatClampNeg) (gc_ke hl4) (gc_e _ hl4) fl_X3_135 rfl dX3_ofEffect_130 ?_
                  obtain rfl := Option.some.inj hf
                  exact gx_iretR C hr hlocks dX3_ofEffect_133
                · have hf := gx_neg hc13 hf
                  by_cases hc14 : a2 = (6 : Int32)
                  · have hf := gx_pos hc14 hf
                    refine lv_tableIn (tgt := 134) hx hb dX3_ofEffect_38 (by rw [hc14]; decide) (by rw [hc14]; decide) (by rw [hc14]; rfl) (by decide) ?_
                    refine lv_aload_n hx hb dX3_ofEffect_134 rfl (lv_at hl 0 rfl) ?_
                    refine lv_aload_n hx hb dX3_ofEffect_135 rfl (lv_at hl 0 rfl) ?_
                    refine gx_get C hH (8 + 3 * a1.toNatClampNeg) (gc_ke hl4) (gc_e _ hl4) fl_X3_138 rfl dX3_ofEffect_136 ?_
                    refine lv_aload_n hx hb dX3_ofEffect_139 rfl (lv_at hl 1 rfl) ?_
                    refine gx_get C hH 0 (by decide) rfl fl_X3_40 rfl dX3_ofEffect_140 ?_
                    obtain ⟨r15, hr15, hf⟩ := gx_bnd hf
                    refine gx_vR (v := (some (.int r15))) (rest := []) C hH hS (8 + 3 * a1.toNatClampNeg) (gc_ke hl4) (gc_e _ hl4) rfl [.int (σ (8 + 3 * a1.toNatClampNeg) 8), .int (σ 0 7)] (t_X2_playsAt l G σ a1 (σ (8 + 3 * a1.toNatClampNeg) 8) (σ 0 7) r15 hl4 hr15) lk_X3_141 ⟨rfl, rfl, Nat.le_of_ble_eq_true rfl, Nat.le_of_ble_eq_true rfl⟩ ⟨Nat.zero_le _, Nat.zero_le _⟩ hl.1 rfl (Nat.le_of_ble_eq_true rfl) dX3_ofEffect_143 ?_
                    refine gx_e0 (st := [.int r15]) ?_ rfl
                    refine lv_if_eq (tgt := 153) hx hb dX3_ofEffect_146 (by decide) (fun hc16 => ?_) (fun hc16 => ?_)
                    · have hf := gx_pos hc16 hf
                      refine lv_iconst (v := (0 : Int32)) hx hb dX3_ofEffect_153 (by decide) ?_
                      obtain rfl := Option.some.inj hf
                      exact gx_iretR C hr hlocks dX3_ofEffect_154
                    · have hf := gx_neg hc16 hf
                      refine lv_iconst (v := (1 : Int32)) hx hb dX3_ofEffect_149 (by decide) ?_
                      refine lv_goto (tgt := 154) hx hb dX3_ofEffect_150 (by decide) ?_
                      obtain rfl := Option.some.inj hf
                      exact gx_iretR C hr hlocks dX3_ofEffect_154
                  · have hf := gx_neg hc14 hf
                    by_cases hc17 : a2 = (7 : Int32)
                    · have hf := gx_pos hc17 hf
                      refine lv_tableIn (tgt := 155) hx hb dX3_ofEffect_38 (by rw [hc17]; decide) (by rw [hc17]; decide) (by rw [hc17]; rfl) (by decide) ?_
                      refine lv_aload_n hx hb dX3_ofEffect_155 rfl (lv_at hl 0 rfl) ?_
                      refine lv_aload_n hx hb dX3_ofEffect_156 rfl (lv_at hl 0 rfl) ?_
                      refine gx_get C hH (8 + 3 * a1.toNatClampNeg) (gc_ke hl4) (gc_e _ hl4) fl_X3_138 rfl dX3_ofEffect_157 ?_
                      refine lv_aload_n hx hb dX3_ofEffect_160 rfl (lv_at hl 1 rfl) ?_
                      refine gx_get C hH 0 (by decide) rfl fl_X3_40 rfl dX3_ofEffect_161 ?_
                      obtain ⟨r18, hr18, hf⟩ := gx_bnd hf
                      refine gx_vR (v := (some (.int r18))) (rest := []) C hH hS (8 + 3 * a1.toNatClampNeg) (gc_ke hl4) (gc_e _ hl4) rfl [.int (σ (8 + 3 * a1.toNatClampNeg) 8), .int (σ 0 7)] (t_X2_isOnAt l G σ a1 (σ (8 + 3 * a1.toNatClampNeg) 8) (σ 0 7) r18 hl4 hr18) lk_X3_144 ⟨rfl, rfl, Nat.le_of_ble_eq_true rfl, Nat.le_of_ble_eq_true rfl⟩ ⟨Nat.zero_le _, Nat.zero_le _⟩ hl.1 rfl (Nat.le_of_ble_eq_true rfl) dX3_ofEffect_164 ?_
                      refine gx_e0 (st := [.int r18]) ?_ rfl
                      refine lv_if_eq (tgt := 174) hx hb dX3_ofEffect_167 (by decide) (fun hc19 => ?_) (fun hc19 => ?_)
                      · have hf := gx_pos hc19 hf
                        refine lv_iconst (v := (0 : Int32)) hx hb dX3_ofEffect_174 (by decide) ?_
                        obtain rfl := Option.some.inj hf
                        exact gx_iretR C hr hlocks dX3_ofEffect_175
                      · have hf := gx_neg hc19 hf
                        refine lv_iconst (v := (1 : Int32)) hx hb dX3_ofEffect_170 (by decide) ?_
                        refine lv_goto (tgt := 175) hx hb dX3_ofEffect_171 (by decide) ?_
                        obtain rfl := Option.some.inj hf
                        exact gx_iretR C hr hlocks dX3_ofEffect_175
                    · have hf := gx_neg hc17 hf
                      by_cases hc20 : a2 = (8 : Int32)
                      · have hf := gx_pos hc20 hf
                        refine lv_tableIn (tgt := 176) hx hb dX3_ofEffect_38 (by rw [hc20]; decide) (by rw [hc20]; decide) (by rw [hc20]; rfl) (by decide) ?_
                        refine lv_aload_n hx hb dX3_ofEffect_176 rfl (lv_at hl 0 rfl) ?_
                        refine gx_get C hH (8 + 3 * a1.toNatClampNeg) (gc_ke hl4) (gc_e _ hl4) fl_X3_138 rfl dX3_ofEffect_177 ?_
                        obtain rfl := Option.some.inj hf
                        exact gx_iretR C hr hlocks dX3_ofEffect_180
                      · have hf := gx_neg hc20 hf
                        refine lv_tableOut (tgt := 181) hx hb dX3_ofEffect_38 (by have q0 := lv_neT hc8 (a := 0) rfl; have q1 := lv_neT hc9 (a := 1) rfl; have q2 := lv_neT hc10 (a := 2) rfl; have q3 := lv_neT hc11 (a := 3) rfl; have q4 := lv_neT hc12 (a := 4) rfl; have q5 := lv_neT hc13 (a := 5) rfl; have q6 := lv_neT hc14 (a := 6) rfl; have q7 := lv_neT hc17 (a := 7) rfl; have q8 := lv_neT hc20 (a := 8) rfl; omega) (by decide) ?_
                        refine lv_bipush (v := (-2 : Int32)) hx hb dX3_ofEffect_181 (by decide) ?_
                        obtain rfl := Option.some.inj hf
                        exact gx_iretR C hr hlocks dX3_ofEffect_183
    · have hf := gx_neg hc7 hf
      refine lv_aload_n hx hb dX3_ofEffect_28 rfl (lv_at hl 0 rfl) ?_
      refine lv_iload_n hx hb dX3_ofEffect_29 rfl (lv_at hl 3 rfl) ?_
      refine lv_bipush (v := (10 : Int32)) hx hb dX3_ofEffect_30 (by decide) ?_
      refine lv_isub hx hb dX3_ofEffect_32 ?_
      obtain ⟨r21, hr21, hf⟩ := gx_bnd hf
      refine gx_sR (v := (some (.int r21))) (rest := []) C hH hS [.ref (gx_q G (8 + 3 * a1.toNatClampNeg)), .int (a2 - (10 : Int32))] (t_X3_toldNumber l G σ a1 (a2 - (10 : Int32)) r21 hl4 hn5 hr21) lk_X3_91 ⟨rfl, rfl, Nat.le_of_ble_eq_true rfl, Nat.le_of_ble_eq_true rfl⟩ ⟨Nat.zero_le _, Nat.zero_le _⟩ hl.1 rfl (Nat.le_of_ble_eq_true rfl) dX3_ofEffect_33 ?_
      refine gx_e0 (st := [.int r21]) ?_ rfl
      obtain rfl := Option.some.inj hf
      exact gx_iretR C hr hlocks dX3_ofEffect_36
  · have hf := gx_pos hc2 hf
    refine lv_iconst (v := (-1 : Int32)) hx hb dX3_ofEffect_8 (by decide) ?_
    obtain rfl := Option.some.inj hf
    exact gx_iretR C hr hlocks dX3_ofEffect_9
abbrev rm_X3_slots : Room := { frames := 1, cells := 0, slots := 0, locals := 22 }
def fL_X3_slots_15 : Nat → gx_St → Int32 → Int32 → Option (Int32 × gx_St)
  | 0, _, _, _ => none
  | N + 1, σ, v1, v2 =>
    if (6 : Int32) ≤ v2 then (gx_lt (σ 0 3) fun x4 =>
    gx_lt (gx_w2 σ 0 3 v1) fun σ5 =>
    some (x4, σ5)) else (if (v2 < 0 ∨ 6 ≤ v2.toNatClampNeg) then none else
    gx_lt (σ 2 v2.toNatClampNeg) fun e7 =>
    if e7 = -9 then (gx_lt (v2 + (1 : Int32)) fun x10 =>
    fL_X3_slots_15 N σ v1 x10) else if 12 ≤ e7.toNatClampNeg then none else (some ((-3 : Int32), σ)))
set_option maxHeartbeats 4000000 in
set_option maxRecDepth 100000 in
theorem w_X3_slots_15 {p : Program} {l : Launch} {e : Env} {s : State} {m : MethodId} {args : Array Value} {below : List Frame} {meth : Method} {c : Code} (G : gx_G) (hG : gx_D G 50) (C : gx_C p m c cX3_slots 3 s args RX3 G) (hr : meth.sig.returnType = (some .int)) (hlocks : meth.locks = false) : ∀ (N : Nat) (σ : gx_St) (v1 v2 : Int32)  (z : (Int32 × gx_St)), fL_X3_slots_15 N σ v1 v2 = some z → ∀ (H : Heap) (locs : List Loc) (ls : Array Slot), gx_H G 50 (gc_mk G) σ H → va_S (gx_A G) s.heap H locs → lv_has ls 3 [(0, .ref (gx_q G 0)), (1, .int v1), (2, .int v2)] → W p l e rm_X3_slots s m args below meth c H locs 0 0 (MQ below (gx_QM G 50 (gc_mk G) (some (.int z.1)) z.2) args s 0 0 (gx_A G)) (F0 m 15 ls []) := by
  have hx := C.1.1
  have hb := C.1.2.1
  intro N
  induction N with
  | zero =>
    intro σ v1 v2  z hf H locs ls hH hS hl
    cases (show (none : Option (Int32 × gx_St)) = some z from hf)
  | succ N ih =>
    intro σ v1 v2  z hf H locs ls hH hS hl
    rw [fL_X3_slots_15] at hf
    refine lv_iload_n hx hb dX3_slots_15 rfl (lv_at hl 2 rfl) ?_
    refine lv_bipush (v := (6 : Int32)) hx hb dX3_slots_16 (by decide) ?_
    refine lv_icmp_ge (tgt := 39) hx hb dX3_slots_18 (by decide) (fun hc3 => ?_) (fun hc3 => ?_)
    · have hf := gx_pos hc3 hf
      refine lv_aload_n hx hb dX3_slots_39 rfl (lv_at hl 0 rfl) ?_
      refine gx_get C hH 0 (by decide) rfl fl_X3_22 rfl dX3_slots_40 ?_
      refine lv_topi (fun x4 hx4 => ?_)
      have hf := gx_let hf x4 hx4
      refine lv_istore_n (lv' := [(2, .int x4), (0, .ref (gx_q G 0)), (1, .int v1)]) hx hb dX3_slots_43 rfl hl (by decide) rfl (fun ls hl => ?_)
      refine lv_aload_n hx hb dX3_slots_44 rfl (lv_at hl 1 rfl) ?_
      refine lv_iload_n hx hb dX3_slots_45 rfl (lv_at hl 2 rfl) ?_
      refine gx_put C hG hH hS 0 (by decide) rfl fl_X3_22 fw_X3_3 (pw_X3_3 _ _) rfl rfl (Nat.le_of_ble_eq_true rfl) dX3_slots_46 (fun H locs σ5 hσ5 hH hS => ?_)
      have hf := gx_let hf σ5 hσ5
      refine lv_iload_n hx hb dX3_slots_49 rfl (lv_at hl 0 rfl) ?_
      cases hf
      exact gx_iretM C hr hlocks hH hS dX3_slots_50
    · have hf := gx_neg hc3 hf
      refine lv_aload_n hx hb dX3_slots_21 rfl (lv_at hl 0 rfl) ?_
      refine gx_get C hH 0 (by decide) rfl fl_X3_19 rfl dX3_slots_22 ?_
      refine lv_iload_n hx hb dX3_slots_25 rfl (lv_at hl 2 rfl) ?_
      obtain ⟨hb6, hf⟩ := gx_chk hf
      obtain ⟨e7, he7⟩ : ∃ z : Int32, z = (σ 2 v2.toNatClampNeg) := ⟨_, rfl⟩
      have hf := gx_let hf e7 he7
      by_cases hn8 : e7 = -9
      · have hf := gx_pos hn8 hf
        refine gx_aaldN C hH 2 (by decide) 2 rfl rfl hb6 (gx_rf_n (he7.symm.trans hn8)) dX3_slots_26 ?_
        refine lv_ifnullN (tgt := 33) hx hb dX3_slots_27 (by decide) ?_
        obtain ⟨x10, hx10⟩ : ∃ z : Int32, z = (v2 + (1 : Int32)) := ⟨_, rfl⟩
        have hf := gx_let hf x10 hx10
        refine lv_iinc (v := x10) (lv' := [(2, .int x10), (0, .ref (gx_q G 0)), (1, .int v1)]) hx hb dX3_slots_33 hl (k := 2) rfl (by rw [hx10]; rfl) (by decide) rfl (fun ls hl => ?_)
        refine lv_goto (tgt := 15) hx hb dX3_slots_36 (by decide) ?_
        exact ih σ v1 x10  _ hf _ _ ls hH hS (lv_sub hl [1, 2, 0] rfl)
      · have hf := gx_neg hn8 hf
        obtain ⟨hl9, hf⟩ := gx_chk hf
        have hl9 := Nat.not_le.mp hl9
        refine gx_aaldR C hH 2 (by decide) 2 rfl rfl hb6 (gx_rfe he7 hn8) dX3_slots_26 ?_
        refine lv_ifnull hx hb dX3_slots_27 ?_
        refine lv_bipush (v := (-3 : Int32)) hx hb dX3_slots_30 (by decide) ?_
        cases hf
        exact gx_iretM C hr hlocks hH hS dX3_slots_32
def f_X3_slots (σ : gx_St) (a1 : Int32) : Option (Int32 × gx_St) :=
  (f_X3_isWithin a1 (1 : Int32) (6 : Int32)).bind fun r1 =>
  if r1 = 0 then (some ((-2 : Int32), σ)) else (fL_X3_slots_15 7 σ a1 a1)
set_option maxHeartbeats 4000000 in
set_option maxRecDepth 100000 in
theorem t_X3_slots (l : Launch) (G : gx_G) (hG : gx_D G 50) (σ : gx_St) (a1 : Int32) (r : Int32) (σ' : gx_St)  (hf : f_X3_slots σ a1 = some (r, σ')) : Met l yX3_slots (Cond.code yX3_slots cX3_slots 3 (some .int) :: wT) rm_X3_slots (va_Pc [.ref (gx_q G 0), .int a1] (gx_S G 50 (gc_mk G) σ)) (gx_QM G 50 (gc_mk G) (some (.int r)) σ') 0 0 (gx_A G) := by
  refine Met.ofW (cc := cX3_slots) (maxL := 3) (ret := (some .int)) (by decide) rfl ?_
  intro p e s m args below meth c s₁ B hml hv
  obtain ⟨rfl, hH, hE⟩ := hv
  have C := gx_C.of (G := G) B hml hE
  have hx := C.1.1
  have hb := C.1.2.1
  have hr := B.returns
  have hlocks := B.notSynchronized
  have hS : va_S (gx_A G) s.heap s.heap [] := va_S.rf
  have hl := lv_entry ([.ref (gx_q G 0), .int a1]) (n := 3) (Nat.le_of_ble_eq_true rfl)
  rw [lg_entry_eq]
  generalize (lg_sl ([.ref (gx_q G 0), .int a1]) ++ List.replicate (3 - (lg_sl ([.ref (gx_q G 0), .int a1])).length) Slot.unset).toArray = ls at hl ⊢
  have hl : lv_has ls 3 [(0, .ref (gx_q G 0)), (1, .int a1)] := hl
  unfold f_X3_slots at hf
  refine lv_iload_n hx hb dX3_slots_0 rfl (lv_at hl 1 rfl) ?_
  refine lv_iconst (v := (1 : Int32)) hx hb dX3_slots_1 (by decide) ?_
  refine lv_bipush (v := (6 : Int32)) hx hb dX3_slots_2 (by decide) ?_
  obtain ⟨r1, hr1, hf⟩ := gx_bnd hf
  refine gx_sR (v := (some (.int r1))) (rest := []) C hH hS [.int a1, .int (1 : Int32), .int (6 : Int32)] (t_X3_isWithin l G σ a1 (1 : Int32) (6 : Int32) r1  hr1) lk_X3_102 ⟨rfl, rfl, Nat.le_of_ble_eq_true rfl, Nat.le_of_ble_eq_true rfl⟩ ⟨Nat.zero_le _, Nat.zero_le _⟩ hl.1 rfl (Nat.le_of_ble_eq_true rfl) dX3_slots_4 ?_
  refine gx_e0 (st := [.int r1]) ?_ rfl
  refine lv_if_ne (tgt := 13) hx hb dX3_slots_7 (by decide) (fun hc2 => ?_) (fun hc2 => ?_)
  · have hf := gx_neg hc2 hf
    refine lv_iload_n hx hb dX3_slots_13 rfl (lv_at hl 1 rfl) ?_
    refine lv_istore_n (lv' := [(2, .int a1), (0, .ref (gx_q G 0)), (1, .int a1)]) hx hb dX3_slots_14 rfl hl (by decide) rfl (fun ls hl => ?_)
    exact w_X3_slots_15 (l := l) G hG C hr hlocks 7 σ a1 a1  _ hf _ _ ls hH hS (lv_sub hl [1, 2, 0] rfl)
  · have hf := gx_pos hc2 hf
    refine lv_bipush (v := (-2 : Int32)) hx hb dX3_slots_10 (by decide) ?_
    cases hf
    exact gx_iretM C hr hlocks hH hS dX3_slots_12
