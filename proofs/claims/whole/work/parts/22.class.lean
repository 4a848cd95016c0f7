abbrev rm_X3_slot : Room := { frames := 0, cells := 0, slots := 0, locals := 0 }
def f_X3_slot (σ : gx_St) (a1 : Int32) : Option Int32 :=
  if a1 < 0 then (some (-1 : Int32)) else (if (σ 0 3) ≤ a1 then (some (-1 : Int32)) else (if a1 < (6 : Int32) then (if (a1 < 0 ∨ 6 ≤ a1.toNatClampNeg) then none else
  gx_lt (σ 2 a1.toNatClampNeg) fun e5 =>
  if e5 = -9 then (some (-9 : Int32)) else if 12 ≤ e5.toNatClampNeg then none else (some (σ (8 + 3 * e5.toNatClampNeg) 0))) else (some (-1 : Int32))))
set_option maxHeartbeats 4000000 in
set_option maxRecDepth 100000 in
theorem t_X3_slot (l : Launch) (G : gx_G) (σ : gx_St) (a1 : Int32) (r : Int32)  (hf : f_X3_slot σ a1 = some r) : Met l yX3_slot (Cond.code yX3_slot cX3_slot 3 (some .int) :: wT) rm_X3_slot (va_Pc [.ref (gx_q G 0), .int a1] (gx_S G 50 (gc_mk G) σ)) (gx_QR (some (.int r))) 0 0 (fun _ => False) := by
  refine Met.ofW (cc := cX3_slot) (maxL := 3) (ret := (some .int)) (by decide) rfl ?_
  intro p e s m args below meth c s₁ B hml hv
  obtain ⟨rfl, hH, hE⟩ := hv
  have C := gx_C.of (G := G) B hml hE
  have hx := C.1.1
  have hb := C.1.2.1
  have hr := B.returns
  have hlocks := B.notSynchronized
  have hS : va_S (gx_A G) s.heap s.heap [] := va_S.rf
  have hl := lv_entry ([.ref (gx_q G 0), .int a1]) (n := 3) (Nat.le_of_ble_eq_true rfl)
  rw [lg_entry_eq]
  generalize (lg_sl ([.ref (gx_q G 0), .int a1]) ++ List.replicate (3 - (lg_sl ([.ref (gx_q G 0), .int a1])).length) Slot.unset).toArray = ls at hl ⊢
  have hl : lv_has ls 3 [(0, .ref (gx_q G 0)), (1, .int a1)] := hl
  unfold f_X3_slot at hf
  refine lv_iload_n hx hb dX3_slot_0 rfl (lv_at hl 1 rfl) ?_
  refine lv_if_lt (tgt := 18) hx hb dX3_slot_1 (by decide) (fun hc1 => ?_) (fun hc1 => ?_)
  · have hf := gx_pos hc1 hf
    refine lv_iconst (v := (-1 : Int32)) hx hb dX3_slot_18 (by decide) ?_
    obtain rfl := Option.some.inj hf
    exact gx_iretR C hr hlocks dX3_slot_19
  · have hf := gx_neg hc1 hf
    refine lv_iload_n hx hb dX3_slot_4 rfl (lv_at hl 1 rfl) ?_
    refine lv_aload_n hx hb dX3_slot_5 rfl (lv_at hl 0 rfl) ?_
    refine gx_get C hH 0 (by decide) rfl fl_X3_22 rfl dX3_slot_6 ?_
    refine lv_icmp_ge (tgt := 18) hx hb dX3_slot_9 (by decide) (fun hc2 => ?_) (fun hc2 => ?_)
    · have hf := gx_pos hc2 hf
      refine lv_iconst (v := (-1 : Int32)) hx hb dX3_slot_18 (by decide) ?_
      obtain rfl := Option.some.inj hf
      exact gx_iretR C hr hlocks dX3_slot_19
    · have hf := gx_neg hc2 hf
      refine lv_iload_n hx hb dX3_slot_12 rfl (lv_at hl 1 rfl) ?_
      refine lv_bipush (v := (6 : Int32)) hx hb dX3_slot_13 (by decide) ?_
      refine lv_icmp_lt (tgt := 20) hx hb dX3_slot_15 (by decide) (fun hc3 => ?_) (fun hc3 => ?_)
      · have hf := gx_pos hc3 hf
        refine lv_aload_n hx hb dX3_slot_20 rfl (lv_at hl 0 rfl) ?_
        refine gx_get C hH 0 (by decide) rfl fl_X3_19 rfl dX3_slot_21 ?_
        refine lv_iload_n hx hb dX3_slot_24 rfl (lv_at hl 1 rfl) ?_
        obtain ⟨hb4, hf⟩ := gx_chk hf
        obtain ⟨e5, he5⟩ : ∃ z : Int32, z = (σ 2 a1.toNatClampNeg) := ⟨_, rfl⟩
        have hf := gx_let hf e5 he5
        by_cases hn6 : e5 = -9
        · have hf := gx_pos hn6 hf
          refine gx_aaldN C hH 2 (by decide) 2 rfl rfl hb4 (gx_rf_n (he5.symm.trans hn6)) dX3_slot_25 ?_
          refine lv_astore_nN (lv' := [(2, .null), (0, .ref (gx_q G 0)), (1, .int a1)]) hx hb dX3_slot_26 rfl hl (by decide) rfl (fun ls hl => ?_)
          refine lv_aload_nN hx hb dX3_slot_27 rfl (lv_at hl 0 rfl) ?_
          refine lv_ifnonnullN hx hb dX3_slot_28 ?_
          refine lv_bipush (v := (-9 : Int32)) hx hb dX3_slot_31 (by decide) ?_
          refine lv_goto (tgt := 40) hx hb dX3_slot_33 (by decide) ?_
          obtain rfl := Option.some.inj hf
          exact gx_iretR C hr hlocks dX3_slot_40
        · have hf := gx_neg hn6 hf
          obtain ⟨hl7, hf⟩ := gx_chk hf
          have hl7 := Nat.not_le.mp hl7
          refine gx_aaldR C hH 2 (by decide) 2 rfl rfl hb4 (gx_rfe he5 hn6) dX3_slot_25 ?_
          refine lv_astore_n (lv' := [(2, .ref (gx_q G (8 + 3 * e5.toNatClampNeg))), (0, .ref (gx_q G 0)), (1, .int a1)]) hx hb dX3_slot_26 rfl hl (by decide) rfl (fun ls hl => ?_)
          refine lv_aload_n hx hb dX3_slot_27 rfl (lv_at hl 0 rfl) ?_
          refine lv_ifnonnull (tgt := 36) hx hb dX3_slot_28 (by decide) ?_
          refine lv_aload_n hx hb dX3_slot_36 rfl (lv_at hl 0 rfl) ?_
          refine gx_get C hH (8 + 3 * e5.toNatClampNeg) (gc_ke hl7) (gc_e _ hl7) fl_X3_147 rfl dX3_slot_37 ?_
          obtain rfl := Option.some.inj hf
          exact gx_iretR C hr hlocks dX3_slot_40
      · have hf := gx_neg hc3 hf
        refine lv_iconst (v := (-1 : Int32)) hx hb dX3_slot_18 (by decide) ?_
        obtain rfl := Option.some.inj hf
        exact gx_iretR C hr hlocks dX3_slot_19
abbrev rm_X3_leastFreeSlot : Room := { frames := 0, cells := 0, slots := 0, locals := 0 }
def fL_X3_leastFreeSlot_2 : Nat → gx_St → Int32 → Option Int32
  | 0, _, _ => none
  | N + 1, σ, v1 =>
    if (σ 0 3) ≤ v1 then (some (-9 : Int32)) else (if (v1 < 0 ∨ 6 ≤ v1.toNatClampNeg) then none else
    gx_lt (σ 2 v1.toNatClampNeg) fun e3 =>
    if e3 = -9 then (some v1) else if 12 ≤ e3.toNatClampNeg then none else (gx_lt (v1 + (1 : Int32)) fun x6 =>
    fL_X3_leastFreeSlot_2 N σ x6))
set_option maxHeartbeats 4000000 in
set_option maxRecDepth 100000 in
theorem w_X3_leastFreeSlot_2 {p : Program} {l : Launch} {e : Env} {s : State} {m : MethodId} {args : Array Value} {below : List Frame} {meth : Method} {c : Code} (G : gx_G) (C : gx_C p m c cX3_leastFreeSlot 2 s args RX3 G) (hr : meth.sig.returnType = (some .int)) (hlocks : meth.locks = false) (σ : gx_St) (hH : gx_H G 50 (gc_mk G) σ s.heap) : ∀ (N : Nat) (v1 : Int32)  (z : Int32), fL_X3_leastFreeSlot_2 N σ v1 = some z → ∀ (ls : Array Slot), lv_has ls 2 [(0, .ref (gx_q G 0)), (1, .int v1)] → W p l e rm_X3_leastFreeSlot s m args below meth c s.heap [] 0 0 (MQ below (gx_QR (some (.int z))) args s 0 0 (fun _ => False)) (F0 m 2 ls []) := by
  have hx := C.1.1
  have hb := C.1.2.1
  have hS : va_S (gx_A G) s.heap s.heap [] := va_S.rf
  intro N
  induction N with
  | zero =>
    intro v1  z hf ls hl
    cases (show (none : Option Int32) = some z from hf)
  | succ N ih =>
    intro v1  z hf ls hl
    rw [fL_X3_leastFreeSlot_2] at hf
    refine lv_iload_n hx hb dX3_leastFreeSlot_2 rfl (lv_at hl 1 rfl) ?_
    refine lv_aload_n hx hb dX3_leastFreeSlot_3 rfl (lv_at hl 0 rfl) ?_
    refine gx_get C hH 0 (by decide) rfl fl_X3_22 rfl dX3_leastFreeSlot_4 ?_
    refine lv_icmp_ge (tgt := 27) hx hb dX3_leastFreeSlot_7 (by decide) (fun hc1 => ?_) (fun hc1 => ?_)
    · have hf := gx_pos hc1 hf
      refine lv_bipush (v := (-9 : Int32)) hx hb dX3_leastFreeSlot_27 (by decide) ?_
      obtain rfl := Option.some.inj hf
      exact gx_iretR C hr hlocks dX3_leastFreeSlot_29
    · have hf := gx_neg hc1 hf
      refine lv_aload_n hx hb dX3_leastFreeSlot_10 rfl (lv_at hl 0 rfl) ?_
      refine gx_get C hH 0 (by decide) rfl fl_X3_19 rfl dX3_leastFreeSlot_11 ?_
      refine lv_iload_n hx hb dX3_leastFreeSlot_14 rfl (lv_at hl 1 rfl) ?_
      obtain ⟨hb2, hf⟩ := gx_chk hf
      obtain ⟨e3, he3⟩ : ∃ z : Int32, z = (σ 2 v1.toNatClampNeg) := ⟨_, rfl⟩
      have hf := gx_let hf e3 he3
      by_cases hn4 : e3 = -9
      · have hf := gx_pos hn4 hf
        refine gx_aaldN C hH 2 (by decide) 2 rfl rfl hb2 (gx_rf_n (he3.symm.trans hn4)) dX3_leastFreeSlot_15 ?_
        refine lv_ifnonnullN hx hb dX3_leastFreeSlot_16 ?_
        refine lv_iload_n hx hb dX3_leastFreeSlot_19 rfl (lv_at hl 1 rfl) ?_
        obtain rfl := Option.some.inj hf
        exact gx_iretR C hr hlocks dX3_leastFreeSlot_20
      · have hf := gx_neg hn4 hf
        obtain ⟨hl5, hf⟩ := gx_chk hf
        have hl5 := Nat.not_le.mp hl5
        refine gx_aaldR C hH 2 (by decide) 2 rfl rfl hb2 (gx_rfe he3 hn4) dX3_leastFreeSlot_15 ?_
        refine lv_ifnonnull (tgt := 21) hx hb dX3_leastFreeSlot_16 (by decide) ?_
        obtain ⟨x6, hx6⟩ : ∃ z : Int32, z = (v1 + (1 : Int32)) := ⟨_, rfl⟩
        have hf := gx_let hf x6 hx6
        refine lv_iinc (v := x6) (lv' := [(1, .int x6), (0, .ref (gx_q G 0))]) hx hb dX3_leastFreeSlot_21 hl (k := 1) rfl (by rw [hx6]; rfl) (by decide) rfl (fun ls hl => ?_)
        refine lv_goto (tgt := 2) hx hb dX3_leastFreeSlot_24 (by decide) ?_
        exact ih x6  _ hf ls (lv_sub hl [1, 0] rfl)
def f_X3_leastFreeSlot (σ : gx_St) : Option Int32 :=
  fL_X3_leastFreeSlot_2 7 σ (0 : Int32)
set_option maxHeartbeats 4000000 in
set_option maxRecDepth 100000 in
theorem t_X3_leastFreeSlot (l : Launch) (G : gx_G) (σ : gx_St) (r : Int32)  (hf : f_X3_leastFreeSlot σ = some r) : Met l yX3_leastFreeSlot (Cond.code yX3_leastFreeSlot cX3_leastFreeSlot 2 (some .int) :: wT) rm_X3_leastFreeSlot (va_Pc [.ref (gx_q G 0)] (gx_S G 50 (gc_mk G) σ)) (gx_QR (some (.int r))) 0 0 (fun _ => False) := by
  refine Met.ofW (cc := cX3_leastFreeSlot) (maxL := 2) (ret := (some .int)) (by decide) rfl ?_
  intro p e s m args below meth c s₁ B hml hv
  obtain ⟨rfl, hH, hE⟩ := hv
  have C := gx_C.of (G := G) B hml hE
  have hx := C.1.1
  have hb := C.1.2.1
  have hr := B.returns
  have hlocks := B.notSynchronized
  have hS : va_S (gx_A G) s.heap s.heap [] := va_S.rf
  have hl := lv_entry ([.ref (gx_q G 0)]) (n := 2) (Nat.le_of_ble_eq_true rfl)
  rw [lg_entry_eq]
  generalize (lg_sl ([.ref (gx_q G 0)]) ++ List.replicate (2 - (lg_sl ([.ref (gx_q G 0)])).length) Slot.unset).toArray = ls at hl ⊢
  have hl : lv_has ls 2 [(0, .ref (gx_q G 0))] := hl
  unfold f_X3_leastFreeSlot at hf
  refine lv_iconst (v := (0 : Int32)) hx hb dX3_leastFreeSlot_0 (by decide) ?_
  refine lv_istore_n (lv' := [(1, .int (0 : Int32)), (0, .ref (gx_q G 0))]) hx hb dX3_leastFreeSlot_1 rfl hl (by decide) rfl (fun ls hl => ?_)
  exact w_X3_leastFreeSlot_2 (l := l) G C hr hlocks σ hH 7 (0 : Int32)  _ hf ls (lv_sub hl [1, 0] rfl)
abbrev rm_X3_whichGoes : Room := { frames := 1, cells := 0, slots := 0, locals := 23 }
def fL_X3_whichGoes_7 : Nat → gx_St → Int32 → Int32 → Int32 → Int32 → Option Int32
  | 0, _, _, _, _, _ => none
  | N + 1, σ, v1, v2, v3, v4 =>
    if (σ 0 1) ≤ v4 then (if v2 = -9 then (if v3 = -9 then (some (-9 : Int32)) else if 12 ≤ v3.toNatClampNeg then none else (some v3)) else if 12 ≤ v2.toNatClampNeg then none else (some v2)) else (if (v4 < 0 ∨ 12 ≤ v4.toNatClampNeg) then none else
    if (σ (8 + 3 * v4.toNatClampNeg) 7) = (-9 : Int32) then (gx_lt (v4 + (1 : Int32)) fun x27 =>
    fL_X3_whichGoes_7 N σ v1 v2 v3 x27) else (gx_lt (σ (8 + 3 * v4.toNatClampNeg + 1) 9) fun x10 =>
    (f_X2_playsAt σ v4 (σ (8 + 3 * v4.toNatClampNeg) 8) (σ 0 7)).bind fun r11 =>
    if r11 = 0 then (if v2 = -9 then (gx_lt (v4 + (1 : Int32)) fun x23 =>
    fL_X3_whichGoes_7 N σ v1 v4 v3 x23) else if 12 ≤ v2.toNatClampNeg then none else (if (σ (8 + 3 * v2.toNatClampNeg + 1) 9) ≤ x10 then (gx_lt (v4 + (1 : Int32)) fun x25 =>
    fL_X3_whichGoes_7 N σ v1 v2 v3 x25) else (gx_lt (v4 + (1 : Int32)) fun x26 =>
    fL_X3_whichGoes_7 N σ v1 v4 v3 x26))) else (if v1 ≤ x10 then (gx_lt (v4 + (1 : Int32)) fun x14 =>
    fL_X3_whichGoes_7 N σ v1 v2 v3 x14) else (if v3 = -9 then (gx_lt (v4 + (1 : Int32)) fun x17 =>
    fL_X3_whichGoes_7 N σ v1 v2 v4 x17) else if 12 ≤ v3.toNatClampNeg then none else (if (σ (8 + 3 * v3.toNatClampNeg + 1) 9) ≤ x10 then (gx_lt (v4 + (1 : Int32)) fun x19 =>
    fL_X3_whichGoes_7 N σ v1 v2 v3 x19) else (gx_lt (v4 + (1 : Int32)) fun x20 =>
    fL_X3_whichGoes_7 N σ v1 v2 v4 x20))))))
set_option maxHeartbeats 4000000 in
set_option maxRecDepth 100000 in
theorem w_X3_whichGoes_7 {p : Program} {l : Launch} {e : Env} {s : State} {m : MethodId} {args : Array Value} {below : List Frame} {meth : Method} {c : Code} (G : gx_G) (C : gx_C p m c cX3_whichGoes 7 s args RX3 G) (hr : meth.sig.returnType = (some (.object "PushStick$Effect"))) (hlocks : meth.locks = false) (σ : gx_St) (hH : gx_H G 50 (gc_mk G) σ s.heap) : ∀ (N : Nat) (v1 v2 v3 v4 : Int32)  (z : Int32), fL_X3_whichGoes_7 N σ v1 v2 v3 v4 = some z → ∀ (ls : Array Slot), lv_has ls 7 [(0, .ref (gx_q G 0)), (1, .int v1), (2, va_rf (gx_rf G 8 3 v2)), (3, va_rf (gx_rf G 8 3 v3)), (4, .int v4)] → W p l e rm_X3_whichGoes s m args below meth c s.heap [] 0 0 (MQ below (gx_QR (some (va_rf (gx_rf G 8 3 z)))) args s 0 0 (fun _ => False)) (F0 m 7 ls []) := by
  have hx := C.1.1
  have hb := C.1.2.1
  have hS : va_S (gx_A G) s.heap s.heap [] := va_S.rf
  intro N
  induction N with
  | zero =>
    intro v1 v2 v3 v4  z hf ls hl
    cases (show (none : Option Int32) = some z from hf)
  | succ N ih =>
    intro v1 v2 v3 v4  z hf ls hl
    rw [fL_X3_whichGoes_7] at hf
    refine lv_iload hx hb dX3_whichGoes_7 (lv_at hl 4 rfl) ?_
    refine lv_aload_n hx hb dX3_whichGoes_9 rfl (lv_at hl 0 rfl) ?_
    refine gx_get C hH 0 (by decide) rfl fl_X3_15 rfl dX3_whichGoes_10 ?_
    refine lv_icmp_ge (tgt := 118) hx hb dX3_whichGoes_13 (by decide) (fun hc1 => ?_) (fun hc1 => ?_)
    · have hf := gx_pos hc1 hf
      by_cases hp2 : v2 = -9
      · have hf := gx_pos hp2 hf
        refine lv_aload_nN hx hb dX3_whichGoes_118 rfl (gx_ln (lv_at hl 2 rfl) (gx_rf_n hp2)) ?_
        refine lv_ifnullN (tgt := 126) hx hb dX3_whichGoes_119 (by decide) ?_
        by_cases hp4 : v3 = -9
        · have hf := gx_pos hp4 hf
          refine lv_aload_nN hx hb dX3_whichGoes_126 rfl (gx_ln (lv_at hl 3 rfl) (gx_rf_n hp4)) ?_
          cases hf
          exact gx_aretL C hr hlocks (gx_rf_n rfl) dX3_whichGoes_127
        · have hf := gx_neg hp4 hf
          obtain ⟨hl5, hf⟩ := gx_chk hf
          have hl5 := Nat.not_le.mp hl5
          refine lv_aload_n hx hb dX3_whichGoes_126 rfl (gx_lr (lv_at hl 3 rfl) (gx_rf_s hp4)) ?_
          cases hf
          exact gx_aretO C hr hlocks (gx_rf_s hp4) dX3_whichGoes_127
      · have hf := gx_neg hp2 hf
        obtain ⟨hl3, hf⟩ := gx_chk hf
        have hl3 := Nat.not_le.mp hl3
        refine lv_aload_n hx hb dX3_whichGoes_118 rfl (gx_lr (lv_at hl 2 rfl) (gx_rf_s hp2)) ?_
        refine lv_ifnull hx hb dX3_whichGoes_119 ?_
        refine lv_aload_n hx hb dX3_whichGoes_122 rfl (gx_lr (lv_at hl 2 rfl) (gx_rf_s hp2)) ?_
        refine lv_goto (tgt := 127) hx hb dX3_whichGoes_123 (by decide) ?_
        cases hf
        exact gx_aretO C hr hlocks (gx_rf_s hp2) dX3_whichGoes_127
    · have hf := gx_neg hc1 hf
      refine lv_aload_n hx hb dX3_whichGoes_16 rfl (lv_at hl 0 rfl) ?_
      refine gx_get C hH 0 (by decide) rfl fl_X3_11 rfl dX3_whichGoes_17 ?_
      refine lv_iload hx hb dX3_whichGoes_20 (lv_at hl 4 rfl) ?_
      obtain ⟨hb6, hf⟩ := gx_chk hf
      have hl7 := gx_lt12 hb6
      have hn8 := gx_ne9 hb6
      refine gx_aaldR C hH 1 (by decide) 2 rfl rfl hb6 rfl dX3_whichGoes_22 ?_
      refine lv_astore (lv' := [(5, .ref (gx_q G (8 + 3 * v4.toNatClampNeg))), (0, .ref (gx_q G 0)), (1, .int v1), (2, va_rf (gx_rf G 8 3 v2)), (3, va_rf (gx_rf G 8 3 v3)), (4, .int v4)]) hx hb dX3_whichGoes_23 hl (by decide) rfl (fun ls hl => ?_)
      refine lv_aload hx hb dX3_whichGoes_25 (lv_at hl 0 rfl) ?_
      refine gx_get C hH (8 + 3 * v4.toNatClampNeg) (gc_ke hl7) (gc_e _ hl7) fl_X3_135 rfl dX3_whichGoes_27 ?_
      refine lv_bipush (v := (-9 : Int32)) hx hb dX3_whichGoes_30 (by decide) ?_
      refine lv_icmp_ne (tgt := 38) hx hb dX3_whichGoes_32 (by decide) (fun hc9 => ?_) (fun hc9 => ?_)
      · have hf := gx_neg hc9 hf
        refine lv_aload hx hb dX3_whichGoes_38 (lv_at hl 0 rfl) ?_
        refine gx_get C hH (8 + 3 * v4.toNatClampNeg) (gc_ke hl7) (gc_e _ hl7) fl_X3_95 rfl dX3_whichGoes_40 ?_
        refine lv_bipush (v := (9 : Int32)) hx hb dX3_whichGoes_43 (by decide) ?_
        refine gx_ialdL C hH (8 + 3 * v4.toNatClampNeg + 1) (gc_kn hl7) (gc_n _ hl7) 9 (by decide) dX3_whichGoes_45 ?_
        refine lv_topi (fun x10 hx10 => ?_)
        have hf := gx_let hf x10 hx10
        refine lv_istore (lv' := [(6, .int x10), (5, .ref (gx_q G (8 + 3 * v4.toNatClampNeg))), (0, .ref (gx_q G 0)), (1, .int v1), (2, va_rf (gx_rf G 8 3 v2)), (3, va_rf (gx_rf G 8 3 v3)), (4, .int v4)]) hx hb dX3_whichGoes_46 hl (by decide) rfl (fun ls hl => ?_)
        refine lv_aload hx hb dX3_whichGoes_48 (lv_at hl 1 rfl) ?_
        refine lv_aload hx hb dX3_whichGoes_50 (lv_at hl 1 rfl) ?_
        refine gx_get C hH (8 + 3 * v4.toNatClampNeg) (gc_ke hl7) (gc_e _ hl7) fl_X3_138 rfl dX3_whichGoes_52 ?_
        refine lv_aload_n hx hb dX3_whichGoes_55 rfl (lv_at hl 2 rfl) ?_
        refine gx_get C hH 0 (by decide) rfl fl_X3_40 rfl dX3_whichGoes_56 ?_
        obtain ⟨r11, hr11, hf⟩ := gx_bnd hf
        refine gx_vR (v := (some (.int r11))) (rest := []) C hH hS (8 + 3 * v4.toNatClampNeg) (gc_ke hl7) (gc_e _ hl7) rfl [.int (σ (8 + 3 * v4.toNatClampNeg) 8), .int (σ 0 7)] (t_X2_playsAt l G σ v4 (σ (8 + 3 * v4.toNatClampNeg) 8) (σ 0 7) r11 hl7 hr11) lk_X3_141 ⟨rfl, rfl, Nat.le_of_ble_eq_true rfl, Nat.le_of_ble_eq_true rfl⟩ ⟨Nat.zero_le _, Nat.zero_le _⟩ hl.1 rfl (Nat.le_of_ble_eq_true rfl) dX3_whichGoes_59 ?_
        refine gx_e0 (st := [.int r11]) ?_ rfl
        refine lv_if_ne (tgt := 87) hx hb dX3_whichGoes_62 (by decide) (fun hc12 => ?_) (fun hc12 => ?_)
        · have hf := gx_neg hc12 hf
          refine lv_iload hx hb dX3_whichGoes_87 (lv_at hl 0 rfl) ?_
          refine lv_iload_n hx hb dX3_whichGoes_89 rfl (lv_at hl 3 rfl) ?_
          refine lv_icmp_ge (tgt := 112) hx hb dX3_whichGoes_90 (by decide) (fun hc13 => ?_) (fun hc13 => ?_)
          · have hf := gx_pos hc13 hf
            obtain ⟨x14, hx14⟩ : ∃ z : Int32, z = (v4 + (1 : Int32)) := ⟨_, rfl⟩
            have hf := gx_let hf x14 hx14
            refine lv_iinc (v := x14) (lv' := [(4, .int x14), (6, .int x10), (5, .ref (gx_q G (8 + 3 * v4.toNatClampNeg))), (0, .ref (gx_q G 0)), (1, .int v1), (2, va_rf (gx_rf G 8 3 v2)), (3, va_rf (gx_rf G 8 3 v3))]) hx hb dX3_whichGoes_112 hl (k := 6) rfl (by rw [hx14]; rfl) (by decide) (by generalize gx_rf G 8 3 v3 = oo; cases oo <;> rfl) (fun ls hl => ?_)
            refine lv_goto (tgt := 7) hx hb dX3_whichGoes_115 (by decide) ?_
            exact ih v1 v2 v3 x14  _ hf ls (lv_sub hl [3, 4, 5, 6, 0] rfl)
          · have hf := gx_neg hc13 hf
            by_cases hp15 : v3 = -9
            · have hf := gx_pos hp15 hf
              refine lv_aload_nN hx hb dX3_whichGoes_93 rfl (gx_ln (lv_at hl 5 rfl) (gx_rf_n hp15)) ?_
              refine lv_ifnullN (tgt := 109) hx hb dX3_whichGoes_94 (by decide) ?_
              refine lv_aload hx hb dX3_whichGoes_109 (lv_at hl 1 rfl) ?_
              refine lv_astore_n (lv' := [(3, .ref (gx_q G (8 + 3 * v4.toNatClampNeg))), (6, .int x10), (5, .ref (gx_q G (8 + 3 * v4.toNatClampNeg))), (0, .ref (gx_q G 0)), (1, .int v1), (2, va_rf (gx_rf G 8 3 v2)), (4, .int v4)]) hx hb dX3_whichGoes_111 rfl hl (by decide) (by generalize gx_rf G 8 3 v2 = oo; cases oo <;> rfl) (fun ls hl => ?_)
              obtain ⟨x17, hx17⟩ : ∃ z : Int32, z = (v4 + (1 : Int32)) := ⟨_, rfl⟩
              have hf := gx_let hf x17 hx17
              refine lv_iinc (v := x17) (lv' := [(4, .int x17), (3, .ref (gx_q G (8 + 3 * v4.toNatClampNeg))), (6, .int x10), (5, .ref (gx_q G (8 + 3 * v4.toNatClampNeg))), (0, .ref (gx_q G 0)), (1, .int v1), (2, va_rf (gx_rf G 8 3 v2))]) hx hb dX3_whichGoes_112 hl (k := 6) rfl (by rw [hx17]; rfl) (by decide) rfl (fun ls hl => ?_)
              refine lv_goto (tgt := 7) hx hb dX3_whichGoes_115 (by decide) ?_
              have hl : lv_has ls 7 [(0, .ref (gx_q G 0)), (1, .int v1), (2, va_rf (gx_rf G 8 3 v2)), (3, .ref (gx_q G (8 + 3 * v4.toNatClampNeg))), (4, .int x17)] := lv_sub hl [4, 5, 6, 1, 0] rfl
              have hl : lv_has ls 7 [(0, .ref (gx_q G 0)), (1, .int v1), (2, va_rf (gx_rf G 8 3 v2)), (3, va_rf (gx_rf G 8 3 v4)), (4, .int x17)] := gx_lvO hl (by rw [gx_rf_s hn8]; rfl)
              exact ih v1 v2 v4 x17  _ hf ls hl
            · have hf := gx_neg hp15 hf
              obtain ⟨hl16, hf⟩ := gx_chk hf
              have hl16 := Nat.not_le.mp hl16
              refine lv_aload_n hx hb dX3_whichGoes_93 rfl (gx_lr (lv_at hl 5 rfl) (gx_rf_s hp15)) ?_
              refine lv_ifnull hx hb dX3_whichGoes_94 ?_
              refine lv_iload hx hb dX3_whichGoes_97 (lv_at hl 0 rfl) ?_
              refine lv_aload_n hx hb dX3_whichGoes_99 rfl (gx_lr (lv_at hl 5 rfl) (gx_rf_s hp15)) ?_
              refine gx_get C hH (8 + 3 * v3.toNatClampNeg) (gc_ke hl16) (gc_e _ hl16) fl_X3_95 rfl dX3_whichGoes_100 ?_
              refine lv_bipush (v := (9 : Int32)) hx hb dX3_whichGoes_103 (by decide) ?_
              refine gx_ialdL C hH (8 + 3 * v3.toNatClampNeg + 1) (gc_kn hl16) (gc_n _ hl16) 9 (by decide) dX3_whichGoes_105 ?_
              refine lv_icmp_ge (tgt := 112) hx hb dX3_whichGoes_106 (by decide) (fun hc18 => ?_) (fun hc18 => ?_)
              · have hf := gx_pos hc18 hf
                obtain ⟨x19, hx19⟩ : ∃ z : Int32, z = (v4 + (1 : Int32)) := ⟨_, rfl⟩
                have hf := gx_let hf x19 hx19
                refine lv_iinc (v := x19) (lv' := [(4, .int x19), (6, .int x10), (5, .ref (gx_q G (8 + 3 * v4.toNatClampNeg))), (0, .ref (gx_q G 0)), (1, .int v1), (2, va_rf (gx_rf G 8 3 v2)), (3, va_rf (gx_rf G 8 3 v3))]) hx hb dX3_whichGoes_112 hl (k := 6) rfl (by rw [hx19]; rfl) (by decide) (by generalize gx_rf G 8 3 v3 = oo; cases oo <;> rfl) (fun ls hl => ?_)
                refine lv_goto (tgt := 7) hx hb dX3_whichGoes_115 (by decide) ?_
                exact ih v1 v2 v3 x19  _ hf ls (lv_sub hl [3, 4, 5, 6, 0] rfl)
              · have hf := gx_neg hc18 hf
                refine lv_aload hx hb dX3_whichGoes_109 (lv_at hl 1 rfl) ?_
                refine lv_astore_n (lv' := [(3, .ref (gx_q G (8 + 3 * v4.toNatClampNeg))), (6, .int x10), (5, .ref (gx_q G (8 + 3 * v4.toNatClampNeg))), (0, .ref (gx_q G 0)), (1, .int v1), (2, va_rf (gx_rf G 8 3 v2)), (4, .int v4)]) hx hb dX3_whichGoes_111 rfl hl (by decide) (by generalize gx_rf G 8 3 v2 = oo; cases oo <;> rfl) (fun ls hl => ?_)
                obtain ⟨x20, hx20⟩ : ∃ z : Int32, z = (v4 + (1 : Int32)) := ⟨_, rfl⟩
                have hf := gx_let hf x20 hx20
                refine lv_iinc (v := x20) (lv' := [(4, .int x20), (3, .ref (gx_q G (8 + 3 * v4.toNatClampNeg))), (6, .int x10), (5, .ref (gx_q G (8 + 3 * v4.toNatClampNeg))), (0, .ref (gx_q G 0)), (1, .int v1), (2, va_rf (gx_rf G 8 3 v2))]) hx hb dX3_whichGoes_112 hl (k := 6) rfl (by rw [hx20]; rfl) (by decide) rfl (fun ls hl => ?_)
                refine lv_goto (tgt := 7) hx hb dX3_whichGoes_115 (by decide) ?_
                have hl : lv_has ls 7 [(0, .ref (gx_q G 0)), (1, .int v1), (2, va_rf (gx_rf G 8 3 v2)), (3, .ref (gx_q G (8 + 3 * v4.toNatClampNeg))), (4, .int x20)] := lv_sub hl [4, 5, 6, 1, 0] rfl
                have hl : lv_has ls 7 [(0, .ref (gx_q G 0)), (1, .int v1), (2, va_rf (gx_rf G 8 3 v2)), (3, va_rf (gx_rf G 8 3 v4)), (4, .int x20)] := gx_lvO hl (by rw [gx_rf_s hn8]; rfl)
                exact ih v1 v2 v4 x20  _ hf ls hl
        · have hf := gx_pos hc12 hf
          by_cases hp21 : v2 = -9
          · have hf := gx_pos hp21 hf
            refine lv_aload_nN hx hb dX3_whichGoes_65 rfl (gx_ln (lv_at hl 4 rfl) (gx_rf_n hp21)) ?_
            refine lv_ifnullN (tgt := 81) hx hb dX3_whichGoes_66 (by decide) ?_
            refine lv_aload hx hb dX3_whichGoes_81 (lv_at hl 1 rfl) ?_
            refine lv_astore_n (lv' := [(2, .ref (gx_q G (8 + 3 * v4.toNatClampNeg))), (6, .int x10), (5, .ref (gx_q G (8 + 3 * v4.toNatClampNeg))), (0, .ref (gx_q G 0)), (1, .int v1), (3, va_rf (gx_rf G 8 3 v3)), (4, .int v4)]) hx hb dX3_whichGoes_83 rfl hl (by decide) rfl (fun ls hl => ?_)
            refine lv_goto (tgt := 112) hx hb dX3_whichGoes_84 (by decide) ?_
            obtain ⟨x23, hx23⟩ : ∃ z : Int32, z = (v4 + (1 : Int32)) := ⟨_, rfl⟩
            have hf := gx_let hf x23 hx23
            refine lv_iinc (v := x23) (lv' := [(4, .int x23), (2, .ref (gx_q G (8 + 3 * v4.toNatClampNeg))), (6, .int x10), (5, .ref (gx_q G (8 + 3 * v4.toNatClampNeg))), (0, .ref (gx_q G 0)), (1, .int v1), (3, va_rf (gx_rf G 8 3 v3))]) hx hb dX3_whichGoes_112 hl (k := 6) rfl (by rw [hx23]; rfl) (by decide) (by generalize gx_rf G 8 3 v3 = oo; cases oo <;> rfl) (fun ls hl => ?_)
            refine lv_goto (tgt := 7) hx hb dX3_whichGoes_115 (by decide) ?_
            have hl : lv_has ls 7 [(0, .ref (gx_q G 0)), (1, .int v1), (2, .ref (gx_q G (8 + 3 * v4.toNatClampNeg))), (3, va_rf (gx_rf G 8 3 v3)), (4, .int x23)] := lv_sub hl [4, 5, 1, 6, 0] rfl
            have hl : lv_has ls 7 [(0, .ref (gx_q G 0)), (1, .int v1), (2, va_rf (gx_rf G 8 3 v4)), (3, va_rf (gx_rf G 8 3 v3)), (4, .int x23)] := gx_lvO hl (by rw [gx_rf_s hn8]; rfl)
            exact ih v1 v4 v3 x23  _ hf ls hl
          · have hf := gx_neg hp21 hf
            obtain ⟨hl22, hf⟩ := gx_chk hf
            have hl22 := Nat.not_le.mp hl22
            refine lv_aload_n hx hb dX3_whichGoes_65 rfl (gx_lr (lv_at hl 4 rfl) (gx_rf_s hp21)) ?_
            refine lv_ifnull hx hb dX3_whichGoes_66 ?_
            refine lv_iload hx hb dX3_whichGoes_69 (lv_at hl 0 rfl) ?_
            refine lv_aload_n hx hb dX3_whichGoes_71 rfl (gx_lr (lv_at hl 4 rfl) (gx_rf_s hp21)) ?_
            refine gx_get C hH (8 + 3 * v2.toNatClampNeg) (gc_ke hl22) (gc_e _ hl22) fl_X3_95 rfl dX3_whichGoes_72 ?_
            refine lv_bipush (v := (9 : Int32)) hx hb dX3_whichGoes_75 (by decide) ?_
            refine gx_ialdL C hH (8 + 3 * v2.toNatClampNeg + 1) (gc_kn hl22) (gc_n _ hl22) 9 (by decide) dX3_whichGoes_77 ?_
            refine lv_icmp_ge (tgt := 112) hx hb dX3_whichGoes_78 (by decide) (fun hc24 => ?_) (fun hc24 => ?_)
            · have hf := gx_pos hc24 hf
              obtain ⟨x25, hx25⟩ : ∃ z : Int32, z = (v4 + (1 : Int32)) := ⟨_, rfl⟩
              have hf := gx_let hf x25 hx25
              refine lv_iinc (v := x25) (lv' := [(4, .int x25), (6, .int x10), (5, .ref (gx_q G (8 + 3 * v4.toNatClampNeg))), (0, .ref (gx_q G 0)), (1, .int v1), (2, va_rf (gx_rf G 8 3 v2)), (3, va_rf (gx_rf G 8 3 v3))]) hx hb dX3_whichGoes_112 hl (k := 6) rfl (by rw [hx25]; rfl) (by decide) (by generalize gx_rf G 8 3 v3 = oo; cases oo <;> rfl) (fun ls hl => ?_)
              refine lv_goto (tgt := 7) hx hb dX3_whichGoes_115 (by decide) ?_
              exact ih v1 v2 v3 x25  _ hf ls (lv_sub hl [3, 4, 5, 6, 0] rfl)
            · have hf := gx_neg hc24 hf
              refine lv_aload hx hb dX3_whichGoes_81 (lv_at hl 1 rfl) ?_
              refine lv_astore_n (lv' := [(2, .ref (gx_q G (8 + 3 * v4.toNatClampNeg))), (6, .int x10), (5, .ref (gx_q G (8 + 3 * v4.toNatClampNeg))), (0, .ref (gx_q G 0)), (1, .int v1), (3, va_rf (gx_rf G 8 3 v3)), (4, .int v4)]) hx hb dX3_whichGoes_83 rfl hl (by decide) rfl (fun ls hl => ?_)
              refine lv_goto (tgt := 112) hx hb dX3_whichGoes_84 (by decide) ?_
              obtain ⟨x26, hx26⟩ : ∃ z : Int32, z = (v4 + (1 : Int32)) := ⟨_, rfl⟩
              have hf := gx_let hf x26 hx26
              refine lv_iinc (v := x26) (lv' := [(4, .int x26), (2, .ref (gx_q G (8 + 3 * v4.toNatClampNeg))), (6, .int x10), (5, .ref (gx_q G (8 + 3 * v4.toNatClampNeg))), (0, .ref (gx_q G 0)), (1, .int v1), (3, va_rf (gx_rf G 8 3 v3))]) hx hb dX3_whichGoes_112 hl (k := 6) rfl (by rw [hx26]; rfl) (by decide) (by generalize gx_rf G 8 3 v3 = oo; cases oo <;> rfl) (fun ls hl => ?_)
              refine lv_goto (tgt := 7) hx hb dX3_whichGoes_115 (by decide) ?_
              have hl : lv_has ls 7 [(0, .ref (gx_q G 0)), (1, .int v1), (2, .ref (gx_q G (8 + 3 * v4.toNatClampNeg))), (3, va_rf (gx_rf G 8 3 v3)), (4, .int x26)] := lv_sub hl [4, 5, 1, 6, 0] rfl
              have hl : lv_has ls 7 [(0, .ref (gx_q G 0)), (1, .int v1), (2, va_rf (gx_rf G 8 3 v4)), (3, va_rf (gx_rf G 8 3 v3)), (4, .int x26)] := gx_lvO hl (by rw [gx_rf_s hn8]; rfl)
              exact ih v1 v4 v3 x26  _ hf ls hl
      · have hf := gx_pos hc9 hf
        refine lv_goto (tgt := 112) hx hb dX3_whichGoes_35 (by decide) ?_
        obtain ⟨x27, hx27⟩ : ∃ z : Int32, z = (v4 + (1 : Int32)) := ⟨_, rfl⟩
        have hf := gx_let hf x27 hx27
        refine lv_iinc (v := x27) (lv' := [(4, .int x27), (5, .ref (gx_q G (8 + 3 * v4.toNatClampNeg))), (0, .ref (gx_q G 0)), (1, .int v1), (2, va_rf (gx_rf G 8 3 v2)), (3, va_rf (gx_rf G 8 3 v3))]) hx hb dX3_whichGoes_112 hl (k := 5) rfl (by rw [hx27]; rfl) (by decide) (by generalize gx_rf G 8 3 v3 = oo; cases oo <;> rfl) (fun ls hl => ?_)
        refine lv_goto (tgt := 7) hx hb dX3_whichGoes_115 (by decide) ?_
        exact ih v1 v2 v3 x27  _ hf ls (lv_sub hl [2, 3, 4, 5, 0] rfl)
def f_X3_whichGoes (σ : gx_St) (a1 : Int32) : Option Int32 :=
  fL_X3_whichGoes_7 13 σ a1 (-9 : Int32) (-9 : Int32) (0 : Int32)
set_option maxHeartbeats 4000000 in
set_option maxRecDepth 100000 in
theorem t_X3_whichGoes (l : Launch) (G : gx_G) (σ : gx_St) (a1 : Int32) (r : Int32)  (hf : f_X3_whichGoes σ a1 = some r) : Met l yX3_whichGoes (Cond.code yX3_whichGoes cX3_whichGoes 7 (some (.object "PushStick$Effect")) :: wT) rm_X3_whichGoes (va_Pc [.ref (gx_q G 0), .int a1] (gx_S G 50 (gc_mk G) σ)) (gx_QR (some (va_rf (gx_rf G 8 3 r)))) 0 0 (fun _ => False) := by
  refine Met.ofW (cc := cX3_whichGoes) (maxL := 7) (ret := (some (.object "PushStick$Effect"))) (by decide) rfl ?_
  intro p e s m args below meth c s₁ B hml hv
  obtain ⟨rfl, hH, hE⟩ := hv
  have C := gx_C.of (G := G) B hml hE
  have hx := C.1.1
  have hb := C.1.2.1
  have hr := B.returns
  have hlocks := B.notSynchronized
  have hS : va_S (gx_A G) s.heap s.heap [] := va_S.rf
  have hl := lv_entry ([.ref (gx_q G 0), .int a1]) (n := 7) (Nat.le_of_ble_eq_true rfl)
  rw [lg_entry_eq]
  generalize (lg_sl ([.ref (gx_q G 0), .int a1]) ++ List.replicate (7 - (lg_sl ([.ref (gx_q G 0), .int a1])).length) Slot.unset).toArray = ls at hl ⊢
  have hl : lv_has ls 7 [(0, .ref (gx_q G 0)), (1, .int a1)] := hl
  unfold f_X3_whichGoes at hf
  refine lv_null hx hb dX3_whichGoes_0 ?_
  refine lv_astore_nN (lv' := [(2, .null), (0, .ref (gx_q G 0)), (1, .int a1)]) hx hb dX3_whichGoes_1 rfl hl (by decide) rfl (fun ls hl => ?_)
  refine lv_null hx hb dX3_whichGoes_2 ?_
  refine lv_astore_nN (lv' := [(3, .null), (2, .null), (0, .ref (gx_q G 0)), (1, .int a1)]) hx hb dX3_whichGoes_3 rfl hl (by decide) rfl (fun ls hl => ?_)
  refine lv_iconst (v := (0 : Int32)) hx hb dX3_whichGoes_4 (by decide) ?_
  refine lv_istore (lv' := [(4, .int (0 : Int32)), (3, .null), (2, .null), (0, .ref (gx_q G 0)), (1, .int a1)]) hx hb dX3_whichGoes_5 hl (by decide) rfl (fun ls hl => ?_)
  have hl : lv_has ls 7 [(0, .ref (gx_q G 0)), (1, .int a1), (2, .null), (3, .null), (4, .int (0 : Int32))] := lv_sub hl [3, 4, 2, 1, 0] rfl
  have hl : lv_has ls 7 [(0, .ref (gx_q G 0)), (1, .int a1), (2, va_rf (gx_rf G 8 3 (-9 : Int32))), (3, va_rf (gx_rf G 8 3 (-9 : Int32))), (4, .int (0 : Int32))] := gx_lvO hl (by rw [gx_rf_n rfl]; rfl)
  exact w_X3_whichGoes_7 (l := l) G C hr hlocks σ hH 13 a1 (-9 : Int32) (-9 : Int32) (0 : Int32)  _ hf ls hl
abbrev rm_X3_bringIn : Room := { frames := 2, cells := 0, slots := 0, locals := 49 }
def f_X3_bringIn (σ : gx_St) (a1 : Int32) : Option (Int32 × gx_St) :=
  if (σ (8 + 3 * a1.toNatClampNeg) 7) = (-9 : Int32) then ((f_X3_leastFreeSlot σ ).bind fun r2 =>
  if r2 = (-9 : Int32) then ((f_X3_whichGoes σ (σ (8 + 3 * a1.toNatClampNeg + 1) 9)).bind fun r9 =>
  if r9 = -9 then (some ((-4 : Int32), σ)) else if 12 ≤ r9.toNatClampNeg then none else (gx_lt (σ (8 + 3 * r9.toNatClampNeg) 7) fun x12 =>
  (f_X3_takeOut σ r9).bind fun σ13 =>
  if x12 < 0 then (some (x12, σ13)) else (if (6 : Int32) ≤ x12 then (some (x12, σ13)) else (if (x12 < 0 ∨ 6 ≤ x12.toNatClampNeg) then none else
  gx_lt (gx_w2 σ13 2 x12.toNatClampNeg a1) fun σ18 =>
  gx_lt (gx_w2 σ18 (8 + 3 * a1.toNatClampNeg) 7 x12) fun σ19 =>
  some (x12, σ19))))) else (if r2 < 0 then (some (r2, σ)) else (if (6 : Int32) ≤ r2 then (some (r2, σ)) else (if (r2 < 0 ∨ 6 ≤ r2.toNatClampNeg) then none else
  gx_lt (gx_w2 σ 2 r2.toNatClampNeg a1) fun σ7 =>
  gx_lt (gx_w2 σ7 (8 + 3 * a1.toNatClampNeg) 7 r2) fun σ8 =>
  some (r2, σ8))))) else (some ((σ (8 + 3 * a1.toNatClampNeg) 7), σ))
set_option maxHeartbeats 4000000 in
set_option maxRecDepth 100000 in
theorem t_X3_bringIn (l : Launch) (G : gx_G) (hG : gx_D G 50) (σ : gx_St) (a1 : Int32) (r : Int32) (σ' : gx_St) (hl_a1 : a1.toNatClampNeg < 12) (hn_a1 : ¬ a1 = -9) (hf : f_X3_bringIn σ a1 = some (r, σ')) : Met l yX3_bringIn (Cond.code yX3_bringIn cX3_bringIn 4 (some .int) :: wT) rm_X3_bringIn (va_Pc [.ref (gx_q G 0), .ref (gx_q G (8 + 3 * a1.toNatClampNeg))] (gx_S G 50 (gc_mk G) σ)) (gx_QM G 50 (gc_mk G) (some (.int r)) σ') 0 0 (gx_A G) := by
  refine Met.ofW (cc := cX3_bringIn) (maxL := 4) (ret := (some .int)) (by decide) rfl ?_
  intro p e s m args below meth c s₁ B hml hv
  obtain ⟨rfl, hH, hE⟩ := hv
  have C := gx_C.of (G := G) B hml hE
  have hx := C.1.1
  have hb := C.1.2.1
  have hr := B.returns
  have hlocks := B.notSynchronized
  have hS : va_S (gx_A G) s.heap s.heap [] := va_S.rf
  have hl := lv_entry ([.ref (gx_q G 0), .ref (gx_q G (8 + 3 * a1.toNatClampNeg))]) (n := 4) (Nat.le_of_ble_eq_true rfl)
  rw [lg_entry_eq]
  generalize (lg_sl ([.ref (gx_q G 0), .ref (gx_q G (8 + 3 * a1.toNatClampNeg))]) ++ List.replicate (4 - (lg_sl ([.ref (gx_q G 0), .ref (gx_q G (8 + 3 * a1.toNatClampNeg))])).length) Slot.unset).toArray = ls at hl ⊢
  have hl : lv_has ls 4 [(0, .ref (gx_q G 0)), (1, .ref (gx_q G (8 + 3 * a1.toNatClampNeg)))] := hl
  unfold f_X3_bringIn at hf
  refine lv_aload_n hx hb dX3_bringIn_0 rfl (lv_at hl 1 rfl) ?_
  refine gx_get C hH (8 + 3 * a1.toNatClampNeg) (gc_ke hl_a1) (gc_e _ hl_a1) fl_X3_135 rfl dX3_bringIn_1 ?_
  refine lv_bipush (v := (-9 : Int32)) hx hb dX3_bringIn_4 (by decide) ?_
  refine lv_icmp_eq (tgt := 14) hx hb dX3_bringIn_6 (by decide) (fun hc1 => ?_) (fun hc1 => ?_)
  · have hf := gx_pos hc1 hf
    refine lv_aload_n hx hb dX3_bringIn_14 rfl (lv_at hl 0 rfl) ?_
    obtain ⟨r2, hr2, hf⟩ := gx_bnd hf
    refine gx_vR (v := (some (.int r2))) (rest := []) C hH hS 0 (by decide) rfl rfl [] (t_X3_leastFreeSlot l G σ  r2  hr2) lk_X3_265 ⟨rfl, rfl, Nat.le_of_ble_eq_true rfl, Nat.le_of_ble_eq_true rfl⟩ ⟨Nat.zero_le _, Nat.zero_le _⟩ hl.1 rfl (Nat.le_of_ble_eq_true rfl) dX3_bringIn_15 ?_
    refine gx_e0 (st := [.int r2]) ?_ rfl
    refine lv_istore_n (lv' := [(2, .int r2), (0, .ref (gx_q G 0)), (1, .ref (gx_q G (8 + 3 * a1.toNatClampNeg)))]) hx hb dX3_bringIn_18 rfl hl (by decide) rfl (fun ls hl => ?_)
    refine lv_iload_n hx hb dX3_bringIn_19 rfl (lv_at hl 0 rfl) ?_
    refine lv_bipush (v := (-9 : Int32)) hx hb dX3_bringIn_20 (by decide) ?_
    refine lv_icmp_ne (tgt := 54) hx hb dX3_bringIn_22 (by decide) (fun hc3 => ?_) (fun hc3 => ?_)
    · have hf := gx_neg hc3 hf
      refine lv_iload_n hx hb dX3_bringIn_54 rfl (lv_at hl 0 rfl) ?_
      refine lv_if_lt (tgt := 76) hx hb dX3_bringIn_55 (by decide) (fun hc4 => ?_) (fun hc4 => ?_)
      · have hf := gx_pos hc4 hf
        refine lv_iload_n hx hb dX3_bringIn_76 rfl (lv_at hl 0 rfl) ?_
        cases hf
        exact gx_iretM C hr hlocks hH hS dX3_bringIn_77
      · have hf := gx_neg hc4 hf
        refine lv_iload_n hx hb dX3_bringIn_58 rfl (lv_at hl 0 rfl) ?_
        refine lv_bipush (v := (6 : Int32)) hx hb dX3_bringIn_59 (by decide) ?_
        refine lv_icmp_ge (tgt := 76) hx hb dX3_bringIn_61 (by decide) (fun hc5 => ?_) (fun hc5 => ?_)
        · have hf := gx_pos hc5 hf
          refine lv_iload_n hx hb dX3_bringIn_76 rfl (lv_at hl 0 rfl) ?_
          cases hf
          exact gx_iretM C hr hlocks hH hS dX3_bringIn_77
        · have hf := gx_neg hc5 hf
          refine lv_aload_n hx hb dX3_bringIn_64 rfl (lv_at hl 1 rfl) ?_
          refine gx_get C hH 0 (by decide) rfl fl_X3_19 rfl dX3_bringIn_65 ?_
          refine lv_iload_n hx hb dX3_bringIn_68 rfl (lv_at hl 0 rfl) ?_
          refine lv_aload_n hx hb dX3_bringIn_69 rfl (lv_at hl 2 rfl) ?_
          obtain ⟨hb6, hf⟩ := gx_chk hf
          refine gx_aast C hG hH hS 2 (by decide) 2 2 rfl rfl (fun _ => rfl) hn_a1 (gc_ke hl_a1) (gc_e _ hl_a1) hb6 dX3_bringIn_70 (fun H locs σ7 hσ7 hH hS => ?_)
          have hf := gx_let hf σ7 hσ7
          refine lv_aload_n hx hb dX3_bringIn_71 rfl (lv_at hl 2 rfl) ?_
          refine lv_iload_n hx hb dX3_bringIn_72 rfl (lv_at hl 0 rfl) ?_
          refine gx_put C hG hH hS (8 + 3 * a1.toNatClampNeg) (gc_ke hl_a1) (gc_e _ hl_a1) fl_X3_135 fw_X2_7 (pw_X2_7 hl_a1 _ _) rfl rfl (Nat.le_of_ble_eq_true rfl) dX3_bringIn_73 (fun H locs σ8 hσ8 hH hS => ?_)
          have hf := gx_let hf σ8 hσ8
          refine lv_iload_n hx hb dX3_bringIn_76 rfl (lv_at hl 0 rfl) ?_
          cases hf
          exact gx_iretM C hr hlocks hH hS dX3_bringIn_77
    · have hf := gx_pos hc3 hf
      refine lv_aload_n hx hb dX3_bringIn_25 rfl (lv_at hl 1 rfl) ?_
      refine lv_aload_n hx hb dX3_bringIn_26 rfl (lv_at hl 2 rfl) ?_
      refine gx_get C hH (8 + 3 * a1.toNatClampNeg) (gc_ke hl_a1) (gc_e _ hl_a1) fl_X3_95 rfl dX3_bringIn_27 ?_
      refine lv_bipush (v := (9 : Int32)) hx hb dX3_bringIn_30 (by decide) ?_
      refine gx_ialdL C hH (8 + 3 * a1.toNatClampNeg + 1) (gc_kn hl_a1) (gc_n _ hl_a1) 9 (by decide) dX3_bringIn_32 ?_
      obtain ⟨r9, hr9, hf⟩ := gx_bnd hf
      refine gx_vR (v := (some (va_rf (gx_rf G 8 3 r9)))) (rest := []) C hH hS 0 (by decide) rfl rfl [.int (σ (8 + 3 * a1.toNatClampNeg + 1) 9)] (t_X3_whichGoes l G σ (σ (8 + 3 * a1.toNatClampNeg + 1) 9) r9  hr9) lk_X3_268 ⟨rfl, rfl, Nat.le_of_ble_eq_true rfl, Nat.le_of_ble_eq_true rfl⟩ ⟨Nat.zero_le _, Nat.zero_le _⟩ hl.1 rfl (Nat.le_of_ble_eq_true rfl) dX3_bringIn_33 ?_
      refine gx_e0 (st := [va_rf (gx_rf G 8 3 r9)]) ?_ rfl
      by_cases hn10 : r9 = -9
      · have hf := gx_pos hn10 hf
        refine gx_stN (gx_rf_n hn10) ?_
        refine lv_astore_nN (lv' := [(3, .null), (2, .int r2), (0, .ref (gx_q G 0)), (1, .ref (gx_q G (8 + 3 * a1.toNatClampNeg)))]) hx hb dX3_bringIn_36 rfl hl (by decide) rfl (fun ls hl => ?_)
        refine lv_aload_nN hx hb dX3_bringIn_37 rfl (lv_at hl 0 rfl) ?_
        refine lv_ifnonnullN hx hb dX3_bringIn_38 ?_
        refine lv_bipush (v := (-4 : Int32)) hx hb dX3_bringIn_41 (by decide) ?_
        cases hf
        exact gx_iretM C hr hlocks hH hS dX3_bringIn_43
      · have hf := gx_neg hn10 hf
        obtain ⟨hl11, hf⟩ := gx_chk hf
        have hl11 := Nat.not_le.mp hl11
        refine gx_stR (gx_rf_s hn10) ?_
        refine lv_astore_n (lv' := [(3, .ref (gx_q G (8 + 3 * r9.toNatClampNeg))), (2, .int r2), (0, .ref (gx_q G 0)), (1, .ref (gx_q G (8 + 3 * a1.toNatClampNeg)))]) hx hb dX3_bringIn_36 rfl hl (by decide) rfl (fun ls hl => ?_)
        refine lv_aload_n hx hb dX3_bringIn_37 rfl (lv_at hl 0 rfl) ?_
        refine lv_ifnonnull (tgt := 44) hx hb dX3_bringIn_38 (by decide) ?_
        refine lv_aload_n hx hb dX3_bringIn_44 rfl (lv_at hl 0 rfl) ?_
        refine gx_get C hH (8 + 3 * r9.toNatClampNeg) (gc_ke hl11) (gc_e _ hl11) fl_X3_135 rfl dX3_bringIn_45 ?_
        refine lv_topi (fun x12 hx12 => ?_)
        have hf := gx_let hf x12 hx12
        refine lv_istore_n (lv' := [(2, .int x12), (3, .ref (gx_q G (8 + 3 * r9.toNatClampNeg))), (0, .ref (gx_q G 0)), (1, .ref (gx_q G (8 + 3 * a1.toNatClampNeg)))]) hx hb dX3_bringIn_48 rfl hl (by decide) rfl (fun ls hl => ?_)
        refine lv_aload_n hx hb dX3_bringIn_49 rfl (lv_at hl 2 rfl) ?_
        refine lv_aload_n hx hb dX3_bringIn_50 rfl (lv_at hl 1 rfl) ?_
        obtain ⟨σ13, hr14, hf⟩ := gx_bnd hf
        refine gx_vM (v := none) (rest := []) C hH hS 0 (by decide) rfl rfl [.ref (gx_q G (8 + 3 * r9.toNatClampNeg))] (t_X3_takeOut l G hG σ r9 σ13 hl11 hn10 hr14) lk_X3_98 ⟨rfl, rfl, Nat.le_of_ble_eq_true rfl, Nat.le_of_ble_eq_true rfl⟩ ⟨Nat.zero_le _, Nat.zero_le _⟩ hl.1 rfl (Nat.le_of_ble_eq_true rfl) dX3_bringIn_51 (fun H locs hH hS => ?_)
        refine gx_e0 (st := []) ?_ rfl
        refine lv_iload_n hx hb dX3_bringIn_54 rfl (lv_at hl 0 rfl) ?_
        refine lv_if_lt (tgt := 76) hx hb dX3_bringIn_55 (by decide) (fun hc15 => ?_) (fun hc15 => ?_)
        · have hf := gx_pos hc15 hf
          refine lv_iload_n hx hb dX3_bringIn_76 rfl (lv_at hl 0 rfl) ?_
          cases hf
          exact gx_iretM C hr hlocks hH hS dX3_bringIn_77
        · have hf := gx_neg hc15 hf
          refine lv_iload_n hx hb dX3_bringIn_58 rfl (lv_at hl 0 rfl) ?_
          refine lv_bipush (v := (6 : Int32)) hx hb dX3_bringIn_59 (by decide) ?_
          refine lv_icmp_ge (tgt := 76) hx hb dX3_bringIn_61 (by decide) (fun hc16 => ?_) (fun hc16 => ?_)
          · have hf := gx_pos hc16 hf
            refine lv_iload_n hx hb dX3_bringIn_76 rfl (lv_at hl 0 rfl) ?_
            cases hf
            exact gx_iretM C hr hlocks hH hS dX3_bringIn_77
          · have hf := gx_neg hc16 hf
            refine lv_aload_n hx hb dX3_bringIn_64 rfl (lv_at hl 2 rfl) ?_
            refine gx_get C hH 0 (by decide) rfl fl_X3_19 rfl dX3_bringIn_65 ?_
            refine lv_iload_n hx hb dX3_bringIn_68 rfl (lv_at hl 0 rfl) ?_
            refine lv_aload_n hx hb dX3_bringIn_69 rfl (lv_at hl 3 rfl) ?_
            obtain ⟨hb17, hf⟩ := gx_chk hf
            refine gx_aast C hG hH hS 2 (by decide) 2 2 rfl rfl (fun _ => rfl) hn_a1 (gc_ke hl_a1) (gc_e _ hl_a1) hb17 dX3_bringIn_70 (fun H locs σ18 hσ18 hH hS => ?_)
            have hf := gx_let hf σ18 hσ18
            refine lv_aload_n hx hb dX3_bringIn_71 rfl (lv_at hl 3 rfl) ?_
            refine lv_iload_n hx hb dX3_bringIn_72 rfl (lv_at hl 0 rfl) ?_
            refine gx_put C hG hH hS (8 + 3 * a1.toNatClampNeg) (gc_ke hl_a1) (gc_e _ hl_a1) fl_X3_135 fw_X2_7 (pw_X2_7 hl_a1 _ _) rfl rfl (Nat.le_of_ble_eq_true rfl) dX3_bringIn_73 (fun H locs σ19 hσ19 hH hS => ?_)
            have hf := gx_let hf σ19 hσ19
            refine lv_iload_n hx hb dX3_bringIn_76 rfl (lv_at hl 0 rfl) ?_
            cases hf
            exact gx_iretM C hr hlocks hH hS dX3_bringIn_77
  · have hf := gx_neg hc1 hf
    refine lv_aload_n hx hb dX3_bringIn_9 rfl (lv_at hl 1 rfl) ?_
    refine gx_get C hH (8 + 3 * a1.toNatClampNeg) (gc_ke hl_a1) (gc_e _ hl_a1) fl_X3_135 rfl dX3_bringIn_10 ?_
    cases hf
    exact gx_iretM C hr hlocks hH hS dX3_bringIn_13
abbrev rm_X3_load : Room := { frames := 3, cells := 0, slots := 0, locals := 72 }
def f_X3_load (σ : gx_St) (a1 : Int32) : Option (Int32 × gx_St) :=
  (f_X3_isEffect σ a1).bind fun r1 =>
  if r1 = 0 then (some ((-1 : Int32), σ)) else (if (a1 < 0 ∨ 12 ≤ a1.toNatClampNeg) then none else
  gx_b2 (f_X3_bringIn σ a1) fun r7 σ6 =>
  some (r7, σ6))
set_option maxHeartbeats 4000000 in
set_option maxRecDepth 100000 in
theorem t_X3_load (l : Launch) (G : gx_G) (hG : gx_D G 50) (σ : gx_St) (a1 : Int32) (r : Int32) (σ' : gx_St)  (hf : f_X3_load σ a1 = some (r, σ')) : Met l yX3_load (Cond.code yX3_load cX3_load 2 (some .int) :: wT) rm_X3_load (va_Pc [.ref (gx_q G 0), .int a1] (gx_S G 50 (gc_mk G) σ)) (gx_QM G 50 (gc_mk G) (some (.int r)) σ') 0 0 (gx_A G) := by
  refine Met.ofW (cc := cX3_load) (maxL := 2) (ret := (some .int)) (by decide) rfl ?_
  intro p e s m args below meth c s₁ B hml hv
  obtain ⟨rfl, hH, hE⟩ := hv
  have C := gx_C.of (G := G) B hml hE
  have hx := C.1.1
  have hb := C.1.2.1
  have hr := B.returns
  have hlocks := B.notSynchronized
  have hS : va_S (gx_A G) s.heap s.heap [] := va_S.rf
  have hl := lv_entry ([.ref (gx_q G 0), .int a1]) (n := 2) (Nat.le_of_ble_eq_true rfl)
  rw [lg_entry_eq]
  generalize (lg_sl ([.ref (gx_q G 0), .int a1]) ++ List.replicate (2 - (lg_sl ([.ref (gx_q G 0), .int a1])).length) Slot.unset).toArray = ls at hl ⊢
  have hl : lv_has ls 2 [(0, .ref (gx_q G 0)), (1, .int a1)] := hl
  unfold f_X3_load at hf
  refine lv_aload_n hx hb dX3_load_0 rfl (lv_at hl 0 rfl) ?_
  refine lv_iload_n hx hb dX3_load_1 rfl (lv_at hl 1 rfl) ?_
  obtain ⟨r1, hr1, hf⟩ := gx_bnd hf
  refine gx_vR (v := (some (.int r1))) (rest := []) C hH hS 0 (by decide) rfl rfl [.int a1] (t_X3_isEffect l G σ a1 r1  hr1) lk_X3_83 ⟨rfl, rfl, Nat.le_of_ble_eq_true rfl, Nat.le_of_ble_eq_true rfl⟩ ⟨Nat.zero_le _, Nat.zero_le _⟩ hl.1 rfl (Nat.le_of_ble_eq_true rfl) dX3_load_2 ?_
  refine gx_e0 (st := [.int r1]) ?_ rfl
  refine lv_if_ne (tgt := 10) hx hb dX3_load_5 (by decide) (fun hc2 => ?_) (fun hc2 => ?_)
  · have hf := gx_neg hc2 hf
    refine lv_aload_n hx hb dX3_load_10 rfl (lv_at hl 0 rfl) ?_
    refine lv_aload_n hx hb dX3_load_11 rfl (lv_at hl 0 rfl) ?_
    refine gx_get C hH 0 (by decide) rfl fl_X3_11 rfl dX3_load_12 ?_
    refine lv_iload_n hx hb dX3_load_15 rfl (lv_at hl 1 rfl) ?_
    obtain ⟨hb3, hf⟩ := gx_chk hf
    have hl4 := gx_lt12 hb3
    have hn5 := gx_ne9 hb3
    refine gx_aaldR C hH 1 (by decide) 2 rfl rfl hb3 rfl dX3_load_16 ?_
    obtain ⟨r7, σ6, hr7, hf⟩ := gx_bnd2 hf
    refine gx_vM (v := (some (.int r7))) (rest := []) C hH hS 0 (by decide) rfl rfl [.ref (gx_q G (8 + 3 * a1.toNatClampNeg))] (t_X3_bringIn l G hG σ a1 r7 σ6 hl4 hn5 hr7) lk_X3_150 ⟨rfl, rfl, Nat.le_of_ble_eq_true rfl, Nat.le_of_ble_eq_true rfl⟩ ⟨Nat.zero_le _, Nat.zero_le _⟩ hl.1 rfl (Nat.le_of_ble_eq_true rfl) dX3_load_17 (fun H locs hH hS => ?_)
    refine gx_e0 (st := [.int r7]) ?_ rfl
    cases hf
    exact gx_iretM C hr hlocks hH hS dX3_load_20
  · have hf := gx_pos hc2 hf
    refine lv_iconst (v := (-1 : Int32)) hx hb dX3_load_8 (by decide) ?_
    cases hf
    exact gx_iretM C hr hlocks hH hS dX3_load_9
abbrev rm_X3_unload : Room := { frames := 1, cells := 0, slots := 0, locals := 23 }
def f_X3_unload (σ : gx_St) (a1 : Int32) : Option (Int32 × gx_St) :=
  (f_X3_isEffect σ a1).bind fun r1 =>
  if r1 = 0 then (some ((-1 : Int32), σ)) else (if (a1 < 0 ∨ 12 ≤ a1.toNatClampNeg) then none else
  gx_lt (σ (8 + 3 * a1.toNatClampNeg) 7) fun x6 =>
  if x6 = (-9 : Int32) then (some ((-3 : Int32), σ)) else (if (a1 < 0 ∨ 12 ≤ a1.toNatClampNeg) then none else
  (f_X3_takeOut σ a1).bind fun σ11 =>
  some (x6, σ11)))
set_option maxHeartbeats 4000000 in
set_option maxRecDepth 100000 in
theorem t_X3_unload (l : Launch) (G : gx_G) (hG : gx_D G 50) (σ : gx_St) (a1 : Int32) (r : Int32) (σ' : gx_St)  (hf : f_X3_unload σ a1 = some (r, σ')) : Met l yX3_unload (Cond.code yX3_unload cX3_unload 3 (some .int) :: wT) rm_X3_unload (va_Pc [.ref (gx_q G 0), .int a1] (gx_S G 50 (gc_mk G) σ)) (gx_QM G 50 (gc_mk G) (some (.int r)) σ') 0 0 (gx_A G) := by
  refine Met.ofW (cc := cX3_unload) (maxL := 3) (ret := (some .int)) (by decide) rfl ?_
  intro p e s m args below meth c s₁ B hml hv
  obtain ⟨rfl, hH, hE⟩ := hv
  have C := gx_C.of (G := G) B hml hE
  have hx := C.1.1
  have hb := C.1.2.1
  have hr := B.returns
  have hlocks := B.notSynchronized
  have hS : va_S (gx_A G) s.heap s.heap [] := va_S.rf
  have hl := lv_entry ([.ref (gx_q G 0), .int a1]) (n := 3) (Nat.le_of_ble_eq_true rfl)
  rw [lg_entry_eq]
  generalize (lg_sl ([.ref (gx_q G 0), .int a1]) ++ List.replicate (3 - (lg_sl ([.ref (gx_q G 0), .int a1])).length) Slot.unset).toArray = ls at hl ⊢
  have hl : lv_has ls 3 [(0, .ref (gx_q G 0)), (1, .int a1)] := hl
  unfold f_X3_unload at hf
  refine lv_aload_n hx hb dX3_unload_0 rfl (lv_at hl 0 rfl) ?_
  refine lv_iload_n hx hb dX3_unload_1 rfl (lv_at hl 1 rfl) ?_
  obtain ⟨r1, hr1, hf⟩ := gx_bnd hf
  refine gx_vR (v := (some (.int r1))) (rest := []) C hH hS 0 (by decide) rfl rfl [.int a1] (t_X3_isEffect l G σ a1 r1  hr1) lk_X3_83 ⟨rfl, rfl, Nat.le_of_ble_eq_true rfl, Nat.le_of_ble_eq_true rfl⟩ ⟨Nat.zero_le _, Nat.zero_le _⟩ hl.1 rfl (Nat.le_of_ble_eq_true rfl) dX3_unload_2 ?_
  refine gx_e0 (st := [.int r1]) ?_ rfl
  refine lv_if_ne (tgt := 10) hx hb dX3_unload_5 (by decide) (fun hc2 => ?_) (fun hc2 => ?_)
  · have hf := gx_neg hc2 hf
    refine lv_aload_n hx hb dX3_unload_10 rfl (lv_at hl 0 rfl) ?_
    refine gx_get C hH 0 (by decide) rfl fl_X3_11 rfl dX3_unload_11 ?_
    refine lv_iload_n hx hb dX3_unload_14 rfl (lv_at hl 1 rfl) ?_
    obtain ⟨hb3, hf⟩ := gx_chk hf
    have hl4 := gx_lt12 hb3
    have hn5 := gx_ne9 hb3
    refine gx_aaldR C hH 1 (by decide) 2 rfl rfl hb3 rfl dX3_unload_15 ?_
    refine gx_get C hH (8 + 3 * a1.toNatClampNeg) (gc_ke hl4) (gc_e _ hl4) fl_X3_135 rfl dX3_unload_16 ?_
    refine lv_topi (fun x6 hx6 => ?_)
    have hf := gx_let hf x6 hx6
    refine lv_istore_n (lv' := [(2, .int x6), (0, .ref (gx_q G 0)), (1, .int a1)]) hx hb dX3_unload_19 rfl hl (by decide) rfl (fun ls hl => ?_)
    refine lv_iload_n hx hb dX3_unload_20 rfl (lv_at hl 0 rfl) ?_
    refine lv_bipush (v := (-9 : Int32)) hx hb dX3_unload_21 (by decide) ?_
    refine lv_icmp_ne (tgt := 29) hx hb dX3_unload_23 (by decide) (fun hc7 => ?_) (fun hc7 => ?_)
    · have hf := gx_neg hc7 hf
      refine lv_aload_n hx hb dX3_unload_29 rfl (lv_at hl 1 rfl) ?_
      refine lv_aload_n hx hb dX3_unload_30 rfl (lv_at hl 1 rfl) ?_
      refine gx_get C hH 0 (by decide) rfl fl_X3_11 rfl dX3_unload_31 ?_
      refine lv_iload_n hx hb dX3_unload_34 rfl (lv_at hl 2 rfl) ?_
      obtain ⟨hb8, hf⟩ := gx_chk hf
      have hl9 := gx_lt12 hb8
      have hn10 := gx_ne9 hb8
      refine gx_aaldR C hH 1 (by decide) 2 rfl rfl hb8 rfl dX3_unload_35 ?_
      obtain ⟨σ11, hr12, hf⟩ := gx_bnd hf
      refine gx_vM (v := none) (rest := []) C hH hS 0 (by decide) rfl rfl [.ref (gx_q G (8 + 3 * a1.toNatClampNeg))] (t_X3_takeOut l G hG σ a1 σ11 hl9 hn10 hr12) lk_X3_98 ⟨rfl, rfl, Nat.le_of_ble_eq_true rfl, Nat.le_of_ble_eq_true rfl⟩ ⟨Nat.zero_le _, Nat.zero_le _⟩ hl.1 rfl (Nat.le_of_ble_eq_true rfl) dX3_unload_36 (fun H locs hH hS => ?_)
      refine gx_e0 (st := []) ?_ rfl
      refine lv_iload_n hx hb dX3_unload_39 rfl (lv_at hl 0 rfl) ?_
      cases hf
      exact gx_iretM C hr hlocks hH hS dX3_unload_40
    · have hf := gx_pos hc7 hf
      refine lv_bipush (v := (-3 : Int32)) hx hb dX3_unload_26 (by decide) ?_
      cases hf
      exact gx_iretM C hr hlocks hH hS dX3_unload_28
  · have hf := gx_pos hc2 hf
    refine lv_iconst (v := (-1 : Int32)) hx hb dX3_unload_8 (by decide) ?_
    cases hf
    exact gx_iretM C hr hlocks hH hS dX3_unload_9
abbrev rm_X3_play : Room := { frames := 3, cells := 0, slots := 0, locals := 72 }
def f_X3_play (σ : gx_St) (a1 : Int32) : Option (Int32 × gx_St) :=
  (f_X3_isEffect σ a1).bind fun r1 =>
  if r1 = 0 then (some ((-1 : Int32), σ)) else (if (σ 0 10) = 0 then (if (a1 < 0 ∨ 12 ≤ a1.toNatClampNeg) then none else
  gx_b2 (f_X3_bringIn σ a1) fun r8 σ7 =>
  if r8 = (-4 : Int32) then (some (r8, σ7)) else (if (a1 < 0 ∨ 12 ≤ a1.toNatClampNeg) then none else
  gx_lt (gx_w2 σ7 (8 + 3 * a1.toNatClampNeg) 8 (σ7 0 7)) fun σ13 =>
  some (r8, σ13))) else (some ((-3 : Int32), σ)))
set_option maxHeartbeats 4000000 in
set_option maxRecDepth 100000 in
theorem t_X3_play (l : Launch) (G : gx_G) (hG : gx_D G 50) (σ : gx_St) (a1 : Int32) (r : Int32) (σ' : gx_St)  (hf : f_X3_play σ a1 = some (r, σ')) : Met l yX3_play (Cond.code yX3_play cX3_play 3 (some .int) :: wT) rm_X3_play (va_Pc [.ref (gx_q G 0), .int a1] (gx_S G 50 (gc_mk G) σ)) (gx_QM G 50 (gc_mk G) (some (.int r)) σ') 0 0 (gx_A G) := by
  refine Met.ofW (cc := cX3_play) (maxL := 3) (ret := (some .int)) (by decide) rfl ?_
  intro p e s m args below meth c s₁ B hml hv
  obtain ⟨rfl, hH, hE⟩ := hv
  have C := gx_C.of (G := G) B hml hE
  have hx := C.1.1
  have hb := C.1.2.1
  have hr := B.returns
  have hlocks := B.notSynchronized
  have hS : va_S (gx_A G) s.heap s.heap [] := va_S.rf
  have hl := lv_entry ([.ref (gx_q G 0), .int a1]) (n := 3) (Nat.le_of_ble_eq_true rfl)
  rw [lg_entry_eq]
  generalize (lg_sl ([.ref (gx_q G 0), .int a1]) ++ List.replicate (3 - (lg_sl ([.ref (gx_q G 0), .int a1])).length) Slot.unset).toArray = ls at hl ⊢
  have hl : lv_has ls 3 [(0, .ref (gx_q G 0)), (1, .int a1)] := hl
  unfold f_X3_play at hf
  refine lv_aload_n hx hb dX3_play_0 rfl (lv_at hl 0 rfl) ?_
  refine lv_iload_n hx hb dX3_play_1 rfl (lv_at hl 1 rfl) ?_
  obtain ⟨r1, hr1, hf⟩ := gx_bnd hf
  refine gx_vR (v := (some (.int r1))) (rest := []) C hH hS 0 (by decide) rfl rfl [.int a1] (t_X3_isEffect l G σ a1 r1  hr1) lk_X3_83 ⟨rfl, rfl, Nat.le_of_ble_eq_true rfl, Nat.le_of_ble_eq_true rfl⟩ ⟨Nat.zero_le _, Nat.zero_le _⟩ hl.1 rfl (Nat.le_of_ble_eq_true rfl) dX3_play_2 ?_
  refine gx_e0 (st := [.int r1]) ?_ rfl
  refine lv_if_ne (tgt := 10) hx hb dX3_play_5 (by decide) (fun hc2 => ?_) (fun hc2 => ?_)
  · have hf := gx_neg hc2 hf
    refine lv_aload_n hx hb dX3_play_10 rfl (lv_at hl 0 rfl) ?_
    refine gx_get C hH 0 (by decide) rfl fl_X3_49 rfl dX3_play_11 ?_
    refine lv_if_eq (tgt := 20) hx hb dX3_play_14 (by decide) (fun hc3 => ?_) (fun hc3 => ?_)
    · have hf := gx_pos hc3 hf
      refine lv_aload_n hx hb dX3_play_20 rfl (lv_at hl 0 rfl) ?_
      refine lv_aload_n hx hb dX3_play_21 rfl (lv_at hl 0 rfl) ?_
      refine gx_get C hH 0 (by decide) rfl fl_X3_11 rfl dX3_play_22 ?_
      refine lv_iload_n hx hb dX3_play_25 rfl (lv_at hl 1 rfl) ?_
      obtain ⟨hb4, hf⟩ := gx_chk hf
      have hl5 := gx_lt12 hb4
      have hn6 := gx_ne9 hb4
      refine gx_aaldR C hH 1 (by decide) 2 rfl rfl hb4 rfl dX3_play_26 ?_
      obtain ⟨r8, σ7, hr8, hf⟩ := gx_bnd2 hf
      refine gx_vM (v := (some (.int r8))) (rest := []) C hH hS 0 (by decide) rfl rfl [.ref (gx_q G (8 + 3 * a1.toNatClampNeg))] (t_X3_bringIn l G hG σ a1 r8 σ7 hl5 hn6 hr8) lk_X3_150 ⟨rfl, rfl, Nat.le_of_ble_eq_true rfl, Nat.le_of_ble_eq_true rfl⟩ ⟨Nat.zero_le _, Nat.zero_le _⟩ hl.1 rfl (Nat.le_of_ble_eq_true rfl) dX3_play_27 (fun H locs hH hS => ?_)
      refine gx_e0 (st := [.int r8]) ?_ rfl
      refine lv_istore_n (lv' := [(2, .int r8), (0, .ref (gx_q G 0)), (1, .int a1)]) hx hb dX3_play_30 rfl hl (by decide) rfl (fun ls hl => ?_)
      refine lv_iload_n hx hb dX3_play_31 rfl (lv_at hl 0 rfl) ?_
      refine lv_bipush (v := (-4 : Int32)) hx hb dX3_play_32 (by decide) ?_
      refine lv_icmp_eq (tgt := 50) hx hb dX3_play_34 (by decide) (fun hc9 => ?_) (fun hc9 => ?_)
      · have hf := gx_pos hc9 hf
        refine lv_iload_n hx hb dX3_play_50 rfl (lv_at hl 0 rfl) ?_
        cases hf
        exact gx_iretM C hr hlocks hH hS dX3_play_51
      · have hf := gx_neg hc9 hf
        refine lv_aload_n hx hb dX3_play_37 rfl (lv_at hl 1 rfl) ?_
        refine gx_get C hH 0 (by decide) rfl fl_X3_11 rfl dX3_play_38 ?_
        refine lv_iload_n hx hb dX3_play_41 rfl (lv_at hl 2 rfl) ?_
        obtain ⟨hb10, hf⟩ := gx_chk hf
        have hl11 := gx_lt12 hb10
        have hn12 := gx_ne9 hb10
        refine gx_aaldR C hH 1 (by decide) 2 rfl rfl hb10 rfl dX3_play_42 ?_
        refine lv_aload_n hx hb dX3_play_43 rfl (lv_at hl 1 rfl) ?_
        refine gx_get C hH 0 (by decide) rfl fl_X3_40 rfl dX3_play_44 ?_
        refine gx_put C hG hH hS (8 + 3 * a1.toNatClampNeg) (gc_ke hl11) (gc_e _ hl11) fl_X3_138 fw_X2_8 (pw_X2_8 hl11 _ _) rfl rfl (Nat.le_of_ble_eq_true rfl) dX3_play_47 (fun H locs σ13 hσ13 hH hS => ?_)
        have hf := gx_let hf σ13 hσ13
        refine lv_iload_n hx hb dX3_play_50 rfl (lv_at hl 0 rfl) ?_
        cases hf
        exact gx_iretM C hr hlocks hH hS dX3_play_51
    · have hf := gx_neg hc3 hf
      refine lv_bipush (v := (-3 : Int32)) hx hb dX3_play_17 (by decide) ?_
      cases hf
      exact gx_iretM C hr hlocks hH hS dX3_play_19
  · have hf := gx_pos hc2 hf
    refine lv_iconst (v := (-1 : Int32)) hx hb dX3_play_8 (by decide) ?_
    cases hf
    exact gx_iretM C hr hlocks hH hS dX3_play_9
abbrev rm_X3_stop : Room := { frames := 1, cells := 0, slots := 0, locals := 23 }
def f_X3_stop (σ : gx_St) (a1 : Int32) : Option (Int32 × gx_St) :=
  (f_X3_isEffect σ a1).bind fun r1 =>
  if r1 = 0 then (some ((-1 : Int32), σ)) else (if (a1 < 0 ∨ 12 ≤ a1.toNatClampNeg) then none else
  (f_X2_playsAt σ a1 (σ (8 + 3 * a1.toNatClampNeg) 8) (σ 0 7)).bind fun r6 =>
  if r6 = 0 then (gx_lt (gx_w2 σ (8 + 3 * a1.toNatClampNeg) 8 (-9 : Int32)) fun σ8 =>
  some ((0 : Int32), σ8)) else (gx_lt (gx_w2 σ (8 + 3 * a1.toNatClampNeg) 8 (-9 : Int32)) fun σ9 =>
  some ((1 : Int32), σ9)))
set_option maxHeartbeats 4000000 in
set_option maxRecDepth 100000 in
theorem t_X3_stop (l : Launch) (G : gx_G) (hG : gx_D G 50) (σ : gx_St) (a1 : Int32) (r : Int32) (σ' : gx_St)  (hf : f_X3_stop σ a1 = some (r, σ')) : Met l yX3_stop (Cond.code yX3_stop cX3_stop 4 (some .int) :: wT) rm_X3_stop (va_Pc [.ref (gx_q G 0), .int a1] (gx_S G 50 (gc_mk G) σ)) (gx_QM G 50 (gc_mk G) (some (.int r)) σ') 0 0 (gx_A G) := by
  refine Met.ofW (cc := cX3_stop) (maxL := 4) (ret := (some .int)) (by decide) rfl ?_
  intro p e s m args below meth c s₁ B hml hv
  obtain ⟨rfl, hH, hE⟩ := hv
  have C := gx_C.of (G := G) B hml hE
  have hx := C.1.1
  have hb := C.1.2.1
  have hr := B.returns
  have hlocks := B.notSynchronized
  have hS : va_S (gx_A G) s.heap s.heap [] := va_S.rf
  have hl := lv_entry ([.ref (gx_q G 0), .int a1]) (n := 4) (Nat.le_of_ble_eq_true rfl)
  rw [lg_entry_eq]
  generalize (lg_sl ([.ref (gx_q G 0), .int a1]) ++ List.replicate (4 - (lg_sl ([.ref (gx_q G 0), .int a1])).length) Slot.unset).toArray = ls at hl ⊢
  have hl : lv_has ls 4 [(0, .ref (gx_q G 0)), (1, .int a1)] := hl
  unfold f_X3_stop at hf
  refine lv_aload_n hx hb dX3_stop_0 rfl (lv_at hl 0 rfl) ?_
  refine lv_iload_n hx hb dX3_stop_1 rfl (lv_at hl 1 rfl) ?_
  obtain ⟨r1, hr1, hf⟩ := gx_bnd hf
  refine gx_vR (v := (some (.int r1))) (rest := []) C hH hS 0 (by decide) rfl rfl [.int a1] (t_X3_isEffect l G σ a1 r1  hr1) lk_X3_83 ⟨rfl, rfl, Nat.le_of_ble_eq_true rfl, Nat.le_of_ble_eq_true rfl⟩ ⟨Nat.zero_le _, Nat.zero_le _⟩ hl.1 rfl (Nat.le_of_ble_eq_true rfl) dX3_stop_2 ?_
  refine gx_e0 (st := [.int r1]) ?_ rfl
  refine lv_if_ne (tgt := 10) hx hb dX3_stop_5 (by decide) (fun hc2 => ?_) (fun hc2 => ?_)
  · have hf := gx_neg hc2 hf
    refine lv_aload_n hx hb dX3_stop_10 rfl (lv_at hl 0 rfl) ?_
    refine gx_get C hH 0 (by decide) rfl fl_X3_11 rfl dX3_stop_11 ?_
    refine lv_iload_n hx hb dX3_stop_14 rfl (lv_at hl 1 rfl) ?_
    obtain ⟨hb3, hf⟩ := gx_chk hf
    have hl4 := gx_lt12 hb3
    have hn5 := gx_ne9 hb3
    refine gx_aaldR C hH 1 (by decide) 2 rfl rfl hb3 rfl dX3_stop_15 ?_
    refine lv_astore_n (lv' := [(2, .ref (gx_q G (8 + 3 * a1.toNatClampNeg))), (0, .ref (gx_q G 0)), (1, .int a1)]) hx hb dX3_stop_16 rfl hl (by decide) rfl (fun ls hl => ?_)
    refine lv_aload_n hx hb dX3_stop_17 rfl (lv_at hl 0 rfl) ?_
    refine lv_aload_n hx hb dX3_stop_18 rfl (lv_at hl 0 rfl) ?_
    refine gx_get C hH (8 + 3 * a1.toNatClampNeg) (gc_ke hl4) (gc_e _ hl4) fl_X3_138 rfl dX3_stop_19 ?_
    refine lv_aload_n hx hb dX3_stop_22 rfl (lv_at hl 1 rfl) ?_
    refine gx_get C hH 0 (by decide) rfl fl_X3_40 rfl dX3_stop_23 ?_
    obtain ⟨r6, hr6, hf⟩ := gx_bnd hf
    refine gx_vR (v := (some (.int r6))) (rest := []) C hH hS (8 + 3 * a1.toNatClampNeg) (gc_ke hl4) (gc_e _ hl4) rfl [.int (σ (8 + 3 * a1.toNatClampNeg) 8), .int (σ 0 7)] (t_X2_playsAt l G σ a1 (σ (8 + 3 * a1.toNatClampNeg) 8) (σ 0 7) r6 hl4 hr6) lk_X3_141 ⟨rfl, rfl, Nat.le_of_ble_eq_true rfl, Nat.le_of_ble_eq_true rfl⟩ ⟨Nat.zero_le _, Nat.zero_le _⟩ hl.1 rfl (Nat.le_of_ble_eq_true rfl) dX3_stop_26 ?_
    refine gx_e0 (st := [.int r6]) ?_ rfl
    refine lv_if_eq (tgt := 36) hx hb dX3_stop_29 (by decide) (fun hc7 => ?_) (fun hc7 => ?_)
    · have hf := gx_pos hc7 hf
      refine lv_iconst (v := (0 : Int32)) hx hb dX3_stop_36 (by decide) ?_
      refine lv_istore_n (lv' := [(3, .int (0 : Int32)), (2, .ref (gx_q G (8 + 3 * a1.toNatClampNeg))), (0, .ref (gx_q G 0)), (1, .int a1)]) hx hb dX3_stop_37 rfl hl (by decide) rfl (fun ls hl => ?_)
      refine lv_aload_n hx hb dX3_stop_38 rfl (lv_at hl 1 rfl) ?_
      refine lv_bipush (v := (-9 : Int32)) hx hb dX3_stop_39 (by decide) ?_
      refine gx_put C hG hH hS (8 + 3 * a1.toNatClampNeg) (gc_ke hl4) (gc_e _ hl4) fl_X3_138 fw_X2_8 (pw_X2_8 hl4 _ _) rfl rfl (Nat.le_of_ble_eq_true rfl) dX3_stop_41 (fun H locs σ8 hσ8 hH hS => ?_)
      have hf := gx_let hf σ8 hσ8
      refine lv_iload_n hx hb dX3_stop_44 rfl (lv_at hl 0 rfl) ?_
      cases hf
      exact gx_iretM C hr hlocks hH hS dX3_stop_45
    · have hf := gx_neg hc7 hf
      refine lv_iconst (v := (1 : Int32)) hx hb dX3_stop_32 (by decide) ?_
      refine lv_goto (tgt := 37) hx hb dX3_stop_33 (by decide) ?_
      refine lv_istore_n (lv' := [(3, .int (1 : Int32)), (2, .ref (gx_q G (8 + 3 * a1.toNatClampNeg))), (0, .ref (gx_q G 0)), (1, .int a1)]) hx hb dX3_stop_37 rfl hl (by decide) rfl (fun ls hl => ?_)
      refine lv_aload_n hx hb dX3_stop_38 rfl (lv_at hl 1 rfl) ?_
      refine lv_bipush (v := (-9 : Int32)) hx hb dX3_stop_39 (by decide) ?_
      refine gx_put C hG hH hS (8 + 3 * a1.toNatClampNeg) (gc_ke hl4) (gc_e _ hl4) fl_X3_138 fw_X2_8 (pw_X2_8 hl4 _ _) rfl rfl (Nat.le_of_ble_eq_true rfl) dX3_stop_41 (fun H locs σ9 hσ9 hH hS => ?_)
      have hf := gx_let hf σ9 hσ9
      refine lv_iload_n hx hb dX3_stop_44 rfl (lv_at hl 0 rfl) ?_
      cases hf
      exact gx_iretM C hr hlocks hH hS dX3_stop_45
  · have hf := gx_pos hc2 hf
    refine lv_iconst (v := (-1 : Int32)) hx hb dX3_stop_8 (by decide) ?_
    cases hf
    exact gx_iretM C hr hlocks hH hS dX3_stop_9
abbrev rm_X3_isButton : Room := { frames := 0, cells := 0, slots := 0, locals := 0 }
def f_X3_isButton (a0 : Int32) : Option Int32 :=
  if a0 < 0 then (some (0 : Int32)) else (if (4 : Int32) ≤ a0 then (some (0 : Int32)) else (some (1 : Int32)))
set_option maxHeartbeats 4000000 in
set_option maxRecDepth 100000 in
theorem t_X3_isButton (l : Launch) (G : gx_G) (σ : gx_St) (a0 : Int32) (r : Int32)  (hf : f_X3_isButton a0 = some r) : Met l yX3_isButton (Cond.code yX3_isButton cX3_isButton 1 (some .boolean) :: wT) rm_X3_isButton (va_Pc [.int a0] (gx_S G 50 (gc_mk G) σ)) (gx_QR (some (.int r))) 0 0 (fun _ => False) := by
  refine Met.ofW (cc := cX3_isButton) (maxL := 1) (ret := (some .boolean)) (by decide) rfl ?_
  intro p e s m args below meth c s₁ B hml hv
  obtain ⟨rfl, hH, hE⟩ := hv
  have C := gx_C.of (G := G) B hml hE
  have hx := C.1.1
  have hb := C.1.2.1
  have hr := B.returns
  have hlocks := B.notSynchronized
  have hS : va_S (gx_A G) s.heap s.heap [] := va_S.rf
  have hl := lv_entry ([.int a0]) (n := 1) (Nat.le_of_ble_eq_true rfl)
  rw [lg_entry_eq]
  generalize (lg_sl ([.int a0]) ++ List.replicate (1 - (lg_sl ([.int a0])).length) Slot.unset).toArray = ls at hl ⊢
  have hl : lv_has ls 1 [(0, .int a0)] := hl
  unfold f_X3_isButton at hf
  refine lv_iload_n hx hb dX3_isButton_0 rfl (lv_at hl 0 rfl) ?_
  refine lv_if_lt (tgt := 13) hx hb dX3_isButton_1 (by decide) (fun hc1 => ?_) (fun hc1 => ?_)
  · have hf := gx_pos hc1 hf
    refine lv_iconst (v := (0 : Int32)) hx hb dX3_isButton_13 (by decide) ?_
    obtain rfl := Option.some.inj hf
    exact gx_zretR C hr hlocks (by decide) dX3_isButton_14
  · have hf := gx_neg hc1 hf
    refine lv_iload_n hx hb dX3_isButton_4 rfl (lv_at hl 0 rfl) ?_
    refine lv_iconst (v := (4 : Int32)) hx hb dX3_isButton_5 (by decide) ?_
    refine lv_icmp_ge (tgt := 13) hx hb dX3_isButton_6 (by decide) (fun hc2 => ?_) (fun hc2 => ?_)
    · have hf := gx_pos hc2 hf
      refine lv_iconst (v := (0 : Int32)) hx hb dX3_isButton_13 (by decide) ?_
      obtain rfl := Option.some.inj hf
      exact gx_zretR C hr hlocks (by decide) dX3_isButton_14
    · have hf := gx_neg hc2 hf
      refine lv_iconst (v := (1 : Int32)) hx hb dX3_isButton_9 (by decide) ?_
      refine lv_goto (tgt := 14) hx hb dX3_isButton_10 (by decide) ?_
      obtain rfl := Option.some.inj hf
      exact gx_zretR C hr hlocks (by decide) dX3_isButton_14
abbrev rm_X3_press : Room := { frames := 1, cells := 0, slots := 0, locals := 20 }
def fL_X3_press_58 : Nat → gx_St → Int32 → Int32 → Int32 → Option (Int32 × gx_St)
  | 0, _, _, _, _ => none
  | N + 1, σ, v1, v2, v3 =>
    if (6 : Int32) ≤ v3 then (some (v2, σ)) else (if (v3 < 0 ∨ 6 ≤ v3.toNatClampNeg) then none else
    gx_lt (σ 2 v3.toNatClampNeg) fun e18 =>
    if e18 = -9 then (gx_lt (v3 + (1 : Int32)) fun x21 =>
    fL_X3_press_58 N σ v1 v2 x21) else if 12 ≤ e18.toNatClampNeg then none else (if (σ (8 + 3 * e18.toNatClampNeg + 1) 10) = v1 then (gx_lt (gx_w2 σ (8 + 3 * e18.toNatClampNeg) 8 (σ 0 7)) fun σ24 =>
    if (v1 < 0 ∨ 4 ≤ v1.toNatClampNeg) then none else
    gx_lt (gx_w2 σ24 (8 + 3 * e18.toNatClampNeg + 2) v1.toNatClampNeg (σ24 (8 + 3 * e18.toNatClampNeg + 1) 11)) fun σ26 =>
    gx_lt (v2 + (1 : Int32)) fun x27 =>
    gx_lt (v3 + (1 : Int32)) fun x28 =>
    fL_X3_press_58 N σ26 v1 x27 x28) else (gx_lt (v3 + (1 : Int32)) fun x23 =>
    fL_X3_press_58 N σ v1 v2 x23)))
set_option maxHeartbeats 4000000 in
set_option maxRecDepth 100000 in
theorem w_X3_press_58 {p : Program} {l : Launch} {e : Env} {s : State} {m : MethodId} {args : Array Value} {below : List Frame} {meth : Method} {c : Code} (G : gx_G) (hG : gx_D G 50) (C : gx_C p m c cX3_press 5 s args RX3 G) (hr : meth.sig.returnType = (some .int)) (hlocks : meth.locks = false) : ∀ (N : Nat) (σ : gx_St) (v1 v2 v3 : Int32)  (z : (Int32 × gx_St)), fL_X3_press_58 N σ v1 v2 v3 = some z → ∀ (H : Heap) (locs : List Loc) (ls : Array Slot), gx_H G 50 (gc_mk G) σ H → va_S (gx_A G) s.heap H locs → lv_has ls 5 [(0, .ref (gx_q G 0)), (1, .int v1), (2, .int v2), (3, .int v3)] → W p l e rm_X3_press s m args below meth c H locs 0 0 (MQ below (gx_QM G 50 (gc_mk G) (some (.int z.1)) z.2) args s 0 0 (gx_A G)) (F0 m 58 ls []) := by
  have hx := C.1.1
  have hb := C.1.2.1
  intro N
  induction N with
  | zero =>
    intro σ v1 v2 v3  z hf H locs ls hH hS hl
    cases (show (none : Option (Int32 × gx_St)) = some z from hf)
  | succ N ih =>
    intro σ v1 v2 v3  z hf H locs ls hH hS hl
    rw [fL_X3_press_58] at hf
    refine lv_iload_n hx hb dX3_press_58 rfl (lv_at hl 3 rfl) ?_
    refine lv_bipush (v := (6 : Int32)) hx hb dX3_press_59 (by decide) ?_
    refine lv_icmp_ge (tgt := 122) hx hb dX3_press_61 (by decide) (fun hc16 => ?_) (fun hc16 => ?_)
    · have hf := gx_pos hc16 hf
      refine lv_iload_n hx hb dX3_press_122 rfl (lv_at hl 2 rfl) ?_
      cases hf
      exact gx_iretM C hr hlocks hH hS dX3_press_123
    · have hf := gx_neg hc16 hf
      refine lv_aload_n hx hb dX3_press_64 rfl (lv_at hl 0 rfl) ?_
      refine gx_get C hH 0 (by decide) rfl fl_X3_19 rfl dX3_press_65 ?_
      refine lv_iload_n hx hb dX3_press_68 rfl (lv_at hl 3 rfl) ?_
      obtain ⟨hb17, hf⟩ := gx_chk hf
      obtain ⟨e18, he18⟩ : ∃ z : Int32, z = (σ 2 v3.toNatClampNeg) := ⟨_, rfl⟩
      have hf := gx_let hf e18 he18
      by_cases hn19 : e18 = -9
      · have hf := gx_pos hn19 hf
        refine gx_aaldN C hH 2 (by decide) 2 rfl rfl hb17 (gx_rf_n (he18.symm.trans hn19)) dX3_press_69 ?_
        refine lv_astoreN (lv' := [(4, .null), (0, .ref (gx_q G 0)), (1, .int v1), (2, .int v2), (3, .int v3)]) hx hb dX3_press_70 hl (by decide) rfl (fun ls hl => ?_)
        refine lv_aloadN hx hb dX3_press_72 (lv_at hl 0 rfl) ?_
        refine lv_ifnullN (tgt := 116) hx hb dX3_press_74 (by decide) ?_
        obtain ⟨x21, hx21⟩ : ∃ z : Int32, z = (v3 + (1 : Int32)) := ⟨_, rfl⟩
        have hf := gx_let hf x21 hx21
        refine lv_iinc (v := x21) (lv' := [(3, .int x21), (4, .null), (0, .ref (gx_q G 0)), (1, .int v1), (2, .int v2)]) hx hb dX3_press_116 hl (k := 4) rfl (by rw [hx21]; rfl) (by decide) rfl (fun ls hl => ?_)
        refine lv_goto (tgt := 58) hx hb dX3_press_119 (by decide) ?_
        exact ih σ v1 v2 x21  _ hf _ _ ls hH hS (lv_sub hl [2, 3, 4, 0] rfl)
      · have hf := gx_neg hn19 hf
        obtain ⟨hl20, hf⟩ := gx_chk hf
        have hl20 := Nat.not_le.mp hl20
        refine gx_aaldR C hH 2 (by decide) 2 rfl rfl hb17 (gx_rfe he18 hn19) dX3_press_69 ?_
        refine lv_astore (lv' := [(4, .ref (gx_q G (8 + 3 * e18.toNatClampNeg))), (0, .ref (gx_q G 0)), (1, .int v1), (2, .int v2), (3, .int v3)]) hx hb dX3_press_70 hl (by decide) rfl (fun ls hl => ?_)
        refine lv_aload hx hb dX3_press_72 (lv_at hl 0 rfl) ?_
        refine lv_ifnull hx hb dX3_press_74 ?_
        refine lv_aload hx hb dX3_press_77 (lv_at hl 0 rfl) ?_
        refine gx_get C hH (8 + 3 * e18.toNatClampNeg) (gc_ke hl20) (gc_e _ hl20) fl_X3_95 rfl dX3_press_79 ?_
        refine lv_bipush (v := (10 : Int32)) hx hb dX3_press_82 (by decide) ?_
        refine gx_ialdL C hH (8 + 3 * e18.toNatClampNeg + 1) (gc_kn hl20) (gc_n _ hl20) 10 (by decide) dX3_press_84 ?_
        refine lv_iload_n hx hb dX3_press_85 rfl (lv_at hl 2 rfl) ?_
        refine lv_icmp_ne (tgt := 116) hx hb dX3_press_86 (by decide) (fun hc22 => ?_) (fun hc22 => ?_)
        · have hf := gx_neg hc22 hf
          obtain ⟨x23, hx23⟩ : ∃ z : Int32, z = (v3 + (1 : Int32)) := ⟨_, rfl⟩
          have hf := gx_let hf x23 hx23
          refine lv_iinc (v := x23) (lv' := [(3, .int x23), (4, .ref (gx_q G (8 + 3 * e18.toNatClampNeg))), (0, .ref (gx_q G 0)), (1, .int v1), (2, .int v2)]) hx hb dX3_press_116 hl (k := 4) rfl (by rw [hx23]; rfl) (by decide) rfl (fun ls hl => ?_)
          refine lv_goto (tgt := 58) hx hb dX3_press_119 (by decide) ?_
          exact ih σ v1 v2 x23  _ hf _ _ ls hH hS (lv_sub hl [2, 3, 4, 0] rfl)
        · have hf := gx_pos hc22 hf
          refine lv_aload hx hb dX3_press_89 (lv_at hl 0 rfl) ?_
          refine lv_aload_n hx hb dX3_press_91 rfl (lv_at hl 1 rfl) ?_
          refine gx_get C hH 0 (by decide) rfl fl_X3_40 rfl dX3_press_92 ?_
          refine gx_put C hG hH hS (8 + 3 * e18.toNatClampNeg) (gc_ke hl20) (gc_e _ hl20) fl_X3_138 fw_X2_8 (pw_X2_8 hl20 _ _) rfl rfl (Nat.le_of_ble_eq_true rfl) dX3_press_95 (fun H locs σ24 hσ24 hH hS => ?_)
          have hf := gx_let hf σ24 hσ24
          refine lv_aload hx hb dX3_press_98 (lv_at hl 0 rfl) ?_
          refine gx_get C hH (8 + 3 * e18.toNatClampNeg) (gc_ke hl20) (gc_e _ hl20) fl_X3_163 rfl dX3_press_100 ?_
          refine lv_iload_n hx hb dX3_press_103 rfl (lv_at hl 2 rfl) ?_
          refine lv_aload hx hb dX3_press_104 (lv_at hl 0 rfl) ?_
          refine gx_get C hH (8 + 3 * e18.toNatClampNeg) (gc_ke hl20) (gc_e _ hl20) fl_X3_95 rfl dX3_press_106 ?_
          refine lv_bipush (v := (11 : Int32)) hx hb dX3_press_109 (by decide) ?_
          refine gx_ialdL C hH (8 + 3 * e18.toNatClampNeg + 1) (gc_kn hl20) (gc_n _ hl20) 11 (by decide) dX3_press_111 ?_
          obtain ⟨hb25, hf⟩ := gx_chk hf
          refine gx_iast C hG hH hS (8 + 3 * e18.toNatClampNeg + 2) (gc_kb hl20) (fun r => gc_b r hl20) hb25 dX3_press_112 (fun H locs σ26 hσ26 hH hS => ?_)
          have hf := gx_let hf σ26 hσ26
          obtain ⟨x27, hx27⟩ : ∃ z : Int32, z = (v2 + (1 : Int32)) := ⟨_, rfl⟩
          have hf := gx_let hf x27 hx27
          refine lv_iinc (v := x27) (lv' := [(2, .int x27), (4, .ref (gx_q G (8 + 3 * e18.toNatClampNeg))), (0, .ref (gx_q G 0)), (1, .int v1), (3, .int v3)]) hx hb dX3_press_113 hl (k := 3) rfl (by rw [hx27]; rfl) (by decide) rfl (fun ls hl => ?_)
          obtain ⟨x28, hx28⟩ : ∃ z : Int32, z = (v3 + (1 : Int32)) := ⟨_, rfl⟩
          have hf := gx_let hf x28 hx28
          refine lv_iinc (v := x28) (lv' := [(3, .int x28), (2, .int x27), (4, .ref (gx_q G (8 + 3 * e18.toNatClampNeg))), (0, .ref (gx_q G 0)), (1, .int v1)]) hx hb dX3_press_116 hl (k := 4) rfl (by rw [hx28]; rfl) (by decide) rfl (fun ls hl => ?_)
          refine lv_goto (tgt := 58) hx hb dX3_press_119 (by decide) ?_
          exact ih σ26 v1 x27 x28  _ hf _ _ ls hH hS (lv_sub hl [3, 4, 1, 0] rfl)
def f_X3_press (σ : gx_St) (a1 : Int32) : Option (Int32 × gx_St) :=
  (f_X3_isButton a1).bind fun r1 =>
  if r1 = 0 then (some ((-1 : Int32), σ)) else (if (a1 < 0 ∨ 4 ≤ a1.toNatClampNeg) then none else
  if (σ (46 + 1 * a1.toNatClampNeg) 0) = 0 then (if (σ 0 10) = 0 then (if (a1 < 0 ∨ 4 ≤ a1.toNatClampNeg) then none else
  gx_lt (gx_w2 σ (46 + 1 * a1.toNatClampNeg) 0 (1 : Int32)) fun σ11 =>
  if (a1 < 0 ∨ 4 ≤ a1.toNatClampNeg) then none else
  gx_lt (gx_w2 σ11 (46 + 1 * a1.toNatClampNeg) 1 (σ11 0 7)) fun σ15 =>
  fL_X3_press_58 7 σ15 a1 (0 : Int32) (0 : Int32)) else (some ((-3 : Int32), σ))) else (some ((-3 : Int32), σ)))
set_option maxHeartbeats 4000000 in
set_option maxRecDepth 100000 in
theorem t_X3_press (l : Launch) (G : gx_G) (hG : gx_D G 50) (σ : gx_St) (a1 : Int32) (r : Int32) (σ' : gx_St)  (hf : f_X3_press σ a1 = some (r, σ')) : Met l yX3_press (Cond.code yX3_press cX3_press 5 (some .int) :: wT) rm_X3_press (va_Pc [.ref (gx_q G 0), .int a1] (gx_S G 50 (gc_mk G) σ)) (gx_QM G 50 (gc_mk G) (some (.int r)) σ') 0 0 (gx_A G) := by
  refine Met.ofW (cc := cX3_press) (maxL := 5) (ret := (some .int)) (by decide) rfl ?_
  intro p e s m args below meth c s₁ B hml hv
  obtain ⟨rfl, hH, hE⟩ := hv
  have C := gx_C.of (G := G) B hml hE
  have hx := C.1.1
  have hb := C.1.2.1
  have hr := B.returns
  have hlocks := B.notSynchronized
  have hS : va_S (gx_A G) s.heap s.heap [] := va_S.rf
  have hl := lv_entry ([.ref (gx_q G 0), .int a1]) (n := 5) (Nat.le_of_ble_eq_true rfl)
  rw [lg_entry_eq]
  generalize (lg_sl ([.ref (gx_q G 0), .int a1]) ++ List.replicate (5 - (lg_sl ([.ref (gx_q G 0), .int a1])).length) Slot.unset).toArray = ls at hl ⊢
  have hl : lv_has ls 5 [(0, .ref (gx_q G 0)), (1, .int a1)] := hl
  unfold f_X3_press at hf
  refine lv_iload_n hx hb dX3_press_0 rfl (lv_at hl 1 rfl) ?_
  obtain ⟨r1, hr1, hf⟩ := gx_bnd hf
  refine gx_sR (v := (some (.int r1))) (rest := []) C hH hS [.int a1] (t_X3_isButton l G σ a1 r1  hr1) lk_X3_154 ⟨rfl, rfl, Nat.le_of_ble_eq_true rfl, Nat.le_of_ble_eq_true rfl⟩ ⟨Nat.zero_le _, Nat.zero_le _⟩ hl.1 rfl (Nat.le_of_ble_eq_true rfl) dX3_press_1 ?_
  refine gx_e0 (st := [.int r1]) ?_ rfl
  refine lv_if_ne (tgt := 9) hx hb dX3_press_4 (by decide) (fun hc2 => ?_) (fun hc2 => ?_)
  · have hf := gx_neg hc2 hf
    refine lv_aload_n hx hb dX3_press_9 rfl (lv_at hl 0 rfl) ?_
    refine gx_get C hH 0 (by decide) rfl fl_X3_36 rfl dX3_press_10 ?_
    refine lv_iload_n hx hb dX3_press_13 rfl (lv_at hl 1 rfl) ?_
    obtain ⟨hb3, hf⟩ := gx_chk hf
    have hl4 := gx_lt12 hb3
    have hn5 := gx_ne9 hb3
    refine gx_aaldR C hH 4 (by decide) 4 rfl rfl hb3 rfl dX3_press_14 ?_
    refine gx_get C hH (46 + 1 * a1.toNatClampNeg) (gc_ku hl4) (gc_u _ hl4) fl_X3_157 rfl dX3_press_15 ?_
    refine lv_if_ne (tgt := 28) hx hb dX3_press_18 (by decide) (fun hc6 => ?_) (fun hc6 => ?_)
    · have hf := gx_neg hc6 hf
      refine lv_bipush (v := (-3 : Int32)) hx hb dX3_press_28 (by decide) ?_
      cases hf
      exact gx_iretM C hr hlocks hH hS dX3_press_30
    · have hf := gx_pos hc6 hf
      refine lv_aload_n hx hb dX3_press_21 rfl (lv_at hl 0 rfl) ?_
      refine gx_get C hH 0 (by decide) rfl fl_X3_49 rfl dX3_press_22 ?_
      refine lv_if_eq (tgt := 31) hx hb dX3_press_25 (by decide) (fun hc7 => ?_) (fun hc7 => ?_)
      · have hf := gx_pos hc7 hf
        refine lv_aload_n hx hb dX3_press_31 rfl (lv_at hl 0 rfl) ?_
        refine gx_get C hH 0 (by decide) rfl fl_X3_36 rfl dX3_press_32 ?_
        refine lv_iload_n hx hb dX3_press_35 rfl (lv_at hl 1 rfl) ?_
        obtain ⟨hb8, hf⟩ := gx_chk hf
        have hl9 := gx_lt12 hb8
        have hn10 := gx_ne9 hb8
        refine gx_aaldR C hH 4 (by decide) 4 rfl rfl hb8 rfl dX3_press_36 ?_
        refine lv_iconst (v := (1 : Int32)) hx hb dX3_press_37 (by decide) ?_
        refine gx_put C hG hH hS (46 + 1 * a1.toNatClampNeg) (gc_ku hl9) (gc_u _ hl9) fl_X3_157 fw_X1_0 (pw_X1_0 hl9 _ _) rfl rfl (Nat.le_of_ble_eq_true rfl) dX3_press_38 (fun H locs σ11 hσ11 hH hS => ?_)
        have hf := gx_let hf σ11 hσ11
        refine lv_aload_n hx hb dX3_press_41 rfl (lv_at hl 0 rfl) ?_
        refine gx_get C hH 0 (by decide) rfl fl_X3_36 rfl dX3_press_42 ?_
        refine lv_iload_n hx hb dX3_press_45 rfl (lv_at hl 1 rfl) ?_
        obtain ⟨hb12, hf⟩ := gx_chk hf
        have hl13 := gx_lt12 hb12
        have hn14 := gx_ne9 hb12
        refine gx_aaldR C hH 4 (by decide) 4 rfl rfl hb12 rfl dX3_press_46 ?_
        refine lv_aload_n hx hb dX3_press_47 rfl (lv_at hl 0 rfl) ?_
        refine gx_get C hH 0 (by decide) rfl fl_X3_40 rfl dX3_press_48 ?_
        refine gx_put C hG hH hS (46 + 1 * a1.toNatClampNeg) (gc_ku hl13) (gc_u _ hl13) fl_X3_160 fw_X1_1 (pw_X1_1 hl13 _ _) rfl rfl (Nat.le_of_ble_eq_true rfl) dX3_press_51 (fun H locs σ15 hσ15 hH hS => ?_)
        have hf := gx_let hf σ15 hσ15
        refine lv_iconst (v := (0 : Int32)) hx hb dX3_press_54 (by decide) ?_
        refine lv_istore_n (lv' := [(2, .int (0 : Int32)), (0, .ref (gx_q G 0)), (1, .int a1)]) hx hb dX3_press_55 rfl hl (by decide) rfl (fun ls hl => ?_)
        refine lv_iconst (v := (0 : Int32)) hx hb dX3_press_56 (by decide) ?_
        refine lv_istore_n (lv' := [(3, .int (0 : Int32)), (2, .int (0 : Int32)), (0, .ref (gx_q G 0)), (1, .int a1)]) hx hb dX3_press_57 rfl hl (by decide) rfl (fun ls hl => ?_)
        exact w_X3_press_58 (l := l) G hG C hr hlocks 7 σ15 a1 (0 : Int32) (0 : Int32)  _ hf _ _ ls hH hS (lv_sub hl [2, 3, 1, 0] rfl)
      · have hf := gx_neg hc7 hf
        refine lv_bipush (v := (-3 : Int32)) hx hb dX3_press_28 (by decide) ?_
        cases hf
        exact gx_iretM C hr hlocks hH hS dX3_press_30
  · have hf := gx_pos hc2 hf
    refine lv_iconst (v := (-1 : Int32)) hx hb dX3_press_7 (by decide) ?_
    cases hf
    exact gx_iretM C hr hlocks hH hS dX3_press_8
abbrev rm_X3_letGo : Room := { frames := 0, cells := 0, slots := 0, locals := 0 }
def fL_X3_letGo_12 : Nat → gx_St → Int32 → Int32 → Option gx_St
  | 0, _, _, _ => none
  | N + 1, σ, v1, v2 =>
    if (12 : Int32) ≤ v2 then (some σ) else (if (v2 < 0 ∨ 12 ≤ v2.toNatClampNeg) then none else
    if (v1 < 0 ∨ 4 ≤ v1.toNatClampNeg) then none else
    gx_lt (gx_w2 σ (8 + 3 * v2.toNatClampNeg + 2) v1.toNatClampNeg (0 : Int32)) fun σ10 =>
    gx_lt (v2 + (1 : Int32)) fun x11 =>
    fL_X3_letGo_12 N σ10 v1 x11)
set_option maxHeartbeats 4000000 in
set_option maxRecDepth 100000 in
theorem w_X3_letGo_12 {p : Program} {l : Launch} {e : Env} {s : State} {m : MethodId} {args : Array Value} {below : List Frame} {meth : Method} {c : Code} (G : gx_G) (hG : gx_D G 50) (C : gx_C p m c cX3_letGo 3 s args RX3 G) (hr : meth.sig.returnType = none) (hlocks : meth.locks = false) : ∀ (N : Nat) (σ : gx_St) (v1 v2 : Int32)  (z : gx_St), fL_X3_letGo_12 N σ v1 v2 = some z → ∀ (H : Heap) (locs : List Loc) (ls : Array Slot), gx_H G 50 (gc_mk G) σ H → va_S (gx_A G) s.heap H locs → lv_has ls 3 [(0, .ref (gx_q G 0)), (1, .int v1), (2, .int v2)] → W p l e rm_X3_letGo s m args below meth c H locs 0 0 (MQ below (gx_QM G 50 (gc_mk G) none z) args s 0 0 (gx_A G)) (F0 m 12 ls []) := by
  have hx := C.1.1
  have hb := C.1.2.1
  intro N
  induction N with
  | zero =>
    intro σ v1 v2  z hf H locs ls hH hS hl
    cases (show (none : Option gx_St) = some z from hf)
  | succ N ih =>
    intro σ v1 v2  z hf H locs ls hH hS hl
    rw [fL_X3_letGo_12] at hf
    refine lv_iload_n hx hb dX3_letGo_12 rfl (lv_at hl 2 rfl) ?_
    refine lv_bipush (v := (12 : Int32)) hx hb dX3_letGo_13 (by decide) ?_
    refine lv_icmp_ge (tgt := 36) hx hb dX3_letGo_15 (by decide) (fun hc5 => ?_) (fun hc5 => ?_)
    · have hf := gx_pos hc5 hf
      cases hf
      exact gx_vretM C hr hlocks hH hS dX3_letGo_36
    · have hf := gx_neg hc5 hf
      refine lv_aload_n hx hb dX3_letGo_18 rfl (lv_at hl 0 rfl) ?_
      refine gx_get C hH 0 (by decide) rfl fl_X3_11 rfl dX3_letGo_19 ?_
      refine lv_iload_n hx hb dX3_letGo_22 rfl (lv_at hl 2 rfl) ?_
      obtain ⟨hb6, hf⟩ := gx_chk hf
      have hl7 := gx_lt12 hb6
      have hn8 := gx_ne9 hb6
      refine gx_aaldR C hH 1 (by decide) 2 rfl rfl hb6 rfl dX3_letGo_23 ?_
      refine gx_get C hH (8 + 3 * v2.toNatClampNeg) (gc_ke hl7) (gc_e _ hl7) fl_X3_163 rfl dX3_letGo_24 ?_
      refine lv_iload_n hx hb dX3_letGo_27 rfl (lv_at hl 1 rfl) ?_
      refine lv_iconst (v := (0 : Int32)) hx hb dX3_letGo_28 (by decide) ?_
      obtain ⟨hb9, hf⟩ := gx_chk hf
      refine gx_iast C hG hH hS (8 + 3 * v2.toNatClampNeg + 2) (gc_kb hl7) (fun r => gc_b r hl7) hb9 dX3_letGo_29 (fun H locs σ10 hσ10 hH hS => ?_)
      have hf := gx_let hf σ10 hσ10
      obtain ⟨x11, hx11⟩ : ∃ z : Int32, z = (v2 + (1 : Int32)) := ⟨_, rfl⟩
      have hf := gx_let hf x11 hx11
      refine lv_iinc (v := x11) (lv' := [(2, .int x11), (0, .ref (gx_q G 0)), (1, .int v1)]) hx hb dX3_letGo_30 hl (k := 2) rfl (by rw [hx11]; rfl) (by decide) rfl (fun ls hl => ?_)
      refine lv_goto (tgt := 12) hx hb dX3_letGo_33 (by decide) ?_
      exact ih σ10 v1 x11  _ hf _ _ ls hH hS (lv_sub hl [1, 2, 0] rfl)
def f_X3_letGo (σ : gx_St) (a1 : Int32) : Option gx_St :=
  if (a1 < 0 ∨ 4 ≤ a1.toNatClampNeg) then none else
  gx_lt (gx_w2 σ (46 + 1 * a1.toNatClampNeg) 0 (0 : Int32)) fun σ4 =>
  fL_X3_letGo_12 13 σ4 a1 (0 : Int32)
set_option maxHeartbeats 4000000 in
set_option maxRecDepth 100000 in
theorem t_X3_letGo (l : Launch) (G : gx_G) (hG : gx_D G 50) (σ : gx_St) (a1 : Int32) (σ' : gx_St)  (hf : f_X3_letGo σ a1 = some σ') : Met l yX3_letGo (Cond.code yX3_letGo cX3_letGo 3 none :: wT) rm_X3_letGo (va_Pc [.ref (gx_q G 0), .int a1] (gx_S G 50 (gc_mk G) σ)) (gx_QM G 50 (gc_mk G) none σ') 0 0 (gx_A G) := by
  refine Met.ofW (cc := cX3_letGo) (maxL := 3) (ret := none) (by decide) rfl ?_
  intro p e s m args below meth c s₁ B hml hv
  obtain ⟨rfl, hH, hE⟩ := hv
  have C := gx_C.of (G := G) B hml hE
  have hx := C.1.1
  have hb := C.1.2.1
  have hr := B.returns
  have hlocks := B.notSynchronized
  have hS : va_S (gx_A G) s.heap s.heap [] := va_S.rf
  have hl := lv_entry ([.ref (gx_q G 0), .int a1]) (n := 3) (Nat.le_of_ble_eq_true rfl)
  rw [lg_entry_eq]
  generalize (lg_sl ([.ref (gx_q G 0), .int a1]) ++ List.replicate (3 - (lg_sl ([.ref (gx_q G 0), .int a1])).length) Slot.unset).toArray = ls at hl ⊢
  have hl : lv_has ls 3 [(0, .ref (gx_q G 0)), (1, .int a1)] := hl
  unfold f_X3_letGo at hf
  refine lv_aload_n hx hb dX3_letGo_0 rfl (lv_at hl 0 rfl) ?_
  refine gx_get C hH 0 (by decide) rfl fl_X3_36 rfl dX3_letGo_1 ?_
  refine lv_iload_n hx hb dX3_letGo_4 rfl (lv_at hl 1 rfl) ?_
  obtain ⟨hb1, hf⟩ := gx_chk hf
  have hl2 := gx_lt12 hb1
  have hn3 := gx_ne9 hb1
  refine gx_aaldR C hH 4 (by decide) 4 rfl rfl hb1 rfl dX3_letGo_5 ?_
  refine lv_iconst (v := (0 : Int32)) hx hb dX3_letGo_6 (by decide) ?_
  refine gx_put C hG hH hS (46 + 1 * a1.toNatClampNeg) (gc_ku hl2) (gc_u _ hl2) fl_X3_157 fw_X1_0 (pw_X1_0 hl2 _ _) rfl rfl (Nat.le_of_ble_eq_true rfl) dX3_letGo_7 (fun H locs σ4 hσ4 hH hS => ?_)
  have hf := gx_let hf σ4 hσ4
  refine lv_iconst (v := (0 : Int32)) hx hb dX3_letGo_10 (by decide) ?_
  refine lv_istore_n (lv' := [(2, .int (0 : Int32)), (0, .ref (gx_q G 0)), (1, .int a1)]) hx hb dX3_letGo_11 rfl hl (by decide) rfl (fun ls hl => ?_)
  exact w_X3_letGo_12 (l := l) G hG C hr hlocks 13 σ4 a1 (0 : Int32)  _ hf _ _ ls hH hS (lv_sub hl [1, 2, 0] rfl)
abbrev rm_X3_free : Room := { frames := 1, cells := 0, slots := 0, locals := 22 }
def f_X3_free (σ : gx_St) (a1 : Int32) : Option (Int32 × gx_St) :=
  (f_X3_isButton a1).bind fun r1 =>
  if r1 = 0 then (some ((-1 : Int32), σ)) else (if (a1 < 0 ∨ 4 ≤ a1.toNatClampNeg) then none else
  if (σ (46 + 1 * a1.toNatClampNeg) 0) = 0 then (some ((-3 : Int32), σ)) else ((f_X3_letGo σ a1).bind fun σ7 =>
  if (a1 < 0 ∨ 4 ≤ a1.toNatClampNeg) then none else
  some (((σ7 0 7) - (σ7 (46 + 1 * a1.toNatClampNeg) 1)), σ7)))
set_option maxHeartbeats 4000000 in
set_option maxRecDepth 100000 in
theorem t_X3_free (l : Launch) (G : gx_G) (hG : gx_D G 50) (σ : gx_St) (a1 : Int32) (r : Int32) (σ' : gx_St)  (hf : f_X3_free σ a1 = some (r, σ')) : Met l yX3_free (Cond.code yX3_free cX3_free 2 (some .int) :: wT) rm_X3_free (va_Pc [.ref (gx_q G 0), .int a1] (gx_S G 50 (gc_mk G) σ)) (gx_QM G 50 (gc_mk G) (some (.int r)) σ') 0 0 (gx_A G) := by
  refine Met.ofW (cc := cX3_free) (maxL := 2) (ret := (some .int)) (by decide) rfl ?_
  intro p e s m args below meth c s₁ B hml hv
  obtain ⟨rfl, hH, hE⟩ := hv
  have C := gx_C.of (G := G) B hml hE
  have hx := C.1.1
  have hb := C.1.2.1
  have hr := B.returns
  have hlocks := B.notSynchronized
  have hS : va_S (gx_A G) s.heap s.heap [] := va_S.rf
  have hl := lv_entry ([.ref (gx_q G 0), .int a1]) (n := 2) (Nat.le_of_ble_eq_true rfl)
  rw [lg_entry_eq]
  generalize (lg_sl ([.ref (gx_q G 0), .int a1]) ++ List.replicate (2 - (lg_sl ([.ref (gx_q G 0), .int a1])).length) Slot.unset).toArray = ls at hl ⊢
  have hl : lv_has ls 2 [(0, .ref (gx_q G 0)), (1, .int a1)] := hl
  unfold f_X3_free at hf
  refine lv_iload_n hx hb dX3_free_0 rfl (lv_at hl 1 rfl) ?_
  obtain ⟨r1, hr1, hf⟩ := gx_bnd hf
  refine gx_sR (v := (some (.int r1))) (rest := []) C hH hS [.int a1] (t_X3_isButton l G σ a1 r1  hr1) lk_X3_154 ⟨rfl, rfl, Nat.le_of_ble_eq_true rfl, Nat.le_of_ble_eq_true rfl⟩ ⟨Nat.zero_le _, Nat.zero_le _⟩ hl.1 rfl (Nat.le_of_ble_eq_true rfl) dX3_free_1 ?_
  refine gx_e0 (st := [.int r1]) ?_ rfl
  refine lv_if_ne (tgt := 9) hx hb dX3_free_4 (by decide) (fun hc2 => ?_) (fun hc2 => ?_)
  · have hf := gx_neg hc2 hf
    refine lv_aload_n hx hb dX3_free_9 rfl (lv_at hl 0 rfl) ?_
    refine gx_get C hH 0 (by decide) rfl fl_X3_36 rfl dX3_free_10 ?_
    refine lv_iload_n hx hb dX3_free_13 rfl (lv_at hl 1 rfl) ?_
    obtain ⟨hb3, hf⟩ := gx_chk hf
    have hl4 := gx_lt12 hb3
    have hn5 := gx_ne9 hb3
    refine gx_aaldR C hH 4 (by decide) 4 rfl rfl hb3 rfl dX3_free_14 ?_
    refine gx_get C hH (46 + 1 * a1.toNatClampNeg) (gc_ku hl4) (gc_u _ hl4) fl_X3_157 rfl dX3_free_15 ?_
    refine lv_if_ne (tgt := 24) hx hb dX3_free_18 (by decide) (fun hc6 => ?_) (fun hc6 => ?_)
    · have hf := gx_neg hc6 hf
      refine lv_aload_n hx hb dX3_free_24 rfl (lv_at hl 0 rfl) ?_
      refine lv_iload_n hx hb dX3_free_25 rfl (lv_at hl 1 rfl) ?_
      obtain ⟨σ7, hr8, hf⟩ := gx_bnd hf
      refine gx_vM (v := none) (rest := []) C hH hS 0 (by decide) rfl rfl [.int a1] (t_X3_letGo l G hG σ a1 σ7  hr8) lk_X3_166 ⟨rfl, rfl, Nat.le_of_ble_eq_true rfl, Nat.le_of_ble_eq_true rfl⟩ ⟨Nat.zero_le _, Nat.zero_le _⟩ hl.1 rfl (Nat.le_of_ble_eq_true rfl) dX3_free_26 (fun H locs hH hS => ?_)
      refine gx_e0 (st := []) ?_ rfl
      refine lv_aload_n hx hb dX3_free_29 rfl (lv_at hl 0 rfl) ?_
      refine gx_get C hH 0 (by decide) rfl fl_X3_40 rfl dX3_free_30 ?_
      refine lv_aload_n hx hb dX3_free_33 rfl (lv_at hl 0 rfl) ?_
      refine gx_get C hH 0 (by decide) rfl fl_X3_36 rfl dX3_free_34 ?_
      refine lv_iload_n hx hb dX3_free_37 rfl (lv_at hl 1 rfl) ?_
      obtain ⟨hb9, hf⟩ := gx_chk hf
      have hl10 := gx_lt12 hb9
      have hn11 := gx_ne9 hb9
      refine gx_aaldR C hH 4 (by decide) 4 rfl rfl hb9 rfl dX3_free_38 ?_
      refine gx_get C hH (46 + 1 * a1.toNatClampNeg) (gc_ku hl10) (gc_u _ hl10) fl_X3_160 rfl dX3_free_39 ?_
      refine lv_isub hx hb dX3_free_42 ?_
      cases hf
      exact gx_iretM C hr hlocks hH hS dX3_free_43
    · have hf := gx_pos hc6 hf
      refine lv_bipush (v := (-3 : Int32)) hx hb dX3_free_21 (by decide) ?_
      cases hf
      exact gx_iretM C hr hlocks hH hS dX3_free_23
  · have hf := gx_pos hc2 hf
    refine lv_iconst (v := (-1 : Int32)) hx hb dX3_free_7 (by decide) ?_
    cases hf
    exact gx_iretM C hr hlocks hH hS dX3_free_8
abbrev rm_X3_lossAt : Room := { frames := 0, cells := 0, slots := 0, locals := 0 }
def f_X3_lossAt (σ : gx_St) : Option Int32 :=
  if (σ 0 10) = 0 then (if (σ 0 8) ≤ 0 then (some (1000000000 : Int32)) else (some ((σ 0 9) + (σ 0 8)))) else (some (1000000000 : Int32))
set_option maxHeartbeats 4000000 in
set_option maxRecDepth 100000 in
theorem t_X3_lossAt (l : Launch) (G : gx_G) (σ : gx_St) (r : Int32)  (hf : f_X3_lossAt σ = some r) : Met l yX3_lossAt (Cond.code yX3_lossAt cX3_lossAt 1 (some .int) :: wT) rm_X3_lossAt (va_Pc [.ref (gx_q G 0)] (gx_S G 50 (gc_mk G) σ)) (gx_QR (some (.int r))) 0 0 (fun _ => False) := by
  refine Met.ofW (cc := cX3_lossAt) (maxL := 1) (ret := (some .int)) (by decide) rfl ?_
  intro p e s m args below meth c s₁ B hml hv
  obtain ⟨rfl, hH, hE⟩ := hv
  have C := gx_C.of (G := G) B hml hE
  have hx := C.1.1
  have hb := C.1.2.1
  have hr := B.returns
  have hlocks := B.notSynchronized
  have hS : va_S (gx_A G) s.heap s.heap [] := va_S.rf
  have hl := lv_entry ([.ref (gx_q G 0)]) (n := 1) (Nat.le_of_ble_eq_true rfl)
  rw [lg_entry_eq]
  generalize (lg_sl ([.ref (gx_q G 0)]) ++ List.replicate (1 - (lg_sl ([.ref (gx_q G 0)])).length) Slot.unset).toArray = ls at hl ⊢
  have hl : lv_has ls 1 [(0, .ref (gx_q G 0))] := hl
  unfold f_X3_lossAt at hf
  refine lv_aload_n hx hb dX3_lossAt_0 rfl (lv_at hl 0 rfl) ?_
  refine gx_get C hH 0 (by decide) rfl fl_X3_49 rfl dX3_lossAt_1 ?_
  refine lv_if_ne (tgt := 26) hx hb dX3_lossAt_4 (by decide) (fun hc1 => ?_) (fun hc1 => ?_)
  · have hf := gx_neg hc1 hf
    refine lv_ldcw hx hb C.1.2.2.2.1 (C.1.2.2.2.2 _ kw_291) dX3_lossAt_26 ?_
    obtain rfl := Option.some.inj hf
    exact gx_iretR C hr hlocks dX3_lossAt_29
  · have hf := gx_pos hc1 hf
    refine lv_aload_n hx hb dX3_lossAt_7 rfl (lv_at hl 0 rfl) ?_
    refine gx_get C hH 0 (by decide) rfl fl_X3_43 rfl dX3_lossAt_8 ?_
    refine lv_if_le (tgt := 26) hx hb dX3_lossAt_11 (by decide) (fun hc2 => ?_) (fun hc2 => ?_)
    · have hf := gx_pos hc2 hf
      refine lv_ldcw hx hb C.1.2.2.2.1 (C.1.2.2.2.2 _ kw_291) dX3_lossAt_26 ?_
      obtain rfl := Option.some.inj hf
      exact gx_iretR C hr hlocks dX3_lossAt_29
    · have hf := gx_neg hc2 hf
      refine lv_aload_n hx hb dX3_lossAt_14 rfl (lv_at hl 0 rfl) ?_
      refine gx_get C hH 0 (by decide) rfl fl_X3_46 rfl dX3_lossAt_15 ?_
      refine lv_aload_n hx hb dX3_lossAt_18 rfl (lv_at hl 0 rfl) ?_
      refine gx_get C hH 0 (by decide) rfl fl_X3_43 rfl dX3_lossAt_19 ?_
      refine lv_iadd hx hb dX3_lossAt_22 ?_
      refine lv_goto (tgt := 29) hx hb dX3_lossAt_23 (by decide) ?_
      obtain rfl := Option.some.inj hf
      exact gx_iretR C hr hlocks dX3_lossAt_29
abbrev rm_X3_startBy : Room := { frames := 1, cells := 0, slots := 0, locals := 21 }
def fL_X3_startBy_8 : Nat → gx_St → Int32 → Int32 → Int32 → Int32 → Option Int32
  | 0, _, _, _, _, _ => none
  | N + 1, σ, v1, v2, v3, v4 =>
    if (4 : Int32) ≤ v4 then (some v3) else (if (v4 < 0 ∨ 4 ≤ v4.toNatClampNeg) then none else
    gx_lt (σ (8 + 3 * v1.toNatClampNeg + 2) v4.toNatClampNeg) fun x4 =>
    if x4 ≤ 0 then (gx_lt (v4 + (1 : Int32)) fun x6 =>
    fL_X3_startBy_8 N σ v1 v2 v3 x6) else (if (v4 < 0 ∨ 4 ≤ v4.toNatClampNeg) then none else
    (f_X3_remainder (v2 - (σ (46 + 1 * v4.toNatClampNeg) 1)) x4).bind fun r10 =>
    gx_lt (v2 - r10) fun x11 =>
    if x11 ≤ (σ 0 7) then (gx_lt (v4 + (1 : Int32)) fun x13 =>
    fL_X3_startBy_8 N σ v1 v2 v3 x13) else (if x11 ≤ v3 then (gx_lt (v4 + (1 : Int32)) fun x15 =>
    fL_X3_startBy_8 N σ v1 v2 v3 x15) else (gx_lt (v4 + (1 : Int32)) fun x16 =>
    fL_X3_startBy_8 N σ v1 v2 x11 x16))))
set_option maxHeartbeats 4000000 in
set_option maxRecDepth 100000 in
theorem w_X3_startBy_8 {p : Program} {l : Launch} {e : Env} {s : State} {m : MethodId} {args : Array Value} {below : List Frame} {meth : Method} {c : Code} (G : gx_G) (C : gx_C p m c cX3_startBy 7 s args RX3 G) (hr : meth.sig.returnType = (some .int)) (hlocks : meth.locks = false) (σ : gx_St) (hH : gx_H G 50 (gc_mk G) σ s.heap) : ∀ (N : Nat) (v1 v2 v3 v4 : Int32) (hl_v1 : v1.toNatClampNeg < 12) (hn_v1 : ¬ v1 = -9) (z : Int32), fL_X3_startBy_8 N σ v1 v2 v3 v4 = some z → ∀ (ls : Array Slot), lv_has ls 7 [(0, .ref (gx_q G 0)), (1, .ref (gx_q G (8 + 3 * v1.toNatClampNeg))), (2, .int v2), (3, .int v3), (4, .int v4)] → W p l e rm_X3_startBy s m args below meth c s.heap [] 0 0 (MQ below (gx_QR (some (.int z))) args s 0 0 (fun _ => False)) (F0 m 8 ls []) := by
  have hx := C.1.1
  have hb := C.1.2.1
  have hS : va_S (gx_A G) s.heap s.heap [] := va_S.rf
  intro N
  induction N with
  | zero =>
    intro v1 v2 v3 v4 hl_v1 hn_v1 z hf ls hl
    cases (show (none : Option Int32) = some z from hf)
  | succ N ih =>
    intro v1 v2 v3 v4 hl_v1 hn_v1 z hf ls hl
    rw [fL_X3_startBy_8] at hf
    refine lv_iload hx hb dX3_startBy_8 (lv_at hl 4 rfl) ?_
    refine lv_iconst (v := (4 : Int32)) hx hb dX3_startBy_10 (by decide) ?_
    refine lv_icmp_ge (tgt := 73) hx hb dX3_startBy_11 (by decide) (fun hc2 => ?_) (fun hc2 => ?_)
    · have hf := gx_pos hc2 hf
      refine lv_iload_n hx hb dX3_startBy_73 rfl (lv_at hl 3 rfl) ?_
      obtain rfl := Option.some.inj hf
      exact gx_iretR C hr hlocks dX3_startBy_74
    · have hf := gx_neg hc2 hf
      refine lv_aload_n hx hb dX3_startBy_14 rfl (lv_at hl 1 rfl) ?_
      refine gx_get C hH (8 + 3 * v1.toNatClampNeg) (gc_ke hl_v1) (gc_e _ hl_v1) fl_X3_163 rfl dX3_startBy_15 ?_
      refine lv_iload hx hb dX3_startBy_18 (lv_at hl 4 rfl) ?_
      obtain ⟨hb3, hf⟩ := gx_chk hf
      refine gx_iald C hH (8 + 3 * v1.toNatClampNeg + 2) (gc_kb hl_v1) (gc_b _ hl_v1) hb3 dX3_startBy_20 ?_
      refine lv_topi (fun x4 hx4 => ?_)
      have hf := gx_let hf x4 hx4
      refine lv_istore (lv' := [(5, .int x4), (0, .ref (gx_q G 0)), (1, .ref (gx_q G (8 + 3 * v1.toNatClampNeg))), (2, .int v2), (3, .int v3), (4, .int v4)]) hx hb dX3_startBy_21 hl (by decide) rfl (fun ls hl => ?_)
      refine lv_iload hx hb dX3_startBy_23 (lv_at hl 0 rfl) ?_
      refine lv_if_le (tgt := 67) hx hb dX3_startBy_25 (by decide) (fun hc5 => ?_) (fun hc5 => ?_)
      · have hf := gx_pos hc5 hf
        obtain ⟨x6, hx6⟩ : ∃ z : Int32, z = (v4 + (1 : Int32)) := ⟨_, rfl⟩
        have hf := gx_let hf x6 hx6
        refine lv_iinc (v := x6) (lv' := [(4, .int x6), (5, .int x4), (0, .ref (gx_q G 0)), (1, .ref (gx_q G (8 + 3 * v1.toNatClampNeg))), (2, .int v2), (3, .int v3)]) hx hb dX3_startBy_67 hl (k := 5) rfl (by rw [hx6]; rfl) (by decide) rfl (fun ls hl => ?_)
        refine lv_goto (tgt := 8) hx hb dX3_startBy_70 (by decide) ?_
        exact ih v1 v2 v3 x6 hl_v1 hn_v1 _ hf ls (lv_sub hl [2, 3, 4, 5, 0] rfl)
      · have hf := gx_neg hc5 hf
        refine lv_iload_n hx hb dX3_startBy_28 rfl (lv_at hl 3 rfl) ?_
        refine lv_iload_n hx hb dX3_startBy_29 rfl (lv_at hl 3 rfl) ?_
        refine lv_aload_n hx hb dX3_startBy_30 rfl (lv_at hl 1 rfl) ?_
        refine gx_get C hH 0 (by decide) rfl fl_X3_36 rfl dX3_startBy_31 ?_
        refine lv_iload hx hb dX3_startBy_34 (lv_at hl 5 rfl) ?_
        obtain ⟨hb7, hf⟩ := gx_chk hf
        have hl8 := gx_lt12 hb7
        have hn9 := gx_ne9 hb7
        refine gx_aaldR C hH 4 (by decide) 4 rfl rfl hb7 rfl dX3_startBy_36 ?_
        refine gx_get C hH (46 + 1 * v4.toNatClampNeg) (gc_ku hl8) (gc_u _ hl8) fl_X3_160 rfl dX3_startBy_37 ?_
        refine lv_isub hx hb dX3_startBy_40 ?_
        refine lv_iload hx hb dX3_startBy_41 (lv_at hl 0 rfl) ?_
        obtain ⟨r10, hr10, hf⟩ := gx_bnd hf
        refine gx_sR (v := (some (.int r10))) (rest := [.int v2]) C hH hS [.int (v2 - (σ (46 + 1 * v4.toNatClampNeg) 1)), .int x4] (t_X3_remainder l G σ (v2 - (σ (46 + 1 * v4.toNatClampNeg) 1)) x4 r10  hr10) lk_X3_273 ⟨rfl, rfl, Nat.le_of_ble_eq_true rfl, Nat.le_of_ble_eq_true rfl⟩ ⟨Nat.zero_le _, Nat.zero_le _⟩ hl.1 rfl (Nat.le_of_ble_eq_true rfl) dX3_startBy_43 ?_
        refine gx_e0 (st := [.int r10, .int v2]) ?_ rfl
        refine lv_isub hx hb dX3_startBy_46 ?_
        refine lv_topi (fun x11 hx11 => ?_)
        have hf := gx_let hf x11 hx11
        refine lv_istore (lv' := [(6, .int x11), (5, .int x4), (0, .ref (gx_q G 0)), (1, .ref (gx_q G (8 + 3 * v1.toNatClampNeg))), (2, .int v2), (3, .int v3), (4, .int v4)]) hx hb dX3_startBy_47 hl (by decide) rfl (fun ls hl => ?_)
        refine lv_iload hx hb dX3_startBy_49 (lv_at hl 0 rfl) ?_
        refine lv_aload_n hx hb dX3_startBy_51 rfl (lv_at hl 2 rfl) ?_
        refine gx_get C hH 0 (by decide) rfl fl_X3_40 rfl dX3_startBy_52 ?_
        refine lv_icmp_le (tgt := 67) hx hb dX3_startBy_55 (by decide) (fun hc12 => ?_) (fun hc12 => ?_)
        · have hf := gx_pos hc12 hf
          obtain ⟨x13, hx13⟩ : ∃ z : Int32, z = (v4 + (1 : Int32)) := ⟨_, rfl⟩
          have hf := gx_let hf x13 hx13
          refine lv_iinc (v := x13) (lv' := [(4, .int x13), (6, .int x11), (5, .int x4), (0, .ref (gx_q G 0)), (1, .ref (gx_q G (8 + 3 * v1.toNatClampNeg))), (2, .int v2), (3, .int v3)]) hx hb dX3_startBy_67 hl (k := 6) rfl (by rw [hx13]; rfl) (by decide) rfl (fun ls hl => ?_)
          refine lv_goto (tgt := 8) hx hb dX3_startBy_70 (by decide) ?_
          exact ih v1 v2 v3 x13 hl_v1 hn_v1 _ hf ls (lv_sub hl [3, 4, 5, 6, 0] rfl)
        · have hf := gx_neg hc12 hf
          refine lv_iload hx hb dX3_startBy_58 (lv_at hl 0 rfl) ?_
          refine lv_iload_n hx hb dX3_startBy_60 rfl (lv_at hl 5 rfl) ?_
          refine lv_icmp_le (tgt := 67) hx hb dX3_startBy_61 (by decide) (fun hc14 => ?_) (fun hc14 => ?_)
          · have hf := gx_pos hc14 hf
            obtain ⟨x15, hx15⟩ : ∃ z : Int32, z = (v4 + (1 : Int32)) := ⟨_, rfl⟩
            have hf := gx_let hf x15 hx15
            refine lv_iinc (v := x15) (lv' := [(4, .int x15), (6, .int x11), (5, .int x4), (0, .ref (gx_q G 0)), (1, .ref (gx_q G (8 + 3 * v1.toNatClampNeg))), (2, .int v2), (3, .int v3)]) hx hb dX3_startBy_67 hl (k := 6) rfl (by rw [hx15]; rfl) (by decide) rfl (fun ls hl => ?_)
            refine lv_goto (tgt := 8) hx hb dX3_startBy_70 (by decide) ?_
            exact ih v1 v2 v3 x15 hl_v1 hn_v1 _ hf ls (lv_sub hl [3, 4, 5, 6, 0] rfl)
          · have hf := gx_neg hc14 hf
            refine lv_iload hx hb dX3_startBy_64 (lv_at hl 0 rfl) ?_
            refine lv_istore_n (lv' := [(3, .int x11), (6, .int x11), (5, .int x4), (0, .ref (gx_q G 0)), (1, .ref (gx_q G (8 + 3 * v1.toNatClampNeg))), (2, .int v2), (4, .int v4)]) hx hb dX3_startBy_66 rfl hl (by decide) rfl (fun ls hl => ?_)
            obtain ⟨x16, hx16⟩ : ∃ z : Int32, z = (v4 + (1 : Int32)) := ⟨_, rfl⟩
            have hf := gx_let hf x16 hx16
            refine lv_iinc (v := x16) (lv' := [(4, .int x16), (3, .int x11), (6, .int x11), (5, .int x4), (0, .ref (gx_q G 0)), (1, .ref (gx_q G (8 + 3 * v1.toNatClampNeg))), (2, .int v2)]) hx hb dX3_startBy_67 hl (k := 6) rfl (by rw [hx16]; rfl) (by decide) rfl (fun ls hl => ?_)
            refine lv_goto (tgt := 8) hx hb dX3_startBy_70 (by decide) ?_
            exact ih v1 v2 x11 x16 hl_v1 hn_v1 _ hf ls (lv_sub hl [4, 5, 6, 1, 0] rfl)
def f_X3_startBy (σ : gx_St) (a1 a2 : Int32) : Option Int32 :=
  gx_lt (σ (8 + 3 * a1.toNatClampNeg) 8) fun x1 =>
  fL_X3_startBy_8 5 σ a1 a2 x1 (0 : Int32)
set_option maxHeartbeats 4000000 in
set_option maxRecDepth 100000 in
theorem t_X3_startBy (l : Launch) (G : gx_G) (σ : gx_St) (a1 a2 : Int32) (r : Int32) (hl_a1 : a1.toNatClampNeg < 12) (hn_a1 : ¬ a1 = -9) (hf : f_X3_startBy σ a1 a2 = some r) : Met l yX3_startBy (Cond.code yX3_startBy cX3_startBy 7 (some .int) :: wT) rm_X3_startBy (va_Pc [.ref (gx_q G 0), .ref (gx_q G (8 + 3 * a1.toNatClampNeg)), .int a2] (gx_S G 50 (gc_mk G) σ)) (gx_QR (some (.int r))) 0 0 (fun _ => False) := by
  refine Met.ofW (cc := cX3_startBy) (maxL := 7) (ret := (some .int)) (by decide) rfl ?_
  intro p e s m args below meth c s₁ B hml hv
  obtain ⟨rfl, hH, hE⟩ := hv
  have C := gx_C.of (G := G) B hml hE
  have hx := C.1.1
  have hb := C.1.2.1
  have hr := B.returns
  have hlocks := B.notSynchronized
  have hS : va_S (gx_A G) s.heap s.heap [] := va_S.rf
  have hl := lv_entry ([.ref (gx_q G 0), .ref (gx_q G (8 + 3 * a1.toNatClampNeg)), .int a2]) (n := 7) (Nat.le_of_ble_eq_true rfl)
  rw [lg_entry_eq]
  generalize (lg_sl ([.ref (gx_q G 0), .ref (gx_q G (8 + 3 * a1.toNatClampNeg)), .int a2]) ++ List.replicate (7 - (lg_sl ([.ref (gx_q G 0), .ref (gx_q G (8 + 3 * a1.toNatClampNeg)), .int a2])).length) Slot.unset).toArray = ls at hl ⊢
  have hl : lv_has ls 7 [(0, .ref (gx_q G 0)), (1, .ref (gx_q G (8 + 3 * a1.toNatClampNeg))), (2, .int a2)] := hl
  unfold f_X3_startBy at hf
  refine lv_aload_n hx hb dX3_startBy_0 rfl (lv_at hl 1 rfl) ?_
  refine gx_get C hH (8 + 3 * a1.toNatClampNeg) (gc_ke hl_a1) (gc_e _ hl_a1) fl_X3_138 rfl dX3_startBy_1 ?_
  refine lv_topi (fun x1 hx1 => ?_)
  have hf := gx_let hf x1 hx1
  refine lv_istore_n (lv' := [(3, .int x1), (0, .ref (gx_q G 0)), (1, .ref (gx_q G (8 + 3 * a1.toNatClampNeg))), (2, .int a2)]) hx hb dX3_startBy_4 rfl hl (by decide) rfl (fun ls hl => ?_)
  refine lv_iconst (v := (0 : Int32)) hx hb dX3_startBy_5 (by decide) ?_
  refine lv_istore (lv' := [(4, .int (0 : Int32)), (3, .int x1), (0, .ref (gx_q G 0)), (1, .ref (gx_q G (8 + 3 * a1.toNatClampNeg))), (2, .int a2)]) hx hb dX3_startBy_6 hl (by decide) rfl (fun ls hl => ?_)
  exact w_X3_startBy_8 (l := l) G C hr hlocks σ hH 5 a1 a2 x1 (0 : Int32) hl_a1 hn_a1 _ hf ls (lv_sub hl [2, 3, 4, 1, 0] rfl)
abbrev rm_X3_beginAgainUpTo : Room := { frames := 2, cells := 0, slots := 0, locals := 47 }
def fL_X3_beginAgainUpTo_2 : Nat → gx_St → Int32 → Int32 → Option gx_St
  | 0, _, _, _ => none
  | N + 1, σ, v1, v2 =>
    if (6 : Int32) ≤ v2 then (some σ) else (if (v2 < 0 ∨ 6 ≤ v2.toNatClampNeg) then none else
    gx_lt (σ 2 v2.toNatClampNeg) fun e3 =>
    if e3 = -9 then (gx_lt (v2 + (1 : Int32)) fun x6 =>
    fL_X3_beginAgainUpTo_2 N σ v1 x6) else if 12 ≤ e3.toNatClampNeg then none else ((f_X3_startBy σ e3 v1).bind fun r7 =>
    gx_lt (gx_w2 σ (8 + 3 * e3.toNatClampNeg) 8 r7) fun σ8 =>
    gx_lt (v2 + (1 : Int32)) fun x9 =>
    fL_X3_beginAgainUpTo_2 N σ8 v1 x9))
set_option maxHeartbeats 4000000 in
set_option maxRecDepth 100000 in
theorem w_X3_beginAgainUpTo_2 {p : Program} {l : Launch} {e : Env} {s : State} {m : MethodId} {args : Array Value} {below : List Frame} {meth : Method} {c : Code} (G : gx_G) (hG : gx_D G 50) (C : gx_C p m c cX3_beginAgainUpTo 4 s args RX3 G) (hr : meth.sig.returnType = none) (hlocks : meth.locks = false) : ∀ (N : Nat) (σ : gx_St) (v1 v2 : Int32)  (z : gx_St), fL_X3_beginAgainUpTo_2 N σ v1 v2 = some z → ∀ (H : Heap) (locs : List Loc) (ls : Array Slot), gx_H G 50 (gc_mk G) σ H → va_S (gx_A G) s.heap H locs → lv_has ls 4 [(0, .ref (gx_q G 0)), (1, .int v1), (2, .int v2)] → W p l e rm_X3_beginAgainUpTo s m args below meth c H locs 0 0 (MQ below (gx_QM G 50 (gc_mk G) none z) args s 0 0 (gx_A G)) (F0 m 2 ls []) := by
  have hx := C.1.1
  have hb := C.1.2.1
  intro N
  induction N with
  | zero =>
    intro σ v1 v2  z hf H locs ls hH hS hl
    cases (show (none : Option gx_St) = some z from hf)
  | succ N ih =>
    intro σ v1 v2  z hf H locs ls hH hS hl
    rw [fL_X3_beginAgainUpTo_2] at hf
    refine lv_iload_n hx hb dX3_beginAgainUpTo_2 rfl (lv_at hl 2 rfl) ?_
    refine lv_bipush (v := (6 : Int32)) hx hb dX3_beginAgainUpTo_3 (by decide) ?_
    refine lv_icmp_ge (tgt := 35) hx hb dX3_beginAgainUpTo_5 (by decide) (fun hc1 => ?_) (fun hc1 => ?_)
    · have hf := gx_pos hc1 hf
      cases hf
      exact gx_vretM C hr hlocks hH hS dX3_beginAgainUpTo_35
    · have hf := gx_neg hc1 hf
      refine lv_aload_n hx hb dX3_beginAgainUpTo_8 rfl (lv_at hl 0 rfl) ?_
      refine gx_get C hH 0 (by decide) rfl fl_X3_19 rfl dX3_beginAgainUpTo_9 ?_
      refine lv_iload_n hx hb dX3_beginAgainUpTo_12 rfl (lv_at hl 2 rfl) ?_
      obtain ⟨hb2, hf⟩ := gx_chk hf
      obtain ⟨e3, he3⟩ : ∃ z : Int32, z = (σ 2 v2.toNatClampNeg) := ⟨_, rfl⟩
      have hf := gx_let hf e3 he3
      by_cases hn4 : e3 = -9
      · have hf := gx_pos hn4 hf
        refine gx_aaldN C hH 2 (by decide) 2 rfl rfl hb2 (gx_rf_n (he3.symm.trans hn4)) dX3_beginAgainUpTo_13 ?_
        refine lv_astore_nN (lv' := [(3, .null), (0, .ref (gx_q G 0)), (1, .int v1), (2, .int v2)]) hx hb dX3_beginAgainUpTo_14 rfl hl (by decide) rfl (fun ls hl => ?_)
        refine lv_aload_nN hx hb dX3_beginAgainUpTo_15 rfl (lv_at hl 0 rfl) ?_
        refine lv_ifnullN (tgt := 29) hx hb dX3_beginAgainUpTo_16 (by decide) ?_
        obtain ⟨x6, hx6⟩ : ∃ z : Int32, z = (v2 + (1 : Int32)) := ⟨_, rfl⟩
        have hf := gx_let hf x6 hx6
        refine lv_iinc (v := x6) (lv' := [(2, .int x6), (3, .null), (0, .ref (gx_q G 0)), (1, .int v1)]) hx hb dX3_beginAgainUpTo_29 hl (k := 3) rfl (by rw [hx6]; rfl) (by decide) rfl (fun ls hl => ?_)
        refine lv_goto (tgt := 2) hx hb dX3_beginAgainUpTo_32 (by decide) ?_
        exact ih σ v1 x6  _ hf _ _ ls hH hS (lv_sub hl [2, 3, 0] rfl)
      · have hf := gx_neg hn4 hf
        obtain ⟨hl5, hf⟩ := gx_chk hf
        have hl5 := Nat.not_le.mp hl5
        refine gx_aaldR C hH 2 (by decide) 2 rfl rfl hb2 (gx_rfe he3 hn4) dX3_beginAgainUpTo_13 ?_
        refine lv_astore_n (lv' := [(3, .ref (gx_q G (8 + 3 * e3.toNatClampNeg))), (0, .ref (gx_q G 0)), (1, .int v1), (2, .int v2)]) hx hb dX3_beginAgainUpTo_14 rfl hl (by decide) rfl (fun ls hl => ?_)
        refine lv_aload_n hx hb dX3_beginAgainUpTo_15 rfl (lv_at hl 0 rfl) ?_
        refine lv_ifnull hx hb dX3_beginAgainUpTo_16 ?_
        refine lv_aload_n hx hb dX3_beginAgainUpTo_19 rfl (lv_at hl 0 rfl) ?_
        refine lv_aload_n hx hb dX3_beginAgainUpTo_20 rfl (lv_at hl 1 rfl) ?_
        refine lv_aload_n hx hb dX3_beginAgainUpTo_21 rfl (lv_at hl 0 rfl) ?_
        refine lv_iload_n hx hb dX3_beginAgainUpTo_22 rfl (lv_at hl 2 rfl) ?_
        obtain ⟨r7, hr7, hf⟩ := gx_bnd hf
        refine gx_vR (v := (some (.int r7))) (rest := [.ref (gx_q G (8 + 3 * e3.toNatClampNeg))]) C hH hS 0 (by decide) rfl rfl [.ref (gx_q G (8 + 3 * e3.toNatClampNeg)), .int v1] (t_X3_startBy l G σ e3 v1 r7 hl5 hn4 hr7) lk_X3_276 ⟨rfl, rfl, Nat.le_of_ble_eq_true rfl, Nat.le_of_ble_eq_true rfl⟩ ⟨Nat.zero_le _, Nat.zero_le _⟩ hl.1 rfl (Nat.le_of_ble_eq_true rfl) dX3_beginAgainUpTo_23 ?_
        refine gx_e0 (st := [.int r7, .ref (gx_q G (8 + 3 * e3.toNatClampNeg))]) ?_ rfl
        refine gx_put C hG hH hS (8 + 3 * e3.toNatClampNeg) (gc_ke hl5) (gc_e _ hl5) fl_X3_138 fw_X2_8 (pw_X2_8 hl5 _ _) rfl rfl (Nat.le_of_ble_eq_true rfl) dX3_beginAgainUpTo_26 (fun H locs σ8 hσ8 hH hS => ?_)
        have hf := gx_let hf σ8 hσ8
        obtain ⟨x9, hx9⟩ : ∃ z : Int32, z = (v2 + (1 : Int32)) := ⟨_, rfl⟩
        have hf := gx_let hf x9 hx9
        refine lv_iinc (v := x9) (lv' := [(2, .int x9), (3, .ref (gx_q G (8 + 3 * e3.toNatClampNeg))), (0, .ref (gx_q G 0)), (1, .int v1)]) hx hb dX3_beginAgainUpTo_29 hl (k := 3) rfl (by rw [hx9]; rfl) (by decide) rfl (fun ls hl => ?_)
        refine lv_goto (tgt := 2) hx hb dX3_beginAgainUpTo_32 (by decide) ?_
        exact ih σ8 v1 x9  _ hf _ _ ls hH hS (lv_sub hl [2, 3, 0] rfl)
def f_X3_beginAgainUpTo (σ : gx_St) (a1 : Int32) : Option gx_St :=
  fL_X3_beginAgainUpTo_2 7 σ a1 (0 : Int32)
set_option maxHeartbeats 4000000 in
set_option maxRecDepth 100000 in
theorem t_X3_beginAgainUpTo (l : Launch) (G : gx_G) (hG : gx_D G 50) (σ : gx_St) (a1 : Int32) (σ' : gx_St)  (hf : f_X3_beginAgainUpTo σ a1 = some σ') : Met l yX3_beginAgainUpTo (Cond.code yX3_beginAgainUpTo cX3_beginAgainUpTo 4 none :: wT) rm_X3_beginAgainUpTo (va_Pc [.ref (gx_q G 0), .int a1] (gx_S G 50 (gc_mk G) σ)) (gx_QM G 50 (gc_mk G) none σ') 0 0 (gx_A G) := by
  refine Met.ofW (cc := cX3_beginAgainUpTo) (maxL := 4) (ret := none) (by decide) rfl ?_
  intro p e s m args below meth c s₁ B hml hv
  obtain ⟨rfl, hH, hE⟩ := hv
  have C := gx_C.of (G := G) B hml hE
  have hx := C.1.1
  have hb := C.1.2.1
  have hr := B.returns
  have hlocks := B.notSynchronized
  have hS : va_S (gx_A G) s.heap s.heap [] := va_S.rf
  have hl := lv_entry ([.ref (gx_q G 0), .int a1]) (n := 4) (Nat.le_of_ble_eq_true rfl)
  rw [lg_entry_eq]
  generalize (lg_sl ([.ref (gx_q G 0), .int a1]) ++ List.replicate (4 - (lg_sl ([.ref (gx_q G 0), .int a1])).length) Slot.unset).toArray = ls at hl ⊢
  have hl : lv_has ls 4 [(0, .ref (gx_q G 0)), (1, .int a1)] := hl
  unfold f_X3_beginAgainUpTo at hf
  refine lv_iconst (v := (0 : Int32)) hx hb dX3_beginAgainUpTo_0 (by decide) ?_
  refine lv_istore_n (lv' := [(2, .int (0 : Int32)), (0, .ref (gx_q G 0)), (1, .int a1)]) hx hb dX3_beginAgainUpTo_1 rfl hl (by decide) rfl (fun ls hl => ?_)
  exact w_X3_beginAgainUpTo_2 (l := l) G hG C hr hlocks 7 σ a1 (0 : Int32)  _ hf _ _ ls hH hS (lv_sub hl [1, 2, 0] rfl)
abbrev rm_X3_loseHostAt : Room := { frames := 1, cells := 0, slots := 0, locals := 23 }
def fL_X3_loseHostAt_50 : Nat → gx_St → Int32 → Option gx_St
  | 0, _, _ => none
  | N + 1, σ, v2 =>
    if (4 : Int32) ≤ v2 then (some σ) else ((f_X3_letGo σ v2).bind fun σ4 =>
    gx_lt (v2 + (1 : Int32)) fun x6 =>
    fL_X3_loseHostAt_50 N σ4 x6)
set_option maxHeartbeats 4000000 in
set_option maxRecDepth 100000 in
theorem w_X3_loseHostAt_50 {p : Program} {l : Launch} {e : Env} {s : State} {m : MethodId} {args : Array Value} {below : List Frame} {meth : Method} {c : Code} (G : gx_G) (hG : gx_D G 50) (C : gx_C p m c cX3_loseHostAt 4 s args RX3 G) (hr : meth.sig.returnType = none) (hlocks : meth.locks = false) : ∀ (N : Nat) (σ : gx_St) (v2 : Int32)  (z : gx_St), fL_X3_loseHostAt_50 N σ v2 = some z → ∀ (H : Heap) (locs : List Loc) (ls : Array Slot), gx_H G 50 (gc_mk G) σ H → va_S (gx_A G) s.heap H locs → lv_has ls 4 [(0, .ref (gx_q G 0)), (2, .int v2)] → W p l e rm_X3_loseHostAt s m args below meth c H locs 0 0 (MQ below (gx_QM G 50 (gc_mk G) none z) args s 0 0 (gx_A G)) (F0 m 50 ls []) := by
  have hx := C.1.1
  have hb := C.1.2.1
  intro N
  induction N with
  | zero =>
    intro σ v2  z hf H locs ls hH hS hl
    cases (show (none : Option gx_St) = some z from hf)
  | succ N ih =>
    intro σ v2  z hf H locs ls hH hS hl
    rw [fL_X3_loseHostAt_50] at hf
    refine lv_iload_n hx hb dX3_loseHostAt_50 rfl (lv_at hl 1 rfl) ?_
    refine lv_iconst (v := (4 : Int32)) hx hb dX3_loseHostAt_51 (by decide) ?_
    refine lv_icmp_ge (tgt := 66) hx hb dX3_loseHostAt_52 (by decide) (fun hc3 => ?_) (fun hc3 => ?_)
    · have hf := gx_pos hc3 hf
      cases hf
      exact gx_vretM C hr hlocks hH hS dX3_loseHostAt_66
    · have hf := gx_neg hc3 hf
      refine lv_aload_n hx hb dX3_loseHostAt_55 rfl (lv_at hl 0 rfl) ?_
      refine lv_iload_n hx hb dX3_loseHostAt_56 rfl (lv_at hl 1 rfl) ?_
      obtain ⟨σ4, hr5, hf⟩ := gx_bnd hf
      refine gx_vM (v := none) (rest := []) C hH hS 0 (by decide) rfl rfl [.int v2] (t_X3_letGo l G hG σ v2 σ4  hr5) lk_X3_166 ⟨rfl, rfl, Nat.le_of_ble_eq_true rfl, Nat.le_of_ble_eq_true rfl⟩ ⟨Nat.zero_le _, Nat.zero_le _⟩ hl.1 rfl (Nat.le_of_ble_eq_true rfl) dX3_loseHostAt_57 (fun H locs hH hS => ?_)
      refine gx_e0 (st := []) ?_ rfl
      obtain ⟨x6, hx6⟩ : ∃ z : Int32, z = (v2 + (1 : Int32)) := ⟨_, rfl⟩
      have hf := gx_let hf x6 hx6
      refine lv_iinc (v := x6) (lv' := [(2, .int x6), (0, .ref (gx_q G 0))]) hx hb dX3_loseHostAt_60 hl (k := 1) rfl (by rw [hx6]; rfl) (by decide) rfl (fun ls hl => ?_)
      refine lv_goto (tgt := 50) hx hb dX3_loseHostAt_63 (by decide) ?_
      exact ih σ4 x6  _ hf _ _ ls hH hS (lv_sub hl [1, 0] rfl)
def fL_X3_loseHostAt_7 : Nat → gx_St → Int32 → Int32 → Option gx_St
  | 0, _, _, _ => none
  | N + 1, σ, v1, v2 =>
    if (6 : Int32) ≤ v2 then (fL_X3_loseHostAt_50 5 σ (0 : Int32)) else (if (v2 < 0 ∨ 6 ≤ v2.toNatClampNeg) then none else
    gx_lt (σ 2 v2.toNatClampNeg) fun e8 =>
    if e8 = -9 then (gx_lt (v2 + (1 : Int32)) fun x11 =>
    fL_X3_loseHostAt_7 N σ v1 x11) else if 12 ≤ e8.toNatClampNeg then none else ((f_X2_playsAt σ e8 (σ (8 + 3 * e8.toNatClampNeg) 8) v1).bind fun r12 =>
    if r12 = 0 then (gx_lt (v2 + (1 : Int32)) fun x14 =>
    fL_X3_loseHostAt_7 N σ v1 x14) else (gx_lt (gx_w2 σ (8 + 3 * e8.toNatClampNeg) 8 (-9 : Int32)) fun σ15 =>
    gx_lt (v2 + (1 : Int32)) fun x16 =>
    fL_X3_loseHostAt_7 N σ15 v1 x16)))
set_option maxHeartbeats 4000000 in
set_option maxRecDepth 100000 in
theorem w_X3_loseHostAt_7 {p : Program} {l : Launch} {e : Env} {s : State} {m : MethodId} {args : Array Value} {below : List Frame} {meth : Method} {c : Code} (G : gx_G) (hG : gx_D G 50) (C : gx_C p m c cX3_loseHostAt 4 s args RX3 G) (hr : meth.sig.returnType = none) (hlocks : meth.locks = false) : ∀ (N : Nat) (σ : gx_St) (v1 v2 : Int32)  (z : gx_St), fL_X3_loseHostAt_7 N σ v1 v2 = some z → ∀ (H : Heap) (locs : List Loc) (ls : Array Slot), gx_H G 50 (gc_mk G) σ H → va_S (gx_A G) s.heap H locs → lv_has ls 4 [(0, .ref (gx_q G 0)), (1, .int v1), (2, .int v2)] → W p l e rm_X3_loseHostAt s m args below meth c H locs 0 0 (MQ below (gx_QM G 50 (gc_mk G) none z) args s 0 0 (gx_A G)) (F0 m 7 ls []) := by
  have hx := C.1.1
  have hb := C.1.2.1
  intro N
  induction N with
  | zero =>
    intro σ v1 v2  z hf H locs ls hH hS hl
    cases (show (none : Option gx_St) = some z from hf)
  | succ N ih =>
    intro σ v1 v2  z hf H locs ls hH hS hl
    rw [fL_X3_loseHostAt_7] at hf
    refine lv_iload_n hx hb dX3_loseHostAt_7 rfl (lv_at hl 2 rfl) ?_
    refine lv_bipush (v := (6 : Int32)) hx hb dX3_loseHostAt_8 (by decide) ?_
    refine lv_icmp_ge (tgt := 48) hx hb dX3_loseHostAt_10 (by decide) (fun hc2 => ?_) (fun hc2 => ?_)
    · have hf := gx_pos hc2 hf
      refine lv_iconst (v := (0 : Int32)) hx hb dX3_loseHostAt_48 (by decide) ?_
      refine lv_istore_n (lv' := [(2, .int (0 : Int32)), (0, .ref (gx_q G 0)), (1, .int v1)]) hx hb dX3_loseHostAt_49 rfl hl (by decide) rfl (fun ls hl => ?_)
      exact w_X3_loseHostAt_50 (l := l) G hG C hr hlocks 5 σ (0 : Int32)  _ hf _ _ ls hH hS (lv_sub hl [1, 0] rfl)
    · have hf := gx_neg hc2 hf
      refine lv_aload_n hx hb dX3_loseHostAt_13 rfl (lv_at hl 0 rfl) ?_
      refine gx_get C hH 0 (by decide) rfl fl_X3_19 rfl dX3_loseHostAt_14 ?_
      refine lv_iload_n hx hb dX3_loseHostAt_17 rfl (lv_at hl 2 rfl) ?_
      obtain ⟨hb7, hf⟩ := gx_chk hf
      obtain ⟨e8, he8⟩ : ∃ z : Int32, z = (σ 2 v2.toNatClampNeg) := ⟨_, rfl⟩
      have hf := gx_let hf e8 he8
      by_cases hn9 : e8 = -9
      · have hf := gx_pos hn9 hf
        refine gx_aaldN C hH 2 (by decide) 2 rfl rfl hb7 (gx_rf_n (he8.symm.trans hn9)) dX3_loseHostAt_18 ?_
        refine lv_astore_nN (lv' := [(3, .null), (0, .ref (gx_q G 0)), (1, .int v1), (2, .int v2)]) hx hb dX3_loseHostAt_19 rfl hl (by decide) rfl (fun ls hl => ?_)
        refine lv_aload_nN hx hb dX3_loseHostAt_20 rfl (lv_at hl 0 rfl) ?_
        refine lv_ifnullN (tgt := 42) hx hb dX3_loseHostAt_21 (by decide) ?_
        obtain ⟨x11, hx11⟩ : ∃ z : Int32, z = (v2 + (1 : Int32)) := ⟨_, rfl⟩
        have hf := gx_let hf x11 hx11
        refine lv_iinc (v := x11) (lv' := [(2, .int x11), (3, .null), (0, .ref (gx_q G 0)), (1, .int v1)]) hx hb dX3_loseHostAt_42 hl (k := 3) rfl (by rw [hx11]; rfl) (by decide) rfl (fun ls hl => ?_)
        refine lv_goto (tgt := 7) hx hb dX3_loseHostAt_45 (by decide) ?_
        exact ih σ v1 x11  _ hf _ _ ls hH hS (lv_sub hl [2, 3, 0] rfl)
      · have hf := gx_neg hn9 hf
        obtain ⟨hl10, hf⟩ := gx_chk hf
        have hl10 := Nat.not_le.mp hl10
        refine gx_aaldR C hH 2 (by decide) 2 rfl rfl hb7 (gx_rfe he8 hn9) dX3_loseHostAt_18 ?_
        refine lv_astore_n (lv' := [(3, .ref (gx_q G (8 + 3 * e8.toNatClampNeg))), (0, .ref (gx_q G 0)), (1, .int v1), (2, .int v2)]) hx hb dX3_loseHostAt_19 rfl hl (by decide) rfl (fun ls hl => ?_)
        refine lv_aload_n hx hb dX3_loseHostAt_20 rfl (lv_at hl 0 rfl) ?_
        refine lv_ifnull hx hb dX3_loseHostAt_21 ?_
        refine lv_aload_n hx hb dX3_loseHostAt_24 rfl (lv_at hl 0 rfl) ?_
        refine lv_aload_n hx hb dX3_loseHostAt_25 rfl (lv_at hl 0 rfl) ?_
        refine gx_get C hH (8 + 3 * e8.toNatClampNeg) (gc_ke hl10) (gc_e _ hl10) fl_X3_138 rfl dX3_loseHostAt_26 ?_
        refine lv_iload_n hx hb dX3_loseHostAt_29 rfl (lv_at hl 2 rfl) ?_
        obtain ⟨r12, hr12, hf⟩ := gx_bnd hf
        refine gx_vR (v := (some (.int r12))) (rest := []) C hH hS (8 + 3 * e8.toNatClampNeg) (gc_ke hl10) (gc_e _ hl10) rfl [.int (σ (8 + 3 * e8.toNatClampNeg) 8), .int v1] (t_X2_playsAt l G σ e8 (σ (8 + 3 * e8.toNatClampNeg) 8) v1 r12 hl10 hr12) lk_X3_141 ⟨rfl, rfl, Nat.le_of_ble_eq_true rfl, Nat.le_of_ble_eq_true rfl⟩ ⟨Nat.zero_le _, Nat.zero_le _⟩ hl.1 rfl (Nat.le_of_ble_eq_true rfl) dX3_loseHostAt_30 ?_
        refine gx_e0 (st := [.int r12]) ?_ rfl
        refine lv_if_eq (tgt := 42) hx hb dX3_loseHostAt_33 (by decide) (fun hc13 => ?_) (fun hc13 => ?_)
        · have hf := gx_pos hc13 hf
          obtain ⟨x14, hx14⟩ : ∃ z : Int32, z = (v2 + (1 : Int32)) := ⟨_, rfl⟩
          have hf := gx_let hf x14 hx14
          refine lv_iinc (v := x14) (lv' := [(2, .int x14), (3, .ref (gx_q G (8 + 3 * e8.toNatClampNeg))), (0, .ref (gx_q G 0)), (1, .int v1)]) hx hb dX3_loseHostAt_42 hl (k := 3) rfl (by rw [hx14]; rfl) (by decide) rfl (fun ls hl => ?_)
          refine lv_goto (tgt := 7) hx hb dX3_loseHostAt_45 (by decide) ?_
          exact ih σ v1 x14  _ hf _ _ ls hH hS (lv_sub hl [2, 3, 0] rfl)
        · have hf := gx_neg hc13 hf
          refine lv_aload_n hx hb dX3_loseHostAt_36 rfl (lv_at hl 0 rfl) ?_
          refine lv_bipush (v := (-9 : Int32)) hx hb dX3_loseHostAt_37 (by decide) ?_
          refine gx_put C hG hH hS (8 + 3 * e8.toNatClampNeg) (gc_ke hl10) (gc_e _ hl10) fl_X3_138 fw_X2_8 (pw_X2_8 hl10 _ _) rfl rfl (Nat.le_of_ble_eq_true rfl) dX3_loseHostAt_39 (fun H locs σ15 hσ15 hH hS => ?_)
          have hf := gx_let hf σ15 hσ15
          obtain ⟨x16, hx16⟩ : ∃ z : Int32, z = (v2 + (1 : Int32)) := ⟨_, rfl⟩
          have hf := gx_let hf x16 hx16
          refine lv_iinc (v := x16) (lv' := [(2, .int x16), (3, .ref (gx_q G (8 + 3 * e8.toNatClampNeg))), (0, .ref (gx_q G 0)), (1, .int v1)]) hx hb dX3_loseHostAt_42 hl (k := 3) rfl (by rw [hx16]; rfl) (by decide) rfl (fun ls hl => ?_)
          refine lv_goto (tgt := 7) hx hb dX3_loseHostAt_45 (by decide) ?_
          exact ih σ15 v1 x16  _ hf _ _ ls hH hS (lv_sub hl [2, 3, 0] rfl)
def f_X3_loseHostAt (σ : gx_St) (a1 : Int32) : Option gx_St :=
  gx_lt (gx_w2 σ 0 10 (1 : Int32)) fun σ1 =>
  fL_X3_loseHostAt_7 7 σ1 a1 (0 : Int32)
set_option maxHeartbeats 4000000 in
set_option maxRecDepth 100000 in
theorem t_X3_loseHostAt (l : Launch) (G : gx_G) (hG : gx_D G 50) (σ : gx_St) (a1 : Int32) (σ' : gx_St)  (hf : f_X3_loseHostAt σ a1 = some σ') : Met l yX3_loseHostAt (Cond.code yX3_loseHostAt cX3_loseHostAt 4 none :: wT) rm_X3_loseHostAt (va_Pc [.ref (gx_q G 0), .int a1] (gx_S G 50 (gc_mk G) σ)) (gx_QM G 50 (gc_mk G) none σ') 0 0 (gx_A G) := by
  refine Met.ofW (cc := cX3_loseHostAt) (maxL := 4) (ret := none) (by decide) rfl ?_
  intro p e s m args below meth c s₁ B hml hv
  obtain ⟨rfl, hH, hE⟩ := hv
  have C := gx_C.of (G := G) B hml hE
  have hx := C.1.1
  have hb := C.1.2.1
  have hr := B.returns
  have hlocks := B.notSynchronized
  have hS : va_S (gx_A G) s.heap s.heap [] := va_S.rf
  have hl := lv_entry ([.ref (gx_q G 0), .int a1]) (n := 4) (Nat.le_of_ble_eq_true rfl)
  rw [lg_entry_eq]
  generalize (lg_sl ([.ref (gx_q G 0), .int a1]) ++ List.replicate (4 - (lg_sl ([.ref (gx_q G 0), .int a1])).length) Slot.unset).toArray = ls at hl ⊢
  have hl : lv_has ls 4 [(0, .ref (gx_q G 0)), (1, .int a1)] := hl
  unfold f_X3_loseHostAt at hf
  refine lv_aload_n hx hb dX3_loseHostAt_0 rfl (lv_at hl 0 rfl) ?_
  refine lv_iconst (v := (1 : Int32)) hx hb dX3_loseHostAt_1 (by decide) ?_
  refine gx_put C hG hH hS 0 (by decide) rfl fl_X3_49 fw_X3_10 (pw_X3_10 _ _) rfl rfl (Nat.le_of_ble_eq_true rfl) dX3_loseHostAt_2 (fun H locs σ1 hσ1 hH hS => ?_)
  have hf := gx_let hf σ1 hσ1
  refine lv_iconst (v := (0 : Int32)) hx hb dX3_loseHostAt_5 (by decide) ?_
  refine lv_istore_n (lv' := [(2, .int (0 : Int32)), (0, .ref (gx_q G 0)), (1, .int a1)]) hx hb dX3_loseHostAt_6 rfl hl (by decide) rfl (fun ls hl => ?_)
  exact w_X3_loseHostAt_7 (l := l) G hG C hr hlocks 7 σ1 a1 (0 : Int32)  _ hf _ _ ls hH hS (lv_sub hl [1, 2, 0] rfl)
