abbrev rm_X4_hand : Room := { frames := 1, cells := 0, slots := 0, locals := 23 }
def f_X4_hand (σ : gx_St) (a1 a2 : Int32) : Option (Int32 × gx_St) :=
  (f_X4_within a1 (-1000 : Int32) (1000 : Int32)).bind fun r1 =>
  if r1 = 0 then (some ((-2 : Int32), σ)) else ((f_X4_within a2 (-1000 : Int32) (1000 : Int32)).bind fun r3 =>
  if r3 = 0 then (some ((-2 : Int32), σ)) else ((f_X4_moves σ (0 : Int32) a1).bind fun σ5 =>
  (f_X4_moves σ5 (1 : Int32) a2).bind fun σ7 =>
  gx_lt (gx_w2 σ7 0 1 (σ7 0 0)) fun σ9 =>
  some ((1 : Int32), σ9)))
set_option maxHeartbeats 4000000 in
set_option maxRecDepth 100000 in
theorem t_X4_hand (l : Launch) (G : gx_G) (hG : gx_D G 13) (σ : gx_St) (a1 a2 : Int32) (r : Int32) (σ' : gx_St)  (hf : f_X4_hand σ a1 a2 = some (r, σ')) : Met l yX4_hand (Cond.code yX4_hand cX4_hand 3 (some .int) :: wT) rm_X4_hand (va_Pc [.ref (gx_q G 0), .int a1, .int a2] (gx_S G 13 (gm_mk G) σ)) (gx_QM G 13 (gm_mk G) (some (.int r)) σ') 0 0 (gx_A G) := by
  refine Met.ofW (cc := cX4_hand) (maxL := 3) (ret := (some .int)) (by decide) rfl ?_
  intro p e s m args below meth c s₁ B hml hv
  obtain ⟨rfl, hH, hE⟩ := hv
  have C := gx_C.of (G := G) B hml hE
  have hx := C.1.1
  have hb := C.1.2.1
  have hr := B.returns
  have hlocks := B.notSynchronized
  have hS : va_S (gx_A G) s.heap s.heap [] := va_S.rf
  have hl := lv_entry ([.ref (gx_q G 0), .int a1, .int a2]) (n := 3) (Nat.le_of_ble_eq_true rfl)
  rw [lg_entry_eq]
  generalize (lg_sl ([.ref (gx_q G 0), .int a1, .int a2]) ++ List.replicate (3 - (lg_sl ([.ref (gx_q G 0), .int a1, .int a2])).length) Slot.unset).toArray = ls at hl ⊢
  have hl : lv_has ls 3 [(0, .ref (gx_q G 0)), (1, .int a1), (2, .int a2)] := hl
  unfold f_X4_hand at hf
  refine lv_iload_n hx hb dX4_hand_0 rfl (lv_at hl 1 rfl) ?_
  refine lv_sipush (v := (-1000 : Int32)) hx hb dX4_hand_1 (by decide) ?_
  refine lv_sipush (v := (1000 : Int32)) hx hb dX4_hand_4 (by decide) ?_
  obtain ⟨r1, hr1, hf⟩ := gx_bnd hf
  refine gx_sR (v := (some (.int r1))) (rest := []) C hH hS [.int a1, .int (-1000 : Int32), .int (1000 : Int32)] (t_X4_within l G σ a1 (-1000 : Int32) (1000 : Int32) r1  hr1) lk_X4_59 ⟨rfl, rfl, Nat.le_of_ble_eq_true rfl, Nat.le_of_ble_eq_true rfl⟩ ⟨Nat.zero_le _, Nat.zero_le _⟩ hl.1 rfl (Nat.le_of_ble_eq_true rfl) dX4_hand_7 ?_
  refine gx_e0 (st := [.int r1]) ?_ rfl
  refine lv_if_eq (tgt := 26) hx hb dX4_hand_10 (by decide) (fun hc2 => ?_) (fun hc2 => ?_)
  · have hf := gx_pos hc2 hf
    refine lv_bipush (v := (-2 : Int32)) hx hb dX4_hand_26 (by decide) ?_
    cases hf
    exact gx_iretM C hr hlocks hH hS dX4_hand_28
  · have hf := gx_neg hc2 hf
    refine lv_iload_n hx hb dX4_hand_13 rfl (lv_at hl 2 rfl) ?_
    refine lv_sipush (v := (-1000 : Int32)) hx hb dX4_hand_14 (by decide) ?_
    refine lv_sipush (v := (1000 : Int32)) hx hb dX4_hand_17 (by decide) ?_
    obtain ⟨r3, hr3, hf⟩ := gx_bnd hf
    refine gx_sR (v := (some (.int r3))) (rest := []) C hH hS [.int a2, .int (-1000 : Int32), .int (1000 : Int32)] (t_X4_within l G σ a2 (-1000 : Int32) (1000 : Int32) r3  hr3) lk_X4_59 ⟨rfl, rfl, Nat.le_of_ble_eq_true rfl, Nat.le_of_ble_eq_true rfl⟩ ⟨Nat.zero_le _, Nat.zero_le _⟩ hl.1 rfl (Nat.le_of_ble_eq_true rfl) dX4_hand_20 ?_
    refine gx_e0 (st := [.int r3]) ?_ rfl
    refine lv_if_ne (tgt := 29) hx hb dX4_hand_23 (by decide) (fun hc4 => ?_) (fun hc4 => ?_)
    · have hf := gx_neg hc4 hf
      refine lv_aload_n hx hb dX4_hand_29 rfl (lv_at hl 0 rfl) ?_
      refine lv_iconst (v := (0 : Int32)) hx hb dX4_hand_30 (by decide) ?_
      refine lv_iload_n hx hb dX4_hand_31 rfl (lv_at hl 1 rfl) ?_
      obtain ⟨σ5, hr6, hf⟩ := gx_bnd hf
      refine gx_vM (v := none) (rest := []) C hH hS 0 (by decide) rfl rfl [.int (0 : Int32), .int a1] (t_X4_moves l G hG σ (0 : Int32) a1 σ5  hr6) lk_X4_97 ⟨rfl, rfl, Nat.le_of_ble_eq_true rfl, Nat.le_of_ble_eq_true rfl⟩ ⟨Nat.zero_le _, Nat.zero_le _⟩ hl.1 rfl (Nat.le_of_ble_eq_true rfl) dX4_hand_32 (fun H locs hH hS => ?_)
      refine gx_e0 (st := []) ?_ rfl
      refine lv_aload_n hx hb dX4_hand_35 rfl (lv_at hl 0 rfl) ?_
      refine lv_iconst (v := (1 : Int32)) hx hb dX4_hand_36 (by decide) ?_
      refine lv_iload_n hx hb dX4_hand_37 rfl (lv_at hl 2 rfl) ?_
      obtain ⟨σ7, hr8, hf⟩ := gx_bnd hf
      refine gx_vM (v := none) (rest := []) C hH hS 0 (by decide) rfl rfl [.int (1 : Int32), .int a2] (t_X4_moves l G hG σ5 (1 : Int32) a2 σ7  hr8) lk_X4_97 ⟨rfl, rfl, Nat.le_of_ble_eq_true rfl, Nat.le_of_ble_eq_true rfl⟩ ⟨Nat.zero_le _, Nat.zero_le _⟩ hl.1 rfl (Nat.le_of_ble_eq_true rfl) dX4_hand_38 (fun H locs hH hS => ?_)
      refine gx_e0 (st := []) ?_ rfl
      refine lv_aload_n hx hb dX4_hand_41 rfl (lv_at hl 0 rfl) ?_
      refine lv_aload_n hx hb dX4_hand_42 rfl (lv_at hl 0 rfl) ?_
      refine gx_get C hH 0 (by decide) rfl fl_X4_91 rfl dX4_hand_43 ?_
      refine gx_put C hG hH hS 0 (by decide) rfl fl_X4_94 fw_X4_1 (pw_X4_1 _ _) rfl rfl (Nat.le_of_ble_eq_true rfl) dX4_hand_46 (fun H locs σ9 hσ9 hH hS => ?_)
      have hf := gx_let hf σ9 hσ9
      refine lv_iconst (v := (1 : Int32)) hx hb dX4_hand_49 (by decide) ?_
      cases hf
      exact gx_iretM C hr hlocks hH hS dX4_hand_50
    · have hf := gx_pos hc4 hf
      refine lv_bipush (v := (-2 : Int32)) hx hb dX4_hand_26 (by decide) ?_
      cases hf
      exact gx_iretM C hr hlocks hH hS dX4_hand_28
abbrev rm_X4_ofAxis : Room := { frames := 2, cells := 0, slots := 0, locals := 42 }
def f_X4_ofAxis (σ : gx_St) (a1 a2 : Int32) : Option Int32 :=
  (f_X4_isAxis a1).bind fun r1 =>
  if r1 = 0 then (some (-1 : Int32)) else ((f_X4_within a2 (0 : Int32) (1 : Int32)).bind fun r3 =>
  if r3 = 0 then (some (-2 : Int32)) else (if a2 = 0 then (if (a1 < 0 ∨ 2 ≤ a1.toNatClampNeg) then none else
  some ((10000000 : Int32) + (σ (1) a1.toNatClampNeg))) else (if (a1 < 0 ∨ 2 ≤ a1.toNatClampNeg) then none else
  some ((10000000 : Int32) + (σ (2) a1.toNatClampNeg)))))
set_option maxHeartbeats 4000000 in
set_option maxRecDepth 100000 in
theorem t_X4_ofAxis (l : Launch) (G : gx_G) (σ : gx_St) (a1 a2 : Int32) (r : Int32)  (hf : f_X4_ofAxis σ a1 a2 = some r) : Met l yX4_ofAxis (Cond.code yX4_ofAxis cX4_ofAxis 3 (some .int) :: wT) rm_X4_ofAxis (va_Pc [.ref (gx_q G 0), .int a1, .int a2] (gx_S G 13 (gm_mk G) σ)) (gx_QR (some (.int r))) 0 0 (fun _ => False) := by
  refine Met.ofW (cc := cX4_ofAxis) (maxL := 3) (ret := (some .int)) (by decide) rfl ?_
  intro p e s m args below meth c s₁ B hml hv
  obtain ⟨rfl, hH, hE⟩ := hv
  have C := gx_C.of (G := G) B hml hE
  have hx := C.1.1
  have hb := C.1.2.1
  have hr := B.returns
  have hlocks := B.notSynchronized
  have hS : va_S (gx_A G) s.heap s.heap [] := va_S.rf
  have hl := lv_entry ([.ref (gx_q G 0), .int a1, .int a2]) (n := 3) (Nat.le_of_ble_eq_true rfl)
  rw [lg_entry_eq]
  generalize (lg_sl ([.ref (gx_q G 0), .int a1, .int a2]) ++ List.replicate (3 - (lg_sl ([.ref (gx_q G 0), .int a1, .int a2])).length) Slot.unset).toArray = ls at hl ⊢
  have hl : lv_has ls 3 [(0, .ref (gx_q G 0)), (1, .int a1), (2, .int a2)] := hl
  unfold f_X4_ofAxis at hf
  refine lv_iload_n hx hb dX4_ofAxis_0 rfl (lv_at hl 1 rfl) ?_
  obtain ⟨r1, hr1, hf⟩ := gx_bnd hf
  refine gx_sR (v := (some (.int r1))) (rest := []) C hH hS [.int a1] (t_X4_isAxis l G σ a1 r1  hr1) lk_X4_101 ⟨rfl, rfl, Nat.le_of_ble_eq_true rfl, Nat.le_of_ble_eq_true rfl⟩ ⟨Nat.zero_le _, Nat.zero_le _⟩ hl.1 rfl (Nat.le_of_ble_eq_true rfl) dX4_ofAxis_1 ?_
  refine gx_e0 (st := [.int r1]) ?_ rfl
  refine lv_if_ne (tgt := 9) hx hb dX4_ofAxis_4 (by decide) (fun hc2 => ?_) (fun hc2 => ?_)
  · have hf := gx_neg hc2 hf
    refine lv_iload_n hx hb dX4_ofAxis_9 rfl (lv_at hl 2 rfl) ?_
    refine lv_iconst (v := (0 : Int32)) hx hb dX4_ofAxis_10 (by decide) ?_
    refine lv_iconst (v := (1 : Int32)) hx hb dX4_ofAxis_11 (by decide) ?_
    obtain ⟨r3, hr3, hf⟩ := gx_bnd hf
    refine gx_sR (v := (some (.int r3))) (rest := []) C hH hS [.int a2, .int (0 : Int32), .int (1 : Int32)] (t_X4_within l G σ a2 (0 : Int32) (1 : Int32) r3  hr3) lk_X4_59 ⟨rfl, rfl, Nat.le_of_ble_eq_true rfl, Nat.le_of_ble_eq_true rfl⟩ ⟨Nat.zero_le _, Nat.zero_le _⟩ hl.1 rfl (Nat.le_of_ble_eq_true rfl) dX4_ofAxis_12 ?_
    refine gx_e0 (st := [.int r3]) ?_ rfl
    refine lv_if_ne (tgt := 21) hx hb dX4_ofAxis_15 (by decide) (fun hc4 => ?_) (fun hc4 => ?_)
    · have hf := gx_neg hc4 hf
      refine lv_ldc hx hb C.1.2.2.2.1 (C.1.2.2.2.2 _ kw_604) dX4_ofAxis_21 ?_
      refine lv_iload_n hx hb dX4_ofAxis_23 rfl (lv_at hl 2 rfl) ?_
      refine lv_if_ne (tgt := 36) hx hb dX4_ofAxis_24 (by decide) (fun hc5 => ?_) (fun hc5 => ?_)
      · have hf := gx_neg hc5 hf
        refine lv_aload_n hx hb dX4_ofAxis_36 rfl (lv_at hl 0 rfl) ?_
        refine gx_get C hH 0 (by decide) rfl fl_X4_13 rfl dX4_ofAxis_37 ?_
        refine lv_iload_n hx hb dX4_ofAxis_40 rfl (lv_at hl 1 rfl) ?_
        obtain ⟨hb6, hf⟩ := gx_chk hf
        refine gx_iald C hH (2) (by decide) rfl hb6 dX4_ofAxis_41 ?_
        refine lv_iadd hx hb dX4_ofAxis_42 ?_
        obtain rfl := Option.some.inj hf
        exact gx_iretR C hr hlocks dX4_ofAxis_43
      · have hf := gx_pos hc5 hf
        refine lv_aload_n hx hb dX4_ofAxis_27 rfl (lv_at hl 0 rfl) ?_
        refine gx_get C hH 0 (by decide) rfl fl_X4_7 rfl dX4_ofAxis_28 ?_
        refine lv_iload_n hx hb dX4_ofAxis_31 rfl (lv_at hl 1 rfl) ?_
        obtain ⟨hb7, hf⟩ := gx_chk hf
        refine gx_iald C hH (1) (by decide) rfl hb7 dX4_ofAxis_32 ?_
        refine lv_goto (tgt := 42) hx hb dX4_ofAxis_33 (by decide) ?_
        refine lv_iadd hx hb dX4_ofAxis_42 ?_
        obtain rfl := Option.some.inj hf
        exact gx_iretR C hr hlocks dX4_ofAxis_43
    · have hf := gx_pos hc4 hf
      refine lv_bipush (v := (-2 : Int32)) hx hb dX4_ofAxis_18 (by decide) ?_
      obtain rfl := Option.some.inj hf
      exact gx_iretR C hr hlocks dX4_ofAxis_20
  · have hf := gx_pos hc2 hf
    refine lv_iconst (v := (-1 : Int32)) hx hb dX4_ofAxis_7 (by decide) ?_
    obtain rfl := Option.some.inj hf
    exact gx_iretR C hr hlocks dX4_ofAxis_8
abbrev rm_X4_doesPlay : Room := { frames := 1, cells := 0, slots := 0, locals := 22 }
def f_X4_doesPlay (σ : gx_St) (a1 a2 a3 : Int32) : Option Int32 :=
  (f_X4_numberOf σ a1 (0 : Int32)).bind fun r1 =>
  if a2 = (-9 : Int32) then (some (0 : Int32)) else (if r1 = (-9 : Int32) then (some (1 : Int32)) else ((f_X4_numberOf σ a1 (1 : Int32)).bind fun r4 =>
  if ((a2 + r4) + r1) ≤ a3 then (some (0 : Int32)) else (some (1 : Int32))))
set_option maxHeartbeats 4000000 in
set_option maxRecDepth 100000 in
theorem t_X4_doesPlay (l : Launch) (G : gx_G) (σ : gx_St) (a1 a2 a3 : Int32) (r : Int32)  (hf : f_X4_doesPlay σ a1 a2 a3 = some r) : Met l yX4_doesPlay (Cond.code yX4_doesPlay cX4_doesPlay 5 (some .boolean) :: wT) rm_X4_doesPlay (va_Pc [.ref (gx_q G 0), .int a1, .int a2, .int a3] (gx_S G 13 (gm_mk G) σ)) (gx_QR (some (.int r))) 0 0 (fun _ => False) := by
  refine Met.ofW (cc := cX4_doesPlay) (maxL := 5) (ret := (some .boolean)) (by decide) rfl ?_
  intro p e s m args below meth c s₁ B hml hv
  obtain ⟨rfl, hH, hE⟩ := hv
  have C := gx_C.of (G := G) B hml hE
  have hx := C.1.1
  have hb := C.1.2.1
  have hr := B.returns
  have hlocks := B.notSynchronized
  have hS : va_S (gx_A G) s.heap s.heap [] := va_S.rf
  have hl := lv_entry ([.ref (gx_q G 0), .int a1, .int a2, .int a3]) (n := 5) (Nat.le_of_ble_eq_true rfl)
  rw [lg_entry_eq]
  generalize (lg_sl ([.ref (gx_q G 0), .int a1, .int a2, .int a3]) ++ List.replicate (5 - (lg_sl ([.ref (gx_q G 0), .int a1, .int a2, .int a3])).length) Slot.unset).toArray = ls at hl ⊢
  have hl : lv_has ls 5 [(0, .ref (gx_q G 0)), (1, .int a1), (2, .int a2), (3, .int a3)] := hl
  unfold f_X4_doesPlay at hf
  refine lv_aload_n hx hb dX4_doesPlay_0 rfl (lv_at hl 0 rfl) ?_
  refine lv_iload_n hx hb dX4_doesPlay_1 rfl (lv_at hl 1 rfl) ?_
  refine lv_iconst (v := (0 : Int32)) hx hb dX4_doesPlay_2 (by decide) ?_
  obtain ⟨r1, hr1, hf⟩ := gx_bnd hf
  refine gx_vR (v := (some (.int r1))) (rest := []) C hH hS 0 (by decide) rfl rfl [.int a1, .int (0 : Int32)] (t_X4_numberOf l G σ a1 (0 : Int32) r1  hr1) lk_X4_72 ⟨rfl, rfl, Nat.le_of_ble_eq_true rfl, Nat.le_of_ble_eq_true rfl⟩ ⟨Nat.zero_le _, Nat.zero_le _⟩ hl.1 rfl (Nat.le_of_ble_eq_true rfl) dX4_doesPlay_3 ?_
  refine gx_e0 (st := [.int r1]) ?_ rfl
  refine lv_istore (lv' := [(4, .int r1), (0, .ref (gx_q G 0)), (1, .int a1), (2, .int a2), (3, .int a3)]) hx hb dX4_doesPlay_6 hl (by decide) rfl (fun ls hl => ?_)
  refine lv_iload_n hx hb dX4_doesPlay_8 rfl (lv_at hl 3 rfl) ?_
  refine lv_bipush (v := (-9 : Int32)) hx hb dX4_doesPlay_9 (by decide) ?_
  refine lv_icmp_eq (tgt := 40) hx hb dX4_doesPlay_11 (by decide) (fun hc2 => ?_) (fun hc2 => ?_)
  · have hf := gx_pos hc2 hf
    refine lv_iconst (v := (0 : Int32)) hx hb dX4_doesPlay_40 (by decide) ?_
    obtain rfl := Option.some.inj hf
    exact gx_zretR C hr hlocks (by decide) dX4_doesPlay_41
  · have hf := gx_neg hc2 hf
    refine lv_iload hx hb dX4_doesPlay_14 (lv_at hl 0 rfl) ?_
    refine lv_bipush (v := (-9 : Int32)) hx hb dX4_doesPlay_16 (by decide) ?_
    refine lv_icmp_eq (tgt := 36) hx hb dX4_doesPlay_18 (by decide) (fun hc3 => ?_) (fun hc3 => ?_)
    · have hf := gx_pos hc3 hf
      refine lv_iconst (v := (1 : Int32)) hx hb dX4_doesPlay_36 (by decide) ?_
      refine lv_goto (tgt := 41) hx hb dX4_doesPlay_37 (by decide) ?_
      obtain rfl := Option.some.inj hf
      exact gx_zretR C hr hlocks (by decide) dX4_doesPlay_41
    · have hf := gx_neg hc3 hf
      refine lv_iload_n hx hb dX4_doesPlay_21 rfl (lv_at hl 4 rfl) ?_
      refine lv_iload_n hx hb dX4_doesPlay_22 rfl (lv_at hl 3 rfl) ?_
      refine lv_aload_n hx hb dX4_doesPlay_23 rfl (lv_at hl 1 rfl) ?_
      refine lv_iload_n hx hb dX4_doesPlay_24 rfl (lv_at hl 2 rfl) ?_
      refine lv_iconst (v := (1 : Int32)) hx hb dX4_doesPlay_25 (by decide) ?_
      obtain ⟨r4, hr4, hf⟩ := gx_bnd hf
      refine gx_vR (v := (some (.int r4))) (rest := [.int a2, .int a3]) C hH hS 0 (by decide) rfl rfl [.int a1, .int (1 : Int32)] (t_X4_numberOf l G σ a1 (1 : Int32) r4  hr4) lk_X4_72 ⟨rfl, rfl, Nat.le_of_ble_eq_true rfl, Nat.le_of_ble_eq_true rfl⟩ ⟨Nat.zero_le _, Nat.zero_le _⟩ hl.1 rfl (Nat.le_of_ble_eq_true rfl) dX4_doesPlay_26 ?_
      refine gx_e0 (st := [.int r4, .int a2, .int a3]) ?_ rfl
      refine lv_iadd hx hb dX4_doesPlay_29 ?_
      refine lv_iload hx hb dX4_doesPlay_30 (lv_at hl 0 rfl) ?_
      refine lv_iadd hx hb dX4_doesPlay_32 ?_
      refine lv_icmp_ge (tgt := 40) hx hb dX4_doesPlay_33 (by decide) (fun hc5 => ?_) (fun hc5 => ?_)
      · have hf := gx_pos hc5 hf
        refine lv_iconst (v := (0 : Int32)) hx hb dX4_doesPlay_40 (by decide) ?_
        obtain rfl := Option.some.inj hf
        exact gx_zretR C hr hlocks (by decide) dX4_doesPlay_41
      · have hf := gx_neg hc5 hf
        refine lv_iconst (v := (1 : Int32)) hx hb dX4_doesPlay_36 (by decide) ?_
        refine lv_goto (tgt := 41) hx hb dX4_doesPlay_37 (by decide) ?_
        obtain rfl := Option.some.inj hf
        exact gx_zretR C hr hlocks (by decide) dX4_doesPlay_41
abbrev rm_X4_isOn : Room := { frames := 2, cells := 0, slots := 0, locals := 46 }
def f_X4_isOn (σ : gx_St) (a1 a2 a3 : Int32) : Option Int32 :=
  (f_X4_doesPlay σ a1 a2 a3).bind fun r1 =>
  if r1 = 0 then (some (0 : Int32)) else ((f_X4_numberOf σ a1 (1 : Int32)).bind fun r3 =>
  if a3 < (a2 + r3) then (some (0 : Int32)) else (some (1 : Int32)))
set_option maxHeartbeats 4000000 in
set_option maxRecDepth 100000 in
theorem t_X4_isOn (l : Launch) (G : gx_G) (σ : gx_St) (a1 a2 a3 : Int32) (r : Int32)  (hf : f_X4_isOn σ a1 a2 a3 = some r) : Met l yX4_isOn (Cond.code yX4_isOn cX4_isOn 4 (some .boolean) :: wT) rm_X4_isOn (va_Pc [.ref (gx_q G 0), .int a1, .int a2, .int a3] (gx_S G 13 (gm_mk G) σ)) (gx_QR (some (.int r))) 0 0 (fun _ => False) := by
  refine Met.ofW (cc := cX4_isOn) (maxL := 4) (ret := (some .boolean)) (by decide) rfl ?_
  intro p e s m args below meth c s₁ B hml hv
  obtain ⟨rfl, hH, hE⟩ := hv
  have C := gx_C.of (G := G) B hml hE
  have hx := C.1.1
  have hb := C.1.2.1
  have hr := B.returns
  have hlocks := B.notSynchronized
  have hS : va_S (gx_A G) s.heap s.heap [] := va_S.rf
  have hl := lv_entry ([.ref (gx_q G 0), .int a1, .int a2, .int a3]) (n := 4) (Nat.le_of_ble_eq_true rfl)
  rw [lg_entry_eq]
  generalize (lg_sl ([.ref (gx_q G 0), .int a1, .int a2, .int a3]) ++ List.replicate (4 - (lg_sl ([.ref (gx_q G 0), .int a1, .int a2, .int a3])).length) Slot.unset).toArray = ls at hl ⊢
  have hl : lv_has ls 4 [(0, .ref (gx_q G 0)), (1, .int a1), (2, .int a2), (3, .int a3)] := hl
  unfold f_X4_isOn at hf
  refine lv_aload_n hx hb dX4_isOn_0 rfl (lv_at hl 0 rfl) ?_
  refine lv_iload_n hx hb dX4_isOn_1 rfl (lv_at hl 1 rfl) ?_
  refine lv_iload_n hx hb dX4_isOn_2 rfl (lv_at hl 2 rfl) ?_
  refine lv_iload_n hx hb dX4_isOn_3 rfl (lv_at hl 3 rfl) ?_
  obtain ⟨r1, hr1, hf⟩ := gx_bnd hf
  refine gx_vR (v := (some (.int r1))) (rest := []) C hH hS 0 (by decide) rfl rfl [.int a1, .int a2, .int a3] (t_X4_doesPlay l G σ a1 a2 a3 r1  hr1) lk_X4_108 ⟨rfl, rfl, Nat.le_of_ble_eq_true rfl, Nat.le_of_ble_eq_true rfl⟩ ⟨Nat.zero_le _, Nat.zero_le _⟩ hl.1 rfl (Nat.le_of_ble_eq_true rfl) dX4_isOn_4 ?_
  refine gx_e0 (st := [.int r1]) ?_ rfl
  refine lv_if_eq (tgt := 26) hx hb dX4_isOn_7 (by decide) (fun hc2 => ?_) (fun hc2 => ?_)
  · have hf := gx_pos hc2 hf
    refine lv_iconst (v := (0 : Int32)) hx hb dX4_isOn_26 (by decide) ?_
    obtain rfl := Option.some.inj hf
    exact gx_zretR C hr hlocks (by decide) dX4_isOn_27
  · have hf := gx_neg hc2 hf
    refine lv_iload_n hx hb dX4_isOn_10 rfl (lv_at hl 3 rfl) ?_
    refine lv_iload_n hx hb dX4_isOn_11 rfl (lv_at hl 2 rfl) ?_
    refine lv_aload_n hx hb dX4_isOn_12 rfl (lv_at hl 0 rfl) ?_
    refine lv_iload_n hx hb dX4_isOn_13 rfl (lv_at hl 1 rfl) ?_
    refine lv_iconst (v := (1 : Int32)) hx hb dX4_isOn_14 (by decide) ?_
    obtain ⟨r3, hr3, hf⟩ := gx_bnd hf
    refine gx_vR (v := (some (.int r3))) (rest := [.int a2, .int a3]) C hH hS 0 (by decide) rfl rfl [.int a1, .int (1 : Int32)] (t_X4_numberOf l G σ a1 (1 : Int32) r3  hr3) lk_X4_72 ⟨rfl, rfl, Nat.le_of_ble_eq_true rfl, Nat.le_of_ble_eq_true rfl⟩ ⟨Nat.zero_le _, Nat.zero_le _⟩ hl.1 rfl (Nat.le_of_ble_eq_true rfl) dX4_isOn_15 ?_
    refine gx_e0 (st := [.int r3, .int a2, .int a3]) ?_ rfl
    refine lv_iadd hx hb dX4_isOn_18 ?_
    refine lv_icmp_lt (tgt := 26) hx hb dX4_isOn_19 (by decide) (fun hc4 => ?_) (fun hc4 => ?_)
    · have hf := gx_pos hc4 hf
      refine lv_iconst (v := (0 : Int32)) hx hb dX4_isOn_26 (by decide) ?_
      obtain rfl := Option.some.inj hf
      exact gx_zretR C hr hlocks (by decide) dX4_isOn_27
    · have hf := gx_neg hc4 hf
      refine lv_iconst (v := (1 : Int32)) hx hb dX4_isOn_22 (by decide) ?_
      refine lv_goto (tgt := 27) hx hb dX4_isOn_23 (by decide) ?_
      obtain rfl := Option.some.inj hf
      exact gx_zretR C hr hlocks (by decide) dX4_isOn_27
abbrev rm_X4_ofEffect : Room := { frames := 3, cells := 0, slots := 0, locals := 69 }
def f_X4_ofEffect (σ : gx_St) (a1 a2 : Int32) : Option Int32 :=
  (f_X4_isEffect σ a1).bind fun r1 =>
  if r1 = 0 then (some (-1 : Int32)) else ((f_X4_within a2 (10 : Int32) (21 : Int32)).bind fun r3 =>
  if r3 = 0 then (if a2 = (0 : Int32) then (if (a1 < 0 ∨ 12 ≤ a1.toNatClampNeg) then none else
  some (σ (3) a1.toNatClampNeg)) else if a2 = (1 : Int32) then (if (a1 < 0 ∨ 12 ≤ a1.toNatClampNeg) then none else
  some ((σ (4) a1.toNatClampNeg) + (10000 : Int32))) else if a2 = (2 : Int32) then (if (a1 < 0 ∨ 12 ≤ a1.toNatClampNeg) then none else
  some ((σ (5) a1.toNatClampNeg) + (10000 : Int32))) else if a2 = (3 : Int32) then (if (a1 < 0 ∨ 12 ≤ a1.toNatClampNeg) then none else
  some ((σ (6) a1.toNatClampNeg) + (10000 : Int32))) else if a2 = (4 : Int32) then (if (a1 < 0 ∨ 12 ≤ a1.toNatClampNeg) then none else
  some ((σ (7) a1.toNatClampNeg) + (10000 : Int32))) else if a2 = (5 : Int32) then ((f_X4_slotOf σ a1).bind fun r16 =>
  some r16) else if a2 = (6 : Int32) then (if (a1 < 0 ∨ 12 ≤ a1.toNatClampNeg) then none else
  (f_X4_doesPlay σ a1 (σ (9) a1.toNatClampNeg) (σ 0 0)).bind fun r19 =>
  if r19 = 0 then (some (0 : Int32)) else (some (1 : Int32))) else if a2 = (7 : Int32) then (if (a1 < 0 ∨ 12 ≤ a1.toNatClampNeg) then none else
  (f_X4_isOn σ a1 (σ (9) a1.toNatClampNeg) (σ 0 0)).bind fun r23 =>
  if r23 = 0 then (some (0 : Int32)) else (some (1 : Int32))) else if a2 = (8 : Int32) then (if (a1 < 0 ∨ 12 ≤ a1.toNatClampNeg) then none else
  some (σ (9) a1.toNatClampNeg)) else (some (-2 : Int32))) else ((f_X4_tellNumber σ a1 (a2 - (10 : Int32))).bind fun r27 =>
  some r27))
set_option maxHeartbeats 4000000 in
set_option maxRecDepth 100000 in
theorem t_X4_ofEffect (l : Launch) (G : gx_G) (σ : gx_St) (a1 a2 : Int32) (r : Int32)  (hf : f_X4_ofEffect σ a1 a2 = some r) : Met l yX4_ofEffect (Cond.code yX4_ofEffect cX4_ofEffect 3 (some .int) :: wT) rm_X4_ofEffect (va_Pc [.ref (gx_q G 0), .int a1, .int a2] (gx_S G 13 (gm_mk G) σ)) (gx_QR (some (.int r))) 0 0 (fun _ => False) := by
  refine Met.ofW (cc := cX4_ofEffect) (maxL := 3) (ret := (some .int)) (by decide) rfl ?_
  intro p e s m args below meth c s₁ B hml hv
  obtain ⟨rfl, hH, hE⟩ := hv
  have C := gx_C.of (G := G) B hml hE
  have hx := C.1.1
  have hb := C.1.2.1
  have hr := B.returns
  have hlocks := B.notSynchronized
  have hS : va_S (gx_A G) s.heap s.heap [] := va_S.rf
  have hl := lv_entry ([.ref (gx_q G 0), .int a1, .int a2]) (n := 3) (Nat.le_of_ble_eq_true rfl)
  rw [lg_entry_eq]
  generalize (lg_sl ([.ref (gx_q G 0), .int a1, .int a2]) ++ List.replicate (3 - (lg_sl ([.ref (gx_q G 0), .int a1, .int a2])).length) Slot.unset).toArray = ls at hl ⊢
  have hl : lv_has ls 3 [(0, .ref (gx_q G 0)), (1, .int a1), (2, .int a2)] := hl
  unfold f_X4_ofEffect at hf
  refine lv_aload_n hx hb dX4_ofEffect_0 rfl (lv_at hl 0 rfl) ?_
  refine lv_iload_n hx hb dX4_ofEffect_1 rfl (lv_at hl 1 rfl) ?_
  obtain ⟨r1, hr1, hf⟩ := gx_bnd hf
  refine gx_vR (v := (some (.int r1))) (rest := []) C hH hS 0 (by decide) rfl rfl [.int a1] (t_X4_isEffect l G σ a1 r1  hr1) lk_X4_76 ⟨rfl, rfl, Nat.le_of_ble_eq_true rfl, Nat.le_of_ble_eq_true rfl⟩ ⟨Nat.zero_le _, Nat.zero_le _⟩ hl.1 rfl (Nat.le_of_ble_eq_true rfl) dX4_ofEffect_2 ?_
  refine gx_e0 (st := [.int r1]) ?_ rfl
  refine lv_if_ne (tgt := 10) hx hb dX4_ofEffect_5 (by decide) (fun hc2 => ?_) (fun hc2 => ?_)
  · have hf := gx_neg hc2 hf
    refine lv_iload_n hx hb dX4_ofEffect_10 rfl (lv_at hl 2 rfl) ?_
    refine lv_bipush (v := (10 : Int32)) hx hb dX4_ofEffect_11 (by decide) ?_
    refine lv_bipush (v := (21 : Int32)) hx hb dX4_ofEffect_13 (by decide) ?_
    obtain ⟨r3, hr3, hf⟩ := gx_bnd hf
    refine gx_sR (v := (some (.int r3))) (rest := []) C hH hS [.int a2, .int (10 : Int32), .int (21 : Int32)] (t_X4_within l G σ a2 (10 : Int32) (21 : Int32) r3  hr3) lk_X4_59 ⟨rfl, rfl, Nat.le_of_ble_eq_true rfl, Nat.le_of_ble_eq_true rfl⟩ ⟨Nat.zero_le _, Nat.zero_le _⟩ hl.1 rfl (Nat.le_of_ble_eq_true rfl) dX4_ofEffect_15 ?_
    refine gx_e0 (st := [.int r3]) ?_ rfl
    refine lv_if_eq (tgt := 31) hx hb dX4_ofEffect_18 (by decide) (fun hc4 => ?_) (fun hc4 => ?_)
    · have hf := gx_pos hc4 hf
      refine lv_iload_n hx hb dX4_ofEffect_31 rfl (lv_at hl 2 rfl) ?_
      by_cases hc5 : a2 = (0 : Int32)
      · have hf := gx_pos hc5 hf
        refine lv_tableIn (tgt := 84) hx hb dX4_ofEffect_32 (by rw [hc5]; decide) (by rw [hc5]; decide) (by rw [hc5]; rfl) (by decide) ?_
        refine lv_aload_n hx hb dX4_ofEffect_84 rfl (lv_at hl 0 rfl) ?_
        refine gx_get C hH 0 (by decide) rfl fl_X4_16 rfl dX4_ofEffect_85 ?_
        refine lv_iload_n hx hb dX4_ofEffect_88 rfl (lv_at hl 1 rfl) ?_
        obtain ⟨hb6, hf⟩ := gx_chk hf
        refine gx_iald C hH (3) (by decide) rfl hb6 dX4_ofEffect_89 ?_
        obtain rfl := Option.some.inj hf
        exact gx_iretR C hr hlocks dX4_ofEffect_90
      · have hf := gx_neg hc5 hf
        by_cases hc7 : a2 = (1 : Int32)
        · have hf := gx_pos hc7 hf
          refine lv_tableIn (tgt := 91) hx hb dX4_ofEffect_32 (by rw [hc7]; decide) (by rw [hc7]; decide) (by rw [hc7]; rfl) (by decide) ?_
          refine lv_aload_n hx hb dX4_ofEffect_91 rfl (lv_at hl 0 rfl) ?_
          refine gx_get C hH 0 (by decide) rfl fl_X4_19 rfl dX4_ofEffect_92 ?_
          refine lv_iload_n hx hb dX4_ofEffect_95 rfl (lv_at hl 1 rfl) ?_
          obtain ⟨hb8, hf⟩ := gx_chk hf
          refine gx_iald C hH (4) (by decide) rfl hb8 dX4_ofEffect_96 ?_
          refine lv_sipush (v := (10000 : Int32)) hx hb dX4_ofEffect_97 (by decide) ?_
          refine lv_iadd hx hb dX4_ofEffect_100 ?_
          obtain rfl := Option.some.inj hf
          exact gx_iretR C hr hlocks dX4_ofEffect_101
        · have hf := gx_neg hc7 hf
          by_cases hc9 : a2 = (2 : Int32)
          · have hf := gx_pos hc9 hf
            refine lv_tableIn (tgt := 102) hx hb dX4_ofEffect_32 (by rw [hc9]; decide) (by rw [hc9]; decide) (by rw [hc9]; rfl) (by decide) ?_
            refine lv_aload_n hx hb dX4_ofEffect_102 rfl (lv_at hl 0 rfl) ?_
            refine gx_get C hH 0 (by decide) rfl fl_X4_22 rfl dX4_ofEffect_103 ?_
            refine lv_iload_n hx hb dX4_ofEffect_106 rfl (lv_at hl 1 rfl) ?_
            obtain ⟨hb10, hf⟩ := gx_chk hf
            refine gx_iald C hH (5) (by decide) rfl hb10 dX4_ofEffect_107 ?_
            refine lv_sipush (v := (10000 : Int32)) hx hb dX4_ofEffect_108 (by decide) ?_
            refine lv_iadd hx hb dX4_ofEffect_111 ?_
            obtain rfl := Option.some.inj hf
            exact gx_iretR C hr hlocks dX4_ofEffect_112
          · have hf := gx_neg hc9 hf
            by_cases hc11 : a2 = (3 : Int32)
            · have hf := gx_pos hc11 hf
              refine lv_tableIn (tgt := 113) hx hb dX4_ofEffect_32 (by rw [hc11]; decide) (by rw [hc11]; decide) (by rw [hc11]; rfl) (by decide) ?_
              refine lv_aload_n hx hb dX4_ofEffect_113 rfl (lv_at hl 0 rfl) ?_
              refine gx_get C hH 0 (by decide) rfl fl_X4_25 rfl dX4_ofEffect_114 ?_
              refine lv_iload_n hx hb dX4_ofEffect_117 rfl (lv_at hl 1 rfl) ?_
              obtain ⟨hb12, hf⟩ := gx_chk hf
              refine gx_iald C hH (6) (by decide) rfl hb12 dX4_ofEffect_118 ?_
              refine lv_sipush (v := (10000 : Int32)) hx hb dX4_ofEffect_119 (by decide) ?_
              refine lv_iadd hx hb dX4_ofEffect_122 ?_
              obtain rfl := Option.some.inj hf
              exact gx_iretR C hr hlocks dX4_ofEffect_123
            · have hf := gx_neg hc11 hf
              by_cases hc13 : a2 = (4 : Int32)
              · have hf := gx_pos hc13 hf
                refine lv_tableIn (tgt := 124) hx hb dX4_ofEffect_32 (by rw [hc13]; decide) (by rw [hc13]; decide) (by rw [hc13]; rfl) (by decide) ?_
                refine lv_aload_n hx hb dX4_ofEffect_124 rfl (lv_at hl 0 rfl) ?_
                refine gx_get C hH 0 (by decide) rfl fl_X4_28 rfl dX4_ofEffect_125 ?_
                refine lv_iload_n hx hb dX4_ofEffect_128 rfl (lv_at hl 1 rfl) ?_
                obtain ⟨hb14, hf⟩ := gx_chk hf
                refine gx_iald C hH (7) (by decide) rfl hb14 dX4_ofEffect_129 ?_
                refine lv_sipush (v := (10000 : Int32)) hx hb dX4_ofEffect_130 (by decide) ?_
                refine lv_iadd hx hb dX4_ofEffect_133 ?_
                obtain rfl := Option.some.inj hf
                exact gx_iretR C hr hlocks dX4_ofEffect_134
              · have hf := gx_neg hc13 hf
                by_cases hc15 : a2 = (5 : Int32)
                · have hf := gx_pos hc15 hf
                  refine lv_tableIn (tgt := 135) hx hb dX4_ofEffect_32 (by rw [hc15]; decide) (by rw [hc15]; decide) (by rw [hc15]; rfl) (by decide) ?_
                  refine lv_aload_n hx hb dX4_ofEffect_135 rfl (lv_at hl 0 rfl) ?_
                  refine lv_iload_n hx hb dX4_ofEffect_136 rfl (lv_at hl 1 rfl) ?_
                  obtain ⟨r16, hr16, hf⟩ := gx_bnd hf
                  refine gx_vR (v := (some (.int r16))) (rest := []) C hH hS 0 (by decide) rfl rfl [.int a1] (t_X4_slotOf l G σ a1 r16  hr16) lk_X4_105 ⟨rfl, rfl, Nat.le_of_ble_eq_true rfl, Nat.le_of_ble_eq_true rfl⟩ ⟨Nat.zero_le _, Nat.zero_le _⟩ hl.1 rfl (Nat.le_of_ble_eq_true rfl) dX4_ofEffect_137 ?_
                  refine gx_e0 (st := [.int r16]) ?_ rfl
                  obtain rfl := Option.some.inj hf
                  exact gx_iretR C hr hlocks dX4_ofEffect_140
                · have hf := gx_neg hc15 hf
                  by_cases hc17 : a2 = (6 : Int32)
                  · have hf := gx_pos hc17 hf
                    refine lv_tableIn (tgt := 141) hx hb dX4_ofEffect_32 (by rw [hc17]; decide) (by rw [hc17]; decide) (by rw [hc17]; rfl) (by decide) ?_
                    refine lv_aload_n hx hb dX4_ofEffect_141 rfl (lv_at hl 0 rfl) ?_
                    refine lv_iload_n hx hb dX4_ofEffect_142 rfl (lv_at hl 1 rfl) ?_
                    refine lv_aload_n hx hb dX4_ofEffect_143 rfl (lv_at hl 0 rfl) ?_
                    refine gx_get C hH 0 (by decide) rfl fl_X4_34 rfl dX4_ofEffect_144 ?_
                    refine lv_iload_n hx hb dX4_ofEffect_147 rfl (lv_at hl 1 rfl) ?_
                    obtain ⟨hb18, hf⟩ := gx_chk hf
                    refine gx_iald C hH (9) (by decide) rfl hb18 dX4_ofEffect_148 ?_
                    refine lv_aload_n hx hb dX4_ofEffect_149 rfl (lv_at hl 0 rfl) ?_
                    refine gx_get C hH 0 (by decide) rfl fl_X4_91 rfl dX4_ofEffect_150 ?_
                    obtain ⟨r19, hr19, hf⟩ := gx_bnd hf
                    refine gx_vR (v := (some (.int r19))) (rest := []) C hH hS 0 (by decide) rfl rfl [.int a1, .int (σ (9) a1.toNatClampNeg), .int (σ 0 0)] (t_X4_doesPlay l G σ a1 (σ (9) a1.toNatClampNeg) (σ 0 0) r19  hr19) lk_X4_108 ⟨rfl, rfl, Nat.le_of_ble_eq_true rfl, Nat.le_of_ble_eq_true rfl⟩ ⟨Nat.zero_le _, Nat.zero_le _⟩ hl.1 rfl (Nat.le_of_ble_eq_true rfl) dX4_ofEffect_153 ?_
                    refine gx_e0 (st := [.int r19]) ?_ rfl
                    refine lv_if_eq (tgt := 163) hx hb dX4_ofEffect_156 (by decide) (fun hc20 => ?_) (fun hc20 => ?_)
                    · have hf := gx_pos hc20 hf
                      refine lv_iconst (v := (0 : Int32)) hx hb dX4_ofEffect_163 (by decide) ?_
                      obtain rfl := Option.some.inj hf
                      exact gx_iretR C hr hlocks dX4_ofEffect_164
                    · have hf := gx_neg hc20 hf
                      refine lv_iconst (v := (1 : Int32)) hx hb dX4_ofEffect_159 (by decide) ?_
                      refine lv_goto (tgt := 164) hx hb dX4_ofEffect_160 (by decide) ?_
                      obtain rfl := Option.some.inj hf
                      exact gx_iretR C hr hlocks dX4_ofEffect_164
                  · have hf := gx_neg hc17 hf
                    by_cases hc21 : a2 = (7 : Int32)
                    · have hf := gx_pos hc21 hf
                      refine lv_tableIn (tgt := 165) hx hb dX4_ofEffect_32 (by rw [hc21]; decide) (by rw [hc21]; decide) (by rw [hc21]; rfl) (by decide) ?_
                      refine lv_aload_n hx hb dX4_ofEffect_165 rfl (lv_at hl 0 rfl) ?_
                      refine lv_iload_n hx hb dX4_ofEffect_166 rfl (lv_at hl 1 rfl) ?_
                      refine lv_aload_n hx hb dX4_ofEffect_167 rfl (lv_at hl 0 rfl) ?_
                      refine gx_get C hH 0 (by decide) rfl fl_X4_34 rfl dX4_ofEffect_168 ?_
                      refine lv_iload_n hx hb dX4_ofEffect_171 rfl (lv_at hl 1 rfl) ?_
                      obtain ⟨hb22, hf⟩ := gx_chk hf
                      refine gx_iald C hH (9) (by decide) rfl hb22 dX4_ofEffect_172 ?_
                      refine lv_aload_n hx hb dX4_ofEffect_173 rfl (lv_at hl 0 rfl) ?_
                      refine gx_get C hH 0 (by decide) rfl fl_X4_91 rfl dX4_ofEffect_174 ?_
                      obtain ⟨r23, hr23, hf⟩ := gx_bnd hf
                      refine gx_vR (v := (some (.int r23))) (rest := []) C hH hS 0 (by decide) rfl rfl [.int a1, .int (σ (9) a1.toNatClampNeg), .int (σ 0 0)] (t_X4_isOn l G σ a1 (σ (9) a1.toNatClampNeg) (σ 0 0) r23  hr23) lk_X4_111 ⟨rfl, rfl, Nat.le_of_ble_eq_true rfl, Nat.le_of_ble_eq_true rfl⟩ ⟨Nat.zero_le _, Nat.zero_le _⟩ hl.1 rfl (Nat.le_of_ble_eq_true rfl) dX4_ofEffect_177 ?_
                      refine gx_e0 (st := [.int r23]) ?_ rfl
                      refine lv_if_eq (tgt := 187) hx hb dX4_ofEffect_180 (by decide) (fun hc24 => ?_) (fun hc24 => ?_)
                      · have hf := gx_pos hc24 hf
                        refine lv_iconst (v := (0 : Int32)) hx hb dX4_ofEffect_187 (by decide) ?_
                        obtain rfl := Option.some.inj hf
                        exact gx_iretR C hr hlocks dX4_ofEffect_188
                      · have hf := gx_neg hc24 hf
                        refine lv_iconst (v := (1 : Int32)) hx hb dX4_ofEffect_183 (by decide) ?_
                        refine lv_goto (tgt := 188) hx hb dX4_ofEffect_184 (by decide) ?_
                        obtain rfl := Option.some.inj hf
                        exact gx_iretR C hr hlocks dX4_ofEffect_188
                    · have hf := gx_neg hc21 hf
                      by_cases hc25 : a2 = (8 : Int32)
                      · have hf := gx_pos hc25 hf
                        refine lv_tableIn (tgt := 189) hx hb dX4_ofEffect_32 (by rw [hc25]; decide) (by rw [hc25]; decide) (by rw [hc25]; rfl) (by decide) ?_
                        refine lv_aload_n hx hb dX4_ofEffect_189 rfl (lv_at hl 0 rfl) ?_
                        refine gx_get C hH 0 (by decide) rfl fl_X4_34 rfl dX4_ofEffect_190 ?_
                        refine lv_iload_n hx hb dX4_ofEffect_193 rfl (lv_at hl 1 rfl) ?_
                        obtain ⟨hb26, hf⟩ := gx_chk hf
                        refine gx_iald C hH (9) (by decide) rfl hb26 dX4_ofEffect_194 ?_
                        obtain rfl := Option.some.inj hf
                        exact gx_iretR C hr hlocks dX4_ofEffect_195
                      · have hf := gx_neg hc25 hf
                        refine lv_tableOut (tgt := 196) hx hb dX4_ofEffect_32 (by have q0 := lv_neT hc5 (a := 0) rfl; have q1 := lv_neT hc7 (a := 1) rfl; have q2 := lv_neT hc9 (a := 2) rfl; have q3 := lv_neT hc11 (a := 3) rfl; have q4 := lv_neT hc13 (a := 4) rfl; have q5 := lv_neT hc15 (a := 5) rfl; have q6 := lv_neT hc17 (a := 6) rfl; have q7 := lv_neT hc21 (a := 7) rfl; have q8 := lv_neT hc25 (a := 8) rfl; omega) (by decide) ?_
                        refine lv_bipush (v := (-2 : Int32)) hx hb dX4_ofEffect_196 (by decide) ?_
                        obtain rfl := Option.some.inj hf
                        exact gx_iretR C hr hlocks dX4_ofEffect_198
    · have hf := gx_neg hc4 hf
      refine lv_aload_n hx hb dX4_ofEffect_21 rfl (lv_at hl 0 rfl) ?_
      refine lv_iload_n hx hb dX4_ofEffect_22 rfl (lv_at hl 1 rfl) ?_
      refine lv_iload_n hx hb dX4_ofEffect_23 rfl (lv_at hl 2 rfl) ?_
      refine lv_bipush (v := (10 : Int32)) hx hb dX4_ofEffect_24 (by decide) ?_
      refine lv_isub hx hb dX4_ofEffect_26 ?_
      obtain ⟨r27, hr27, hf⟩ := gx_bnd hf
      refine gx_vR (v := (some (.int r27))) (rest := []) C hH hS 0 (by decide) rfl rfl [.int a1, .int (a2 - (10 : Int32))] (t_X4_tellNumber l G σ a1 (a2 - (10 : Int32)) r27  hr27) lk_X4_84 ⟨rfl, rfl, Nat.le_of_ble_eq_true rfl, Nat.le_of_ble_eq_true rfl⟩ ⟨Nat.zero_le _, Nat.zero_le _⟩ hl.1 rfl (Nat.le_of_ble_eq_true rfl) dX4_ofEffect_27 ?_
      refine gx_e0 (st := [.int r27]) ?_ rfl
      obtain rfl := Option.some.inj hf
      exact gx_iretR C hr hlocks dX4_ofEffect_30
  · have hf := gx_pos hc2 hf
    refine lv_iconst (v := (-1 : Int32)) hx hb dX4_ofEffect_8 (by decide) ?_
    obtain rfl := Option.some.inj hf
    exact gx_iretR C hr hlocks dX4_ofEffect_9
abbrev rm_X4_slots : Room := { frames := 1, cells := 0, slots := 0, locals := 22 }
def fL_X4_slots_15 : Nat → gx_St → Int32 → Int32 → Option (Int32 × gx_St)
  | 0, _, _, _ => none
  | N + 1, σ, v1, v2 =>
    if (6 : Int32) ≤ v2 then (gx_lt (σ 0 12) fun x4 =>
    gx_lt (gx_w2 σ 0 12 v1) fun σ5 =>
    some (x4, σ5)) else (if (v2 < 0 ∨ 6 ≤ v2.toNatClampNeg) then none else
    if (σ (10) v2.toNatClampNeg) = (-9 : Int32) then (gx_lt (v2 + (1 : Int32)) fun x8 =>
    fL_X4_slots_15 N σ v1 x8) else (some ((-3 : Int32), σ)))
set_option maxHeartbeats 4000000 in
set_option maxRecDepth 100000 in
theorem w_X4_slots_15 {p : Program} {l : Launch} {e : Env} {s : State} {m : MethodId} {args : Array Value} {below : List Frame} {meth : Method} {c : Code} (G : gx_G) (hG : gx_D G 13) (C : gx_C p m c cX4_slots 3 s args RX4 G) (hr : meth.sig.returnType = (some .int)) (hlocks : meth.locks = false) : ∀ (N : Nat) (σ : gx_St) (v1 v2 : Int32)  (z : (Int32 × gx_St)), fL_X4_slots_15 N σ v1 v2 = some z → ∀ (H : Heap) (locs : List Loc) (ls : Array Slot), gx_H G 13 (gm_mk G) σ H → va_S (gx_A G) s.heap H locs → lv_has ls 3 [(0, .ref (gx_q G 0)), (1, .int v1), (2, .int v2)] → W p l e rm_X4_slots s m args below meth c H locs 0 0 (MQ below (gx_QM G 13 (gm_mk G) (some (.int z.1)) z.2) args s 0 0 (gx_A G)) (F0 m 15 ls []) := by
  have hx := C.1.1
  have hb := C.1.2.1
  intro N
  induction N with
  | zero =>
    intro σ v1 v2  z hf H locs ls hH hS hl
    cases (show (none : Option (Int32 × gx_St)) = some z from hf)
  | succ N ih =>
    intro σ v1 v2  z hf H locs ls hH hS hl
    rw [fL_X4_slots_15] at hf
    refine lv_iload_n hx hb dX4_slots_15 rfl (lv_at hl 2 rfl) ?_
    refine lv_bipush (v := (6 : Int32)) hx hb dX4_slots_16 (by decide) ?_
    refine lv_icmp_ge (tgt := 41) hx hb dX4_slots_18 (by decide) (fun hc3 => ?_) (fun hc3 => ?_)
    · have hf := gx_pos hc3 hf
      refine lv_aload_n hx hb dX4_slots_41 rfl (lv_at hl 0 rfl) ?_
      refine gx_get C hH 0 (by decide) rfl fl_X4_37 rfl dX4_slots_42 ?_
      refine lv_topi (fun x4 hx4 => ?_)
      have hf := gx_let hf x4 hx4
      refine lv_istore_n (lv' := [(2, .int x4), (0, .ref (gx_q G 0)), (1, .int v1)]) hx hb dX4_slots_45 rfl hl (by decide) rfl (fun ls hl => ?_)
      refine lv_aload_n hx hb dX4_slots_46 rfl (lv_at hl 1 rfl) ?_
      refine lv_iload_n hx hb dX4_slots_47 rfl (lv_at hl 2 rfl) ?_
      refine gx_put C hG hH hS 0 (by decide) rfl fl_X4_37 fw_X4_12 (pw_X4_12 _ _) rfl rfl (Nat.le_of_ble_eq_true rfl) dX4_slots_48 (fun H locs σ5 hσ5 hH hS => ?_)
      have hf := gx_let hf σ5 hσ5
      refine lv_iload_n hx hb dX4_slots_51 rfl (lv_at hl 0 rfl) ?_
      cases hf
      exact gx_iretM C hr hlocks hH hS dX4_slots_52
    · have hf := gx_neg hc3 hf
      refine lv_aload_n hx hb dX4_slots_21 rfl (lv_at hl 0 rfl) ?_
      refine gx_get C hH 0 (by decide) rfl fl_X4_41 rfl dX4_slots_22 ?_
      refine lv_iload_n hx hb dX4_slots_25 rfl (lv_at hl 2 rfl) ?_
      obtain ⟨hb6, hf⟩ := gx_chk hf
      refine gx_iald C hH (10) (by decide) rfl hb6 dX4_slots_26 ?_
      refine lv_bipush (v := (-9 : Int32)) hx hb dX4_slots_27 (by decide) ?_
      refine lv_icmp_eq (tgt := 35) hx hb dX4_slots_29 (by decide) (fun hc7 => ?_) (fun hc7 => ?_)
      · have hf := gx_pos hc7 hf
        obtain ⟨x8, hx8⟩ : ∃ z : Int32, z = (v2 + (1 : Int32)) := ⟨_, rfl⟩
        have hf := gx_let hf x8 hx8
        refine lv_iinc (v := x8) (lv' := [(2, .int x8), (0, .ref (gx_q G 0)), (1, .int v1)]) hx hb dX4_slots_35 hl (k := 2) rfl (by rw [hx8]; rfl) (by decide) rfl (fun ls hl => ?_)
        refine lv_goto (tgt := 15) hx hb dX4_slots_38 (by decide) ?_
        exact ih σ v1 x8  _ hf _ _ ls hH hS (lv_sub hl [1, 2, 0] rfl)
      · have hf := gx_neg hc7 hf
        refine lv_bipush (v := (-3 : Int32)) hx hb dX4_slots_32 (by decide) ?_
        cases hf
        exact gx_iretM C hr hlocks hH hS dX4_slots_34
def f_X4_slots (σ : gx_St) (a1 : Int32) : Option (Int32 × gx_St) :=
  (f_X4_within a1 (1 : Int32) (6 : Int32)).bind fun r1 =>
  if r1 = 0 then (some ((-2 : Int32), σ)) else (fL_X4_slots_15 7 σ a1 a1)
set_option maxHeartbeats 4000000 in
set_option maxRecDepth 100000 in
theorem t_X4_slots (l : Launch) (G : gx_G) (hG : gx_D G 13) (σ : gx_St) (a1 : Int32) (r : Int32) (σ' : gx_St)  (hf : f_X4_slots σ a1 = some (r, σ')) : Met l yX4_slots (Cond.code yX4_slots cX4_slots 3 (some .int) :: wT) rm_X4_slots (va_Pc [.ref (gx_q G 0), .int a1] (gx_S G 13 (gm_mk G) σ)) (gx_QM G 13 (gm_mk G) (some (.int r)) σ') 0 0 (gx_A G) := by
  refine Met.ofW (cc := cX4_slots) (maxL := 3) (ret := (some .int)) (by decide) rfl ?_
  intro p e s m args below meth c s₁ B hml hv
  obtain ⟨rfl, hH, hE⟩ := hv
  have C := gx_C.of (G := G) B hml hE
  have hx := C.1.1
  have hb := C.1.2.1
  have hr := B.returns
  have hlocks := B.notSynchronized
  have hS : va_S (gx_A G) s.heap s.heap [] := va_S.rf
  have hl := lv_entry ([.ref (gx_q G 0), .int a1]) (n := 3) (Nat.le_of_ble_eq_true rfl)
  rw [lg_entry_eq]
  generalize (lg_sl ([.ref (gx_q G 0), .int a1]) ++ List.replicate (3 - (lg_sl ([.ref (gx_q G 0), .int a1])).length) Slot.unset).toArray = ls at hl ⊢
  have hl : lv_has ls 3 [(0, .ref (gx_q G 0)), (1, .int a1)] := hl
  unfold f_X4_slots at hf
  refine lv_iload_n hx hb dX4_slots_0 rfl (lv_at hl 1 rfl) ?_
  refine lv_iconst (v := (1 : Int32)) hx hb dX4_slots_1 (by decide) ?_
  refine lv_bipush (v := (6 : Int32)) hx hb dX4_slots_2 (by decide) ?_
  obtain ⟨r1, hr1, hf⟩ := gx_bnd hf
  refine gx_sR (v := (some (.int r1))) (rest := []) C hH hS [.int a1, .int (1 : Int32), .int (6 : Int32)] (t_X4_within l G σ a1 (1 : Int32) (6 : Int32) r1  hr1) lk_X4_59 ⟨rfl, rfl, Nat.le_of_ble_eq_true rfl, Nat.le_of_ble_eq_true rfl⟩ ⟨Nat.zero_le _, Nat.zero_le _⟩ hl.1 rfl (Nat.le_of_ble_eq_true rfl) dX4_slots_4 ?_
  refine gx_e0 (st := [.int r1]) ?_ rfl
  refine lv_if_ne (tgt := 13) hx hb dX4_slots_7 (by decide) (fun hc2 => ?_) (fun hc2 => ?_)
  · have hf := gx_neg hc2 hf
    refine lv_iload_n hx hb dX4_slots_13 rfl (lv_at hl 1 rfl) ?_
    refine lv_istore_n (lv' := [(2, .int a1), (0, .ref (gx_q G 0)), (1, .int a1)]) hx hb dX4_slots_14 rfl hl (by decide) rfl (fun ls hl => ?_)
    exact w_X4_slots_15 (l := l) G hG C hr hlocks 7 σ a1 a1  _ hf _ _ ls hH hS (lv_sub hl [1, 2, 0] rfl)
  · have hf := gx_pos hc2 hf
    refine lv_bipush (v := (-2 : Int32)) hx hb dX4_slots_10 (by decide) ?_
    cases hf
    exact gx_iretM C hr hlocks hH hS dX4_slots_12
abbrev rm_X4_slot : Room := { frames := 1, cells := 0, slots := 0, locals := 22 }
def f_X4_slot (σ : gx_St) (a1 : Int32) : Option Int32 :=
  (f_X4_within a1 (0 : Int32) ((σ 0 12) - (1 : Int32))).bind fun r1 =>
  if r1 = 0 then (some (-1 : Int32)) else (if (a1 < 0 ∨ 6 ≤ a1.toNatClampNeg) then none else
  some (σ (10) a1.toNatClampNeg))
set_option maxHeartbeats 4000000 in
set_option maxRecDepth 100000 in
theorem t_X4_slot (l : Launch) (G : gx_G) (σ : gx_St) (a1 : Int32) (r : Int32)  (hf : f_X4_slot σ a1 = some r) : Met l yX4_slot (Cond.code yX4_slot cX4_slot 2 (some .int) :: wT) rm_X4_slot (va_Pc [.ref (gx_q G 0), .int a1] (gx_S G 13 (gm_mk G) σ)) (gx_QR (some (.int r))) 0 0 (fun _ => False) := by
  refine Met.ofW (cc := cX4_slot) (maxL := 2) (ret := (some .int)) (by decide) rfl ?_
  intro p e s m args below meth c s₁ B hml hv
  obtain ⟨rfl, hH, hE⟩ := hv
  have C := gx_C.of (G := G) B hml hE
  have hx := C.1.1
  have hb := C.1.2.1
  have hr := B.returns
  have hlocks := B.notSynchronized
  have hS : va_S (gx_A G) s.heap s.heap [] := va_S.rf
  have hl := lv_entry ([.ref (gx_q G 0), .int a1]) (n := 2) (Nat.le_of_ble_eq_true rfl)
  rw [lg_entry_eq]
  generalize (lg_sl ([.ref (gx_q G 0), .int a1]) ++ List.replicate (2 - (lg_sl ([.ref (gx_q G 0), .int a1])).length) Slot.unset).toArray = ls at hl ⊢
  have hl : lv_has ls 2 [(0, .ref (gx_q G 0)), (1, .int a1)] := hl
  unfold f_X4_slot at hf
  refine lv_iload_n hx hb dX4_slot_0 rfl (lv_at hl 1 rfl) ?_
  refine lv_iconst (v := (0 : Int32)) hx hb dX4_slot_1 (by decide) ?_
  refine lv_aload_n hx hb dX4_slot_2 rfl (lv_at hl 0 rfl) ?_
  refine gx_get C hH 0 (by decide) rfl fl_X4_37 rfl dX4_slot_3 ?_
  refine lv_iconst (v := (1 : Int32)) hx hb dX4_slot_6 (by decide) ?_
  refine lv_isub hx hb dX4_slot_7 ?_
  obtain ⟨r1, hr1, hf⟩ := gx_bnd hf
  refine gx_sR (v := (some (.int r1))) (rest := []) C hH hS [.int a1, .int (0 : Int32), .int ((σ 0 12) - (1 : Int32))] (t_X4_within l G σ a1 (0 : Int32) ((σ 0 12) - (1 : Int32)) r1  hr1) lk_X4_59 ⟨rfl, rfl, Nat.le_of_ble_eq_true rfl, Nat.le_of_ble_eq_true rfl⟩ ⟨Nat.zero_le _, Nat.zero_le _⟩ hl.1 rfl (Nat.le_of_ble_eq_true rfl) dX4_slot_8 ?_
  refine gx_e0 (st := [.int r1]) ?_ rfl
  refine lv_if_eq (tgt := 23) hx hb dX4_slot_11 (by decide) (fun hc2 => ?_) (fun hc2 => ?_)
  · have hf := gx_pos hc2 hf
    refine lv_iconst (v := (-1 : Int32)) hx hb dX4_slot_23 (by decide) ?_
    obtain rfl := Option.some.inj hf
    exact gx_iretR C hr hlocks dX4_slot_24
  · have hf := gx_neg hc2 hf
    refine lv_aload_n hx hb dX4_slot_14 rfl (lv_at hl 0 rfl) ?_
    refine gx_get C hH 0 (by decide) rfl fl_X4_41 rfl dX4_slot_15 ?_
    refine lv_iload_n hx hb dX4_slot_18 rfl (lv_at hl 1 rfl) ?_
    obtain ⟨hb3, hf⟩ := gx_chk hf
    refine gx_iald C hH (10) (by decide) rfl hb3 dX4_slot_19 ?_
    refine lv_goto (tgt := 24) hx hb dX4_slot_20 (by decide) ?_
    obtain rfl := Option.some.inj hf
    exact gx_iretR C hr hlocks dX4_slot_24
abbrev rm_X4_freeSlot : Room := { frames := 0, cells := 0, slots := 0, locals := 0 }
def fL_X4_freeSlot_2 : Nat → gx_St → Int32 → Option Int32
  | 0, _, _ => none
  | N + 1, σ, v1 =>
    if (σ 0 12) ≤ v1 then (some (-9 : Int32)) else (if (v1 < 0 ∨ 6 ≤ v1.toNatClampNeg) then none else
    if (σ (10) v1.toNatClampNeg) = (-9 : Int32) then (some v1) else (gx_lt (v1 + (1 : Int32)) fun x4 =>
    fL_X4_freeSlot_2 N σ x4))
set_option maxHeartbeats 4000000 in
set_option maxRecDepth 100000 in
theorem w_X4_freeSlot_2 {p : Program} {l : Launch} {e : Env} {s : State} {m : MethodId} {args : Array Value} {below : List Frame} {meth : Method} {c : Code} (G : gx_G) (C : gx_C p m c cX4_freeSlot 2 s args RX4 G) (hr : meth.sig.returnType = (some .int)) (hlocks : meth.locks = false) (σ : gx_St) (hH : gx_H G 13 (gm_mk G) σ s.heap) : ∀ (N : Nat) (v1 : Int32)  (z : Int32), fL_X4_freeSlot_2 N σ v1 = some z → ∀ (ls : Array Slot), lv_has ls 2 [(0, .ref (gx_q G 0)), (1, .int v1)] → W p l e rm_X4_freeSlot s m args below meth c s.heap [] 0 0 (MQ below (gx_QR (some (.int z))) args s 0 0 (fun _ => False)) (F0 m 2 ls []) := by
  have hx := C.1.1
  have hb := C.1.2.1
  have hS : va_S (gx_A G) s.heap s.heap [] := va_S.rf
  intro N
  induction N with
  | zero =>
    intro v1  z hf ls hl
    cases (show (none : Option Int32) = some z from hf)
  | succ N ih =>
    intro v1  z hf ls hl
    rw [fL_X4_freeSlot_2] at hf
    refine lv_iload_n hx hb dX4_freeSlot_2 rfl (lv_at hl 1 rfl) ?_
    refine lv_aload_n hx hb dX4_freeSlot_3 rfl (lv_at hl 0 rfl) ?_
    refine gx_get C hH 0 (by decide) rfl fl_X4_37 rfl dX4_freeSlot_4 ?_
    refine lv_icmp_ge (tgt := 29) hx hb dX4_freeSlot_7 (by decide) (fun hc1 => ?_) (fun hc1 => ?_)
    · have hf := gx_pos hc1 hf
      refine lv_bipush (v := (-9 : Int32)) hx hb dX4_freeSlot_29 (by decide) ?_
      obtain rfl := Option.some.inj hf
      exact gx_iretR C hr hlocks dX4_freeSlot_31
    · have hf := gx_neg hc1 hf
      refine lv_aload_n hx hb dX4_freeSlot_10 rfl (lv_at hl 0 rfl) ?_
      refine gx_get C hH 0 (by decide) rfl fl_X4_41 rfl dX4_freeSlot_11 ?_
      refine lv_iload_n hx hb dX4_freeSlot_14 rfl (lv_at hl 1 rfl) ?_
      obtain ⟨hb2, hf⟩ := gx_chk hf
      refine gx_iald C hH (10) (by decide) rfl hb2 dX4_freeSlot_15 ?_
      refine lv_bipush (v := (-9 : Int32)) hx hb dX4_freeSlot_16 (by decide) ?_
      refine lv_icmp_ne (tgt := 23) hx hb dX4_freeSlot_18 (by decide) (fun hc3 => ?_) (fun hc3 => ?_)
      · have hf := gx_neg hc3 hf
        obtain ⟨x4, hx4⟩ : ∃ z : Int32, z = (v1 + (1 : Int32)) := ⟨_, rfl⟩
        have hf := gx_let hf x4 hx4
        refine lv_iinc (v := x4) (lv' := [(1, .int x4), (0, .ref (gx_q G 0))]) hx hb dX4_freeSlot_23 hl (k := 1) rfl (by rw [hx4]; rfl) (by decide) rfl (fun ls hl => ?_)
        refine lv_goto (tgt := 2) hx hb dX4_freeSlot_26 (by decide) ?_
        exact ih x4  _ hf ls (lv_sub hl [1, 0] rfl)
      · have hf := gx_pos hc3 hf
        refine lv_iload_n hx hb dX4_freeSlot_21 rfl (lv_at hl 1 rfl) ?_
        obtain rfl := Option.some.inj hf
        exact gx_iretR C hr hlocks dX4_freeSlot_22
def f_X4_freeSlot (σ : gx_St) : Option Int32 :=
  fL_X4_freeSlot_2 7 σ (0 : Int32)
set_option maxHeartbeats 4000000 in
set_option maxRecDepth 100000 in
theorem t_X4_freeSlot (l : Launch) (G : gx_G) (σ : gx_St) (r : Int32)  (hf : f_X4_freeSlot σ = some r) : Met l yX4_freeSlot (Cond.code yX4_freeSlot cX4_freeSlot 2 (some .int) :: wT) rm_X4_freeSlot (va_Pc [.ref (gx_q G 0)] (gx_S G 13 (gm_mk G) σ)) (gx_QR (some (.int r))) 0 0 (fun _ => False) := by
  refine Met.ofW (cc := cX4_freeSlot) (maxL := 2) (ret := (some .int)) (by decide) rfl ?_
  intro p e s m args below meth c s₁ B hml hv
  obtain ⟨rfl, hH, hE⟩ := hv
  have C := gx_C.of (G := G) B hml hE
  have hx := C.1.1
  have hb := C.1.2.1
  have hr := B.returns
  have hlocks := B.notSynchronized
  have hS : va_S (gx_A G) s.heap s.heap [] := va_S.rf
  have hl := lv_entry ([.ref (gx_q G 0)]) (n := 2) (Nat.le_of_ble_eq_true rfl)
  rw [lg_entry_eq]
  generalize (lg_sl ([.ref (gx_q G 0)]) ++ List.replicate (2 - (lg_sl ([.ref (gx_q G 0)])).length) Slot.unset).toArray = ls at hl ⊢
  have hl : lv_has ls 2 [(0, .ref (gx_q G 0))] := hl
  unfold f_X4_freeSlot at hf
  refine lv_iconst (v := (0 : Int32)) hx hb dX4_freeSlot_0 (by decide) ?_
  refine lv_istore_n (lv' := [(1, .int (0 : Int32)), (0, .ref (gx_q G 0))]) hx hb dX4_freeSlot_1 rfl hl (by decide) rfl (fun ls hl => ?_)
  exact w_X4_freeSlot_2 (l := l) G C hr hlocks σ hH 7 (0 : Int32)  _ hf ls (lv_sub hl [1, 0] rfl)
abbrev rm_X4_firstToGo : Room := { frames := 2, cells := 0, slots := 0, locals := 46 }
def fL_X4_firstToGo_6 : Nat → gx_St → Int32 → Int32 → Int32 → Int32 → Option Int32
  | 0, _, _, _, _, _ => none
  | N + 1, σ, v1, v2, v3, v4 =>
    if (σ 0 4) ≤ v4 then (some v3) else ((f_X4_slotOf σ v4).bind fun r2 =>
    if r2 = (-9 : Int32) then (gx_lt (v4 + (1 : Int32)) fun x5 =>
    fL_X4_firstToGo_6 N σ v1 v2 v3 x5) else (if (v4 < 0 ∨ 12 ≤ v4.toNatClampNeg) then none else
    (f_X4_doesPlay σ v4 (σ (9) v4.toNatClampNeg) (σ 0 0)).bind fun r7 =>
    if r7 = v1 then ((f_X4_numberOf σ v4 (9 : Int32)).bind fun r11 =>
    if v2 ≤ r11 then (gx_lt (v4 + (1 : Int32)) fun x14 =>
    fL_X4_firstToGo_6 N σ v1 v2 v3 x14) else (if v3 = (-9 : Int32) then (gx_lt (v4 + (1 : Int32)) fun x17 =>
    fL_X4_firstToGo_6 N σ v1 v2 v4 x17) else ((f_X4_numberOf σ v4 (9 : Int32)).bind fun r18 =>
    (f_X4_numberOf σ v3 (9 : Int32)).bind fun r19 =>
    if r19 ≤ r18 then (gx_lt (v4 + (1 : Int32)) fun x21 =>
    fL_X4_firstToGo_6 N σ v1 v2 v3 x21) else (gx_lt (v4 + (1 : Int32)) fun x22 =>
    fL_X4_firstToGo_6 N σ v1 v2 v4 x22)))) else (gx_lt (v4 + (1 : Int32)) fun x10 =>
    fL_X4_firstToGo_6 N σ v1 v2 v3 x10)))
set_option maxHeartbeats 4000000 in
set_option maxRecDepth 100000 in
theorem w_X4_firstToGo_6 {p : Program} {l : Launch} {e : Env} {s : State} {m : MethodId} {args : Array Value} {below : List Frame} {meth : Method} {c : Code} (G : gx_G) (C : gx_C p m c cX4_firstToGo 6 s args RX4 G) (hr : meth.sig.returnType = (some .int)) (hlocks : meth.locks = false) (σ : gx_St) (hH : gx_H G 13 (gm_mk G) σ s.heap) : ∀ (N : Nat) (v1 v2 v3 v4 : Int32)  (z : Int32), fL_X4_firstToGo_6 N σ v1 v2 v3 v4 = some z → ∀ (ls : Array Slot), lv_has ls 6 [(0, .ref (gx_q G 0)), (1, .int v1), (2, .int v2), (3, .int v3), (4, .int v4)] → W p l e rm_X4_firstToGo s m args below meth c s.heap [] 0 0 (MQ below (gx_QR (some (.int z))) args s 0 0 (fun _ => False)) (F0 m 6 ls []) := by
  have hx := C.1.1
  have hb := C.1.2.1
  have hS : va_S (gx_A G) s.heap s.heap [] := va_S.rf
  intro N
  induction N with
  | zero =>
    intro v1 v2 v3 v4  z hf ls hl
    cases (show (none : Option Int32) = some z from hf)
  | succ N ih =>
    intro v1 v2 v3 v4  z hf ls hl
    rw [fL_X4_firstToGo_6] at hf
    refine lv_iload hx hb dX4_firstToGo_6 (lv_at hl 4 rfl) ?_
    refine lv_aload_n hx hb dX4_firstToGo_8 rfl (lv_at hl 0 rfl) ?_
    refine gx_get C hH 0 (by decide) rfl fl_X4_56 rfl dX4_firstToGo_9 ?_
    refine lv_icmp_ge (tgt := 104) hx hb dX4_firstToGo_12 (by decide) (fun hc1 => ?_) (fun hc1 => ?_)
    · have hf := gx_pos hc1 hf
      refine lv_iload_n hx hb dX4_firstToGo_104 rfl (lv_at hl 3 rfl) ?_
      obtain rfl := Option.some.inj hf
      exact gx_iretR C hr hlocks dX4_firstToGo_105
    · have hf := gx_neg hc1 hf
      refine lv_aload_n hx hb dX4_firstToGo_15 rfl (lv_at hl 0 rfl) ?_
      refine lv_iload hx hb dX4_firstToGo_16 (lv_at hl 4 rfl) ?_
      obtain ⟨r2, hr2, hf⟩ := gx_bnd hf
      refine gx_vR (v := (some (.int r2))) (rest := []) C hH hS 0 (by decide) rfl rfl [.int v4] (t_X4_slotOf l G σ v4 r2  hr2) lk_X4_105 ⟨rfl, rfl, Nat.le_of_ble_eq_true rfl, Nat.le_of_ble_eq_true rfl⟩ ⟨Nat.zero_le _, Nat.zero_le _⟩ hl.1 rfl (Nat.le_of_ble_eq_true rfl) dX4_firstToGo_18 ?_
      refine gx_e0 (st := [.int r2]) ?_ rfl
      refine lv_bipush (v := (-9 : Int32)) hx hb dX4_firstToGo_21 (by decide) ?_
      refine lv_icmp_eq (tgt := 63) hx hb dX4_firstToGo_23 (by decide) (fun hc3 => ?_) (fun hc3 => ?_)
      · have hf := gx_pos hc3 hf
        refine lv_iconst (v := (0 : Int32)) hx hb dX4_firstToGo_63 (by decide) ?_
        refine lv_istore (lv' := [(5, .int (0 : Int32)), (0, .ref (gx_q G 0)), (1, .int v1), (2, .int v2), (3, .int v3), (4, .int v4)]) hx hb dX4_firstToGo_64 hl (by decide) rfl (fun ls hl => ?_)
        refine lv_iload hx hb dX4_firstToGo_66 (lv_at hl 0 rfl) ?_
        refine lv_if_eq (tgt := 98) hx hb dX4_firstToGo_68 (by decide) (fun hc4 => ?_) (fun hc4 => absurd hc4 (by decide))
        obtain ⟨x5, hx5⟩ : ∃ z : Int32, z = (v4 + (1 : Int32)) := ⟨_, rfl⟩
        have hf := gx_let hf x5 hx5
        refine lv_iinc (v := x5) (lv' := [(4, .int x5), (5, .int (0 : Int32)), (0, .ref (gx_q G 0)), (1, .int v1), (2, .int v2), (3, .int v3)]) hx hb dX4_firstToGo_98 hl (k := 5) rfl (by rw [hx5]; rfl) (by decide) rfl (fun ls hl => ?_)
        refine lv_goto (tgt := 6) hx hb dX4_firstToGo_101 (by decide) ?_
        exact ih v1 v2 v3 x5  _ hf ls (lv_sub hl [2, 3, 4, 5, 0] rfl)
      · have hf := gx_neg hc3 hf
        refine lv_aload_n hx hb dX4_firstToGo_26 rfl (lv_at hl 0 rfl) ?_
        refine lv_iload hx hb dX4_firstToGo_27 (lv_at hl 4 rfl) ?_
        refine lv_aload_n hx hb dX4_firstToGo_29 rfl (lv_at hl 0 rfl) ?_
        refine gx_get C hH 0 (by decide) rfl fl_X4_34 rfl dX4_firstToGo_30 ?_
        refine lv_iload hx hb dX4_firstToGo_33 (lv_at hl 4 rfl) ?_
        obtain ⟨hb6, hf⟩ := gx_chk hf
        refine gx_iald C hH (9) (by decide) rfl hb6 dX4_firstToGo_35 ?_
        refine lv_aload_n hx hb dX4_firstToGo_36 rfl (lv_at hl 0 rfl) ?_
        refine gx_get C hH 0 (by decide) rfl fl_X4_91 rfl dX4_firstToGo_37 ?_
        obtain ⟨r7, hr7, hf⟩ := gx_bnd hf
        refine gx_vR (v := (some (.int r7))) (rest := []) C hH hS 0 (by decide) rfl rfl [.int v4, .int (σ (9) v4.toNatClampNeg), .int (σ 0 0)] (t_X4_doesPlay l G σ v4 (σ (9) v4.toNatClampNeg) (σ 0 0) r7  hr7) lk_X4_108 ⟨rfl, rfl, Nat.le_of_ble_eq_true rfl, Nat.le_of_ble_eq_true rfl⟩ ⟨Nat.zero_le _, Nat.zero_le _⟩ hl.1 rfl (Nat.le_of_ble_eq_true rfl) dX4_firstToGo_40 ?_
        refine gx_e0 (st := [.int r7]) ?_ rfl
        refine lv_iload_n hx hb dX4_firstToGo_43 rfl (lv_at hl 1 rfl) ?_
        refine lv_icmp_ne (tgt := 63) hx hb dX4_firstToGo_44 (by decide) (fun hc8 => ?_) (fun hc8 => ?_)
        · have hf := gx_neg hc8 hf
          refine lv_iconst (v := (0 : Int32)) hx hb dX4_firstToGo_63 (by decide) ?_
          refine lv_istore (lv' := [(5, .int (0 : Int32)), (0, .ref (gx_q G 0)), (1, .int v1), (2, .int v2), (3, .int v3), (4, .int v4)]) hx hb dX4_firstToGo_64 hl (by decide) rfl (fun ls hl => ?_)
          refine lv_iload hx hb dX4_firstToGo_66 (lv_at hl 0 rfl) ?_
          refine lv_if_eq (tgt := 98) hx hb dX4_firstToGo_68 (by decide) (fun hc9 => ?_) (fun hc9 => absurd hc9 (by decide))
          obtain ⟨x10, hx10⟩ : ∃ z : Int32, z = (v4 + (1 : Int32)) := ⟨_, rfl⟩
          have hf := gx_let hf x10 hx10
          refine lv_iinc (v := x10) (lv' := [(4, .int x10), (5, .int (0 : Int32)), (0, .ref (gx_q G 0)), (1, .int v1), (2, .int v2), (3, .int v3)]) hx hb dX4_firstToGo_98 hl (k := 5) rfl (by rw [hx10]; rfl) (by decide) rfl (fun ls hl => ?_)
          refine lv_goto (tgt := 6) hx hb dX4_firstToGo_101 (by decide) ?_
          exact ih v1 v2 v3 x10  _ hf ls (lv_sub hl [2, 3, 4, 5, 0] rfl)
        · have hf := gx_pos hc8 hf
          refine lv_aload_n hx hb dX4_firstToGo_47 rfl (lv_at hl 0 rfl) ?_
          refine lv_iload hx hb dX4_firstToGo_48 (lv_at hl 4 rfl) ?_
          refine lv_bipush (v := (9 : Int32)) hx hb dX4_firstToGo_50 (by decide) ?_
          obtain ⟨r11, hr11, hf⟩ := gx_bnd hf
          refine gx_vR (v := (some (.int r11))) (rest := []) C hH hS 0 (by decide) rfl rfl [.int v4, .int (9 : Int32)] (t_X4_numberOf l G σ v4 (9 : Int32) r11  hr11) lk_X4_72 ⟨rfl, rfl, Nat.le_of_ble_eq_true rfl, Nat.le_of_ble_eq_true rfl⟩ ⟨Nat.zero_le _, Nat.zero_le _⟩ hl.1 rfl (Nat.le_of_ble_eq_true rfl) dX4_firstToGo_52 ?_
          refine gx_e0 (st := [.int r11]) ?_ rfl
          refine lv_iload_n hx hb dX4_firstToGo_55 rfl (lv_at hl 2 rfl) ?_
          refine lv_icmp_ge (tgt := 63) hx hb dX4_firstToGo_56 (by decide) (fun hc12 => ?_) (fun hc12 => ?_)
          · have hf := gx_pos hc12 hf
            refine lv_iconst (v := (0 : Int32)) hx hb dX4_firstToGo_63 (by decide) ?_
            refine lv_istore (lv' := [(5, .int (0 : Int32)), (0, .ref (gx_q G 0)), (1, .int v1), (2, .int v2), (3, .int v3), (4, .int v4)]) hx hb dX4_firstToGo_64 hl (by decide) rfl (fun ls hl => ?_)
            refine lv_iload hx hb dX4_firstToGo_66 (lv_at hl 0 rfl) ?_
            refine lv_if_eq (tgt := 98) hx hb dX4_firstToGo_68 (by decide) (fun hc13 => ?_) (fun hc13 => absurd hc13 (by decide))
            obtain ⟨x14, hx14⟩ : ∃ z : Int32, z = (v4 + (1 : Int32)) := ⟨_, rfl⟩
            have hf := gx_let hf x14 hx14
            refine lv_iinc (v := x14) (lv' := [(4, .int x14), (5, .int (0 : Int32)), (0, .ref (gx_q G 0)), (1, .int v1), (2, .int v2), (3, .int v3)]) hx hb dX4_firstToGo_98 hl (k := 5) rfl (by rw [hx14]; rfl) (by decide) rfl (fun ls hl => ?_)
            refine lv_goto (tgt := 6) hx hb dX4_firstToGo_101 (by decide) ?_
            exact ih v1 v2 v3 x14  _ hf ls (lv_sub hl [2, 3, 4, 5, 0] rfl)
          · have hf := gx_neg hc12 hf
            refine lv_iconst (v := (1 : Int32)) hx hb dX4_firstToGo_59 (by decide) ?_
            refine lv_goto (tgt := 64) hx hb dX4_firstToGo_60 (by decide) ?_
            refine lv_istore (lv' := [(5, .int (1 : Int32)), (0, .ref (gx_q G 0)), (1, .int v1), (2, .int v2), (3, .int v3), (4, .int v4)]) hx hb dX4_firstToGo_64 hl (by decide) rfl (fun ls hl => ?_)
            refine lv_iload hx hb dX4_firstToGo_66 (lv_at hl 0 rfl) ?_
            refine lv_if_eq (tgt := 98) hx hb dX4_firstToGo_68 (by decide) (fun hc15 => absurd hc15 (by decide)) (fun hc15 => ?_)
            refine lv_iload_n hx hb dX4_firstToGo_71 rfl (lv_at hl 4 rfl) ?_
            refine lv_bipush (v := (-9 : Int32)) hx hb dX4_firstToGo_72 (by decide) ?_
            refine lv_icmp_eq (tgt := 95) hx hb dX4_firstToGo_74 (by decide) (fun hc16 => ?_) (fun hc16 => ?_)
            · have hf := gx_pos hc16 hf
              refine lv_iload hx hb dX4_firstToGo_95 (lv_at hl 5 rfl) ?_
              refine lv_istore_n (lv' := [(3, .int v4), (5, .int (1 : Int32)), (0, .ref (gx_q G 0)), (1, .int v1), (2, .int v2), (4, .int v4)]) hx hb dX4_firstToGo_97 rfl hl (by decide) rfl (fun ls hl => ?_)
              obtain ⟨x17, hx17⟩ : ∃ z : Int32, z = (v4 + (1 : Int32)) := ⟨_, rfl⟩
              have hf := gx_let hf x17 hx17
              refine lv_iinc (v := x17) (lv' := [(4, .int x17), (3, .int v4), (5, .int (1 : Int32)), (0, .ref (gx_q G 0)), (1, .int v1), (2, .int v2)]) hx hb dX4_firstToGo_98 hl (k := 5) rfl (by rw [hx17]; rfl) (by decide) rfl (fun ls hl => ?_)
              refine lv_goto (tgt := 6) hx hb dX4_firstToGo_101 (by decide) ?_
              exact ih v1 v2 v4 x17  _ hf ls (lv_sub hl [3, 4, 5, 1, 0] rfl)
            · have hf := gx_neg hc16 hf
              refine lv_aload_n hx hb dX4_firstToGo_77 rfl (lv_at hl 1 rfl) ?_
              refine lv_iload hx hb dX4_firstToGo_78 (lv_at hl 5 rfl) ?_
              refine lv_bipush (v := (9 : Int32)) hx hb dX4_firstToGo_80 (by decide) ?_
              obtain ⟨r18, hr18, hf⟩ := gx_bnd hf
              refine gx_vR (v := (some (.int r18))) (rest := []) C hH hS 0 (by decide) rfl rfl [.int v4, .int (9 : Int32)] (t_X4_numberOf l G σ v4 (9 : Int32) r18  hr18) lk_X4_72 ⟨rfl, rfl, Nat.le_of_ble_eq_true rfl, Nat.le_of_ble_eq_true rfl⟩ ⟨Nat.zero_le _, Nat.zero_le _⟩ hl.1 rfl (Nat.le_of_ble_eq_true rfl) dX4_firstToGo_82 ?_
              refine gx_e0 (st := [.int r18]) ?_ rfl
              refine lv_aload_n hx hb dX4_firstToGo_85 rfl (lv_at hl 1 rfl) ?_
              refine lv_iload_n hx hb dX4_firstToGo_86 rfl (lv_at hl 4 rfl) ?_
              refine lv_bipush (v := (9 : Int32)) hx hb dX4_firstToGo_87 (by decide) ?_
              obtain ⟨r19, hr19, hf⟩ := gx_bnd hf
              refine gx_vR (v := (some (.int r19))) (rest := [.int r18]) C hH hS 0 (by decide) rfl rfl [.int v3, .int (9 : Int32)] (t_X4_numberOf l G σ v3 (9 : Int32) r19  hr19) lk_X4_72 ⟨rfl, rfl, Nat.le_of_ble_eq_true rfl, Nat.le_of_ble_eq_true rfl⟩ ⟨Nat.zero_le _, Nat.zero_le _⟩ hl.1 rfl (Nat.le_of_ble_eq_true rfl) dX4_firstToGo_89 ?_
              refine gx_e0 (st := [.int r19, .int r18]) ?_ rfl
              refine lv_icmp_ge (tgt := 98) hx hb dX4_firstToGo_92 (by decide) (fun hc20 => ?_) (fun hc20 => ?_)
              · have hf := gx_pos hc20 hf
                obtain ⟨x21, hx21⟩ : ∃ z : Int32, z = (v4 + (1 : Int32)) := ⟨_, rfl⟩
                have hf := gx_let hf x21 hx21
                refine lv_iinc (v := x21) (lv' := [(4, .int x21), (5, .int (1 : Int32)), (0, .ref (gx_q G 0)), (1, .int v1), (2, .int v2), (3, .int v3)]) hx hb dX4_firstToGo_98 hl (k := 5) rfl (by rw [hx21]; rfl) (by decide) rfl (fun ls hl => ?_)
                refine lv_goto (tgt := 6) hx hb dX4_firstToGo_101 (by decide) ?_
                exact ih v1 v2 v3 x21  _ hf ls (lv_sub hl [2, 3, 4, 5, 0] rfl)
              · have hf := gx_neg hc20 hf
                refine lv_iload hx hb dX4_firstToGo_95 (lv_at hl 5 rfl) ?_
                refine lv_istore_n (lv' := [(3, .int v4), (5, .int (1 : Int32)), (0, .ref (gx_q G 0)), (1, .int v1), (2, .int v2), (4, .int v4)]) hx hb dX4_firstToGo_97 rfl hl (by decide) rfl (fun ls hl => ?_)
                obtain ⟨x22, hx22⟩ : ∃ z : Int32, z = (v4 + (1 : Int32)) := ⟨_, rfl⟩
                have hf := gx_let hf x22 hx22
                refine lv_iinc (v := x22) (lv' := [(4, .int x22), (3, .int v4), (5, .int (1 : Int32)), (0, .ref (gx_q G 0)), (1, .int v1), (2, .int v2)]) hx hb dX4_firstToGo_98 hl (k := 5) rfl (by rw [hx22]; rfl) (by decide) rfl (fun ls hl => ?_)
                refine lv_goto (tgt := 6) hx hb dX4_firstToGo_101 (by decide) ?_
                exact ih v1 v2 v4 x22  _ hf ls (lv_sub hl [3, 4, 5, 1, 0] rfl)
def f_X4_firstToGo (σ : gx_St) (a1 a2 : Int32) : Option Int32 :=
  fL_X4_firstToGo_6 13 σ a1 a2 (-9 : Int32) (0 : Int32)
set_option maxHeartbeats 4000000 in
set_option maxRecDepth 100000 in
theorem t_X4_firstToGo (l : Launch) (G : gx_G) (σ : gx_St) (a1 a2 : Int32) (r : Int32)  (hf : f_X4_firstToGo σ a1 a2 = some r) : Met l yX4_firstToGo (Cond.code yX4_firstToGo cX4_firstToGo 6 (some .int) :: wT) rm_X4_firstToGo (va_Pc [.ref (gx_q G 0), .int a1, .int a2] (gx_S G 13 (gm_mk G) σ)) (gx_QR (some (.int r))) 0 0 (fun _ => False) := by
  refine Met.ofW (cc := cX4_firstToGo) (maxL := 6) (ret := (some .int)) (by decide) rfl ?_
  intro p e s m args below meth c s₁ B hml hv
  obtain ⟨rfl, hH, hE⟩ := hv
  have C := gx_C.of (G := G) B hml hE
  have hx := C.1.1
  have hb := C.1.2.1
  have hr := B.returns
  have hlocks := B.notSynchronized
  have hS : va_S (gx_A G) s.heap s.heap [] := va_S.rf
  have hl := lv_entry ([.ref (gx_q G 0), .int a1, .int a2]) (n := 6) (Nat.le_of_ble_eq_true rfl)
  rw [lg_entry_eq]
  generalize (lg_sl ([.ref (gx_q G 0), .int a1, .int a2]) ++ List.replicate (6 - (lg_sl ([.ref (gx_q G 0), .int a1, .int a2])).length) Slot.unset).toArray = ls at hl ⊢
  have hl : lv_has ls 6 [(0, .ref (gx_q G 0)), (1, .int a1), (2, .int a2)] := hl
  unfold f_X4_firstToGo at hf
  refine lv_bipush (v := (-9 : Int32)) hx hb dX4_firstToGo_0 (by decide) ?_
  refine lv_istore_n (lv' := [(3, .int (-9 : Int32)), (0, .ref (gx_q G 0)), (1, .int a1), (2, .int a2)]) hx hb dX4_firstToGo_2 rfl hl (by decide) rfl (fun ls hl => ?_)
  refine lv_iconst (v := (0 : Int32)) hx hb dX4_firstToGo_3 (by decide) ?_
  refine lv_istore (lv' := [(4, .int (0 : Int32)), (3, .int (-9 : Int32)), (0, .ref (gx_q G 0)), (1, .int a1), (2, .int a2)]) hx hb dX4_firstToGo_4 hl (by decide) rfl (fun ls hl => ?_)
  exact w_X4_firstToGo_6 (l := l) G C hr hlocks σ hH 13 a1 a2 (-9 : Int32) (0 : Int32)  _ hf ls (lv_sub hl [2, 3, 4, 1, 0] rfl)
abbrev rm_X4_loads : Room := { frames := 3, cells := 0, slots := 0, locals := 71 }
def f_X4_loads (σ : gx_St) (a1 : Int32) : Option (Int32 × gx_St) :=
  (f_X4_slotOf σ a1).bind fun r1 =>
  if r1 = (-9 : Int32) then ((f_X4_freeSlot σ ).bind fun r3 =>
  if r3 = (-9 : Int32) then ((f_X4_firstToGo σ (0 : Int32) (10 : Int32)).bind fun r8 =>
  if r8 = (-9 : Int32) then ((f_X4_numberOf σ a1 (9 : Int32)).bind fun r10 =>
  (f_X4_firstToGo σ (1 : Int32) r10).bind fun r11 =>
  if r11 = (-9 : Int32) then (some ((-9 : Int32), σ)) else ((f_X4_goes σ r11).bind fun σ13 =>
  (f_X4_freeSlot σ13 ).bind fun r15 =>
  if (r15 < 0 ∨ 6 ≤ r15.toNatClampNeg) then none else
  gx_lt (gx_w2 σ13 (10) r15.toNatClampNeg a1) fun σ17 =>
  some (r15, σ17))) else ((f_X4_goes σ r8).bind fun σ19 =>
  (f_X4_freeSlot σ19 ).bind fun r21 =>
  if (r21 < 0 ∨ 6 ≤ r21.toNatClampNeg) then none else
  gx_lt (gx_w2 σ19 (10) r21.toNatClampNeg a1) fun σ23 =>
  some (r21, σ23))) else ((f_X4_freeSlot σ ).bind fun r5 =>
  if (r5 < 0 ∨ 6 ≤ r5.toNatClampNeg) then none else
  gx_lt (gx_w2 σ (10) r5.toNatClampNeg a1) fun σ7 =>
  some (r5, σ7))) else (some (r1, σ))
set_option maxHeartbeats 4000000 in
set_option maxRecDepth 100000 in
theorem t_X4_loads (l : Launch) (G : gx_G) (hG : gx_D G 13) (σ : gx_St) (a1 : Int32) (r : Int32) (σ' : gx_St)  (hf : f_X4_loads σ a1 = some (r, σ')) : Met l yX4_loads (Cond.code yX4_loads cX4_loads 5 (some .int) :: wT) rm_X4_loads (va_Pc [.ref (gx_q G 0), .int a1] (gx_S G 13 (gm_mk G) σ)) (gx_QM G 13 (gm_mk G) (some (.int r)) σ') 0 0 (gx_A G) := by
  refine Met.ofW (cc := cX4_loads) (maxL := 5) (ret := (some .int)) (by decide) rfl ?_
  intro p e s m args below meth c s₁ B hml hv
  obtain ⟨rfl, hH, hE⟩ := hv
  have C := gx_C.of (G := G) B hml hE
  have hx := C.1.1
  have hb := C.1.2.1
  have hr := B.returns
  have hlocks := B.notSynchronized
  have hS : va_S (gx_A G) s.heap s.heap [] := va_S.rf
  have hl := lv_entry ([.ref (gx_q G 0), .int a1]) (n := 5) (Nat.le_of_ble_eq_true rfl)
  rw [lg_entry_eq]
  generalize (lg_sl ([.ref (gx_q G 0), .int a1]) ++ List.replicate (5 - (lg_sl ([.ref (gx_q G 0), .int a1])).length) Slot.unset).toArray = ls at hl ⊢
  have hl : lv_has ls 5 [(0, .ref (gx_q G 0)), (1, .int a1)] := hl
  unfold f_X4_loads at hf
  refine lv_aload_n hx hb dX4_loads_0 rfl (lv_at hl 0 rfl) ?_
  refine lv_iload_n hx hb dX4_loads_1 rfl (lv_at hl 1 rfl) ?_
  obtain ⟨r1, hr1, hf⟩ := gx_bnd hf
  refine gx_vR (v := (some (.int r1))) (rest := []) C hH hS 0 (by decide) rfl rfl [.int a1] (t_X4_slotOf l G σ a1 r1  hr1) lk_X4_105 ⟨rfl, rfl, Nat.le_of_ble_eq_true rfl, Nat.le_of_ble_eq_true rfl⟩ ⟨Nat.zero_le _, Nat.zero_le _⟩ hl.1 rfl (Nat.le_of_ble_eq_true rfl) dX4_loads_2 ?_
  refine gx_e0 (st := [.int r1]) ?_ rfl
  refine lv_istore_n (lv' := [(2, .int r1), (0, .ref (gx_q G 0)), (1, .int a1)]) hx hb dX4_loads_5 rfl hl (by decide) rfl (fun ls hl => ?_)
  refine lv_iload_n hx hb dX4_loads_6 rfl (lv_at hl 0 rfl) ?_
  refine lv_bipush (v := (-9 : Int32)) hx hb dX4_loads_7 (by decide) ?_
  refine lv_icmp_eq (tgt := 14) hx hb dX4_loads_9 (by decide) (fun hc2 => ?_) (fun hc2 => ?_)
  · have hf := gx_pos hc2 hf
    refine lv_aload_n hx hb dX4_loads_14 rfl (lv_at hl 1 rfl) ?_
    obtain ⟨r3, hr3, hf⟩ := gx_bnd hf
    refine gx_vR (v := (some (.int r3))) (rest := []) C hH hS 0 (by decide) rfl rfl [] (t_X4_freeSlot l G σ  r3  hr3) lk_X4_114 ⟨rfl, rfl, Nat.le_of_ble_eq_true rfl, Nat.le_of_ble_eq_true rfl⟩ ⟨Nat.zero_le _, Nat.zero_le _⟩ hl.1 rfl (Nat.le_of_ble_eq_true rfl) dX4_loads_15 ?_
    refine gx_e0 (st := [.int r3]) ?_ rfl
    refine lv_bipush (v := (-9 : Int32)) hx hb dX4_loads_18 (by decide) ?_
    refine lv_icmp_ne (tgt := 71) hx hb dX4_loads_20 (by decide) (fun hc4 => ?_) (fun hc4 => ?_)
    · have hf := gx_neg hc4 hf
      refine lv_aload_n hx hb dX4_loads_71 rfl (lv_at hl 1 rfl) ?_
      obtain ⟨r5, hr5, hf⟩ := gx_bnd hf
      refine gx_vR (v := (some (.int r5))) (rest := []) C hH hS 0 (by decide) rfl rfl [] (t_X4_freeSlot l G σ  r5  hr5) lk_X4_114 ⟨rfl, rfl, Nat.le_of_ble_eq_true rfl, Nat.le_of_ble_eq_true rfl⟩ ⟨Nat.zero_le _, Nat.zero_le _⟩ hl.1 rfl (Nat.le_of_ble_eq_true rfl) dX4_loads_72 ?_
      refine gx_e0 (st := [.int r5]) ?_ rfl
      refine lv_istore_n (lv' := [(2, .int r5), (0, .ref (gx_q G 0)), (1, .int a1)]) hx hb dX4_loads_75 rfl hl (by decide) rfl (fun ls hl => ?_)
      refine lv_aload_n hx hb dX4_loads_76 rfl (lv_at hl 1 rfl) ?_
      refine gx_get C hH 0 (by decide) rfl fl_X4_41 rfl dX4_loads_77 ?_
      refine lv_iload_n hx hb dX4_loads_80 rfl (lv_at hl 0 rfl) ?_
      refine lv_iload_n hx hb dX4_loads_81 rfl (lv_at hl 2 rfl) ?_
      obtain ⟨hb6, hf⟩ := gx_chk hf
      refine gx_iast C hG hH hS (10) (by decide) (fun _ => rfl) hb6 dX4_loads_82 (fun H locs σ7 hσ7 hH hS => ?_)
      have hf := gx_let hf σ7 hσ7
      refine lv_iload_n hx hb dX4_loads_83 rfl (lv_at hl 0 rfl) ?_
      cases hf
      exact gx_iretM C hr hlocks hH hS dX4_loads_84
    · have hf := gx_pos hc4 hf
      refine lv_aload_n hx hb dX4_loads_23 rfl (lv_at hl 1 rfl) ?_
      refine lv_iconst (v := (0 : Int32)) hx hb dX4_loads_24 (by decide) ?_
      refine lv_bipush (v := (10 : Int32)) hx hb dX4_loads_25 (by decide) ?_
      obtain ⟨r8, hr8, hf⟩ := gx_bnd hf
      refine gx_vR (v := (some (.int r8))) (rest := []) C hH hS 0 (by decide) rfl rfl [.int (0 : Int32), .int (10 : Int32)] (t_X4_firstToGo l G σ (0 : Int32) (10 : Int32) r8  hr8) lk_X4_118 ⟨rfl, rfl, Nat.le_of_ble_eq_true rfl, Nat.le_of_ble_eq_true rfl⟩ ⟨Nat.zero_le _, Nat.zero_le _⟩ hl.1 rfl (Nat.le_of_ble_eq_true rfl) dX4_loads_27 ?_
      refine gx_e0 (st := [.int r8]) ?_ rfl
      refine lv_istore_n (lv' := [(3, .int r8), (2, .int r1), (0, .ref (gx_q G 0)), (1, .int a1)]) hx hb dX4_loads_30 rfl hl (by decide) rfl (fun ls hl => ?_)
      refine lv_iload_n hx hb dX4_loads_31 rfl (lv_at hl 0 rfl) ?_
      refine lv_bipush (v := (-9 : Int32)) hx hb dX4_loads_32 (by decide) ?_
      refine lv_icmp_eq (tgt := 41) hx hb dX4_loads_34 (by decide) (fun hc9 => ?_) (fun hc9 => ?_)
      · have hf := gx_pos hc9 hf
        refine lv_aload_n hx hb dX4_loads_41 rfl (lv_at hl 2 rfl) ?_
        refine lv_iconst (v := (1 : Int32)) hx hb dX4_loads_42 (by decide) ?_
        refine lv_aload_n hx hb dX4_loads_43 rfl (lv_at hl 2 rfl) ?_
        refine lv_iload_n hx hb dX4_loads_44 rfl (lv_at hl 3 rfl) ?_
        refine lv_bipush (v := (9 : Int32)) hx hb dX4_loads_45 (by decide) ?_
        obtain ⟨r10, hr10, hf⟩ := gx_bnd hf
        refine gx_vR (v := (some (.int r10))) (rest := [.int (1 : Int32), .ref (gx_q G 0)]) C hH hS 0 (by decide) rfl rfl [.int a1, .int (9 : Int32)] (t_X4_numberOf l G σ a1 (9 : Int32) r10  hr10) lk_X4_72 ⟨rfl, rfl, Nat.le_of_ble_eq_true rfl, Nat.le_of_ble_eq_true rfl⟩ ⟨Nat.zero_le _, Nat.zero_le _⟩ hl.1 rfl (Nat.le_of_ble_eq_true rfl) dX4_loads_47 ?_
        refine gx_e0 (st := [.int r10, .int (1 : Int32), .ref (gx_q G 0)]) ?_ rfl
        obtain ⟨r11, hr11, hf⟩ := gx_bnd hf
        refine gx_vR (v := (some (.int r11))) (rest := []) C hH hS 0 (by decide) rfl rfl [.int (1 : Int32), .int r10] (t_X4_firstToGo l G σ (1 : Int32) r10 r11  hr11) lk_X4_118 ⟨rfl, rfl, Nat.le_of_ble_eq_true rfl, Nat.le_of_ble_eq_true rfl⟩ ⟨Nat.zero_le _, Nat.zero_le _⟩ hl.1 rfl (Nat.le_of_ble_eq_true rfl) dX4_loads_50 ?_
        refine gx_e0 (st := [.int r11]) ?_ rfl
        refine lv_istore (lv' := [(4, .int r11), (3, .int r8), (2, .int r1), (0, .ref (gx_q G 0)), (1, .int a1)]) hx hb dX4_loads_53 hl (by decide) rfl (fun ls hl => ?_)
        refine lv_iload hx hb dX4_loads_55 (lv_at hl 0 rfl) ?_
        refine lv_bipush (v := (-9 : Int32)) hx hb dX4_loads_57 (by decide) ?_
        refine lv_icmp_ne (tgt := 65) hx hb dX4_loads_59 (by decide) (fun hc12 => ?_) (fun hc12 => ?_)
        · have hf := gx_neg hc12 hf
          refine lv_aload_n hx hb dX4_loads_65 rfl (lv_at hl 3 rfl) ?_
          refine lv_iload hx hb dX4_loads_66 (lv_at hl 0 rfl) ?_
          obtain ⟨σ13, hr14, hf⟩ := gx_bnd hf
          refine gx_vM (v := none) (rest := []) C hH hS 0 (by decide) rfl rfl [.int r11] (t_X4_goes l G hG σ r11 σ13  hr14) lk_X4_87 ⟨rfl, rfl, Nat.le_of_ble_eq_true rfl, Nat.le_of_ble_eq_true rfl⟩ ⟨Nat.zero_le _, Nat.zero_le _⟩ hl.1 rfl (Nat.le_of_ble_eq_true rfl) dX4_loads_68 (fun H locs hH hS => ?_)
          refine gx_e0 (st := []) ?_ rfl
          refine lv_aload_n hx hb dX4_loads_71 rfl (lv_at hl 3 rfl) ?_
          obtain ⟨r15, hr15, hf⟩ := gx_bnd hf
          refine gx_vR (v := (some (.int r15))) (rest := []) C hH hS 0 (by decide) rfl rfl [] (t_X4_freeSlot l G σ13  r15  hr15) lk_X4_114 ⟨rfl, rfl, Nat.le_of_ble_eq_true rfl, Nat.le_of_ble_eq_true rfl⟩ ⟨Nat.zero_le _, Nat.zero_le _⟩ hl.1 rfl (Nat.le_of_ble_eq_true rfl) dX4_loads_72 ?_
          refine gx_e0 (st := [.int r15]) ?_ rfl
          refine lv_istore_n (lv' := [(2, .int r15), (4, .int r11), (3, .int r8), (0, .ref (gx_q G 0)), (1, .int a1)]) hx hb dX4_loads_75 rfl hl (by decide) rfl (fun ls hl => ?_)
          refine lv_aload_n hx hb dX4_loads_76 rfl (lv_at hl 3 rfl) ?_
          refine gx_get C hH 0 (by decide) rfl fl_X4_41 rfl dX4_loads_77 ?_
          refine lv_iload_n hx hb dX4_loads_80 rfl (lv_at hl 0 rfl) ?_
          refine lv_iload_n hx hb dX4_loads_81 rfl (lv_at hl 4 rfl) ?_
          obtain ⟨hb16, hf⟩ := gx_chk hf
          refine gx_iast C hG hH hS (10) (by decide) (fun _ => rfl) hb16 dX4_loads_82 (fun H locs σ17 hσ17 hH hS => ?_)
          have hf := gx_let hf σ17 hσ17
          refine lv_iload_n hx hb dX4_loads_83 rfl (lv_at hl 0 rfl) ?_
          cases hf
          exact gx_iretM C hr hlocks hH hS dX4_loads_84
        · have hf := gx_pos hc12 hf
          refine lv_bipush (v := (-9 : Int32)) hx hb dX4_loads_62 (by decide) ?_
          cases hf
          exact gx_iretM C hr hlocks hH hS dX4_loads_64
      · have hf := gx_neg hc9 hf
        refine lv_iload_n hx hb dX4_loads_37 rfl (lv_at hl 0 rfl) ?_
        refine lv_goto (tgt := 53) hx hb dX4_loads_38 (by decide) ?_
        refine lv_istore (lv' := [(4, .int r8), (3, .int r8), (2, .int r1), (0, .ref (gx_q G 0)), (1, .int a1)]) hx hb dX4_loads_53 hl (by decide) rfl (fun ls hl => ?_)
        refine lv_iload hx hb dX4_loads_55 (lv_at hl 0 rfl) ?_
        refine lv_bipush (v := (-9 : Int32)) hx hb dX4_loads_57 (by decide) ?_
        refine lv_icmp_ne (tgt := 65) hx hb dX4_loads_59 (by decide) (fun hc18 => ?_) (fun hc18 => absurd hc18 hc9)
        refine lv_aload_n hx hb dX4_loads_65 rfl (lv_at hl 3 rfl) ?_
        refine lv_iload hx hb dX4_loads_66 (lv_at hl 0 rfl) ?_
        obtain ⟨σ19, hr20, hf⟩ := gx_bnd hf
        refine gx_vM (v := none) (rest := []) C hH hS 0 (by decide) rfl rfl [.int r8] (t_X4_goes l G hG σ r8 σ19  hr20) lk_X4_87 ⟨rfl, rfl, Nat.le_of_ble_eq_true rfl, Nat.le_of_ble_eq_true rfl⟩ ⟨Nat.zero_le _, Nat.zero_le _⟩ hl.1 rfl (Nat.le_of_ble_eq_true rfl) dX4_loads_68 (fun H locs hH hS => ?_)
        refine gx_e0 (st := []) ?_ rfl
        refine lv_aload_n hx hb dX4_loads_71 rfl (lv_at hl 3 rfl) ?_
        obtain ⟨r21, hr21, hf⟩ := gx_bnd hf
        refine gx_vR (v := (some (.int r21))) (rest := []) C hH hS 0 (by decide) rfl rfl [] (t_X4_freeSlot l G σ19  r21  hr21) lk_X4_114 ⟨rfl, rfl, Nat.le_of_ble_eq_true rfl, Nat.le_of_ble_eq_true rfl⟩ ⟨Nat.zero_le _, Nat.zero_le _⟩ hl.1 rfl (Nat.le_of_ble_eq_true rfl) dX4_loads_72 ?_
        refine gx_e0 (st := [.int r21]) ?_ rfl
        refine lv_istore_n (lv' := [(2, .int r21), (4, .int r8), (3, .int r8), (0, .ref (gx_q G 0)), (1, .int a1)]) hx hb dX4_loads_75 rfl hl (by decide) rfl (fun ls hl => ?_)
        refine lv_aload_n hx hb dX4_loads_76 rfl (lv_at hl 3 rfl) ?_
        refine gx_get C hH 0 (by decide) rfl fl_X4_41 rfl dX4_loads_77 ?_
        refine lv_iload_n hx hb dX4_loads_80 rfl (lv_at hl 0 rfl) ?_
        refine lv_iload_n hx hb dX4_loads_81 rfl (lv_at hl 4 rfl) ?_
        obtain ⟨hb22, hf⟩ := gx_chk hf
        refine gx_iast C hG hH hS (10) (by decide) (fun _ => rfl) hb22 dX4_loads_82 (fun H locs σ23 hσ23 hH hS => ?_)
        have hf := gx_let hf σ23 hσ23
        refine lv_iload_n hx hb dX4_loads_83 rfl (lv_at hl 0 rfl) ?_
        cases hf
        exact gx_iretM C hr hlocks hH hS dX4_loads_84
  · have hf := gx_neg hc2 hf
    refine lv_iload_n hx hb dX4_loads_12 rfl (lv_at hl 0 rfl) ?_
    cases hf
    exact gx_iretM C hr hlocks hH hS dX4_loads_13
abbrev rm_X4_load : Room := { frames := 4, cells := 0, slots := 0, locals := 95 }
def f_X4_load (σ : gx_St) (a1 : Int32) : Option (Int32 × gx_St) :=
  (f_X4_isEffect σ a1).bind fun r1 =>
  if r1 = 0 then (some ((-1 : Int32), σ)) else (gx_b2 (f_X4_loads σ a1) fun r4 σ3 =>
  if r4 = (-9 : Int32) then (some ((-4 : Int32), σ3)) else (some (r4, σ3)))
set_option maxHeartbeats 4000000 in
set_option maxRecDepth 100000 in
theorem t_X4_load (l : Launch) (G : gx_G) (hG : gx_D G 13) (σ : gx_St) (a1 : Int32) (r : Int32) (σ' : gx_St)  (hf : f_X4_load σ a1 = some (r, σ')) : Met l yX4_load (Cond.code yX4_load cX4_load 3 (some .int) :: wT) rm_X4_load (va_Pc [.ref (gx_q G 0), .int a1] (gx_S G 13 (gm_mk G) σ)) (gx_QM G 13 (gm_mk G) (some (.int r)) σ') 0 0 (gx_A G) := by
  refine Met.ofW (cc := cX4_load) (maxL := 3) (ret := (some .int)) (by decide) rfl ?_
  intro p e s m args below meth c s₁ B hml hv
  obtain ⟨rfl, hH, hE⟩ := hv
  have C := gx_C.of (G := G) B hml hE
  have hx := C.1.1
  have hb := C.1.2.1
  have hr := B.returns
  have hlocks := B.notSynchronized
  have hS : va_S (gx_A G) s.heap s.heap [] := va_S.rf
  have hl := lv_entry ([.ref (gx_q G 0), .int a1]) (n := 3) (Nat.le_of_ble_eq_true rfl)
  rw [lg_entry_eq]
  generalize (lg_sl ([.ref (gx_q G 0), .int a1]) ++ List.replicate (3 - (lg_sl ([.ref (gx_q G 0), .int a1])).length) Slot.unset).toArray = ls at hl ⊢
  have hl : lv_has ls 3 [(0, .ref (gx_q G 0)), (1, .int a1)] := hl
  unfold f_X4_load at hf
  refine lv_aload_n hx hb dX4_load_0 rfl (lv_at hl 0 rfl) ?_
  refine lv_iload_n hx hb dX4_load_1 rfl (lv_at hl 1 rfl) ?_
  obtain ⟨r1, hr1, hf⟩ := gx_bnd hf
  refine gx_vR (v := (some (.int r1))) (rest := []) C hH hS 0 (by decide) rfl rfl [.int a1] (t_X4_isEffect l G σ a1 r1  hr1) lk_X4_76 ⟨rfl, rfl, Nat.le_of_ble_eq_true rfl, Nat.le_of_ble_eq_true rfl⟩ ⟨Nat.zero_le _, Nat.zero_le _⟩ hl.1 rfl (Nat.le_of_ble_eq_true rfl) dX4_load_2 ?_
  refine gx_e0 (st := [.int r1]) ?_ rfl
  refine lv_if_ne (tgt := 10) hx hb dX4_load_5 (by decide) (fun hc2 => ?_) (fun hc2 => ?_)
  · have hf := gx_neg hc2 hf
    refine lv_aload_n hx hb dX4_load_10 rfl (lv_at hl 0 rfl) ?_
    refine lv_iload_n hx hb dX4_load_11 rfl (lv_at hl 1 rfl) ?_
    obtain ⟨r4, σ3, hr4, hf⟩ := gx_bnd2 hf
    refine gx_vM (v := (some (.int r4))) (rest := []) C hH hS 0 (by decide) rfl rfl [.int a1] (t_X4_loads l G hG σ a1 r4 σ3  hr4) lk_X4_122 ⟨rfl, rfl, Nat.le_of_ble_eq_true rfl, Nat.le_of_ble_eq_true rfl⟩ ⟨Nat.zero_le _, Nat.zero_le _⟩ hl.1 rfl (Nat.le_of_ble_eq_true rfl) dX4_load_12 (fun H locs hH hS => ?_)
    refine gx_e0 (st := [.int r4]) ?_ rfl
    refine lv_istore_n (lv' := [(2, .int r4), (0, .ref (gx_q G 0)), (1, .int a1)]) hx hb dX4_load_15 rfl hl (by decide) rfl (fun ls hl => ?_)
    refine lv_iload_n hx hb dX4_load_16 rfl (lv_at hl 0 rfl) ?_
    refine lv_bipush (v := (-9 : Int32)) hx hb dX4_load_17 (by decide) ?_
    refine lv_icmp_ne (tgt := 27) hx hb dX4_load_19 (by decide) (fun hc5 => ?_) (fun hc5 => ?_)
    · have hf := gx_neg hc5 hf
      refine lv_iload_n hx hb dX4_load_27 rfl (lv_at hl 0 rfl) ?_
      cases hf
      exact gx_iretM C hr hlocks hH hS dX4_load_28
    · have hf := gx_pos hc5 hf
      refine lv_bipush (v := (-4 : Int32)) hx hb dX4_load_22 (by decide) ?_
      refine lv_goto (tgt := 28) hx hb dX4_load_24 (by decide) ?_
      cases hf
      exact gx_iretM C hr hlocks hH hS dX4_load_28
  · have hf := gx_pos hc2 hf
    refine lv_iconst (v := (-1 : Int32)) hx hb dX4_load_8 (by decide) ?_
    cases hf
    exact gx_iretM C hr hlocks hH hS dX4_load_9
abbrev rm_X4_unload : Room := { frames := 2, cells := 0, slots := 0, locals := 45 }
def f_X4_unload (σ : gx_St) (a1 : Int32) : Option (Int32 × gx_St) :=
  (f_X4_isEffect σ a1).bind fun r1 =>
  if r1 = 0 then (some ((-1 : Int32), σ)) else ((f_X4_slotOf σ a1).bind fun r3 =>
  if r3 = (-9 : Int32) then (some ((-3 : Int32), σ)) else ((f_X4_goes σ a1).bind fun σ5 =>
  some (r3, σ5)))
set_option maxHeartbeats 4000000 in
set_option maxRecDepth 100000 in
theorem t_X4_unload (l : Launch) (G : gx_G) (hG : gx_D G 13) (σ : gx_St) (a1 : Int32) (r : Int32) (σ' : gx_St)  (hf : f_X4_unload σ a1 = some (r, σ')) : Met l yX4_unload (Cond.code yX4_unload cX4_unload 3 (some .int) :: wT) rm_X4_unload (va_Pc [.ref (gx_q G 0), .int a1] (gx_S G 13 (gm_mk G) σ)) (gx_QM G 13 (gm_mk G) (some (.int r)) σ') 0 0 (gx_A G) := by
  refine Met.ofW (cc := cX4_unload) (maxL := 3) (ret := (some .int)) (by decide) rfl ?_
  intro p e s m args below meth c s₁ B hml hv
  obtain ⟨rfl, hH, hE⟩ := hv
  have C := gx_C.of (G := G) B hml hE
  have hx := C.1.1
  have hb := C.1.2.1
  have hr := B.returns
  have hlocks := B.notSynchronized
  have hS : va_S (gx_A G) s.heap s.heap [] := va_S.rf
  have hl := lv_entry ([.ref (gx_q G 0), .int a1]) (n := 3) (Nat.le_of_ble_eq_true rfl)
  rw [lg_entry_eq]
  generalize (lg_sl ([.ref (gx_q G 0), .int a1]) ++ List.replicate (3 - (lg_sl ([.ref (gx_q G 0), .int a1])).length) Slot.unset).toArray = ls at hl ⊢
  have hl : lv_has ls 3 [(0, .ref (gx_q G 0)), (1, .int a1)] := hl
  unfold f_X4_unload at hf
  refine lv_aload_n hx hb dX4_unload_0 rfl (lv_at hl 0 rfl) ?_
  refine lv_iload_n hx hb dX4_unload_1 rfl (lv_at hl 1 rfl) ?_
  obtain ⟨r1, hr1, hf⟩ := gx_bnd hf
  refine gx_vR (v := (some (.int r1))) (rest := []) C hH hS 0 (by decide) rfl rfl [.int a1] (t_X4_isEffect l G σ a1 r1  hr1) lk_X4_76 ⟨rfl, rfl, Nat.le_of_ble_eq_true rfl, Nat.le_of_ble_eq_true rfl⟩ ⟨Nat.zero_le _, Nat.zero_le _⟩ hl.1 rfl (Nat.le_of_ble_eq_true rfl) dX4_unload_2 ?_
  refine gx_e0 (st := [.int r1]) ?_ rfl
  refine lv_if_ne (tgt := 10) hx hb dX4_unload_5 (by decide) (fun hc2 => ?_) (fun hc2 => ?_)
  · have hf := gx_neg hc2 hf
    refine lv_aload_n hx hb dX4_unload_10 rfl (lv_at hl 0 rfl) ?_
    refine lv_iload_n hx hb dX4_unload_11 rfl (lv_at hl 1 rfl) ?_
    obtain ⟨r3, hr3, hf⟩ := gx_bnd hf
    refine gx_vR (v := (some (.int r3))) (rest := []) C hH hS 0 (by decide) rfl rfl [.int a1] (t_X4_slotOf l G σ a1 r3  hr3) lk_X4_105 ⟨rfl, rfl, Nat.le_of_ble_eq_true rfl, Nat.le_of_ble_eq_true rfl⟩ ⟨Nat.zero_le _, Nat.zero_le _⟩ hl.1 rfl (Nat.le_of_ble_eq_true rfl) dX4_unload_12 ?_
    refine gx_e0 (st := [.int r3]) ?_ rfl
    refine lv_istore_n (lv' := [(2, .int r3), (0, .ref (gx_q G 0)), (1, .int a1)]) hx hb dX4_unload_15 rfl hl (by decide) rfl (fun ls hl => ?_)
    refine lv_iload_n hx hb dX4_unload_16 rfl (lv_at hl 0 rfl) ?_
    refine lv_bipush (v := (-9 : Int32)) hx hb dX4_unload_17 (by decide) ?_
    refine lv_icmp_ne (tgt := 25) hx hb dX4_unload_19 (by decide) (fun hc4 => ?_) (fun hc4 => ?_)
    · have hf := gx_neg hc4 hf
      refine lv_aload_n hx hb dX4_unload_25 rfl (lv_at hl 1 rfl) ?_
      refine lv_iload_n hx hb dX4_unload_26 rfl (lv_at hl 2 rfl) ?_
      obtain ⟨σ5, hr6, hf⟩ := gx_bnd hf
      refine gx_vM (v := none) (rest := []) C hH hS 0 (by decide) rfl rfl [.int a1] (t_X4_goes l G hG σ a1 σ5  hr6) lk_X4_87 ⟨rfl, rfl, Nat.le_of_ble_eq_true rfl, Nat.le_of_ble_eq_true rfl⟩ ⟨Nat.zero_le _, Nat.zero_le _⟩ hl.1 rfl (Nat.le_of_ble_eq_true rfl) dX4_unload_27 (fun H locs hH hS => ?_)
      refine gx_e0 (st := []) ?_ rfl
      refine lv_iload_n hx hb dX4_unload_30 rfl (lv_at hl 0 rfl) ?_
      cases hf
      exact gx_iretM C hr hlocks hH hS dX4_unload_31
    · have hf := gx_pos hc4 hf
      refine lv_bipush (v := (-3 : Int32)) hx hb dX4_unload_22 (by decide) ?_
      cases hf
      exact gx_iretM C hr hlocks hH hS dX4_unload_24
  · have hf := gx_pos hc2 hf
    refine lv_iconst (v := (-1 : Int32)) hx hb dX4_unload_8 (by decide) ?_
    cases hf
    exact gx_iretM C hr hlocks hH hS dX4_unload_9
abbrev rm_X4_play : Room := { frames := 4, cells := 0, slots := 0, locals := 95 }
def f_X4_play (σ : gx_St) (a1 : Int32) : Option (Int32 × gx_St) :=
  (f_X4_isEffect σ a1).bind fun r1 =>
  if r1 = 0 then (some ((-1 : Int32), σ)) else (if (σ 0 18) = 0 then (gx_b2 (f_X4_loads σ a1) fun r5 σ4 =>
  if r5 = (-9 : Int32) then (some ((-4 : Int32), σ4)) else (if (a1 < 0 ∨ 12 ≤ a1.toNatClampNeg) then none else
  gx_lt (gx_w2 σ4 (9) a1.toNatClampNeg (σ4 0 0)) fun σ8 =>
  some (r5, σ8))) else (some ((-3 : Int32), σ)))
set_option maxHeartbeats 4000000 in
set_option maxRecDepth 100000 in
theorem t_X4_play (l : Launch) (G : gx_G) (hG : gx_D G 13) (σ : gx_St) (a1 : Int32) (r : Int32) (σ' : gx_St)  (hf : f_X4_play σ a1 = some (r, σ')) : Met l yX4_play (Cond.code yX4_play cX4_play 3 (some .int) :: wT) rm_X4_play (va_Pc [.ref (gx_q G 0), .int a1] (gx_S G 13 (gm_mk G) σ)) (gx_QM G 13 (gm_mk G) (some (.int r)) σ') 0 0 (gx_A G) := by
  refine Met.ofW (cc := cX4_play) (maxL := 3) (ret := (some .int)) (by decide) rfl ?_
  intro p e s m args below meth c s₁ B hml hv
  obtain ⟨rfl, hH, hE⟩ := hv
  have C := gx_C.of (G := G) B hml hE
  have hx := C.1.1
  have hb := C.1.2.1
  have hr := B.returns
  have hlocks := B.notSynchronized
  have hS : va_S (gx_A G) s.heap s.heap [] := va_S.rf
  have hl := lv_entry ([.ref (gx_q G 0), .int a1]) (n := 3) (Nat.le_of_ble_eq_true rfl)
  rw [lg_entry_eq]
  generalize (lg_sl ([.ref (gx_q G 0), .int a1]) ++ List.replicate (3 - (lg_sl ([.ref (gx_q G 0), .int a1])).length) Slot.unset).toArray = ls at hl ⊢
  have hl : lv_has ls 3 [(0, .ref (gx_q G 0)), (1, .int a1)] := hl
  unfold f_X4_play at hf
  refine lv_aload_n hx hb dX4_play_0 rfl (lv_at hl 0 rfl) ?_
  refine lv_iload_n hx hb dX4_play_1 rfl (lv_at hl 1 rfl) ?_
  obtain ⟨r1, hr1, hf⟩ := gx_bnd hf
  refine gx_vR (v := (some (.int r1))) (rest := []) C hH hS 0 (by decide) rfl rfl [.int a1] (t_X4_isEffect l G σ a1 r1  hr1) lk_X4_76 ⟨rfl, rfl, Nat.le_of_ble_eq_true rfl, Nat.le_of_ble_eq_true rfl⟩ ⟨Nat.zero_le _, Nat.zero_le _⟩ hl.1 rfl (Nat.le_of_ble_eq_true rfl) dX4_play_2 ?_
  refine gx_e0 (st := [.int r1]) ?_ rfl
  refine lv_if_ne (tgt := 10) hx hb dX4_play_5 (by decide) (fun hc2 => ?_) (fun hc2 => ?_)
  · have hf := gx_neg hc2 hf
    refine lv_aload_n hx hb dX4_play_10 rfl (lv_at hl 0 rfl) ?_
    refine gx_get C hH 0 (by decide) rfl fl_X4_125 rfl dX4_play_11 ?_
    refine lv_if_eq (tgt := 20) hx hb dX4_play_14 (by decide) (fun hc3 => ?_) (fun hc3 => ?_)
    · have hf := gx_pos hc3 hf
      refine lv_aload_n hx hb dX4_play_20 rfl (lv_at hl 0 rfl) ?_
      refine lv_iload_n hx hb dX4_play_21 rfl (lv_at hl 1 rfl) ?_
      obtain ⟨r5, σ4, hr5, hf⟩ := gx_bnd2 hf
      refine gx_vM (v := (some (.int r5))) (rest := []) C hH hS 0 (by decide) rfl rfl [.int a1] (t_X4_loads l G hG σ a1 r5 σ4  hr5) lk_X4_122 ⟨rfl, rfl, Nat.le_of_ble_eq_true rfl, Nat.le_of_ble_eq_true rfl⟩ ⟨Nat.zero_le _, Nat.zero_le _⟩ hl.1 rfl (Nat.le_of_ble_eq_true rfl) dX4_play_22 (fun H locs hH hS => ?_)
      refine gx_e0 (st := [.int r5]) ?_ rfl
      refine lv_istore_n (lv' := [(2, .int r5), (0, .ref (gx_q G 0)), (1, .int a1)]) hx hb dX4_play_25 rfl hl (by decide) rfl (fun ls hl => ?_)
      refine lv_iload_n hx hb dX4_play_26 rfl (lv_at hl 0 rfl) ?_
      refine lv_bipush (v := (-9 : Int32)) hx hb dX4_play_27 (by decide) ?_
      refine lv_icmp_ne (tgt := 35) hx hb dX4_play_29 (by decide) (fun hc6 => ?_) (fun hc6 => ?_)
      · have hf := gx_neg hc6 hf
        refine lv_aload_n hx hb dX4_play_35 rfl (lv_at hl 1 rfl) ?_
        refine gx_get C hH 0 (by decide) rfl fl_X4_34 rfl dX4_play_36 ?_
        refine lv_iload_n hx hb dX4_play_39 rfl (lv_at hl 2 rfl) ?_
        refine lv_aload_n hx hb dX4_play_40 rfl (lv_at hl 1 rfl) ?_
        refine gx_get C hH 0 (by decide) rfl fl_X4_91 rfl dX4_play_41 ?_
        obtain ⟨hb7, hf⟩ := gx_chk hf
        refine gx_iast C hG hH hS (9) (by decide) (fun _ => rfl) hb7 dX4_play_44 (fun H locs σ8 hσ8 hH hS => ?_)
        have hf := gx_let hf σ8 hσ8
        refine lv_iload_n hx hb dX4_play_45 rfl (lv_at hl 0 rfl) ?_
        cases hf
        exact gx_iretM C hr hlocks hH hS dX4_play_46
      · have hf := gx_pos hc6 hf
        refine lv_bipush (v := (-4 : Int32)) hx hb dX4_play_32 (by decide) ?_
        cases hf
        exact gx_iretM C hr hlocks hH hS dX4_play_34
    · have hf := gx_neg hc3 hf
      refine lv_bipush (v := (-3 : Int32)) hx hb dX4_play_17 (by decide) ?_
      cases hf
      exact gx_iretM C hr hlocks hH hS dX4_play_19
  · have hf := gx_pos hc2 hf
    refine lv_iconst (v := (-1 : Int32)) hx hb dX4_play_8 (by decide) ?_
    cases hf
    exact gx_iretM C hr hlocks hH hS dX4_play_9
abbrev rm_X4_stop : Room := { frames := 2, cells := 0, slots := 0, locals := 46 }
def f_X4_stop (σ : gx_St) (a1 : Int32) : Option (Int32 × gx_St) :=
  (f_X4_isEffect σ a1).bind fun r1 =>
  if r1 = 0 then (some ((-1 : Int32), σ)) else (if (a1 < 0 ∨ 12 ≤ a1.toNatClampNeg) then none else
  (f_X4_doesPlay σ a1 (σ (9) a1.toNatClampNeg) (σ 0 0)).bind fun r4 =>
  if r4 = 0 then (if (a1 < 0 ∨ 12 ≤ a1.toNatClampNeg) then none else
  gx_lt (gx_w2 σ (9) a1.toNatClampNeg (-9 : Int32)) fun σ7 =>
  some ((0 : Int32), σ7)) else (if (a1 < 0 ∨ 12 ≤ a1.toNatClampNeg) then none else
  gx_lt (gx_w2 σ (9) a1.toNatClampNeg (-9 : Int32)) fun σ9 =>
  some ((1 : Int32), σ9)))
set_option maxHeartbeats 4000000 in
set_option maxRecDepth 100000 in
theorem t_X4_stop (l : Launch) (G : gx_G) (hG : gx_D G 13) (σ : gx_St) (a1 : Int32) (r : Int32) (σ' : gx_St)  (hf : f_X4_stop σ a1 = some (r, σ')) : Met l yX4_stop (Cond.code yX4_stop cX4_stop 3 (some .int) :: wT) rm_X4_stop (va_Pc [.ref (gx_q G 0), .int a1] (gx_S G 13 (gm_mk G) σ)) (gx_QM G 13 (gm_mk G) (some (.int r)) σ') 0 0 (gx_A G) := by
  refine Met.ofW (cc := cX4_stop) (maxL := 3) (ret := (some .int)) (by decide) rfl ?_
  intro p e s m args below meth c s₁ B hml hv
  obtain ⟨rfl, hH, hE⟩ := hv
  have C := gx_C.of (G := G) B hml hE
  have hx := C.1.1
  have hb := C.1.2.1
  have hr := B.returns
  have hlocks := B.notSynchronized
  have hS : va_S (gx_A G) s.heap s.heap [] := va_S.rf
  have hl := lv_entry ([.ref (gx_q G 0), .int a1]) (n := 3) (Nat.le_of_ble_eq_true rfl)
  rw [lg_entry_eq]
  generalize (lg_sl ([.ref (gx_q G 0), .int a1]) ++ List.replicate (3 - (lg_sl ([.ref (gx_q G 0), .int a1])).length) Slot.unset).toArray = ls at hl ⊢
  have hl : lv_has ls 3 [(0, .ref (gx_q G 0)), (1, .int a1)] := hl
  unfold f_X4_stop at hf
  refine lv_aload_n hx hb dX4_stop_0 rfl (lv_at hl 0 rfl) ?_
  refine lv_iload_n hx hb dX4_stop_1 rfl (lv_at hl 1 rfl) ?_
  obtain ⟨r1, hr1, hf⟩ := gx_bnd hf
  refine gx_vR (v := (some (.int r1))) (rest := []) C hH hS 0 (by decide) rfl rfl [.int a1] (t_X4_isEffect l G σ a1 r1  hr1) lk_X4_76 ⟨rfl, rfl, Nat.le_of_ble_eq_true rfl, Nat.le_of_ble_eq_true rfl⟩ ⟨Nat.zero_le _, Nat.zero_le _⟩ hl.1 rfl (Nat.le_of_ble_eq_true rfl) dX4_stop_2 ?_
  refine gx_e0 (st := [.int r1]) ?_ rfl
  refine lv_if_ne (tgt := 10) hx hb dX4_stop_5 (by decide) (fun hc2 => ?_) (fun hc2 => ?_)
  · have hf := gx_neg hc2 hf
    refine lv_aload_n hx hb dX4_stop_10 rfl (lv_at hl 0 rfl) ?_
    refine lv_iload_n hx hb dX4_stop_11 rfl (lv_at hl 1 rfl) ?_
    refine lv_aload_n hx hb dX4_stop_12 rfl (lv_at hl 0 rfl) ?_
    refine gx_get C hH 0 (by decide) rfl fl_X4_34 rfl dX4_stop_13 ?_
    refine lv_iload_n hx hb dX4_stop_16 rfl (lv_at hl 1 rfl) ?_
    obtain ⟨hb3, hf⟩ := gx_chk hf
    refine gx_iald C hH (9) (by decide) rfl hb3 dX4_stop_17 ?_
    refine lv_aload_n hx hb dX4_stop_18 rfl (lv_at hl 0 rfl) ?_
    refine gx_get C hH 0 (by decide) rfl fl_X4_91 rfl dX4_stop_19 ?_
    obtain ⟨r4, hr4, hf⟩ := gx_bnd hf
    refine gx_vR (v := (some (.int r4))) (rest := []) C hH hS 0 (by decide) rfl rfl [.int a1, .int (σ (9) a1.toNatClampNeg), .int (σ 0 0)] (t_X4_doesPlay l G σ a1 (σ (9) a1.toNatClampNeg) (σ 0 0) r4  hr4) lk_X4_108 ⟨rfl, rfl, Nat.le_of_ble_eq_true rfl, Nat.le_of_ble_eq_true rfl⟩ ⟨Nat.zero_le _, Nat.zero_le _⟩ hl.1 rfl (Nat.le_of_ble_eq_true rfl) dX4_stop_22 ?_
    refine gx_e0 (st := [.int r4]) ?_ rfl
    refine lv_if_eq (tgt := 32) hx hb dX4_stop_25 (by decide) (fun hc5 => ?_) (fun hc5 => ?_)
    · have hf := gx_pos hc5 hf
      refine lv_iconst (v := (0 : Int32)) hx hb dX4_stop_32 (by decide) ?_
      refine lv_istore_n (lv' := [(2, .int (0 : Int32)), (0, .ref (gx_q G 0)), (1, .int a1)]) hx hb dX4_stop_33 rfl hl (by decide) rfl (fun ls hl => ?_)
      refine lv_aload_n hx hb dX4_stop_34 rfl (lv_at hl 1 rfl) ?_
      refine gx_get C hH 0 (by decide) rfl fl_X4_34 rfl dX4_stop_35 ?_
      refine lv_iload_n hx hb dX4_stop_38 rfl (lv_at hl 2 rfl) ?_
      refine lv_bipush (v := (-9 : Int32)) hx hb dX4_stop_39 (by decide) ?_
      obtain ⟨hb6, hf⟩ := gx_chk hf
      refine gx_iast C hG hH hS (9) (by decide) (fun _ => rfl) hb6 dX4_stop_41 (fun H locs σ7 hσ7 hH hS => ?_)
      have hf := gx_let hf σ7 hσ7
      refine lv_iload_n hx hb dX4_stop_42 rfl (lv_at hl 0 rfl) ?_
      cases hf
      exact gx_iretM C hr hlocks hH hS dX4_stop_43
    · have hf := gx_neg hc5 hf
      refine lv_iconst (v := (1 : Int32)) hx hb dX4_stop_28 (by decide) ?_
      refine lv_goto (tgt := 33) hx hb dX4_stop_29 (by decide) ?_
      refine lv_istore_n (lv' := [(2, .int (1 : Int32)), (0, .ref (gx_q G 0)), (1, .int a1)]) hx hb dX4_stop_33 rfl hl (by decide) rfl (fun ls hl => ?_)
      refine lv_aload_n hx hb dX4_stop_34 rfl (lv_at hl 1 rfl) ?_
      refine gx_get C hH 0 (by decide) rfl fl_X4_34 rfl dX4_stop_35 ?_
      refine lv_iload_n hx hb dX4_stop_38 rfl (lv_at hl 2 rfl) ?_
      refine lv_bipush (v := (-9 : Int32)) hx hb dX4_stop_39 (by decide) ?_
      obtain ⟨hb8, hf⟩ := gx_chk hf
      refine gx_iast C hG hH hS (9) (by decide) (fun _ => rfl) hb8 dX4_stop_41 (fun H locs σ9 hσ9 hH hS => ?_)
      have hf := gx_let hf σ9 hσ9
      refine lv_iload_n hx hb dX4_stop_42 rfl (lv_at hl 0 rfl) ?_
      cases hf
      exact gx_iretM C hr hlocks hH hS dX4_stop_43
  · have hf := gx_pos hc2 hf
    refine lv_iconst (v := (-1 : Int32)) hx hb dX4_stop_8 (by decide) ?_
    cases hf
    exact gx_iretM C hr hlocks hH hS dX4_stop_9
abbrev rm_X4_press : Room := { frames := 1, cells := 0, slots := 0, locals := 22 }
def fL_X4_press_46 : Nat → gx_St → Int32 → Int32 → Int32 → Option (Int32 × gx_St)
  | 0, _, _, _, _ => none
  | N + 1, σ, v1, v2, v3 =>
    if (σ 0 4) ≤ v3 then (some (v2, σ)) else ((f_X4_slotOf σ v3).bind fun r9 =>
    if r9 = (-9 : Int32) then (if ((((12 : Int32) * v1) + v3) < 0 ∨ 48 ≤ (((12 : Int32) * v1) + v3).toNatClampNeg) then none else
    gx_lt (gx_w2 σ (12) (((12 : Int32) * v1) + v3).toNatClampNeg (0 : Int32)) fun σ13 =>
    if (v3 < 0 ∨ 12 ≤ v3.toNatClampNeg) then none else
    if (v3 < 0 ∨ 12 ≤ v3.toNatClampNeg) then none else
    gx_lt (gx_w2 σ13 (9) v3.toNatClampNeg (σ13 (9) v3.toNatClampNeg)) fun σ17 =>
    gx_lt (v2 + (0 : Int32)) fun x19 =>
    gx_lt (v3 + (1 : Int32)) fun x20 =>
    fL_X4_press_46 N σ17 v1 x19 x20) else ((f_X4_numberOf σ v3 (10 : Int32)).bind fun r21 =>
    if r21 = v1 then ((f_X4_numberOf σ v3 (11 : Int32)).bind fun r34 =>
    if ((((12 : Int32) * v1) + v3) < 0 ∨ 48 ≤ (((12 : Int32) * v1) + v3).toNatClampNeg) then none else
    gx_lt (gx_w2 σ (12) (((12 : Int32) * v1) + v3).toNatClampNeg r34) fun σ36 =>
    if (v3 < 0 ∨ 12 ≤ v3.toNatClampNeg) then none else
    gx_lt (gx_w2 σ36 (9) v3.toNatClampNeg (σ36 0 0)) fun σ39 =>
    gx_lt (v2 + (1 : Int32)) fun x41 =>
    gx_lt (v3 + (1 : Int32)) fun x42 =>
    fL_X4_press_46 N σ39 v1 x41 x42) else (if ((((12 : Int32) * v1) + v3) < 0 ∨ 48 ≤ (((12 : Int32) * v1) + v3).toNatClampNeg) then none else
    gx_lt (gx_w2 σ (12) (((12 : Int32) * v1) + v3).toNatClampNeg (0 : Int32)) fun σ25 =>
    if (v3 < 0 ∨ 12 ≤ v3.toNatClampNeg) then none else
    if (v3 < 0 ∨ 12 ≤ v3.toNatClampNeg) then none else
    gx_lt (gx_w2 σ25 (9) v3.toNatClampNeg (σ25 (9) v3.toNatClampNeg)) fun σ29 =>
    gx_lt (v2 + (0 : Int32)) fun x31 =>
    gx_lt (v3 + (1 : Int32)) fun x32 =>
    fL_X4_press_46 N σ29 v1 x31 x32)))
set_option maxHeartbeats 4000000 in
set_option maxRecDepth 100000 in
theorem w_X4_press_46 {p : Program} {l : Launch} {e : Env} {s : State} {m : MethodId} {args : Array Value} {below : List Frame} {meth : Method} {c : Code} (G : gx_G) (hG : gx_D G 13) (C : gx_C p m c cX4_press 5 s args RX4 G) (hr : meth.sig.returnType = (some .int)) (hlocks : meth.locks = false) : ∀ (N : Nat) (σ : gx_St) (v1 v2 v3 : Int32)  (z : (Int32 × gx_St)), fL_X4_press_46 N σ v1 v2 v3 = some z → ∀ (H : Heap) (locs : List Loc) (ls : Array Slot), gx_H G 13 (gm_mk G) σ H → va_S (gx_A G) s.heap H locs → lv_has ls 5 [(0, .ref (gx_q G 0)), (1, .int v1), (2, .int v2), (3, .int v3)] → W p l e rm_X4_press s m args below meth c H locs 0 0 (MQ below (gx_QM G 13 (gm_mk G) (some (.int z.1)) z.2) args s 0 0 (gx_A G)) (F0 m 46 ls []) := by
  have hx := C.1.1
  have hb := C.1.2.1
  intro N
  induction N with
  | zero =>
    intro σ v1 v2 v3  z hf H locs ls hH hS hl
    cases (show (none : Option (Int32 × gx_St)) = some z from hf)
  | succ N ih =>
    intro σ v1 v2 v3  z hf H locs ls hH hS hl
    rw [fL_X4_press_46] at hf
    refine lv_iload_n hx hb dX4_press_46 rfl (lv_at hl 3 rfl) ?_
    refine lv_aload_n hx hb dX4_press_47 rfl (lv_at hl 0 rfl) ?_
    refine gx_get C hH 0 (by decide) rfl fl_X4_56 rfl dX4_press_48 ?_
    refine lv_icmp_ge (tgt := 152) hx hb dX4_press_51 (by decide) (fun hc8 => ?_) (fun hc8 => ?_)
    · have hf := gx_pos hc8 hf
      refine lv_iload_n hx hb dX4_press_152 rfl (lv_at hl 2 rfl) ?_
      cases hf
      exact gx_iretM C hr hlocks hH hS dX4_press_153
    · have hf := gx_neg hc8 hf
      refine lv_aload_n hx hb dX4_press_54 rfl (lv_at hl 0 rfl) ?_
      refine lv_iload_n hx hb dX4_press_55 rfl (lv_at hl 3 rfl) ?_
      obtain ⟨r9, hr9, hf⟩ := gx_bnd hf
      refine gx_vR (v := (some (.int r9))) (rest := []) C hH hS 0 (by decide) rfl rfl [.int v3] (t_X4_slotOf l G σ v3 r9  hr9) lk_X4_105 ⟨rfl, rfl, Nat.le_of_ble_eq_true rfl, Nat.le_of_ble_eq_true rfl⟩ ⟨Nat.zero_le _, Nat.zero_le _⟩ hl.1 rfl (Nat.le_of_ble_eq_true rfl) dX4_press_56 ?_
      refine gx_e0 (st := [.int r9]) ?_ rfl
      refine lv_bipush (v := (-9 : Int32)) hx hb dX4_press_59 (by decide) ?_
      refine lv_icmp_eq (tgt := 79) hx hb dX4_press_61 (by decide) (fun hc10 => ?_) (fun hc10 => ?_)
      · have hf := gx_pos hc10 hf
        refine lv_iconst (v := (0 : Int32)) hx hb dX4_press_79 (by decide) ?_
        refine lv_istore (lv' := [(4, .int (0 : Int32)), (0, .ref (gx_q G 0)), (1, .int v1), (2, .int v2), (3, .int v3)]) hx hb dX4_press_80 hl (by decide) rfl (fun ls hl => ?_)
        refine lv_aload_n hx hb dX4_press_82 rfl (lv_at hl 1 rfl) ?_
        refine gx_get C hH 0 (by decide) rfl fl_X4_47 rfl dX4_press_83 ?_
        refine lv_bipush (v := (12 : Int32)) hx hb dX4_press_86 (by decide) ?_
        refine lv_iload_n hx hb dX4_press_88 rfl (lv_at hl 2 rfl) ?_
        refine lv_imul hx hb dX4_press_89 ?_
        refine lv_iload_n hx hb dX4_press_90 rfl (lv_at hl 4 rfl) ?_
        refine lv_iadd hx hb dX4_press_91 ?_
        refine lv_iload hx hb dX4_press_92 (lv_at hl 0 rfl) ?_
        refine lv_if_eq (tgt := 107) hx hb dX4_press_94 (by decide) (fun hc11 => ?_) (fun hc11 => absurd hc11 (by decide))
        refine lv_iconst (v := (0 : Int32)) hx hb dX4_press_107 (by decide) ?_
        obtain ⟨hb12, hf⟩ := gx_chk hf
        refine gx_iast C hG hH hS (12) (by decide) (fun _ => rfl) hb12 dX4_press_108 (fun H locs σ13 hσ13 hH hS => ?_)
        have hf := gx_let hf σ13 hσ13
        refine lv_aload_n hx hb dX4_press_109 rfl (lv_at hl 1 rfl) ?_
        refine gx_get C hH 0 (by decide) rfl fl_X4_34 rfl dX4_press_110 ?_
        refine lv_iload_n hx hb dX4_press_113 rfl (lv_at hl 4 rfl) ?_
        refine lv_iload hx hb dX4_press_114 (lv_at hl 0 rfl) ?_
        refine lv_if_eq (tgt := 126) hx hb dX4_press_116 (by decide) (fun hc14 => ?_) (fun hc14 => absurd hc14 (by decide))
        refine lv_aload_n hx hb dX4_press_126 rfl (lv_at hl 1 rfl) ?_
        refine gx_get C hH 0 (by decide) rfl fl_X4_34 rfl dX4_press_127 ?_
        refine lv_iload_n hx hb dX4_press_130 rfl (lv_at hl 4 rfl) ?_
        obtain ⟨hb15, hf⟩ := gx_chk hf
        refine gx_iald C hH (9) (by decide) rfl hb15 dX4_press_131 ?_
        obtain ⟨hb16, hf⟩ := gx_chk hf
        refine gx_iast C hG hH hS (9) (by decide) (fun _ => rfl) hb16 dX4_press_132 (fun H locs σ17 hσ17 hH hS => ?_)
        have hf := gx_let hf σ17 hσ17
        refine lv_iload_n hx hb dX4_press_133 rfl (lv_at hl 3 rfl) ?_
        refine lv_iload hx hb dX4_press_134 (lv_at hl 0 rfl) ?_
        refine lv_if_eq (tgt := 143) hx hb dX4_press_136 (by decide) (fun hc18 => ?_) (fun hc18 => absurd hc18 (by decide))
        refine lv_iconst (v := (0 : Int32)) hx hb dX4_press_143 (by decide) ?_
        refine lv_iadd hx hb dX4_press_144 ?_
        refine lv_topi (fun x19 hx19 => ?_)
        have hf := gx_let hf x19 hx19
        refine lv_istore_n (lv' := [(2, .int x19), (4, .int (0 : Int32)), (0, .ref (gx_q G 0)), (1, .int v1), (3, .int v3)]) hx hb dX4_press_145 rfl hl (by decide) rfl (fun ls hl => ?_)
        obtain ⟨x20, hx20⟩ : ∃ z : Int32, z = (v3 + (1 : Int32)) := ⟨_, rfl⟩
        have hf := gx_let hf x20 hx20
        refine lv_iinc (v := x20) (lv' := [(3, .int x20), (2, .int x19), (4, .int (0 : Int32)), (0, .ref (gx_q G 0)), (1, .int v1)]) hx hb dX4_press_146 hl (k := 4) rfl (by rw [hx20]; rfl) (by decide) rfl (fun ls hl => ?_)
        refine lv_goto (tgt := 46) hx hb dX4_press_149 (by decide) ?_
        exact ih σ17 v1 x19 x20  _ hf _ _ ls hH hS (lv_sub hl [3, 4, 1, 0] rfl)
      · have hf := gx_neg hc10 hf
        refine lv_aload_n hx hb dX4_press_64 rfl (lv_at hl 0 rfl) ?_
        refine lv_iload_n hx hb dX4_press_65 rfl (lv_at hl 3 rfl) ?_
        refine lv_bipush (v := (10 : Int32)) hx hb dX4_press_66 (by decide) ?_
        obtain ⟨r21, hr21, hf⟩ := gx_bnd hf
        refine gx_vR (v := (some (.int r21))) (rest := []) C hH hS 0 (by decide) rfl rfl [.int v3, .int (10 : Int32)] (t_X4_numberOf l G σ v3 (10 : Int32) r21  hr21) lk_X4_72 ⟨rfl, rfl, Nat.le_of_ble_eq_true rfl, Nat.le_of_ble_eq_true rfl⟩ ⟨Nat.zero_le _, Nat.zero_le _⟩ hl.1 rfl (Nat.le_of_ble_eq_true rfl) dX4_press_68 ?_
        refine gx_e0 (st := [.int r21]) ?_ rfl
        refine lv_iload_n hx hb dX4_press_71 rfl (lv_at hl 1 rfl) ?_
        refine lv_icmp_ne (tgt := 79) hx hb dX4_press_72 (by decide) (fun hc22 => ?_) (fun hc22 => ?_)
        · have hf := gx_neg hc22 hf
          refine lv_iconst (v := (0 : Int32)) hx hb dX4_press_79 (by decide) ?_
          refine lv_istore (lv' := [(4, .int (0 : Int32)), (0, .ref (gx_q G 0)), (1, .int v1), (2, .int v2), (3, .int v3)]) hx hb dX4_press_80 hl (by decide) rfl (fun ls hl => ?_)
          refine lv_aload_n hx hb dX4_press_82 rfl (lv_at hl 1 rfl) ?_
          refine gx_get C hH 0 (by decide) rfl fl_X4_47 rfl dX4_press_83 ?_
          refine lv_bipush (v := (12 : Int32)) hx hb dX4_press_86 (by decide) ?_
          refine lv_iload_n hx hb dX4_press_88 rfl (lv_at hl 2 rfl) ?_
          refine lv_imul hx hb dX4_press_89 ?_
          refine lv_iload_n hx hb dX4_press_90 rfl (lv_at hl 4 rfl) ?_
          refine lv_iadd hx hb dX4_press_91 ?_
          refine lv_iload hx hb dX4_press_92 (lv_at hl 0 rfl) ?_
          refine lv_if_eq (tgt := 107) hx hb dX4_press_94 (by decide) (fun hc23 => ?_) (fun hc23 => absurd hc23 (by decide))
          refine lv_iconst (v := (0 : Int32)) hx hb dX4_press_107 (by decide) ?_
          obtain ⟨hb24, hf⟩ := gx_chk hf
          refine gx_iast C hG hH hS (12) (by decide) (fun _ => rfl) hb24 dX4_press_108 (fun H locs σ25 hσ25 hH hS => ?_)
          have hf := gx_let hf σ25 hσ25
          refine lv_aload_n hx hb dX4_press_109 rfl (lv_at hl 1 rfl) ?_
          refine gx_get C hH 0 (by decide) rfl fl_X4_34 rfl dX4_press_110 ?_
          refine lv_iload_n hx hb dX4_press_113 rfl (lv_at hl 4 rfl) ?_
          refine lv_iload hx hb dX4_press_114 (lv_at hl 0 rfl) ?_
          refine lv_if_eq (tgt := 126) hx hb dX4_press_116 (by decide) (fun hc26 => ?_) (fun hc26 => absurd hc26 (by decide))
          refine lv_aload_n hx hb dX4_press_126 rfl (lv_at hl 1 rfl) ?_
          refine gx_get C hH 0 (by decide) rfl fl_X4_34 rfl dX4_press_127 ?_
          refine lv_iload_n hx hb dX4_press_130 rfl (lv_at hl 4 rfl) ?_
          obtain ⟨hb27, hf⟩ := gx_chk hf
          refine gx_iald C hH (9) (by decide) rfl hb27 dX4_press_131 ?_
          obtain ⟨hb28, hf⟩ := gx_chk hf
          refine gx_iast C hG hH hS (9) (by decide) (fun _ => rfl) hb28 dX4_press_132 (fun H locs σ29 hσ29 hH hS => ?_)
          have hf := gx_let hf σ29 hσ29
          refine lv_iload_n hx hb dX4_press_133 rfl (lv_at hl 3 rfl) ?_
          refine lv_iload hx hb dX4_press_134 (lv_at hl 0 rfl) ?_
          refine lv_if_eq (tgt := 143) hx hb dX4_press_136 (by decide) (fun hc30 => ?_) (fun hc30 => absurd hc30 (by decide))
          refine lv_iconst (v := (0 : Int32)) hx hb dX4_press_143 (by decide) ?_
          refine lv_iadd hx hb dX4_press_144 ?_
          refine lv_topi (fun x31 hx31 => ?_)
          have hf := gx_let hf x31 hx31
          refine lv_istore_n (lv' := [(2, .int x31), (4, .int (0 : Int32)), (0, .ref (gx_q G 0)), (1, .int v1), (3, .int v3)]) hx hb dX4_press_145 rfl hl (by decide) rfl (fun ls hl => ?_)
          obtain ⟨x32, hx32⟩ : ∃ z : Int32, z = (v3 + (1 : Int32)) := ⟨_, rfl⟩
          have hf := gx_let hf x32 hx32
          refine lv_iinc (v := x32) (lv' := [(3, .int x32), (2, .int x31), (4, .int (0 : Int32)), (0, .ref (gx_q G 0)), (1, .int v1)]) hx hb dX4_press_146 hl (k := 4) rfl (by rw [hx32]; rfl) (by decide) rfl (fun ls hl => ?_)
          refine lv_goto (tgt := 46) hx hb dX4_press_149 (by decide) ?_
          exact ih σ29 v1 x31 x32  _ hf _ _ ls hH hS (lv_sub hl [3, 4, 1, 0] rfl)
        · have hf := gx_pos hc22 hf
          refine lv_iconst (v := (1 : Int32)) hx hb dX4_press_75 (by decide) ?_
          refine lv_goto (tgt := 80) hx hb dX4_press_76 (by decide) ?_
          refine lv_istore (lv' := [(4, .int (1 : Int32)), (0, .ref (gx_q G 0)), (1, .int v1), (2, .int v2), (3, .int v3)]) hx hb dX4_press_80 hl (by decide) rfl (fun ls hl => ?_)
          refine lv_aload_n hx hb dX4_press_82 rfl (lv_at hl 1 rfl) ?_
          refine gx_get C hH 0 (by decide) rfl fl_X4_47 rfl dX4_press_83 ?_
          refine lv_bipush (v := (12 : Int32)) hx hb dX4_press_86 (by decide) ?_
          refine lv_iload_n hx hb dX4_press_88 rfl (lv_at hl 2 rfl) ?_
          refine lv_imul hx hb dX4_press_89 ?_
          refine lv_iload_n hx hb dX4_press_90 rfl (lv_at hl 4 rfl) ?_
          refine lv_iadd hx hb dX4_press_91 ?_
          refine lv_iload hx hb dX4_press_92 (lv_at hl 0 rfl) ?_
          refine lv_if_eq (tgt := 107) hx hb dX4_press_94 (by decide) (fun hc33 => absurd hc33 (by decide)) (fun hc33 => ?_)
          refine lv_aload_n hx hb dX4_press_97 rfl (lv_at hl 1 rfl) ?_
          refine lv_iload_n hx hb dX4_press_98 rfl (lv_at hl 4 rfl) ?_
          refine lv_bipush (v := (11 : Int32)) hx hb dX4_press_99 (by decide) ?_
          obtain ⟨r34, hr34, hf⟩ := gx_bnd hf
          refine gx_vR (v := (some (.int r34))) (rest := [.int (((12 : Int32) * v1) + v3), .ref (gx_q G (12))]) C hH hS 0 (by decide) rfl rfl [.int v3, .int (11 : Int32)] (t_X4_numberOf l G σ v3 (11 : Int32) r34  hr34) lk_X4_72 ⟨rfl, rfl, Nat.le_of_ble_eq_true rfl, Nat.le_of_ble_eq_true rfl⟩ ⟨Nat.zero_le _, Nat.zero_le _⟩ hl.1 rfl (Nat.le_of_ble_eq_true rfl) dX4_press_101 ?_
          refine gx_e0 (st := [.int r34, .int (((12 : Int32) * v1) + v3), .ref (gx_q G (12))]) ?_ rfl
          refine lv_goto (tgt := 108) hx hb dX4_press_104 (by decide) ?_
          obtain ⟨hb35, hf⟩ := gx_chk hf
          refine gx_iast C hG hH hS (12) (by decide) (fun _ => rfl) hb35 dX4_press_108 (fun H locs σ36 hσ36 hH hS => ?_)
          have hf := gx_let hf σ36 hσ36
          refine lv_aload_n hx hb dX4_press_109 rfl (lv_at hl 1 rfl) ?_
          refine gx_get C hH 0 (by decide) rfl fl_X4_34 rfl dX4_press_110 ?_
          refine lv_iload_n hx hb dX4_press_113 rfl (lv_at hl 4 rfl) ?_
          refine lv_iload hx hb dX4_press_114 (lv_at hl 0 rfl) ?_
          refine lv_if_eq (tgt := 126) hx hb dX4_press_116 (by decide) (fun hc37 => absurd hc37 (by decide)) (fun hc37 => ?_)
          refine lv_aload_n hx hb dX4_press_119 rfl (lv_at hl 1 rfl) ?_
          refine gx_get C hH 0 (by decide) rfl fl_X4_91 rfl dX4_press_120 ?_
          refine lv_goto (tgt := 132) hx hb dX4_press_123 (by decide) ?_
          obtain ⟨hb38, hf⟩ := gx_chk hf
          refine gx_iast C hG hH hS (9) (by decide) (fun _ => rfl) hb38 dX4_press_132 (fun H locs σ39 hσ39 hH hS => ?_)
          have hf := gx_let hf σ39 hσ39
          refine lv_iload_n hx hb dX4_press_133 rfl (lv_at hl 3 rfl) ?_
          refine lv_iload hx hb dX4_press_134 (lv_at hl 0 rfl) ?_
          refine lv_if_eq (tgt := 143) hx hb dX4_press_136 (by decide) (fun hc40 => absurd hc40 (by decide)) (fun hc40 => ?_)
          refine lv_iconst (v := (1 : Int32)) hx hb dX4_press_139 (by decide) ?_
          refine lv_goto (tgt := 144) hx hb dX4_press_140 (by decide) ?_
          refine lv_iadd hx hb dX4_press_144 ?_
          refine lv_topi (fun x41 hx41 => ?_)
          have hf := gx_let hf x41 hx41
          refine lv_istore_n (lv' := [(2, .int x41), (4, .int (1 : Int32)), (0, .ref (gx_q G 0)), (1, .int v1), (3, .int v3)]) hx hb dX4_press_145 rfl hl (by decide) rfl (fun ls hl => ?_)
          obtain ⟨x42, hx42⟩ : ∃ z : Int32, z = (v3 + (1 : Int32)) := ⟨_, rfl⟩
          have hf := gx_let hf x42 hx42
          refine lv_iinc (v := x42) (lv' := [(3, .int x42), (2, .int x41), (4, .int (1 : Int32)), (0, .ref (gx_q G 0)), (1, .int v1)]) hx hb dX4_press_146 hl (k := 4) rfl (by rw [hx42]; rfl) (by decide) rfl (fun ls hl => ?_)
          refine lv_goto (tgt := 46) hx hb dX4_press_149 (by decide) ?_
          exact ih σ39 v1 x41 x42  _ hf _ _ ls hH hS (lv_sub hl [3, 4, 1, 0] rfl)
def f_X4_press (σ : gx_St) (a1 : Int32) : Option (Int32 × gx_St) :=
  (f_X4_within a1 (0 : Int32) (3 : Int32)).bind fun r1 =>
  if r1 = 0 then (some ((-1 : Int32), σ)) else (if (a1 < 0 ∨ 4 ≤ a1.toNatClampNeg) then none else
  if (σ (11) a1.toNatClampNeg) = (-9 : Int32) then (if (σ 0 18) = 0 then (if (a1 < 0 ∨ 4 ≤ a1.toNatClampNeg) then none else
  gx_lt (gx_w2 σ (11) a1.toNatClampNeg (σ 0 0)) fun σ7 =>
  fL_X4_press_46 13 σ7 a1 (0 : Int32) (0 : Int32)) else (some ((-3 : Int32), σ))) else (some ((-3 : Int32), σ)))
set_option maxHeartbeats 4000000 in
set_option maxRecDepth 100000 in
theorem t_X4_press (l : Launch) (G : gx_G) (hG : gx_D G 13) (σ : gx_St) (a1 : Int32) (r : Int32) (σ' : gx_St)  (hf : f_X4_press σ a1 = some (r, σ')) : Met l yX4_press (Cond.code yX4_press cX4_press 5 (some .int) :: wT) rm_X4_press (va_Pc [.ref (gx_q G 0), .int a1] (gx_S G 13 (gm_mk G) σ)) (gx_QM G 13 (gm_mk G) (some (.int r)) σ') 0 0 (gx_A G) := by
  refine Met.ofW (cc := cX4_press) (maxL := 5) (ret := (some .int)) (by decide) rfl ?_
  intro p e s m args below meth c s₁ B hml hv
  obtain ⟨rfl, hH, hE⟩ := hv
  have C := gx_C.of (G := G) B hml hE
  have hx := C.1.1
  have hb := C.1.2.1
  have hr := B.returns
  have hlocks := B.notSynchronized
  have hS : va_S (gx_A G) s.heap s.heap [] := va_S.rf
  have hl := lv_entry ([.ref (gx_q G 0), .int a1]) (n := 5) (Nat.le_of_ble_eq_true rfl)
  rw [lg_entry_eq]
  generalize (lg_sl ([.ref (gx_q G 0), .int a1]) ++ List.replicate (5 - (lg_sl ([.ref (gx_q G 0), .int a1])).length) Slot.unset).toArray = ls at hl ⊢
  have hl : lv_has ls 5 [(0, .ref (gx_q G 0)), (1, .int a1)] := hl
  unfold f_X4_press at hf
  refine lv_iload_n hx hb dX4_press_0 rfl (lv_at hl 1 rfl) ?_
  refine lv_iconst (v := (0 : Int32)) hx hb dX4_press_1 (by decide) ?_
  refine lv_iconst (v := (3 : Int32)) hx hb dX4_press_2 (by decide) ?_
  obtain ⟨r1, hr1, hf⟩ := gx_bnd hf
  refine gx_sR (v := (some (.int r1))) (rest := []) C hH hS [.int a1, .int (0 : Int32), .int (3 : Int32)] (t_X4_within l G σ a1 (0 : Int32) (3 : Int32) r1  hr1) lk_X4_59 ⟨rfl, rfl, Nat.le_of_ble_eq_true rfl, Nat.le_of_ble_eq_true rfl⟩ ⟨Nat.zero_le _, Nat.zero_le _⟩ hl.1 rfl (Nat.le_of_ble_eq_true rfl) dX4_press_3 ?_
  refine gx_e0 (st := [.int r1]) ?_ rfl
  refine lv_if_ne (tgt := 11) hx hb dX4_press_6 (by decide) (fun hc2 => ?_) (fun hc2 => ?_)
  · have hf := gx_neg hc2 hf
    refine lv_aload_n hx hb dX4_press_11 rfl (lv_at hl 0 rfl) ?_
    refine gx_get C hH 0 (by decide) rfl fl_X4_44 rfl dX4_press_12 ?_
    refine lv_iload_n hx hb dX4_press_15 rfl (lv_at hl 1 rfl) ?_
    obtain ⟨hb3, hf⟩ := gx_chk hf
    refine gx_iald C hH (11) (by decide) rfl hb3 dX4_press_16 ?_
    refine lv_bipush (v := (-9 : Int32)) hx hb dX4_press_17 (by decide) ?_
    refine lv_icmp_ne (tgt := 29) hx hb dX4_press_19 (by decide) (fun hc4 => ?_) (fun hc4 => ?_)
    · have hf := gx_neg hc4 hf
      refine lv_bipush (v := (-3 : Int32)) hx hb dX4_press_29 (by decide) ?_
      cases hf
      exact gx_iretM C hr hlocks hH hS dX4_press_31
    · have hf := gx_pos hc4 hf
      refine lv_aload_n hx hb dX4_press_22 rfl (lv_at hl 0 rfl) ?_
      refine gx_get C hH 0 (by decide) rfl fl_X4_125 rfl dX4_press_23 ?_
      refine lv_if_eq (tgt := 32) hx hb dX4_press_26 (by decide) (fun hc5 => ?_) (fun hc5 => ?_)
      · have hf := gx_pos hc5 hf
        refine lv_aload_n hx hb dX4_press_32 rfl (lv_at hl 0 rfl) ?_
        refine gx_get C hH 0 (by decide) rfl fl_X4_44 rfl dX4_press_33 ?_
        refine lv_iload_n hx hb dX4_press_36 rfl (lv_at hl 1 rfl) ?_
        refine lv_aload_n hx hb dX4_press_37 rfl (lv_at hl 0 rfl) ?_
        refine gx_get C hH 0 (by decide) rfl fl_X4_91 rfl dX4_press_38 ?_
        obtain ⟨hb6, hf⟩ := gx_chk hf
        refine gx_iast C hG hH hS (11) (by decide) (fun _ => rfl) hb6 dX4_press_41 (fun H locs σ7 hσ7 hH hS => ?_)
        have hf := gx_let hf σ7 hσ7
        refine lv_iconst (v := (0 : Int32)) hx hb dX4_press_42 (by decide) ?_
        refine lv_istore_n (lv' := [(2, .int (0 : Int32)), (0, .ref (gx_q G 0)), (1, .int a1)]) hx hb dX4_press_43 rfl hl (by decide) rfl (fun ls hl => ?_)
        refine lv_iconst (v := (0 : Int32)) hx hb dX4_press_44 (by decide) ?_
        refine lv_istore_n (lv' := [(3, .int (0 : Int32)), (2, .int (0 : Int32)), (0, .ref (gx_q G 0)), (1, .int a1)]) hx hb dX4_press_45 rfl hl (by decide) rfl (fun ls hl => ?_)
        exact w_X4_press_46 (l := l) G hG C hr hlocks 13 σ7 a1 (0 : Int32) (0 : Int32)  _ hf _ _ ls hH hS (lv_sub hl [2, 3, 1, 0] rfl)
      · have hf := gx_neg hc5 hf
        refine lv_bipush (v := (-3 : Int32)) hx hb dX4_press_29 (by decide) ?_
        cases hf
        exact gx_iretM C hr hlocks hH hS dX4_press_31
  · have hf := gx_pos hc2 hf
    refine lv_iconst (v := (-1 : Int32)) hx hb dX4_press_9 (by decide) ?_
    cases hf
    exact gx_iretM C hr hlocks hH hS dX4_press_10
abbrev rm_X4_comesUp : Room := { frames := 0, cells := 0, slots := 0, locals := 0 }
def fL_X4_comesUp_10 : Nat → gx_St → Int32 → Int32 → Option gx_St
  | 0, _, _, _ => none
  | N + 1, σ, v1, v2 =>
    if (12 : Int32) ≤ v2 then (some σ) else (if ((((12 : Int32) * v1) + v2) < 0 ∨ 48 ≤ (((12 : Int32) * v1) + v2).toNatClampNeg) then none else
    gx_lt (gx_w2 σ (12) (((12 : Int32) * v1) + v2).toNatClampNeg (0 : Int32)) fun σ5 =>
    gx_lt (v2 + (1 : Int32)) fun x6 =>
    fL_X4_comesUp_10 N σ5 v1 x6)
set_option maxHeartbeats 4000000 in
set_option maxRecDepth 100000 in
theorem w_X4_comesUp_10 {p : Program} {l : Launch} {e : Env} {s : State} {m : MethodId} {args : Array Value} {below : List Frame} {meth : Method} {c : Code} (G : gx_G) (hG : gx_D G 13) (C : gx_C p m c cX4_comesUp 3 s args RX4 G) (hr : meth.sig.returnType = none) (hlocks : meth.locks = false) : ∀ (N : Nat) (σ : gx_St) (v1 v2 : Int32)  (z : gx_St), fL_X4_comesUp_10 N σ v1 v2 = some z → ∀ (H : Heap) (locs : List Loc) (ls : Array Slot), gx_H G 13 (gm_mk G) σ H → va_S (gx_A G) s.heap H locs → lv_has ls 3 [(0, .ref (gx_q G 0)), (1, .int v1), (2, .int v2)] → W p l e rm_X4_comesUp s m args below meth c H locs 0 0 (MQ below (gx_QM G 13 (gm_mk G) none z) args s 0 0 (gx_A G)) (F0 m 10 ls []) := by
  have hx := C.1.1
  have hb := C.1.2.1
  intro N
  induction N with
  | zero =>
    intro σ v1 v2  z hf H locs ls hH hS hl
    cases (show (none : Option gx_St) = some z from hf)
  | succ N ih =>
    intro σ v1 v2  z hf H locs ls hH hS hl
    rw [fL_X4_comesUp_10] at hf
    refine lv_iload_n hx hb dX4_comesUp_10 rfl (lv_at hl 2 rfl) ?_
    refine lv_bipush (v := (12 : Int32)) hx hb dX4_comesUp_11 (by decide) ?_
    refine lv_icmp_ge (tgt := 34) hx hb dX4_comesUp_13 (by decide) (fun hc3 => ?_) (fun hc3 => ?_)
    · have hf := gx_pos hc3 hf
      cases hf
      exact gx_vretM C hr hlocks hH hS dX4_comesUp_34
    · have hf := gx_neg hc3 hf
      refine lv_aload_n hx hb dX4_comesUp_16 rfl (lv_at hl 0 rfl) ?_
      refine gx_get C hH 0 (by decide) rfl fl_X4_47 rfl dX4_comesUp_17 ?_
      refine lv_bipush (v := (12 : Int32)) hx hb dX4_comesUp_20 (by decide) ?_
      refine lv_iload_n hx hb dX4_comesUp_22 rfl (lv_at hl 1 rfl) ?_
      refine lv_imul hx hb dX4_comesUp_23 ?_
      refine lv_iload_n hx hb dX4_comesUp_24 rfl (lv_at hl 2 rfl) ?_
      refine lv_iadd hx hb dX4_comesUp_25 ?_
      refine lv_iconst (v := (0 : Int32)) hx hb dX4_comesUp_26 (by decide) ?_
      obtain ⟨hb4, hf⟩ := gx_chk hf
      refine gx_iast C hG hH hS (12) (by decide) (fun _ => rfl) hb4 dX4_comesUp_27 (fun H locs σ5 hσ5 hH hS => ?_)
      have hf := gx_let hf σ5 hσ5
      obtain ⟨x6, hx6⟩ : ∃ z : Int32, z = (v2 + (1 : Int32)) := ⟨_, rfl⟩
      have hf := gx_let hf x6 hx6
      refine lv_iinc (v := x6) (lv' := [(2, .int x6), (0, .ref (gx_q G 0)), (1, .int v1)]) hx hb dX4_comesUp_28 hl (k := 2) rfl (by rw [hx6]; rfl) (by decide) rfl (fun ls hl => ?_)
      refine lv_goto (tgt := 10) hx hb dX4_comesUp_31 (by decide) ?_
      exact ih σ5 v1 x6  _ hf _ _ ls hH hS (lv_sub hl [1, 2, 0] rfl)
def f_X4_comesUp (σ : gx_St) (a1 : Int32) : Option gx_St :=
  if (a1 < 0 ∨ 4 ≤ a1.toNatClampNeg) then none else
  gx_lt (gx_w2 σ (11) a1.toNatClampNeg (-9 : Int32)) fun σ2 =>
  fL_X4_comesUp_10 13 σ2 a1 (0 : Int32)
set_option maxHeartbeats 4000000 in
set_option maxRecDepth 100000 in
theorem t_X4_comesUp (l : Launch) (G : gx_G) (hG : gx_D G 13) (σ : gx_St) (a1 : Int32) (σ' : gx_St)  (hf : f_X4_comesUp σ a1 = some σ') : Met l yX4_comesUp (Cond.code yX4_comesUp cX4_comesUp 3 none :: wT) rm_X4_comesUp (va_Pc [.ref (gx_q G 0), .int a1] (gx_S G 13 (gm_mk G) σ)) (gx_QM G 13 (gm_mk G) none σ') 0 0 (gx_A G) := by
  refine Met.ofW (cc := cX4_comesUp) (maxL := 3) (ret := none) (by decide) rfl ?_
  intro p e s m args below meth c s₁ B hml hv
  obtain ⟨rfl, hH, hE⟩ := hv
  have C := gx_C.of (G := G) B hml hE
  have hx := C.1.1
  have hb := C.1.2.1
  have hr := B.returns
  have hlocks := B.notSynchronized
  have hS : va_S (gx_A G) s.heap s.heap [] := va_S.rf
  have hl := lv_entry ([.ref (gx_q G 0), .int a1]) (n := 3) (Nat.le_of_ble_eq_true rfl)
  rw [lg_entry_eq]
  generalize (lg_sl ([.ref (gx_q G 0), .int a1]) ++ List.replicate (3 - (lg_sl ([.ref (gx_q G 0), .int a1])).length) Slot.unset).toArray = ls at hl ⊢
  have hl : lv_has ls 3 [(0, .ref (gx_q G 0)), (1, .int a1)] := hl
  unfold f_X4_comesUp at hf
  refine lv_aload_n hx hb dX4_comesUp_0 rfl (lv_at hl 0 rfl) ?_
  refine gx_get C hH 0 (by decide) rfl fl_X4_44 rfl dX4_comesUp_1 ?_
  refine lv_iload_n hx hb dX4_comesUp_4 rfl (lv_at hl 1 rfl) ?_
  refine lv_bipush (v := (-9 : Int32)) hx hb dX4_comesUp_5 (by decide) ?_
  obtain ⟨hb1, hf⟩ := gx_chk hf
  refine gx_iast C hG hH hS (11) (by decide) (fun _ => rfl) hb1 dX4_comesUp_7 (fun H locs σ2 hσ2 hH hS => ?_)
  have hf := gx_let hf σ2 hσ2
  refine lv_iconst (v := (0 : Int32)) hx hb dX4_comesUp_8 (by decide) ?_
  refine lv_istore_n (lv' := [(2, .int (0 : Int32)), (0, .ref (gx_q G 0)), (1, .int a1)]) hx hb dX4_comesUp_9 rfl hl (by decide) rfl (fun ls hl => ?_)
  exact w_X4_comesUp_10 (l := l) G hG C hr hlocks 13 σ2 a1 (0 : Int32)  _ hf _ _ ls hH hS (lv_sub hl [1, 2, 0] rfl)
