abbrev rm_X3_howManyPlay : Room := { frames := 1, cells := 0, slots := 0, locals := 23 }
def fL_X3_howManyPlay_4 : Nat → gx_St → Int32 → Int32 → Option Int32
  | 0, _, _, _ => none
  | N + 1, σ, v1, v2 =>
    if (6 : Int32) ≤ v2 then (some v1) else (if (v2 < 0 ∨ 6 ≤ v2.toNatClampNeg) then none else
    gx_lt (σ 2 v2.toNatClampNeg) fun e3 =>
    if e3 = -9 then (gx_lt (v2 + (1 : Int32)) fun x6 =>
    fL_X3_howManyPlay_4 N σ v1 x6) else if 12 ≤ e3.toNatClampNeg then none else ((f_X2_playsAt σ e3 (σ (8 + 3 * e3.toNatClampNeg) 8) (σ 0 7)).bind fun r7 =>
    if r7 = 0 then (gx_lt (v2 + (1 : Int32)) fun x9 =>
    fL_X3_howManyPlay_4 N σ v1 x9) else (gx_lt (v1 + (1 : Int32)) fun x10 =>
    gx_lt (v2 + (1 : Int32)) fun x11 =>
    fL_X3_howManyPlay_4 N σ x10 x11)))
set_option maxHeartbeats 4000000 in
set_option maxRecDepth 100000 in
theorem w_X3_howManyPlay_4 {p : Program} {l : Launch} {e : Env} {s : State} {m : MethodId} {args : Array Value} {below : List Frame} {meth : Method} {c : Code} (G : gx_G) (C : gx_C p m c cX3_howManyPlay 4 s args RX3 G) (hr : meth.sig.returnType = (some .int)) (hlocks : meth.locks = false) (σ : gx_St) (hH : gx_H G 50 (gc_mk G) σ s.heap) : ∀ (N : Nat) (v1 v2 : Int32)  (z : Int32), fL_X3_howManyPlay_4 N σ v1 v2 = some z → ∀ (ls : Array Slot), lv_has ls 4 [(0, .ref (gx_q G 0)), (1, .int v1), (2, .int v2)] → W p l e rm_X3_howManyPlay s m args below meth c s.heap [] 0 0 (MQ below (gx_QR (some (.int z))) args s 0 0 (fun _ => False)) (F0 m 4 ls []) := by
  have hx := C.1.1
  have hb := C.1.2.1
  have hS : va_S (gx_A G) s.heap s.heap [] := va_S.rf
  intro N
  induction N with
  | zero =>
    intro v1 v2  z hf ls hl
    cases (show (none : Option Int32) = some z from hf)
  | succ N ih =>
    intro v1 v2  z hf ls hl
    rw [fL_X3_howManyPlay_4] at hf
    refine lv_iload_n hx hb dX3_howManyPlay_4 rfl (lv_at hl 2 rfl) ?_
    refine lv_bipush (v := (6 : Int32)) hx hb dX3_howManyPlay_5 (by decide) ?_
    refine lv_icmp_ge (tgt := 45) hx hb dX3_howManyPlay_7 (by decide) (fun hc1 => ?_) (fun hc1 => ?_)
    · have hf := gx_pos hc1 hf
      refine lv_iload_n hx hb dX3_howManyPlay_45 rfl (lv_at hl 1 rfl) ?_
      obtain rfl := Option.some.inj hf
      exact gx_iretR C hr hlocks dX3_howManyPlay_46
    · have hf := gx_neg hc1 hf
      refine lv_aload_n hx hb dX3_howManyPlay_10 rfl (lv_at hl 0 rfl) ?_
      refine gx_get C hH 0 (by decide) rfl fl_X3_19 rfl dX3_howManyPlay_11 ?_
      refine lv_iload_n hx hb dX3_howManyPlay_14 rfl (lv_at hl 2 rfl) ?_
      obtain ⟨hb2, hf⟩ := gx_chk hf
      obtain ⟨e3, he3⟩ : ∃ z : Int32, z = (σ 2 v2.toNatClampNeg) := ⟨_, rfl⟩
      have hf := gx_let hf e3 he3
      by_cases hn4 : e3 = -9
      · have hf := gx_pos hn4 hf
        refine gx_aaldN C hH 2 (by decide) 2 rfl rfl hb2 (gx_rf_n (he3.symm.trans hn4)) dX3_howManyPlay_15 ?_
        refine lv_astore_nN (lv' := [(3, .null), (0, .ref (gx_q G 0)), (1, .int v1), (2, .int v2)]) hx hb dX3_howManyPlay_16 rfl hl (by decide) rfl (fun ls hl => ?_)
        refine lv_aload_nN hx hb dX3_howManyPlay_17 rfl (lv_at hl 0 rfl) ?_
        refine lv_ifnullN (tgt := 39) hx hb dX3_howManyPlay_18 (by decide) ?_
        obtain ⟨x6, hx6⟩ : ∃ z : Int32, z = (v2 + (1 : Int32)) := ⟨_, rfl⟩
        have hf := gx_let hf x6 hx6
        refine lv_iinc (v := x6) (lv' := [(2, .int x6), (3, .null), (0, .ref (gx_q G 0)), (1, .int v1)]) hx hb dX3_howManyPlay_39 hl (k := 3) rfl (by rw [hx6]; rfl) (by decide) rfl (fun ls hl => ?_)
        refine lv_goto (tgt := 4) hx hb dX3_howManyPlay_42 (by decide) ?_
        exact ih v1 x6  _ hf ls (lv_sub hl [2, 3, 0] rfl)
      · have hf := gx_neg hn4 hf
        obtain ⟨hl5, hf⟩ := gx_chk hf
        have hl5 := Nat.not_le.mp hl5
        refine gx_aaldR C hH 2 (by decide) 2 rfl rfl hb2 (gx_rfe he3 hn4) dX3_howManyPlay_15 ?_
        refine lv_astore_n (lv' := [(3, .ref (gx_q G (8 + 3 * e3.toNatClampNeg))), (0, .ref (gx_q G 0)), (1, .int v1), (2, .int v2)]) hx hb dX3_howManyPlay_16 rfl hl (by decide) rfl (fun ls hl => ?_)
        refine lv_aload_n hx hb dX3_howManyPlay_17 rfl (lv_at hl 0 rfl) ?_
        refine lv_ifnull hx hb dX3_howManyPlay_18 ?_
        refine lv_aload_n hx hb dX3_howManyPlay_21 rfl (lv_at hl 0 rfl) ?_
        refine lv_aload_n hx hb dX3_howManyPlay_22 rfl (lv_at hl 0 rfl) ?_
        refine gx_get C hH (8 + 3 * e3.toNatClampNeg) (gc_ke hl5) (gc_e _ hl5) fl_X3_138 rfl dX3_howManyPlay_23 ?_
        refine lv_aload_n hx hb dX3_howManyPlay_26 rfl (lv_at hl 1 rfl) ?_
        refine gx_get C hH 0 (by decide) rfl fl_X3_40 rfl dX3_howManyPlay_27 ?_
        obtain ⟨r7, hr7, hf⟩ := gx_bnd hf
        refine gx_vR (v := (some (.int r7))) (rest := []) C hH hS (8 + 3 * e3.toNatClampNeg) (gc_ke hl5) (gc_e _ hl5) rfl [.int (σ (8 + 3 * e3.toNatClampNeg) 8), .int (σ 0 7)] (t_X2_playsAt l G σ e3 (σ (8 + 3 * e3.toNatClampNeg) 8) (σ 0 7) r7 hl5 hr7) lk_X3_141 ⟨rfl, rfl, Nat.le_of_ble_eq_true rfl, Nat.le_of_ble_eq_true rfl⟩ ⟨Nat.zero_le _, Nat.zero_le _⟩ hl.1 rfl (Nat.le_of_ble_eq_true rfl) dX3_howManyPlay_30 ?_
        refine gx_e0 (st := [.int r7]) ?_ rfl
        refine lv_if_eq (tgt := 39) hx hb dX3_howManyPlay_33 (by decide) (fun hc8 => ?_) (fun hc8 => ?_)
        · have hf := gx_pos hc8 hf
          obtain ⟨x9, hx9⟩ : ∃ z : Int32, z = (v2 + (1 : Int32)) := ⟨_, rfl⟩
          have hf := gx_let hf x9 hx9
          refine lv_iinc (v := x9) (lv' := [(2, .int x9), (3, .ref (gx_q G (8 + 3 * e3.toNatClampNeg))), (0, .ref (gx_q G 0)), (1, .int v1)]) hx hb dX3_howManyPlay_39 hl (k := 3) rfl (by rw [hx9]; rfl) (by decide) rfl (fun ls hl => ?_)
          refine lv_goto (tgt := 4) hx hb dX3_howManyPlay_42 (by decide) ?_
          exact ih v1 x9  _ hf ls (lv_sub hl [2, 3, 0] rfl)
        · have hf := gx_neg hc8 hf
          obtain ⟨x10, hx10⟩ : ∃ z : Int32, z = (v1 + (1 : Int32)) := ⟨_, rfl⟩
          have hf := gx_let hf x10 hx10
          refine lv_iinc (v := x10) (lv' := [(1, .int x10), (3, .ref (gx_q G (8 + 3 * e3.toNatClampNeg))), (0, .ref (gx_q G 0)), (2, .int v2)]) hx hb dX3_howManyPlay_36 hl (k := 2) rfl (by rw [hx10]; rfl) (by decide) rfl (fun ls hl => ?_)
          obtain ⟨x11, hx11⟩ : ∃ z : Int32, z = (v2 + (1 : Int32)) := ⟨_, rfl⟩
          have hf := gx_let hf x11 hx11
          refine lv_iinc (v := x11) (lv' := [(2, .int x11), (1, .int x10), (3, .ref (gx_q G (8 + 3 * e3.toNatClampNeg))), (0, .ref (gx_q G 0))]) hx hb dX3_howManyPlay_39 hl (k := 3) rfl (by rw [hx11]; rfl) (by decide) rfl (fun ls hl => ?_)
          refine lv_goto (tgt := 4) hx hb dX3_howManyPlay_42 (by decide) ?_
          exact ih x10 x11  _ hf ls (lv_sub hl [3, 1, 0] rfl)
def f_X3_howManyPlay (σ : gx_St) : Option Int32 :=
  fL_X3_howManyPlay_4 7 σ (0 : Int32) (0 : Int32)
set_option maxHeartbeats 4000000 in
set_option maxRecDepth 100000 in
theorem t_X3_howManyPlay (l : Launch) (G : gx_G) (σ : gx_St) (r : Int32)  (hf : f_X3_howManyPlay σ = some r) : Met l yX3_howManyPlay (Cond.code yX3_howManyPlay cX3_howManyPlay 4 (some .int) :: wT) rm_X3_howManyPlay (va_Pc [.ref (gx_q G 0)] (gx_S G 50 (gc_mk G) σ)) (gx_QR (some (.int r))) 0 0 (fun _ => False) := by
  refine Met.ofW (cc := cX3_howManyPlay) (maxL := 4) (ret := (some .int)) (by decide) rfl ?_
  intro p e s m args below meth c s₁ B hml hv
  obtain ⟨rfl, hH, hE⟩ := hv
  have C := gx_C.of (G := G) B hml hE
  have hx := C.1.1
  have hb := C.1.2.1
  have hr := B.returns
  have hlocks := B.notSynchronized
  have hS : va_S (gx_A G) s.heap s.heap [] := va_S.rf
  have hl := lv_entry ([.ref (gx_q G 0)]) (n := 4) (Nat.le_of_ble_eq_true rfl)
  rw [lg_entry_eq]
  generalize (lg_sl ([.ref (gx_q G 0)]) ++ List.replicate (4 - (lg_sl ([.ref (gx_q G 0)])).length) Slot.unset).toArray = ls at hl ⊢
  have hl : lv_has ls 4 [(0, .ref (gx_q G 0))] := hl
  unfold f_X3_howManyPlay at hf
  refine lv_iconst (v := (0 : Int32)) hx hb dX3_howManyPlay_0 (by decide) ?_
  refine lv_istore_n (lv' := [(1, .int (0 : Int32)), (0, .ref (gx_q G 0))]) hx hb dX3_howManyPlay_1 rfl hl (by decide) rfl (fun ls hl => ?_)
  refine lv_iconst (v := (0 : Int32)) hx hb dX3_howManyPlay_2 (by decide) ?_
  refine lv_istore_n (lv' := [(2, .int (0 : Int32)), (1, .int (0 : Int32)), (0, .ref (gx_q G 0))]) hx hb dX3_howManyPlay_3 rfl hl (by decide) rfl (fun ls hl => ?_)
  exact w_X3_howManyPlay_4 (l := l) G C hr hlocks σ hH 7 (0 : Int32) (0 : Int32)  _ hf ls (lv_sub hl [2, 1, 0] rfl)
abbrev rm_X3_pass : Room := { frames := 3, cells := 0, slots := 0, locals := 70 }
def f_X3_pass (σ : gx_St) (a1 : Int32) : Option (Int32 × gx_St) :=
  (f_X3_isWithin a1 (1 : Int32) (100000 : Int32)).bind fun r1 =>
  if r1 = 0 then (some ((-2 : Int32), σ)) else (gx_lt ((σ 0 7) + a1) fun x3 =>
  if x3 ≤ (10000000 : Int32) then ((f_X3_lossAt σ ).bind fun r5 =>
  gx_lt (if (r5 - (1 : Int32)) < x3 then (r5 - (1 : Int32)) else x3) fun x6 =>
  (f_X3_beginAgainUpTo σ x6).bind fun σ7 =>
  gx_lt (gx_w2 σ7 0 7 x3) fun σ9 =>
  if x3 < r5 then ((f_X3_howManyPlay σ9 ).bind fun r11 =>
  some (r11, σ9)) else ((f_X3_loseHostAt σ9 r5).bind fun σ12 =>
  (f_X3_howManyPlay σ12 ).bind fun r14 =>
  some (r14, σ12))) else (some ((-3 : Int32), σ)))
set_option maxHeartbeats 4000000 in
set_option maxRecDepth 100000 in
theorem t_X3_pass (l : Launch) (G : gx_G) (hG : gx_D G 50) (σ : gx_St) (a1 : Int32) (r : Int32) (σ' : gx_St)  (hf : f_X3_pass σ a1 = some (r, σ')) : Met l yX3_pass (Cond.code yX3_pass cX3_pass 4 (some .int) :: wT) rm_X3_pass (va_Pc [.ref (gx_q G 0), .int a1] (gx_S G 50 (gc_mk G) σ)) (gx_QM G 50 (gc_mk G) (some (.int r)) σ') 0 0 (gx_A G) := by
  refine Met.ofW (cc := cX3_pass) (maxL := 4) (ret := (some .int)) (by decide) rfl ?_
  intro p e s m args below meth c s₁ B hml hv
  obtain ⟨rfl, hH, hE⟩ := hv
  have C := gx_C.of (G := G) B hml hE
  have hx := C.1.1
  have hb := C.1.2.1
  have hr := B.returns
  have hlocks := B.notSynchronized
  have hS : va_S (gx_A G) s.heap s.heap [] := va_S.rf
  have hl := lv_entry ([.ref (gx_q G 0), .int a1]) (n := 4) (Nat.le_of_ble_eq_true rfl)
  rw [lg_entry_eq]
  generalize (lg_sl ([.ref (gx_q G 0), .int a1]) ++ List.replicate (4 - (lg_sl ([.ref (gx_q G 0), .int a1])).length) Slot.unset).toArray = ls at hl ⊢
  have hl : lv_has ls 4 [(0, .ref (gx_q G 0)), (1, .int a1)] := hl
  unfold f_X3_pass at hf
  refine lv_iload_n hx hb dX3_pass_0 rfl (lv_at hl 1 rfl) ?_
  refine lv_iconst (v := (1 : Int32)) hx hb dX3_pass_1 (by decide) ?_
  refine lv_ldc hx hb C.1.2.2.2.1 (C.1.2.2.2.2 _ kw_286) dX3_pass_2 ?_
  obtain ⟨r1, hr1, hf⟩ := gx_bnd hf
  refine gx_sR (v := (some (.int r1))) (rest := []) C hH hS [.int a1, .int (1 : Int32), .int (100000 : Int32)] (t_X3_isWithin l G σ a1 (1 : Int32) (100000 : Int32) r1  hr1) lk_X3_102 ⟨rfl, rfl, Nat.le_of_ble_eq_true rfl, Nat.le_of_ble_eq_true rfl⟩ ⟨Nat.zero_le _, Nat.zero_le _⟩ hl.1 rfl (Nat.le_of_ble_eq_true rfl) dX3_pass_4 ?_
  refine gx_e0 (st := [.int r1]) ?_ rfl
  refine lv_if_ne (tgt := 13) hx hb dX3_pass_7 (by decide) (fun hc2 => ?_) (fun hc2 => ?_)
  · have hf := gx_neg hc2 hf
    refine lv_aload_n hx hb dX3_pass_13 rfl (lv_at hl 0 rfl) ?_
    refine gx_get C hH 0 (by decide) rfl fl_X3_40 rfl dX3_pass_14 ?_
    refine lv_iload_n hx hb dX3_pass_17 rfl (lv_at hl 1 rfl) ?_
    refine lv_iadd hx hb dX3_pass_18 ?_
    refine lv_topi (fun x3 hx3 => ?_)
    have hf := gx_let hf x3 hx3
    refine lv_istore_n (lv' := [(2, .int x3), (0, .ref (gx_q G 0)), (1, .int a1)]) hx hb dX3_pass_19 rfl hl (by decide) rfl (fun ls hl => ?_)
    refine lv_iload_n hx hb dX3_pass_20 rfl (lv_at hl 0 rfl) ?_
    refine lv_ldc hx hb C.1.2.2.2.1 (C.1.2.2.2.2 _ kw_217) dX3_pass_21 ?_
    refine lv_icmp_le (tgt := 29) hx hb dX3_pass_23 (by decide) (fun hc4 => ?_) (fun hc4 => ?_)
    · have hf := gx_pos hc4 hf
      refine lv_aload_n hx hb dX3_pass_29 rfl (lv_at hl 1 rfl) ?_
      obtain ⟨r5, hr5, hf⟩ := gx_bnd hf
      refine gx_vR (v := (some (.int r5))) (rest := []) C hH hS 0 (by decide) rfl rfl [] (t_X3_lossAt l G σ  r5  hr5) lk_X3_170 ⟨rfl, rfl, Nat.le_of_ble_eq_true rfl, Nat.le_of_ble_eq_true rfl⟩ ⟨Nat.zero_le _, Nat.zero_le _⟩ hl.1 rfl (Nat.le_of_ble_eq_true rfl) dX3_pass_30 ?_
      refine gx_e0 (st := [.int r5]) ?_ rfl
      refine lv_istore_n (lv' := [(3, .int r5), (2, .int x3), (0, .ref (gx_q G 0)), (1, .int a1)]) hx hb dX3_pass_33 rfl hl (by decide) rfl (fun ls hl => ?_)
      refine lv_aload_n hx hb dX3_pass_34 rfl (lv_at hl 2 rfl) ?_
      refine lv_iload_n hx hb dX3_pass_35 rfl (lv_at hl 1 rfl) ?_
      refine lv_iload_n hx hb dX3_pass_36 rfl (lv_at hl 0 rfl) ?_
      refine lv_iconst (v := (1 : Int32)) hx hb dX3_pass_37 (by decide) ?_
      refine lv_isub hx hb dX3_pass_38 ?_
      refine va_mmin hx hb (C.1.2.2.1.trans hl.1.symm) C.1.2.2.2.1 (C.1.2.2.2.2 _ kw_292) (C.1.2.2.2.2 _ kw_293) (C.1.2.2.2.2 _ kw_6) (C.1.2.2.2.2 _ kw_294) (Nat.le_of_ble_eq_true rfl) (Nat.le_of_ble_eq_true rfl) (Nat.zero_le _) (Nat.zero_le _) dX3_pass_39 ?_
      refine lv_topi (fun x6 hx6 => ?_)
      have hf := gx_let hf x6 hx6
      obtain ⟨σ7, hr8, hf⟩ := gx_bnd hf
      refine gx_vM (v := none) (rest := []) C hH hS 0 (by decide) rfl rfl [.int x6] (t_X3_beginAgainUpTo l G hG σ x6 σ7  hr8) lk_X3_180 ⟨rfl, rfl, Nat.le_of_ble_eq_true rfl, Nat.le_of_ble_eq_true rfl⟩ ⟨Nat.zero_le _, Nat.zero_le _⟩ hl.1 rfl (Nat.le_of_ble_eq_true rfl) dX3_pass_42 (fun H locs hH hS => ?_)
      refine gx_e0 (st := []) ?_ rfl
      refine lv_aload_n hx hb dX3_pass_45 rfl (lv_at hl 2 rfl) ?_
      refine lv_iload_n hx hb dX3_pass_46 rfl (lv_at hl 1 rfl) ?_
      refine gx_put C hG hH hS 0 (by decide) rfl fl_X3_40 fw_X3_7 (pw_X3_7 _ _) rfl rfl (Nat.le_of_ble_eq_true rfl) dX3_pass_47 (fun H locs σ9 hσ9 hH hS => ?_)
      have hf := gx_let hf σ9 hσ9
      refine lv_iload_n hx hb dX3_pass_50 rfl (lv_at hl 0 rfl) ?_
      refine lv_iload_n hx hb dX3_pass_51 rfl (lv_at hl 1 rfl) ?_
      refine lv_icmp_gt (tgt := 60) hx hb dX3_pass_52 (by decide) (fun hc10 => ?_) (fun hc10 => ?_)
      · have hf := gx_pos hc10 hf
        refine lv_aload_n hx hb dX3_pass_60 rfl (lv_at hl 2 rfl) ?_
        obtain ⟨r11, hr11, hf⟩ := gx_bnd hf
        refine gx_vR (v := (some (.int r11))) (rest := []) C hH hS 0 (by decide) rfl rfl [] (t_X3_howManyPlay l G σ9  r11  hr11) lk_X3_186 ⟨rfl, rfl, Nat.le_of_ble_eq_true rfl, Nat.le_of_ble_eq_true rfl⟩ ⟨Nat.zero_le _, Nat.zero_le _⟩ hl.1 rfl (Nat.le_of_ble_eq_true rfl) dX3_pass_61 ?_
        refine gx_e0 (st := [.int r11]) ?_ rfl
        cases hf
        exact gx_iretM C hr hlocks hH hS dX3_pass_64
      · have hf := gx_neg hc10 hf
        refine lv_aload_n hx hb dX3_pass_55 rfl (lv_at hl 2 rfl) ?_
        refine lv_iload_n hx hb dX3_pass_56 rfl (lv_at hl 0 rfl) ?_
        obtain ⟨σ12, hr13, hf⟩ := gx_bnd hf
        refine gx_vM (v := none) (rest := []) C hH hS 0 (by decide) rfl rfl [.int r5] (t_X3_loseHostAt l G hG σ9 r5 σ12  hr13) lk_X3_183 ⟨rfl, rfl, Nat.le_of_ble_eq_true rfl, Nat.le_of_ble_eq_true rfl⟩ ⟨Nat.zero_le _, Nat.zero_le _⟩ hl.1 rfl (Nat.le_of_ble_eq_true rfl) dX3_pass_57 (fun H locs hH hS => ?_)
        refine gx_e0 (st := []) ?_ rfl
        refine lv_aload_n hx hb dX3_pass_60 rfl (lv_at hl 2 rfl) ?_
        obtain ⟨r14, hr14, hf⟩ := gx_bnd hf
        refine gx_vR (v := (some (.int r14))) (rest := []) C hH hS 0 (by decide) rfl rfl [] (t_X3_howManyPlay l G σ12  r14  hr14) lk_X3_186 ⟨rfl, rfl, Nat.le_of_ble_eq_true rfl, Nat.le_of_ble_eq_true rfl⟩ ⟨Nat.zero_le _, Nat.zero_le _⟩ hl.1 rfl (Nat.le_of_ble_eq_true rfl) dX3_pass_61 ?_
        refine gx_e0 (st := [.int r14]) ?_ rfl
        cases hf
        exact gx_iretM C hr hlocks hH hS dX3_pass_64
    · have hf := gx_neg hc4 hf
      refine lv_bipush (v := (-3 : Int32)) hx hb dX3_pass_26 (by decide) ?_
      cases hf
      exact gx_iretM C hr hlocks hH hS dX3_pass_28
  · have hf := gx_pos hc2 hf
    refine lv_bipush (v := (-2 : Int32)) hx hb dX3_pass_10 (by decide) ?_
    cases hf
    exact gx_iretM C hr hlocks hH hS dX3_pass_12
abbrev rm_X3_hello : Room := { frames := 0, cells := 0, slots := 0, locals := 0 }
def f_X3_hello (σ : gx_St) : Option (Int32 × gx_St) :=
  if (σ 0 10) = 0 then (gx_lt (gx_w2 σ 0 10 (0 : Int32)) fun σ2 =>
  gx_lt (gx_w2 σ2 0 9 (σ2 0 7)) fun σ3 =>
  some ((0 : Int32), σ3)) else (gx_lt (gx_w2 σ 0 10 (0 : Int32)) fun σ4 =>
  gx_lt (gx_w2 σ4 0 9 (σ4 0 7)) fun σ5 =>
  some ((1 : Int32), σ5))
set_option maxHeartbeats 4000000 in
set_option maxRecDepth 100000 in
theorem t_X3_hello (l : Launch) (G : gx_G) (hG : gx_D G 50) (σ : gx_St) (r : Int32) (σ' : gx_St)  (hf : f_X3_hello σ = some (r, σ')) : Met l yX3_hello (Cond.code yX3_hello cX3_hello 2 (some .int) :: wT) rm_X3_hello (va_Pc [.ref (gx_q G 0)] (gx_S G 50 (gc_mk G) σ)) (gx_QM G 50 (gc_mk G) (some (.int r)) σ') 0 0 (gx_A G) := by
  refine Met.ofW (cc := cX3_hello) (maxL := 2) (ret := (some .int)) (by decide) rfl ?_
  intro p e s m args below meth c s₁ B hml hv
  obtain ⟨rfl, hH, hE⟩ := hv
  have C := gx_C.of (G := G) B hml hE
  have hx := C.1.1
  have hb := C.1.2.1
  have hr := B.returns
  have hlocks := B.notSynchronized
  have hS : va_S (gx_A G) s.heap s.heap [] := va_S.rf
  have hl := lv_entry ([.ref (gx_q G 0)]) (n := 2) (Nat.le_of_ble_eq_true rfl)
  rw [lg_entry_eq]
  generalize (lg_sl ([.ref (gx_q G 0)]) ++ List.replicate (2 - (lg_sl ([.ref (gx_q G 0)])).length) Slot.unset).toArray = ls at hl ⊢
  have hl : lv_has ls 2 [(0, .ref (gx_q G 0))] := hl
  unfold f_X3_hello at hf
  refine lv_aload_n hx hb dX3_hello_0 rfl (lv_at hl 0 rfl) ?_
  refine gx_get C hH 0 (by decide) rfl fl_X3_49 rfl dX3_hello_1 ?_
  refine lv_if_eq (tgt := 11) hx hb dX3_hello_4 (by decide) (fun hc1 => ?_) (fun hc1 => ?_)
  · have hf := gx_pos hc1 hf
    refine lv_iconst (v := (0 : Int32)) hx hb dX3_hello_11 (by decide) ?_
    refine lv_istore_n (lv' := [(1, .int (0 : Int32)), (0, .ref (gx_q G 0))]) hx hb dX3_hello_12 rfl hl (by decide) rfl (fun ls hl => ?_)
    refine lv_aload_n hx hb dX3_hello_13 rfl (lv_at hl 1 rfl) ?_
    refine lv_iconst (v := (0 : Int32)) hx hb dX3_hello_14 (by decide) ?_
    refine gx_put C hG hH hS 0 (by decide) rfl fl_X3_49 fw_X3_10 (pw_X3_10 _ _) rfl rfl (Nat.le_of_ble_eq_true rfl) dX3_hello_15 (fun H locs σ2 hσ2 hH hS => ?_)
    have hf := gx_let hf σ2 hσ2
    refine lv_aload_n hx hb dX3_hello_18 rfl (lv_at hl 1 rfl) ?_
    refine lv_aload_n hx hb dX3_hello_19 rfl (lv_at hl 1 rfl) ?_
    refine gx_get C hH 0 (by decide) rfl fl_X3_40 rfl dX3_hello_20 ?_
    refine gx_put C hG hH hS 0 (by decide) rfl fl_X3_46 fw_X3_9 (pw_X3_9 _ _) rfl rfl (Nat.le_of_ble_eq_true rfl) dX3_hello_23 (fun H locs σ3 hσ3 hH hS => ?_)
    have hf := gx_let hf σ3 hσ3
    refine lv_iload_n hx hb dX3_hello_26 rfl (lv_at hl 0 rfl) ?_
    cases hf
    exact gx_iretM C hr hlocks hH hS dX3_hello_27
  · have hf := gx_neg hc1 hf
    refine lv_iconst (v := (1 : Int32)) hx hb dX3_hello_7 (by decide) ?_
    refine lv_goto (tgt := 12) hx hb dX3_hello_8 (by decide) ?_
    refine lv_istore_n (lv' := [(1, .int (1 : Int32)), (0, .ref (gx_q G 0))]) hx hb dX3_hello_12 rfl hl (by decide) rfl (fun ls hl => ?_)
    refine lv_aload_n hx hb dX3_hello_13 rfl (lv_at hl 1 rfl) ?_
    refine lv_iconst (v := (0 : Int32)) hx hb dX3_hello_14 (by decide) ?_
    refine gx_put C hG hH hS 0 (by decide) rfl fl_X3_49 fw_X3_10 (pw_X3_10 _ _) rfl rfl (Nat.le_of_ble_eq_true rfl) dX3_hello_15 (fun H locs σ4 hσ4 hH hS => ?_)
    have hf := gx_let hf σ4 hσ4
    refine lv_aload_n hx hb dX3_hello_18 rfl (lv_at hl 1 rfl) ?_
    refine lv_aload_n hx hb dX3_hello_19 rfl (lv_at hl 1 rfl) ?_
    refine gx_get C hH 0 (by decide) rfl fl_X3_40 rfl dX3_hello_20 ?_
    refine gx_put C hG hH hS 0 (by decide) rfl fl_X3_46 fw_X3_9 (pw_X3_9 _ _) rfl rfl (Nat.le_of_ble_eq_true rfl) dX3_hello_23 (fun H locs σ5 hσ5 hH hS => ?_)
    have hf := gx_let hf σ5 hσ5
    refine lv_iload_n hx hb dX3_hello_26 rfl (lv_at hl 0 rfl) ?_
    cases hf
    exact gx_iretM C hr hlocks hH hS dX3_hello_27
abbrev rm_X3_watch : Room := { frames := 1, cells := 0, slots := 0, locals := 22 }
def f_X3_watch (σ : gx_St) (a1 : Int32) : Option (Int32 × gx_St) :=
  (f_X3_isWithin a1 (0 : Int32) (10000 : Int32)).bind fun r1 =>
  if r1 = 0 then (some ((-2 : Int32), σ)) else (gx_lt (σ 0 8) fun x3 =>
  gx_lt (gx_w2 σ 0 8 a1) fun σ4 =>
  gx_lt (gx_w2 σ4 0 9 (σ4 0 7)) fun σ5 =>
  some (x3, σ5))
set_option maxHeartbeats 4000000 in
set_option maxRecDepth 100000 in
theorem t_X3_watch (l : Launch) (G : gx_G) (hG : gx_D G 50) (σ : gx_St) (a1 : Int32) (r : Int32) (σ' : gx_St)  (hf : f_X3_watch σ a1 = some (r, σ')) : Met l yX3_watch (Cond.code yX3_watch cX3_watch 3 (some .int) :: wT) rm_X3_watch (va_Pc [.ref (gx_q G 0), .int a1] (gx_S G 50 (gc_mk G) σ)) (gx_QM G 50 (gc_mk G) (some (.int r)) σ') 0 0 (gx_A G) := by
  refine Met.ofW (cc := cX3_watch) (maxL := 3) (ret := (some .int)) (by decide) rfl ?_
  intro p e s m args below meth c s₁ B hml hv
  obtain ⟨rfl, hH, hE⟩ := hv
  have C := gx_C.of (G := G) B hml hE
  have hx := C.1.1
  have hb := C.1.2.1
  have hr := B.returns
  have hlocks := B.notSynchronized
  have hS : va_S (gx_A G) s.heap s.heap [] := va_S.rf
  have hl := lv_entry ([.ref (gx_q G 0), .int a1]) (n := 3) (Nat.le_of_ble_eq_true rfl)
  rw [lg_entry_eq]
  generalize (lg_sl ([.ref (gx_q G 0), .int a1]) ++ List.replicate (3 - (lg_sl ([.ref (gx_q G 0), .int a1])).length) Slot.unset).toArray = ls at hl ⊢
  have hl : lv_has ls 3 [(0, .ref (gx_q G 0)), (1, .int a1)] := hl
  unfold f_X3_watch at hf
  refine lv_iload_n hx hb dX3_watch_0 rfl (lv_at hl 1 rfl) ?_
  refine lv_iconst (v := (0 : Int32)) hx hb dX3_watch_1 (by decide) ?_
  refine lv_sipush (v := (10000 : Int32)) hx hb dX3_watch_2 (by decide) ?_
  obtain ⟨r1, hr1, hf⟩ := gx_bnd hf
  refine gx_sR (v := (some (.int r1))) (rest := []) C hH hS [.int a1, .int (0 : Int32), .int (10000 : Int32)] (t_X3_isWithin l G σ a1 (0 : Int32) (10000 : Int32) r1  hr1) lk_X3_102 ⟨rfl, rfl, Nat.le_of_ble_eq_true rfl, Nat.le_of_ble_eq_true rfl⟩ ⟨Nat.zero_le _, Nat.zero_le _⟩ hl.1 rfl (Nat.le_of_ble_eq_true rfl) dX3_watch_5 ?_
  refine gx_e0 (st := [.int r1]) ?_ rfl
  refine lv_if_ne (tgt := 14) hx hb dX3_watch_8 (by decide) (fun hc2 => ?_) (fun hc2 => ?_)
  · have hf := gx_neg hc2 hf
    refine lv_aload_n hx hb dX3_watch_14 rfl (lv_at hl 0 rfl) ?_
    refine gx_get C hH 0 (by decide) rfl fl_X3_43 rfl dX3_watch_15 ?_
    refine lv_topi (fun x3 hx3 => ?_)
    have hf := gx_let hf x3 hx3
    refine lv_istore_n (lv' := [(2, .int x3), (0, .ref (gx_q G 0)), (1, .int a1)]) hx hb dX3_watch_18 rfl hl (by decide) rfl (fun ls hl => ?_)
    refine lv_aload_n hx hb dX3_watch_19 rfl (lv_at hl 1 rfl) ?_
    refine lv_iload_n hx hb dX3_watch_20 rfl (lv_at hl 2 rfl) ?_
    refine gx_put C hG hH hS 0 (by decide) rfl fl_X3_43 fw_X3_8 (pw_X3_8 _ _) rfl rfl (Nat.le_of_ble_eq_true rfl) dX3_watch_21 (fun H locs σ4 hσ4 hH hS => ?_)
    have hf := gx_let hf σ4 hσ4
    refine lv_aload_n hx hb dX3_watch_24 rfl (lv_at hl 1 rfl) ?_
    refine lv_aload_n hx hb dX3_watch_25 rfl (lv_at hl 1 rfl) ?_
    refine gx_get C hH 0 (by decide) rfl fl_X3_40 rfl dX3_watch_26 ?_
    refine gx_put C hG hH hS 0 (by decide) rfl fl_X3_46 fw_X3_9 (pw_X3_9 _ _) rfl rfl (Nat.le_of_ble_eq_true rfl) dX3_watch_29 (fun H locs σ5 hσ5 hH hS => ?_)
    have hf := gx_let hf σ5 hσ5
    refine lv_iload_n hx hb dX3_watch_32 rfl (lv_at hl 0 rfl) ?_
    cases hf
    exact gx_iretM C hr hlocks hH hS dX3_watch_33
  · have hf := gx_pos hc2 hf
    refine lv_bipush (v := (-2 : Int32)) hx hb dX3_watch_11 (by decide) ?_
    cases hf
    exact gx_iretM C hr hlocks hH hS dX3_watch_13
abbrev rm_X3_master : Room := { frames := 1, cells := 0, slots := 0, locals := 22 }
def f_X3_master (σ : gx_St) (a1 : Int32) : Option (Int32 × gx_St) :=
  (f_X3_isWithin a1 (0 : Int32) (100 : Int32)).bind fun r1 =>
  if r1 = 0 then (some ((-2 : Int32), σ)) else (gx_lt (σ 0 11) fun x3 =>
  gx_lt (gx_w2 σ 0 11 a1) fun σ4 =>
  some (x3, σ4))
set_option maxHeartbeats 4000000 in
set_option maxRecDepth 100000 in
theorem t_X3_master (l : Launch) (G : gx_G) (hG : gx_D G 50) (σ : gx_St) (a1 : Int32) (r : Int32) (σ' : gx_St)  (hf : f_X3_master σ a1 = some (r, σ')) : Met l yX3_master (Cond.code yX3_master cX3_master 3 (some .int) :: wT) rm_X3_master (va_Pc [.ref (gx_q G 0), .int a1] (gx_S G 50 (gc_mk G) σ)) (gx_QM G 50 (gc_mk G) (some (.int r)) σ') 0 0 (gx_A G) := by
  refine Met.ofW (cc := cX3_master) (maxL := 3) (ret := (some .int)) (by decide) rfl ?_
  intro p e s m args below meth c s₁ B hml hv
  obtain ⟨rfl, hH, hE⟩ := hv
  have C := gx_C.of (G := G) B hml hE
  have hx := C.1.1
  have hb := C.1.2.1
  have hr := B.returns
  have hlocks := B.notSynchronized
  have hS : va_S (gx_A G) s.heap s.heap [] := va_S.rf
  have hl := lv_entry ([.ref (gx_q G 0), .int a1]) (n := 3) (Nat.le_of_ble_eq_true rfl)
  rw [lg_entry_eq]
  generalize (lg_sl ([.ref (gx_q G 0), .int a1]) ++ List.replicate (3 - (lg_sl ([.ref (gx_q G 0), .int a1])).length) Slot.unset).toArray = ls at hl ⊢
  have hl : lv_has ls 3 [(0, .ref (gx_q G 0)), (1, .int a1)] := hl
  unfold f_X3_master at hf
  refine lv_iload_n hx hb dX3_master_0 rfl (lv_at hl 1 rfl) ?_
  refine lv_iconst (v := (0 : Int32)) hx hb dX3_master_1 (by decide) ?_
  refine lv_bipush (v := (100 : Int32)) hx hb dX3_master_2 (by decide) ?_
  obtain ⟨r1, hr1, hf⟩ := gx_bnd hf
  refine gx_sR (v := (some (.int r1))) (rest := []) C hH hS [.int a1, .int (0 : Int32), .int (100 : Int32)] (t_X3_isWithin l G σ a1 (0 : Int32) (100 : Int32) r1  hr1) lk_X3_102 ⟨rfl, rfl, Nat.le_of_ble_eq_true rfl, Nat.le_of_ble_eq_true rfl⟩ ⟨Nat.zero_le _, Nat.zero_le _⟩ hl.1 rfl (Nat.le_of_ble_eq_true rfl) dX3_master_4 ?_
  refine gx_e0 (st := [.int r1]) ?_ rfl
  refine lv_if_ne (tgt := 13) hx hb dX3_master_7 (by decide) (fun hc2 => ?_) (fun hc2 => ?_)
  · have hf := gx_neg hc2 hf
    refine lv_aload_n hx hb dX3_master_13 rfl (lv_at hl 0 rfl) ?_
    refine gx_get C hH 0 (by decide) rfl fl_X3_53 rfl dX3_master_14 ?_
    refine lv_topi (fun x3 hx3 => ?_)
    have hf := gx_let hf x3 hx3
    refine lv_istore_n (lv' := [(2, .int x3), (0, .ref (gx_q G 0)), (1, .int a1)]) hx hb dX3_master_17 rfl hl (by decide) rfl (fun ls hl => ?_)
    refine lv_aload_n hx hb dX3_master_18 rfl (lv_at hl 1 rfl) ?_
    refine lv_iload_n hx hb dX3_master_19 rfl (lv_at hl 2 rfl) ?_
    refine gx_put C hG hH hS 0 (by decide) rfl fl_X3_53 fw_X3_11 (pw_X3_11 _ _) rfl rfl (Nat.le_of_ble_eq_true rfl) dX3_master_20 (fun H locs σ4 hσ4 hH hS => ?_)
    have hf := gx_let hf σ4 hσ4
    refine lv_iload_n hx hb dX3_master_23 rfl (lv_at hl 0 rfl) ?_
    cases hf
    exact gx_iretM C hr hlocks hH hS dX3_master_24
  · have hf := gx_pos hc2 hf
    refine lv_bipush (v := (-2 : Int32)) hx hb dX3_master_10 (by decide) ?_
    cases hf
    exact gx_iretM C hr hlocks hH hS dX3_master_12
abbrev rm_X3_part : Room := { frames := 4, cells := 0, slots := 0, locals := 91 }
def f_X3_part (σ : gx_St) (a1 a2 : Int32) : Option Int32 :=
  (f_X3_isEffect σ a1).bind fun r1 =>
  if r1 = 0 then (some (-1 : Int32)) else ((f_X3_isAxis a2).bind fun r3 =>
  if r3 = 0 then (some (-1 : Int32)) else (if (a1 < 0 ∨ 12 ≤ a1.toNatClampNeg) then none else
  if (a2 < 0 ∨ 2 ≤ a2.toNatClampNeg) then none else
  (f_X2_partAt σ a1 (σ (8 + 3 * a1.toNatClampNeg) 8) (σ 0 7) a2).bind fun r11 =>
  some (r11 + (10000 : Int32))))
set_option maxHeartbeats 4000000 in
set_option maxRecDepth 100000 in
theorem t_X3_part (l : Launch) (G : gx_G) (σ : gx_St) (a1 a2 : Int32) (r : Int32)  (hf : f_X3_part σ a1 a2 = some r) : Met l yX3_part (Cond.code yX3_part cX3_part 4 (some .int) :: wT) rm_X3_part (va_Pc [.ref (gx_q G 0), .int a1, .int a2] (gx_S G 50 (gc_mk G) σ)) (gx_QR (some (.int r))) 0 0 (fun _ => False) := by
  refine Met.ofW (cc := cX3_part) (maxL := 4) (ret := (some .int)) (by decide) rfl ?_
  intro p e s m args below meth c s₁ B hml hv
  obtain ⟨rfl, hH, hE⟩ := hv
  have C := gx_C.of (G := G) B hml hE
  have hx := C.1.1
  have hb := C.1.2.1
  have hr := B.returns
  have hlocks := B.notSynchronized
  have hS : va_S (gx_A G) s.heap s.heap [] := va_S.rf
  have hl := lv_entry ([.ref (gx_q G 0), .int a1, .int a2]) (n := 4) (Nat.le_of_ble_eq_true rfl)
  rw [lg_entry_eq]
  generalize (lg_sl ([.ref (gx_q G 0), .int a1, .int a2]) ++ List.replicate (4 - (lg_sl ([.ref (gx_q G 0), .int a1, .int a2])).length) Slot.unset).toArray = ls at hl ⊢
  have hl : lv_has ls 4 [(0, .ref (gx_q G 0)), (1, .int a1), (2, .int a2)] := hl
  unfold f_X3_part at hf
  refine lv_aload_n hx hb dX3_part_0 rfl (lv_at hl 0 rfl) ?_
  refine lv_iload_n hx hb dX3_part_1 rfl (lv_at hl 1 rfl) ?_
  obtain ⟨r1, hr1, hf⟩ := gx_bnd hf
  refine gx_vR (v := (some (.int r1))) (rest := []) C hH hS 0 (by decide) rfl rfl [.int a1] (t_X3_isEffect l G σ a1 r1  hr1) lk_X3_83 ⟨rfl, rfl, Nat.le_of_ble_eq_true rfl, Nat.le_of_ble_eq_true rfl⟩ ⟨Nat.zero_le _, Nat.zero_le _⟩ hl.1 rfl (Nat.le_of_ble_eq_true rfl) dX3_part_2 ?_
  refine gx_e0 (st := [.int r1]) ?_ rfl
  refine lv_if_eq (tgt := 15) hx hb dX3_part_5 (by decide) (fun hc2 => ?_) (fun hc2 => ?_)
  · have hf := gx_pos hc2 hf
    refine lv_iconst (v := (-1 : Int32)) hx hb dX3_part_15 (by decide) ?_
    obtain rfl := Option.some.inj hf
    exact gx_iretR C hr hlocks dX3_part_16
  · have hf := gx_neg hc2 hf
    refine lv_iload_n hx hb dX3_part_8 rfl (lv_at hl 2 rfl) ?_
    obtain ⟨r3, hr3, hf⟩ := gx_bnd hf
    refine gx_sR (v := (some (.int r3))) (rest := []) C hH hS [.int a2] (t_X3_isAxis l G σ a2 r3  hr3) lk_X3_110 ⟨rfl, rfl, Nat.le_of_ble_eq_true rfl, Nat.le_of_ble_eq_true rfl⟩ ⟨Nat.zero_le _, Nat.zero_le _⟩ hl.1 rfl (Nat.le_of_ble_eq_true rfl) dX3_part_9 ?_
    refine gx_e0 (st := [.int r3]) ?_ rfl
    refine lv_if_ne (tgt := 17) hx hb dX3_part_12 (by decide) (fun hc4 => ?_) (fun hc4 => ?_)
    · have hf := gx_neg hc4 hf
      refine lv_aload_n hx hb dX3_part_17 rfl (lv_at hl 0 rfl) ?_
      refine gx_get C hH 0 (by decide) rfl fl_X3_11 rfl dX3_part_18 ?_
      refine lv_iload_n hx hb dX3_part_21 rfl (lv_at hl 1 rfl) ?_
      obtain ⟨hb5, hf⟩ := gx_chk hf
      have hl6 := gx_lt12 hb5
      have hn7 := gx_ne9 hb5
      refine gx_aaldR C hH 1 (by decide) 2 rfl rfl hb5 rfl dX3_part_22 ?_
      refine lv_astore_n (lv' := [(3, .ref (gx_q G (8 + 3 * a1.toNatClampNeg))), (0, .ref (gx_q G 0)), (1, .int a1), (2, .int a2)]) hx hb dX3_part_23 rfl hl (by decide) rfl (fun ls hl => ?_)
      refine lv_aload_n hx hb dX3_part_24 rfl (lv_at hl 0 rfl) ?_
      refine lv_aload_n hx hb dX3_part_25 rfl (lv_at hl 0 rfl) ?_
      refine gx_get C hH (8 + 3 * a1.toNatClampNeg) (gc_ke hl6) (gc_e _ hl6) fl_X3_138 rfl dX3_part_26 ?_
      refine lv_aload_n hx hb dX3_part_29 rfl (lv_at hl 1 rfl) ?_
      refine gx_get C hH 0 (by decide) rfl fl_X3_40 rfl dX3_part_30 ?_
      refine lv_aload_n hx hb dX3_part_33 rfl (lv_at hl 1 rfl) ?_
      refine gx_get C hH 0 (by decide) rfl fl_X3_27 rfl dX3_part_34 ?_
      refine lv_iload_n hx hb dX3_part_37 rfl (lv_at hl 3 rfl) ?_
      obtain ⟨hb8, hf⟩ := gx_chk hf
      have hl9 := gx_lt12 hb8
      have hn10 := gx_ne9 hb8
      refine gx_aaldR C hH 3 (by decide) 3 rfl rfl hb8 rfl dX3_part_38 ?_
      obtain ⟨r11, hr11, hf⟩ := gx_bnd hf
      refine gx_vR (v := (some (.int r11))) (rest := []) C hH hS (8 + 3 * a1.toNatClampNeg) (gc_ke hl6) (gc_e _ hl6) rfl [.int (σ (8 + 3 * a1.toNatClampNeg) 8), .int (σ 0 7), .ref (gx_q G (44 + 1 * a2.toNatClampNeg))] (t_X2_partAt l G σ a1 (σ (8 + 3 * a1.toNatClampNeg) 8) (σ 0 7) a2 r11 hl6 hl9 hr11) lk_X3_189 ⟨rfl, rfl, Nat.le_of_ble_eq_true rfl, Nat.le_of_ble_eq_true rfl⟩ ⟨Nat.zero_le _, Nat.zero_le _⟩ hl.1 rfl (Nat.le_of_ble_eq_true rfl) dX3_part_39 ?_
      refine gx_e0 (st := [.int r11]) ?_ rfl
      refine lv_sipush (v := (10000 : Int32)) hx hb dX3_part_42 (by decide) ?_
      refine lv_iadd hx hb dX3_part_45 ?_
      obtain rfl := Option.some.inj hf
      exact gx_iretR C hr hlocks dX3_part_46
    · have hf := gx_pos hc4 hf
      refine lv_iconst (v := (-1 : Int32)) hx hb dX3_part_15 (by decide) ?_
      obtain rfl := Option.some.inj hf
      exact gx_iretR C hr hlocks dX3_part_16
abbrev rm_X3_envelope : Room := { frames := 2, cells := 0, slots := 0, locals := 45 }
def f_X3_envelope (σ : gx_St) (a1 : Int32) : Option Int32 :=
  (f_X3_isEffect σ a1).bind fun r1 =>
  if r1 = 0 then (some (-1 : Int32)) else (if (a1 < 0 ∨ 12 ≤ a1.toNatClampNeg) then none else
  (f_X2_isOnAt σ a1 (σ (8 + 3 * a1.toNatClampNeg) 8) (σ 0 7)).bind fun r6 =>
  if r6 = 0 then (some (-9 : Int32)) else ((f_X2_hasEnvelope σ a1).bind fun r8 =>
  if r8 = 0 then (some (-9 : Int32)) else ((f_X2_sinceDelay σ a1 (σ (8 + 3 * a1.toNatClampNeg) 8) (σ 0 7)).bind fun r10 =>
  (f_X2_envelopeAt σ a1 r10).bind fun r11 =>
  some r11)))
set_option maxHeartbeats 4000000 in
set_option maxRecDepth 100000 in
theorem t_X3_envelope (l : Launch) (G : gx_G) (σ : gx_St) (a1 : Int32) (r : Int32)  (hf : f_X3_envelope σ a1 = some r) : Met l yX3_envelope (Cond.code yX3_envelope cX3_envelope 3 (some .int) :: wT) rm_X3_envelope (va_Pc [.ref (gx_q G 0), .int a1] (gx_S G 50 (gc_mk G) σ)) (gx_QR (some (.int r))) 0 0 (fun _ => False) := by
  refine Met.ofW (cc := cX3_envelope) (maxL := 3) (ret := (some .int)) (by decide) rfl ?_
  intro p e s m args below meth c s₁ B hml hv
  obtain ⟨rfl, hH, hE⟩ := hv
  have C := gx_C.of (G := G) B hml hE
  have hx := C.1.1
  have hb := C.1.2.1
  have hr := B.returns
  have hlocks := B.notSynchronized
  have hS : va_S (gx_A G) s.heap s.heap [] := va_S.rf
  have hl := lv_entry ([.ref (gx_q G 0), .int a1]) (n := 3) (Nat.le_of_ble_eq_true rfl)
  rw [lg_entry_eq]
  generalize (lg_sl ([.ref (gx_q G 0), .int a1]) ++ List.replicate (3 - (lg_sl ([.ref (gx_q G 0), .int a1])).length) Slot.unset).toArray = ls at hl ⊢
  have hl : lv_has ls 3 [(0, .ref (gx_q G 0)), (1, .int a1)] := hl
  unfold f_X3_envelope at hf
  refine lv_aload_n hx hb dX3_envelope_0 rfl (lv_at hl 0 rfl) ?_
  refine lv_iload_n hx hb dX3_envelope_1 rfl (lv_at hl 1 rfl) ?_
  obtain ⟨r1, hr1, hf⟩ := gx_bnd hf
  refine gx_vR (v := (some (.int r1))) (rest := []) C hH hS 0 (by decide) rfl rfl [.int a1] (t_X3_isEffect l G σ a1 r1  hr1) lk_X3_83 ⟨rfl, rfl, Nat.le_of_ble_eq_true rfl, Nat.le_of_ble_eq_true rfl⟩ ⟨Nat.zero_le _, Nat.zero_le _⟩ hl.1 rfl (Nat.le_of_ble_eq_true rfl) dX3_envelope_2 ?_
  refine gx_e0 (st := [.int r1]) ?_ rfl
  refine lv_if_ne (tgt := 10) hx hb dX3_envelope_5 (by decide) (fun hc2 => ?_) (fun hc2 => ?_)
  · have hf := gx_neg hc2 hf
    refine lv_aload_n hx hb dX3_envelope_10 rfl (lv_at hl 0 rfl) ?_
    refine gx_get C hH 0 (by decide) rfl fl_X3_11 rfl dX3_envelope_11 ?_
    refine lv_iload_n hx hb dX3_envelope_14 rfl (lv_at hl 1 rfl) ?_
    obtain ⟨hb3, hf⟩ := gx_chk hf
    have hl4 := gx_lt12 hb3
    have hn5 := gx_ne9 hb3
    refine gx_aaldR C hH 1 (by decide) 2 rfl rfl hb3 rfl dX3_envelope_15 ?_
    refine lv_astore_n (lv' := [(2, .ref (gx_q G (8 + 3 * a1.toNatClampNeg))), (0, .ref (gx_q G 0)), (1, .int a1)]) hx hb dX3_envelope_16 rfl hl (by decide) rfl (fun ls hl => ?_)
    refine lv_aload_n hx hb dX3_envelope_17 rfl (lv_at hl 0 rfl) ?_
    refine lv_aload_n hx hb dX3_envelope_18 rfl (lv_at hl 0 rfl) ?_
    refine gx_get C hH (8 + 3 * a1.toNatClampNeg) (gc_ke hl4) (gc_e _ hl4) fl_X3_138 rfl dX3_envelope_19 ?_
    refine lv_aload_n hx hb dX3_envelope_22 rfl (lv_at hl 1 rfl) ?_
    refine gx_get C hH 0 (by decide) rfl fl_X3_40 rfl dX3_envelope_23 ?_
    obtain ⟨r6, hr6, hf⟩ := gx_bnd hf
    refine gx_vR (v := (some (.int r6))) (rest := []) C hH hS (8 + 3 * a1.toNatClampNeg) (gc_ke hl4) (gc_e _ hl4) rfl [.int (σ (8 + 3 * a1.toNatClampNeg) 8), .int (σ 0 7)] (t_X2_isOnAt l G σ a1 (σ (8 + 3 * a1.toNatClampNeg) 8) (σ 0 7) r6 hl4 hr6) lk_X3_144 ⟨rfl, rfl, Nat.le_of_ble_eq_true rfl, Nat.le_of_ble_eq_true rfl⟩ ⟨Nat.zero_le _, Nat.zero_le _⟩ hl.1 rfl (Nat.le_of_ble_eq_true rfl) dX3_envelope_26 ?_
    refine gx_e0 (st := [.int r6]) ?_ rfl
    refine lv_if_eq (tgt := 39) hx hb dX3_envelope_29 (by decide) (fun hc7 => ?_) (fun hc7 => ?_)
    · have hf := gx_pos hc7 hf
      refine lv_bipush (v := (-9 : Int32)) hx hb dX3_envelope_39 (by decide) ?_
      obtain rfl := Option.some.inj hf
      exact gx_iretR C hr hlocks dX3_envelope_41
    · have hf := gx_neg hc7 hf
      refine lv_aload_n hx hb dX3_envelope_32 rfl (lv_at hl 0 rfl) ?_
      obtain ⟨r8, hr8, hf⟩ := gx_bnd hf
      refine gx_vR (v := (some (.int r8))) (rest := []) C hH hS (8 + 3 * a1.toNatClampNeg) (gc_ke hl4) (gc_e _ hl4) rfl [] (t_X2_hasEnvelope l G σ a1 r8 hl4 hr8) lk_X3_193 ⟨rfl, rfl, Nat.le_of_ble_eq_true rfl, Nat.le_of_ble_eq_true rfl⟩ ⟨Nat.zero_le _, Nat.zero_le _⟩ hl.1 rfl (Nat.le_of_ble_eq_true rfl) dX3_envelope_33 ?_
      refine gx_e0 (st := [.int r8]) ?_ rfl
      refine lv_if_ne (tgt := 42) hx hb dX3_envelope_36 (by decide) (fun hc9 => ?_) (fun hc9 => ?_)
      · have hf := gx_neg hc9 hf
        refine lv_aload_n hx hb dX3_envelope_42 rfl (lv_at hl 0 rfl) ?_
        refine lv_aload_n hx hb dX3_envelope_43 rfl (lv_at hl 0 rfl) ?_
        refine lv_aload_n hx hb dX3_envelope_44 rfl (lv_at hl 0 rfl) ?_
        refine gx_get C hH (8 + 3 * a1.toNatClampNeg) (gc_ke hl4) (gc_e _ hl4) fl_X3_138 rfl dX3_envelope_45 ?_
        refine lv_aload_n hx hb dX3_envelope_48 rfl (lv_at hl 1 rfl) ?_
        refine gx_get C hH 0 (by decide) rfl fl_X3_40 rfl dX3_envelope_49 ?_
        obtain ⟨r10, hr10, hf⟩ := gx_bnd hf
        refine gx_vR (v := (some (.int r10))) (rest := [.ref (gx_q G (8 + 3 * a1.toNatClampNeg))]) C hH hS (8 + 3 * a1.toNatClampNeg) (gc_ke hl4) (gc_e _ hl4) rfl [.int (σ (8 + 3 * a1.toNatClampNeg) 8), .int (σ 0 7)] (t_X2_sinceDelay l G σ a1 (σ (8 + 3 * a1.toNatClampNeg) 8) (σ 0 7) r10 hl4 hr10) lk_X3_197 ⟨rfl, rfl, Nat.le_of_ble_eq_true rfl, Nat.le_of_ble_eq_true rfl⟩ ⟨Nat.zero_le _, Nat.zero_le _⟩ hl.1 rfl (Nat.le_of_ble_eq_true rfl) dX3_envelope_52 ?_
        refine gx_e0 (st := [.int r10, .ref (gx_q G (8 + 3 * a1.toNatClampNeg))]) ?_ rfl
        obtain ⟨r11, hr11, hf⟩ := gx_bnd hf
        refine gx_vR (v := (some (.int r11))) (rest := []) C hH hS (8 + 3 * a1.toNatClampNeg) (gc_ke hl4) (gc_e _ hl4) rfl [.int r10] (t_X2_envelopeAt l G σ a1 r10 r11 hl4 hr11) lk_X3_200 ⟨rfl, rfl, Nat.le_of_ble_eq_true rfl, Nat.le_of_ble_eq_true rfl⟩ ⟨Nat.zero_le _, Nat.zero_le _⟩ hl.1 rfl (Nat.le_of_ble_eq_true rfl) dX3_envelope_55 ?_
        refine gx_e0 (st := [.int r11]) ?_ rfl
        obtain rfl := Option.some.inj hf
        exact gx_iretR C hr hlocks dX3_envelope_58
      · have hf := gx_pos hc9 hf
        refine lv_bipush (v := (-9 : Int32)) hx hb dX3_envelope_39 (by decide) ?_
        obtain rfl := Option.some.inj hf
        exact gx_iretR C hr hlocks dX3_envelope_41
  · have hf := gx_pos hc2 hf
    refine lv_iconst (v := (-1 : Int32)) hx hb dX3_envelope_8 (by decide) ?_
    obtain rfl := Option.some.inj hf
    exact gx_iretR C hr hlocks dX3_envelope_9
abbrev rm_X3_rawAt : Room := { frames := 4, cells := 0, slots := 0, locals := 91 }
def fL_X3_rawAt_5 : Nat → gx_St → Int32 → Int32 → Int32 → Int32 → Option Int32
  | 0, _, _, _, _, _ => none
  | N + 1, σ, v1, v2, v3, v4 =>
    if (6 : Int32) ≤ v4 then (some v3) else (if (v4 < 0 ∨ 6 ≤ v4.toNatClampNeg) then none else
    gx_lt (σ 2 v4.toNatClampNeg) fun e3 =>
    if e3 = -9 then (gx_lt (v4 + (1 : Int32)) fun x6 =>
    fL_X3_rawAt_5 N σ v1 v2 v3 x6) else if 12 ≤ e3.toNatClampNeg then none else ((f_X3_startBy σ e3 v1).bind fun r7 =>
    (f_X2_partAt σ e3 r7 v1 v2).bind fun r8 =>
    gx_lt (v3 + r8) fun x9 =>
    gx_lt (v4 + (1 : Int32)) fun x10 =>
    fL_X3_rawAt_5 N σ v1 v2 x9 x10))
set_option maxHeartbeats 4000000 in
set_option maxRecDepth 100000 in
theorem w_X3_rawAt_5 {p : Program} {l : Launch} {e : Env} {s : State} {m : MethodId} {args : Array Value} {below : List Frame} {meth : Method} {c : Code} (G : gx_G) (C : gx_C p m c cX3_rawAt 6 s args RX3 G) (hr : meth.sig.returnType = (some .int)) (hlocks : meth.locks = false) (σ : gx_St) (hH : gx_H G 50 (gc_mk G) σ s.heap) : ∀ (N : Nat) (v1 v2 v3 v4 : Int32) (hl_v2 : v2.toNatClampNeg < 2) (z : Int32), fL_X3_rawAt_5 N σ v1 v2 v3 v4 = some z → ∀ (ls : Array Slot), lv_has ls 6 [(0, .ref (gx_q G 0)), (1, .int v1), (2, .ref (gx_q G (44 + 1 * v2.toNatClampNeg))), (3, .int v3), (4, .int v4)] → W p l e rm_X3_rawAt s m args below meth c s.heap [] 0 0 (MQ below (gx_QR (some (.int z))) args s 0 0 (fun _ => False)) (F0 m 5 ls []) := by
  have hx := C.1.1
  have hb := C.1.2.1
  have hS : va_S (gx_A G) s.heap s.heap [] := va_S.rf
  intro N
  induction N with
  | zero =>
    intro v1 v2 v3 v4 hl_v2 z hf ls hl
    cases (show (none : Option Int32) = some z from hf)
  | succ N ih =>
    intro v1 v2 v3 v4 hl_v2 z hf ls hl
    rw [fL_X3_rawAt_5] at hf
    refine lv_iload hx hb dX3_rawAt_5 (lv_at hl 4 rfl) ?_
    refine lv_bipush (v := (6 : Int32)) hx hb dX3_rawAt_7 (by decide) ?_
    refine lv_icmp_ge (tgt := 49) hx hb dX3_rawAt_9 (by decide) (fun hc1 => ?_) (fun hc1 => ?_)
    · have hf := gx_pos hc1 hf
      refine lv_iload_n hx hb dX3_rawAt_49 rfl (lv_at hl 3 rfl) ?_
      obtain rfl := Option.some.inj hf
      exact gx_iretR C hr hlocks dX3_rawAt_50
    · have hf := gx_neg hc1 hf
      refine lv_aload_n hx hb dX3_rawAt_12 rfl (lv_at hl 0 rfl) ?_
      refine gx_get C hH 0 (by decide) rfl fl_X3_19 rfl dX3_rawAt_13 ?_
      refine lv_iload hx hb dX3_rawAt_16 (lv_at hl 4 rfl) ?_
      obtain ⟨hb2, hf⟩ := gx_chk hf
      obtain ⟨e3, he3⟩ : ∃ z : Int32, z = (σ 2 v4.toNatClampNeg) := ⟨_, rfl⟩
      have hf := gx_let hf e3 he3
      by_cases hn4 : e3 = -9
      · have hf := gx_pos hn4 hf
        refine gx_aaldN C hH 2 (by decide) 2 rfl rfl hb2 (gx_rf_n (he3.symm.trans hn4)) dX3_rawAt_18 ?_
        refine lv_astoreN (lv' := [(5, .null), (0, .ref (gx_q G 0)), (1, .int v1), (2, .ref (gx_q G (44 + 1 * v2.toNatClampNeg))), (3, .int v3), (4, .int v4)]) hx hb dX3_rawAt_19 hl (by decide) rfl (fun ls hl => ?_)
        refine lv_aloadN hx hb dX3_rawAt_21 (lv_at hl 0 rfl) ?_
        refine lv_ifnullN (tgt := 43) hx hb dX3_rawAt_23 (by decide) ?_
        obtain ⟨x6, hx6⟩ : ∃ z : Int32, z = (v4 + (1 : Int32)) := ⟨_, rfl⟩
        have hf := gx_let hf x6 hx6
        refine lv_iinc (v := x6) (lv' := [(4, .int x6), (5, .null), (0, .ref (gx_q G 0)), (1, .int v1), (2, .ref (gx_q G (44 + 1 * v2.toNatClampNeg))), (3, .int v3)]) hx hb dX3_rawAt_43 hl (k := 5) rfl (by rw [hx6]; rfl) (by decide) rfl (fun ls hl => ?_)
        refine lv_goto (tgt := 5) hx hb dX3_rawAt_46 (by decide) ?_
        exact ih v1 v2 v3 x6 hl_v2 _ hf ls (lv_sub hl [2, 3, 4, 5, 0] rfl)
      · have hf := gx_neg hn4 hf
        obtain ⟨hl5, hf⟩ := gx_chk hf
        have hl5 := Nat.not_le.mp hl5
        refine gx_aaldR C hH 2 (by decide) 2 rfl rfl hb2 (gx_rfe he3 hn4) dX3_rawAt_18 ?_
        refine lv_astore (lv' := [(5, .ref (gx_q G (8 + 3 * e3.toNatClampNeg))), (0, .ref (gx_q G 0)), (1, .int v1), (2, .ref (gx_q G (44 + 1 * v2.toNatClampNeg))), (3, .int v3), (4, .int v4)]) hx hb dX3_rawAt_19 hl (by decide) rfl (fun ls hl => ?_)
        refine lv_aload hx hb dX3_rawAt_21 (lv_at hl 0 rfl) ?_
        refine lv_ifnull hx hb dX3_rawAt_23 ?_
        refine lv_iload_n hx hb dX3_rawAt_26 rfl (lv_at hl 4 rfl) ?_
        refine lv_aload hx hb dX3_rawAt_27 (lv_at hl 0 rfl) ?_
        refine lv_aload_n hx hb dX3_rawAt_29 rfl (lv_at hl 1 rfl) ?_
        refine lv_aload hx hb dX3_rawAt_30 (lv_at hl 0 rfl) ?_
        refine lv_iload_n hx hb dX3_rawAt_32 rfl (lv_at hl 2 rfl) ?_
        obtain ⟨r7, hr7, hf⟩ := gx_bnd hf
        refine gx_vR (v := (some (.int r7))) (rest := [.ref (gx_q G (8 + 3 * e3.toNatClampNeg)), .int v3]) C hH hS 0 (by decide) rfl rfl [.ref (gx_q G (8 + 3 * e3.toNatClampNeg)), .int v1] (t_X3_startBy l G σ e3 v1 r7 hl5 hn4 hr7) lk_X3_276 ⟨rfl, rfl, Nat.le_of_ble_eq_true rfl, Nat.le_of_ble_eq_true rfl⟩ ⟨Nat.zero_le _, Nat.zero_le _⟩ hl.1 rfl (Nat.le_of_ble_eq_true rfl) dX3_rawAt_33 ?_
        refine gx_e0 (st := [.int r7, .ref (gx_q G (8 + 3 * e3.toNatClampNeg)), .int v3]) ?_ rfl
        refine lv_iload_n hx hb dX3_rawAt_36 rfl (lv_at hl 2 rfl) ?_
        refine lv_aload_n hx hb dX3_rawAt_37 rfl (lv_at hl 3 rfl) ?_
        obtain ⟨r8, hr8, hf⟩ := gx_bnd hf
        refine gx_vR (v := (some (.int r8))) (rest := [.int v3]) C hH hS (8 + 3 * e3.toNatClampNeg) (gc_ke hl5) (gc_e _ hl5) rfl [.int r7, .int v1, .ref (gx_q G (44 + 1 * v2.toNatClampNeg))] (t_X2_partAt l G σ e3 r7 v1 v2 r8 hl5 hl_v2 hr8) lk_X3_189 ⟨rfl, rfl, Nat.le_of_ble_eq_true rfl, Nat.le_of_ble_eq_true rfl⟩ ⟨Nat.zero_le _, Nat.zero_le _⟩ hl.1 rfl (Nat.le_of_ble_eq_true rfl) dX3_rawAt_38 ?_
        refine gx_e0 (st := [.int r8, .int v3]) ?_ rfl
        refine lv_iadd hx hb dX3_rawAt_41 ?_
        refine lv_topi (fun x9 hx9 => ?_)
        have hf := gx_let hf x9 hx9
        refine lv_istore_n (lv' := [(3, .int x9), (5, .ref (gx_q G (8 + 3 * e3.toNatClampNeg))), (0, .ref (gx_q G 0)), (1, .int v1), (2, .ref (gx_q G (44 + 1 * v2.toNatClampNeg))), (4, .int v4)]) hx hb dX3_rawAt_42 rfl hl (by decide) rfl (fun ls hl => ?_)
        obtain ⟨x10, hx10⟩ : ∃ z : Int32, z = (v4 + (1 : Int32)) := ⟨_, rfl⟩
        have hf := gx_let hf x10 hx10
        refine lv_iinc (v := x10) (lv' := [(4, .int x10), (3, .int x9), (5, .ref (gx_q G (8 + 3 * e3.toNatClampNeg))), (0, .ref (gx_q G 0)), (1, .int v1), (2, .ref (gx_q G (44 + 1 * v2.toNatClampNeg)))]) hx hb dX3_rawAt_43 hl (k := 5) rfl (by rw [hx10]; rfl) (by decide) rfl (fun ls hl => ?_)
        refine lv_goto (tgt := 5) hx hb dX3_rawAt_46 (by decide) ?_
        exact ih v1 v2 x9 x10 hl_v2 _ hf ls (lv_sub hl [3, 4, 5, 1, 0] rfl)
def f_X3_rawAt (σ : gx_St) (a1 a2 : Int32) : Option Int32 :=
  fL_X3_rawAt_5 7 σ a1 a2 (0 : Int32) (0 : Int32)
set_option maxHeartbeats 4000000 in
set_option maxRecDepth 100000 in
theorem t_X3_rawAt (l : Launch) (G : gx_G) (σ : gx_St) (a1 a2 : Int32) (r : Int32) (hl_a2 : a2.toNatClampNeg < 2) (hf : f_X3_rawAt σ a1 a2 = some r) : Met l yX3_rawAt (Cond.code yX3_rawAt cX3_rawAt 6 (some .int) :: wT) rm_X3_rawAt (va_Pc [.ref (gx_q G 0), .int a1, .ref (gx_q G (44 + 1 * a2.toNatClampNeg))] (gx_S G 50 (gc_mk G) σ)) (gx_QR (some (.int r))) 0 0 (fun _ => False) := by
  refine Met.ofW (cc := cX3_rawAt) (maxL := 6) (ret := (some .int)) (by decide) rfl ?_
  intro p e s m args below meth c s₁ B hml hv
  obtain ⟨rfl, hH, hE⟩ := hv
  have C := gx_C.of (G := G) B hml hE
  have hx := C.1.1
  have hb := C.1.2.1
  have hr := B.returns
  have hlocks := B.notSynchronized
  have hS : va_S (gx_A G) s.heap s.heap [] := va_S.rf
  have hl := lv_entry ([.ref (gx_q G 0), .int a1, .ref (gx_q G (44 + 1 * a2.toNatClampNeg))]) (n := 6) (Nat.le_of_ble_eq_true rfl)
  rw [lg_entry_eq]
  generalize (lg_sl ([.ref (gx_q G 0), .int a1, .ref (gx_q G (44 + 1 * a2.toNatClampNeg))]) ++ List.replicate (6 - (lg_sl ([.ref (gx_q G 0), .int a1, .ref (gx_q G (44 + 1 * a2.toNatClampNeg))])).length) Slot.unset).toArray = ls at hl ⊢
  have hl : lv_has ls 6 [(0, .ref (gx_q G 0)), (1, .int a1), (2, .ref (gx_q G (44 + 1 * a2.toNatClampNeg)))] := hl
  unfold f_X3_rawAt at hf
  refine lv_iconst (v := (0 : Int32)) hx hb dX3_rawAt_0 (by decide) ?_
  refine lv_istore_n (lv' := [(3, .int (0 : Int32)), (0, .ref (gx_q G 0)), (1, .int a1), (2, .ref (gx_q G (44 + 1 * a2.toNatClampNeg)))]) hx hb dX3_rawAt_1 rfl hl (by decide) rfl (fun ls hl => ?_)
  refine lv_iconst (v := (0 : Int32)) hx hb dX3_rawAt_2 (by decide) ?_
  refine lv_istore (lv' := [(4, .int (0 : Int32)), (3, .int (0 : Int32)), (0, .ref (gx_q G 0)), (1, .int a1), (2, .ref (gx_q G (44 + 1 * a2.toNatClampNeg)))]) hx hb dX3_rawAt_3 hl (by decide) rfl (fun ls hl => ?_)
  exact w_X3_rawAt_5 (l := l) G C hr hlocks σ hH 7 a1 a2 (0 : Int32) (0 : Int32) hl_a2 _ hf ls (lv_sub hl [2, 3, 4, 1, 0] rfl)
abbrev rm_X3_force : Room := { frames := 5, cells := 0, slots := 0, locals := 116 }
def f_X3_force (σ : gx_St) (a1 a2 : Int32) : Option Int32 :=
  (f_X3_isAxis a1).bind fun r1 =>
  if r1 = 0 then (some (-1 : Int32)) else ((f_X3_isWithin a2 (0 : Int32) (1 : Int32)).bind fun r3 =>
  if r3 = 0 then (some (-2 : Int32)) else (if (a1 < 0 ∨ 2 ≤ a1.toNatClampNeg) then none else
  (f_X3_rawAt σ (σ 0 7) a1).bind fun r8 =>
  if a2 = 0 then (some (r8 + (100000 : Int32))) else ((f_X3_noFarther r8 (1000 : Int32)).bind fun r10 =>
  some (((r10 * (σ 0 11)) / (100 : Int32)) + (10000 : Int32)))))
set_option maxHeartbeats 4000000 in
set_option maxRecDepth 100000 in
theorem t_X3_force (l : Launch) (G : gx_G) (σ : gx_St) (a1 a2 : Int32) (r : Int32)  (hf : f_X3_force σ a1 a2 = some r) : Met l yX3_force (Cond.code yX3_force cX3_force 4 (some .int) :: wT) rm_X3_force (va_Pc [.ref (gx_q G 0), .int a1, .int a2] (gx_S G 50 (gc_mk G) σ)) (gx_QR (some (.int r))) 0 0 (fun _ => False) := by
  refine Met.ofW (cc := cX3_force) (maxL := 4) (ret := (some .int)) (by decide) rfl ?_
  intro p e s m args below meth c s₁ B hml hv
  obtain ⟨rfl, hH, hE⟩ := hv
  have C := gx_C.of (G := G) B hml hE
  have hx := C.1.1
  have hb := C.1.2.1
  have hr := B.returns
  have hlocks := B.notSynchronized
  have hS : va_S (gx_A G) s.heap s.heap [] := va_S.rf
  have hl := lv_entry ([.ref (gx_q G 0), .int a1, .int a2]) (n := 4) (Nat.le_of_ble_eq_true rfl)
  rw [lg_entry_eq]
  generalize (lg_sl ([.ref (gx_q G 0), .int a1, .int a2]) ++ List.replicate (4 - (lg_sl ([.ref (gx_q G 0), .int a1, .int a2])).length) Slot.unset).toArray = ls at hl ⊢
  have hl : lv_has ls 4 [(0, .ref (gx_q G 0)), (1, .int a1), (2, .int a2)] := hl
  unfold f_X3_force at hf
  refine lv_iload_n hx hb dX3_force_0 rfl (lv_at hl 1 rfl) ?_
  obtain ⟨r1, hr1, hf⟩ := gx_bnd hf
  refine gx_sR (v := (some (.int r1))) (rest := []) C hH hS [.int a1] (t_X3_isAxis l G σ a1 r1  hr1) lk_X3_110 ⟨rfl, rfl, Nat.le_of_ble_eq_true rfl, Nat.le_of_ble_eq_true rfl⟩ ⟨Nat.zero_le _, Nat.zero_le _⟩ hl.1 rfl (Nat.le_of_ble_eq_true rfl) dX3_force_1 ?_
  refine gx_e0 (st := [.int r1]) ?_ rfl
  refine lv_if_ne (tgt := 9) hx hb dX3_force_4 (by decide) (fun hc2 => ?_) (fun hc2 => ?_)
  · have hf := gx_neg hc2 hf
    refine lv_iload_n hx hb dX3_force_9 rfl (lv_at hl 2 rfl) ?_
    refine lv_iconst (v := (0 : Int32)) hx hb dX3_force_10 (by decide) ?_
    refine lv_iconst (v := (1 : Int32)) hx hb dX3_force_11 (by decide) ?_
    obtain ⟨r3, hr3, hf⟩ := gx_bnd hf
    refine gx_sR (v := (some (.int r3))) (rest := []) C hH hS [.int a2, .int (0 : Int32), .int (1 : Int32)] (t_X3_isWithin l G σ a2 (0 : Int32) (1 : Int32) r3  hr3) lk_X3_102 ⟨rfl, rfl, Nat.le_of_ble_eq_true rfl, Nat.le_of_ble_eq_true rfl⟩ ⟨Nat.zero_le _, Nat.zero_le _⟩ hl.1 rfl (Nat.le_of_ble_eq_true rfl) dX3_force_12 ?_
    refine gx_e0 (st := [.int r3]) ?_ rfl
    refine lv_if_ne (tgt := 21) hx hb dX3_force_15 (by decide) (fun hc4 => ?_) (fun hc4 => ?_)
    · have hf := gx_neg hc4 hf
      refine lv_aload_n hx hb dX3_force_21 rfl (lv_at hl 0 rfl) ?_
      refine lv_aload_n hx hb dX3_force_22 rfl (lv_at hl 0 rfl) ?_
      refine gx_get C hH 0 (by decide) rfl fl_X3_40 rfl dX3_force_23 ?_
      refine lv_aload_n hx hb dX3_force_26 rfl (lv_at hl 0 rfl) ?_
      refine gx_get C hH 0 (by decide) rfl fl_X3_27 rfl dX3_force_27 ?_
      refine lv_iload_n hx hb dX3_force_30 rfl (lv_at hl 1 rfl) ?_
      obtain ⟨hb5, hf⟩ := gx_chk hf
      have hl6 := gx_lt12 hb5
      have hn7 := gx_ne9 hb5
      refine gx_aaldR C hH 3 (by decide) 3 rfl rfl hb5 rfl dX3_force_31 ?_
      obtain ⟨r8, hr8, hf⟩ := gx_bnd hf
      refine gx_vR (v := (some (.int r8))) (rest := []) C hH hS 0 (by decide) rfl rfl [.int (σ 0 7), .ref (gx_q G (44 + 1 * a1.toNatClampNeg))] (t_X3_rawAt l G σ (σ 0 7) a1 r8 hl6 hr8) lk_X3_204 ⟨rfl, rfl, Nat.le_of_ble_eq_true rfl, Nat.le_of_ble_eq_true rfl⟩ ⟨Nat.zero_le _, Nat.zero_le _⟩ hl.1 rfl (Nat.le_of_ble_eq_true rfl) dX3_force_32 ?_
      refine gx_e0 (st := [.int r8]) ?_ rfl
      refine lv_istore_n (lv' := [(3, .int r8), (0, .ref (gx_q G 0)), (1, .int a1), (2, .int a2)]) hx hb dX3_force_35 rfl hl (by decide) rfl (fun ls hl => ?_)
      refine lv_iload_n hx hb dX3_force_36 rfl (lv_at hl 3 rfl) ?_
      refine lv_if_ne (tgt := 45) hx hb dX3_force_37 (by decide) (fun hc9 => ?_) (fun hc9 => ?_)
      · have hf := gx_neg hc9 hf
        refine lv_iload_n hx hb dX3_force_45 rfl (lv_at hl 0 rfl) ?_
        refine lv_sipush (v := (1000 : Int32)) hx hb dX3_force_46 (by decide) ?_
        obtain ⟨r10, hr10, hf⟩ := gx_bnd hf
        refine gx_sR (v := (some (.int r10))) (rest := []) C hH hS [.int r8, .int (1000 : Int32)] (t_X3_noFarther l G σ r8 (1000 : Int32) r10  hr10) lk_X3_208 ⟨rfl, rfl, Nat.le_of_ble_eq_true rfl, Nat.le_of_ble_eq_true rfl⟩ ⟨Nat.zero_le _, Nat.zero_le _⟩ hl.1 rfl (Nat.le_of_ble_eq_true rfl) dX3_force_49 ?_
        refine gx_e0 (st := [.int r10]) ?_ rfl
        refine lv_aload_n hx hb dX3_force_52 rfl (lv_at hl 1 rfl) ?_
        refine gx_get C hH 0 (by decide) rfl fl_X3_53 rfl dX3_force_53 ?_
        refine lv_imul hx hb dX3_force_56 ?_
        refine lv_bipush (v := (100 : Int32)) hx hb dX3_force_57 (by decide) ?_
        refine lv_idiv hx hb dX3_force_59 (by decide) ?_
        refine lv_sipush (v := (10000 : Int32)) hx hb dX3_force_60 (by decide) ?_
        refine lv_iadd hx hb dX3_force_63 ?_
        obtain rfl := Option.some.inj hf
        exact gx_iretR C hr hlocks dX3_force_64
      · have hf := gx_pos hc9 hf
        refine lv_iload_n hx hb dX3_force_40 rfl (lv_at hl 0 rfl) ?_
        refine lv_ldc hx hb C.1.2.2.2.1 (C.1.2.2.2.2 _ kw_286) dX3_force_41 ?_
        refine lv_iadd hx hb dX3_force_43 ?_
        obtain rfl := Option.some.inj hf
        exact gx_iretR C hr hlocks dX3_force_44
    · have hf := gx_pos hc4 hf
      refine lv_bipush (v := (-2 : Int32)) hx hb dX3_force_18 (by decide) ?_
      obtain rfl := Option.some.inj hf
      exact gx_iretR C hr hlocks dX3_force_20
  · have hf := gx_pos hc2 hf
    refine lv_iconst (v := (-1 : Int32)) hx hb dX3_force_7 (by decide) ?_
    obtain rfl := Option.some.inj hf
    exact gx_iretR C hr hlocks dX3_force_8
abbrev rm_X3_rate : Room := { frames := 1, cells := 0, slots := 0, locals := 22 }
def f_X3_rate (σ : gx_St) (a1 : Int32) : Option (Int32 × gx_St) :=
  (f_X3_isWithin a1 (1 : Int32) (1000 : Int32)).bind fun r1 =>
  if r1 = 0 then (some ((-2 : Int32), σ)) else (gx_lt (σ 0 12) fun x3 =>
  gx_lt (gx_w2 σ 0 12 a1) fun σ4 =>
  some (x3, σ4))
set_option maxHeartbeats 4000000 in
set_option maxRecDepth 100000 in
theorem t_X3_rate (l : Launch) (G : gx_G) (hG : gx_D G 50) (σ : gx_St) (a1 : Int32) (r : Int32) (σ' : gx_St)  (hf : f_X3_rate σ a1 = some (r, σ')) : Met l yX3_rate (Cond.code yX3_rate cX3_rate 3 (some .int) :: wT) rm_X3_rate (va_Pc [.ref (gx_q G 0), .int a1] (gx_S G 50 (gc_mk G) σ)) (gx_QM G 50 (gc_mk G) (some (.int r)) σ') 0 0 (gx_A G) := by
  refine Met.ofW (cc := cX3_rate) (maxL := 3) (ret := (some .int)) (by decide) rfl ?_
  intro p e s m args below meth c s₁ B hml hv
  obtain ⟨rfl, hH, hE⟩ := hv
  have C := gx_C.of (G := G) B hml hE
  have hx := C.1.1
  have hb := C.1.2.1
  have hr := B.returns
  have hlocks := B.notSynchronized
  have hS : va_S (gx_A G) s.heap s.heap [] := va_S.rf
  have hl := lv_entry ([.ref (gx_q G 0), .int a1]) (n := 3) (Nat.le_of_ble_eq_true rfl)
  rw [lg_entry_eq]
  generalize (lg_sl ([.ref (gx_q G 0), .int a1]) ++ List.replicate (3 - (lg_sl ([.ref (gx_q G 0), .int a1])).length) Slot.unset).toArray = ls at hl ⊢
  have hl : lv_has ls 3 [(0, .ref (gx_q G 0)), (1, .int a1)] := hl
  unfold f_X3_rate at hf
  refine lv_iload_n hx hb dX3_rate_0 rfl (lv_at hl 1 rfl) ?_
  refine lv_iconst (v := (1 : Int32)) hx hb dX3_rate_1 (by decide) ?_
  refine lv_sipush (v := (1000 : Int32)) hx hb dX3_rate_2 (by decide) ?_
  obtain ⟨r1, hr1, hf⟩ := gx_bnd hf
  refine gx_sR (v := (some (.int r1))) (rest := []) C hH hS [.int a1, .int (1 : Int32), .int (1000 : Int32)] (t_X3_isWithin l G σ a1 (1 : Int32) (1000 : Int32) r1  hr1) lk_X3_102 ⟨rfl, rfl, Nat.le_of_ble_eq_true rfl, Nat.le_of_ble_eq_true rfl⟩ ⟨Nat.zero_le _, Nat.zero_le _⟩ hl.1 rfl (Nat.le_of_ble_eq_true rfl) dX3_rate_5 ?_
  refine gx_e0 (st := [.int r1]) ?_ rfl
  refine lv_if_ne (tgt := 14) hx hb dX3_rate_8 (by decide) (fun hc2 => ?_) (fun hc2 => ?_)
  · have hf := gx_neg hc2 hf
    refine lv_aload_n hx hb dX3_rate_14 rfl (lv_at hl 0 rfl) ?_
    refine gx_get C hH 0 (by decide) rfl fl_X3_56 rfl dX3_rate_15 ?_
    refine lv_topi (fun x3 hx3 => ?_)
    have hf := gx_let hf x3 hx3
    refine lv_istore_n (lv' := [(2, .int x3), (0, .ref (gx_q G 0)), (1, .int a1)]) hx hb dX3_rate_18 rfl hl (by decide) rfl (fun ls hl => ?_)
    refine lv_aload_n hx hb dX3_rate_19 rfl (lv_at hl 1 rfl) ?_
    refine lv_iload_n hx hb dX3_rate_20 rfl (lv_at hl 2 rfl) ?_
    refine gx_put C hG hH hS 0 (by decide) rfl fl_X3_56 fw_X3_12 (pw_X3_12 _ _) rfl rfl (Nat.le_of_ble_eq_true rfl) dX3_rate_21 (fun H locs σ4 hσ4 hH hS => ?_)
    have hf := gx_let hf σ4 hσ4
    refine lv_iload_n hx hb dX3_rate_24 rfl (lv_at hl 0 rfl) ?_
    cases hf
    exact gx_iretM C hr hlocks hH hS dX3_rate_25
  · have hf := gx_pos hc2 hf
    refine lv_bipush (v := (-2 : Int32)) hx hb dX3_rate_11 (by decide) ?_
    cases hf
    exact gx_iretM C hr hlocks hH hS dX3_rate_13
abbrev rm_X3_frame : Room := { frames := 1, cells := 0, slots := 0, locals := 22 }
def f_X3_frame (σ : gx_St) (a1 : Int32) : Option Int32 :=
  (f_X3_isWithin a1 (0 : Int32) (1000000 : Int32)).bind fun r1 =>
  if r1 = 0 then (some (-2 : Int32)) else ((f_X3_quotient ((1000 : Int32) * a1) (σ 0 12)).bind fun r3 =>
  some r3)
set_option maxHeartbeats 4000000 in
set_option maxRecDepth 100000 in
theorem t_X3_frame (l : Launch) (G : gx_G) (σ : gx_St) (a1 : Int32) (r : Int32)  (hf : f_X3_frame σ a1 = some r) : Met l yX3_frame (Cond.code yX3_frame cX3_frame 2 (some .int) :: wT) rm_X3_frame (va_Pc [.ref (gx_q G 0), .int a1] (gx_S G 50 (gc_mk G) σ)) (gx_QR (some (.int r))) 0 0 (fun _ => False) := by
  refine Met.ofW (cc := cX3_frame) (maxL := 2) (ret := (some .int)) (by decide) rfl ?_
  intro p e s m args below meth c s₁ B hml hv
  obtain ⟨rfl, hH, hE⟩ := hv
  have C := gx_C.of (G := G) B hml hE
  have hx := C.1.1
  have hb := C.1.2.1
  have hr := B.returns
  have hlocks := B.notSynchronized
  have hS : va_S (gx_A G) s.heap s.heap [] := va_S.rf
  have hl := lv_entry ([.ref (gx_q G 0), .int a1]) (n := 2) (Nat.le_of_ble_eq_true rfl)
  rw [lg_entry_eq]
  generalize (lg_sl ([.ref (gx_q G 0), .int a1]) ++ List.replicate (2 - (lg_sl ([.ref (gx_q G 0), .int a1])).length) Slot.unset).toArray = ls at hl ⊢
  have hl : lv_has ls 2 [(0, .ref (gx_q G 0)), (1, .int a1)] := hl
  unfold f_X3_frame at hf
  refine lv_iload_n hx hb dX3_frame_0 rfl (lv_at hl 1 rfl) ?_
  refine lv_iconst (v := (0 : Int32)) hx hb dX3_frame_1 (by decide) ?_
  refine lv_ldc hx hb C.1.2.2.2.1 (C.1.2.2.2.2 _ kw_404) dX3_frame_2 ?_
  obtain ⟨r1, hr1, hf⟩ := gx_bnd hf
  refine gx_sR (v := (some (.int r1))) (rest := []) C hH hS [.int a1, .int (0 : Int32), .int (1000000 : Int32)] (t_X3_isWithin l G σ a1 (0 : Int32) (1000000 : Int32) r1  hr1) lk_X3_102 ⟨rfl, rfl, Nat.le_of_ble_eq_true rfl, Nat.le_of_ble_eq_true rfl⟩ ⟨Nat.zero_le _, Nat.zero_le _⟩ hl.1 rfl (Nat.le_of_ble_eq_true rfl) dX3_frame_4 ?_
  refine gx_e0 (st := [.int r1]) ?_ rfl
  refine lv_if_ne (tgt := 13) hx hb dX3_frame_7 (by decide) (fun hc2 => ?_) (fun hc2 => ?_)
  · have hf := gx_neg hc2 hf
    refine lv_sipush (v := (1000 : Int32)) hx hb dX3_frame_13 (by decide) ?_
    refine lv_iload_n hx hb dX3_frame_16 rfl (lv_at hl 1 rfl) ?_
    refine lv_imul hx hb dX3_frame_17 ?_
    refine lv_aload_n hx hb dX3_frame_18 rfl (lv_at hl 0 rfl) ?_
    refine gx_get C hH 0 (by decide) rfl fl_X3_56 rfl dX3_frame_19 ?_
    obtain ⟨r3, hr3, hf⟩ := gx_bnd hf
    refine gx_sR (v := (some (.int r3))) (rest := []) C hH hS [.int ((1000 : Int32) * a1), .int (σ 0 12)] (t_X3_quotient l G σ ((1000 : Int32) * a1) (σ 0 12) r3  hr3) lk_X3_212 ⟨rfl, rfl, Nat.le_of_ble_eq_true rfl, Nat.le_of_ble_eq_true rfl⟩ ⟨Nat.zero_le _, Nat.zero_le _⟩ hl.1 rfl (Nat.le_of_ble_eq_true rfl) dX3_frame_22 ?_
    refine gx_e0 (st := [.int r3]) ?_ rfl
    obtain rfl := Option.some.inj hf
    exact gx_iretR C hr hlocks dX3_frame_25
  · have hf := gx_pos hc2 hf
    refine lv_bipush (v := (-2 : Int32)) hx hb dX3_frame_10 (by decide) ?_
    obtain rfl := Option.some.inj hf
    exact gx_iretR C hr hlocks dX3_frame_12
abbrev rm_X3_frames : Room := { frames := 0, cells := 0, slots := 0, locals := 0 }
def f_X3_frames (σ : gx_St) : Option Int32 :=
  some (((((σ 0 12).toInt64 * ((σ 0 7) + (1 : Int32)).toInt64) + (999 : Int64)) / (1000 : Int64))).toInt32
set_option maxHeartbeats 4000000 in
set_option maxRecDepth 100000 in
theorem t_X3_frames (l : Launch) (G : gx_G) (σ : gx_St) (r : Int32)  (hf : f_X3_frames σ = some r) : Met l yX3_frames (Cond.code yX3_frames cX3_frames 3 (some .int) :: wT) rm_X3_frames (va_Pc [.ref (gx_q G 0)] (gx_S G 50 (gc_mk G) σ)) (gx_QR (some (.int r))) 0 0 (fun _ => False) := by
  refine Met.ofW (cc := cX3_frames) (maxL := 3) (ret := (some .int)) (by decide) rfl ?_
  intro p e s m args below meth c s₁ B hml hv
  obtain ⟨rfl, hH, hE⟩ := hv
  have C := gx_C.of (G := G) B hml hE
  have hx := C.1.1
  have hb := C.1.2.1
  have hr := B.returns
  have hlocks := B.notSynchronized
  have hS : va_S (gx_A G) s.heap s.heap [] := va_S.rf
  have hl := lv_entry ([.ref (gx_q G 0)]) (n := 3) (Nat.le_of_ble_eq_true rfl)
  rw [lg_entry_eq]
  generalize (lg_sl ([.ref (gx_q G 0)]) ++ List.replicate (3 - (lg_sl ([.ref (gx_q G 0)])).length) Slot.unset).toArray = ls at hl ⊢
  have hl : lv_has ls 3 [(0, .ref (gx_q G 0))] := hl
  unfold f_X3_frames at hf
  refine lv_aload_n hx hb dX3_frames_0 rfl (lv_at hl 0 rfl) ?_
  refine gx_get C hH 0 (by decide) rfl fl_X3_56 rfl dX3_frames_1 ?_
  refine lv_i2l (v := (σ 0 12).toInt64) hx hb dX3_frames_4 rfl ?_
  refine lv_aload_n hx hb dX3_frames_5 rfl (lv_at hl 0 rfl) ?_
  refine gx_get C hH 0 (by decide) rfl fl_X3_40 rfl dX3_frames_6 ?_
  refine lv_iconst (v := (1 : Int32)) hx hb dX3_frames_9 (by decide) ?_
  refine lv_iadd hx hb dX3_frames_10 ?_
  refine lv_i2l (v := ((σ 0 7) + (1 : Int32)).toInt64) hx hb dX3_frames_11 rfl ?_
  refine lv_lmul hx hb dX3_frames_12 ?_
  refine lv_lstore_n (lv' := [(1, .long ((σ 0 12).toInt64 * ((σ 0 7) + (1 : Int32)).toInt64)), (0, .ref (gx_q G 0))]) hx hb dX3_frames_13 rfl hl (by decide) rfl (fun ls hl => ?_)
  refine lv_lload_n hx hb dX3_frames_14 rfl (lv_at hl 0 rfl) ?_
  refine lv_ldc2 hx hb C.1.2.2.2.1 (C.1.2.2.2.2 _ kw_410) dX3_frames_15 ?_
  refine lv_ladd hx hb dX3_frames_18 ?_
  refine lv_ldc2 hx hb C.1.2.2.2.1 (C.1.2.2.2.2 _ kw_411) dX3_frames_19 ?_
  refine lv_ldiv hx hb dX3_frames_22 (by decide) ?_
  refine lv_l2i (v := (((((σ 0 12).toInt64 * ((σ 0 7) + (1 : Int32)).toInt64) + (999 : Int64)) / (1000 : Int64))).toInt32) hx hb dX3_frames_23 rfl ?_
  obtain rfl := Option.some.inj hf
  exact gx_iretR C hr hlocks dX3_frames_24
abbrev rm_X3_endOfPush : Room := { frames := 1, cells := 0, slots := 0, locals := 21 }
def f_X3_endOfPush (σ : gx_St) (a1 : Int32) : Option Int32 :=
  (f_X3_lossAt σ ).bind fun r1 =>
  gx_lt (if r1 < ((σ 0 7) + a1) then r1 else ((σ 0 7) + a1)) fun x2 =>
  some x2
set_option maxHeartbeats 4000000 in
set_option maxRecDepth 100000 in
theorem t_X3_endOfPush (l : Launch) (G : gx_G) (σ : gx_St) (a1 : Int32) (r : Int32)  (hf : f_X3_endOfPush σ a1 = some r) : Met l yX3_endOfPush (Cond.code yX3_endOfPush cX3_endOfPush 2 (some .int) :: wT) rm_X3_endOfPush (va_Pc [.ref (gx_q G 0), .int a1] (gx_S G 50 (gc_mk G) σ)) (gx_QR (some (.int r))) 0 0 (fun _ => False) := by
  refine Met.ofW (cc := cX3_endOfPush) (maxL := 2) (ret := (some .int)) (by decide) rfl ?_
  intro p e s m args below meth c s₁ B hml hv
  obtain ⟨rfl, hH, hE⟩ := hv
  have C := gx_C.of (G := G) B hml hE
  have hx := C.1.1
  have hb := C.1.2.1
  have hr := B.returns
  have hlocks := B.notSynchronized
  have hS : va_S (gx_A G) s.heap s.heap [] := va_S.rf
  have hl := lv_entry ([.ref (gx_q G 0), .int a1]) (n := 2) (Nat.le_of_ble_eq_true rfl)
  rw [lg_entry_eq]
  generalize (lg_sl ([.ref (gx_q G 0), .int a1]) ++ List.replicate (2 - (lg_sl ([.ref (gx_q G 0), .int a1])).length) Slot.unset).toArray = ls at hl ⊢
  have hl : lv_has ls 2 [(0, .ref (gx_q G 0)), (1, .int a1)] := hl
  unfold f_X3_endOfPush at hf
  refine lv_aload_n hx hb dX3_endOfPush_0 rfl (lv_at hl 0 rfl) ?_
  refine gx_get C hH 0 (by decide) rfl fl_X3_40 rfl dX3_endOfPush_1 ?_
  refine lv_iload_n hx hb dX3_endOfPush_4 rfl (lv_at hl 1 rfl) ?_
  refine lv_iadd hx hb dX3_endOfPush_5 ?_
  refine lv_aload_n hx hb dX3_endOfPush_6 rfl (lv_at hl 0 rfl) ?_
  obtain ⟨r1, hr1, hf⟩ := gx_bnd hf
  refine gx_vR (v := (some (.int r1))) (rest := [.int ((σ 0 7) + a1)]) C hH hS 0 (by decide) rfl rfl [] (t_X3_lossAt l G σ  r1  hr1) lk_X3_170 ⟨rfl, rfl, Nat.le_of_ble_eq_true rfl, Nat.le_of_ble_eq_true rfl⟩ ⟨Nat.zero_le _, Nat.zero_le _⟩ hl.1 rfl (Nat.le_of_ble_eq_true rfl) dX3_endOfPush_7 ?_
  refine gx_e0 (st := [.int r1, .int ((σ 0 7) + a1)]) ?_ rfl
  refine va_mmin hx hb (C.1.2.2.1.trans hl.1.symm) C.1.2.2.2.1 (C.1.2.2.2.2 _ kw_292) (C.1.2.2.2.2 _ kw_293) (C.1.2.2.2.2 _ kw_6) (C.1.2.2.2.2 _ kw_294) (Nat.le_of_ble_eq_true rfl) (Nat.le_of_ble_eq_true rfl) (Nat.zero_le _) (Nat.zero_le _) dX3_endOfPush_10 ?_
  refine lv_topi (fun x2 hx2 => ?_)
  have hf := gx_let hf x2 hx2
  obtain rfl := Option.some.inj hf
  exact gx_iretR C hr hlocks dX3_endOfPush_13
abbrev rm_X3_peak : Room := { frames := 5, cells := 0, slots := 0, locals := 116 }
def fL_X3_peak_54 : Nat → gx_St → Int32 → Int32 → Int32 → Int32 → Int32 → Int32 → Option Int32
  | 0, _, _, _, _, _, _, _ => none
  | N + 1, σ, v1, v3, v4, v5, v6, v7 =>
    if v6 ≤ v7 then (if v3 = 0 then (some v4) else (some (v5 - (σ 0 7)))) else (if (v1 < 0 ∨ 2 ≤ v1.toNatClampNeg) then none else
    (f_X3_rawAt σ v7 v1).bind fun r15 =>
    gx_lt (if 0 ≤ r15 then r15 else 0 - r15) fun x16 =>
    if x16 ≤ v4 then (gx_lt (v7 + (1 : Int32)) fun x18 =>
    fL_X3_peak_54 N σ v1 v3 v4 v5 v6 x18) else (gx_lt (v7 + (1 : Int32)) fun x19 =>
    fL_X3_peak_54 N σ v1 v3 x16 v7 v6 x19))
set_option maxHeartbeats 4000000 in
set_option maxRecDepth 100000 in
theorem w_X3_peak_54 {p : Program} {l : Launch} {e : Env} {s : State} {m : MethodId} {args : Array Value} {below : List Frame} {meth : Method} {c : Code} (G : gx_G) (C : gx_C p m c cX3_peak 9 s args RX3 G) (hr : meth.sig.returnType = (some .int)) (hlocks : meth.locks = false) (σ : gx_St) (hH : gx_H G 50 (gc_mk G) σ s.heap) : ∀ (N : Nat) (v1 v3 v4 v5 v6 v7 : Int32)  (z : Int32), fL_X3_peak_54 N σ v1 v3 v4 v5 v6 v7 = some z → ∀ (ls : Array Slot), lv_has ls 9 [(0, .ref (gx_q G 0)), (1, .int v1), (3, .int v3), (4, .int v4), (5, .int v5), (6, .int v6), (7, .int v7)] → W p l e rm_X3_peak s m args below meth c s.heap [] 0 0 (MQ below (gx_QR (some (.int z))) args s 0 0 (fun _ => False)) (F0 m 54 ls []) := by
  have hx := C.1.1
  have hb := C.1.2.1
  have hS : va_S (gx_A G) s.heap s.heap [] := va_S.rf
  intro N
  induction N with
  | zero =>
    intro v1 v3 v4 v5 v6 v7  z hf ls hl
    cases (show (none : Option Int32) = some z from hf)
  | succ N ih =>
    intro v1 v3 v4 v5 v6 v7  z hf ls hl
    rw [fL_X3_peak_54] at hf
    refine lv_iload hx hb dX3_peak_54 (lv_at hl 6 rfl) ?_
    refine lv_iload hx hb dX3_peak_56 (lv_at hl 5 rfl) ?_
    refine lv_icmp_ge (tgt := 99) hx hb dX3_peak_58 (by decide) (fun hc10 => ?_) (fun hc10 => ?_)
    · have hf := gx_pos hc10 hf
      refine lv_iload_n hx hb dX3_peak_99 rfl (lv_at hl 2 rfl) ?_
      refine lv_if_ne (tgt := 108) hx hb dX3_peak_100 (by decide) (fun hc11 => ?_) (fun hc11 => ?_)
      · have hf := gx_neg hc11 hf
        refine lv_iload hx hb dX3_peak_108 (lv_at hl 4 rfl) ?_
        refine lv_aload_n hx hb dX3_peak_110 rfl (lv_at hl 0 rfl) ?_
        refine gx_get C hH 0 (by decide) rfl fl_X3_40 rfl dX3_peak_111 ?_
        refine lv_isub hx hb dX3_peak_114 ?_
        obtain rfl := Option.some.inj hf
        exact gx_iretR C hr hlocks dX3_peak_115
      · have hf := gx_pos hc11 hf
        refine lv_iload hx hb dX3_peak_103 (lv_at hl 3 rfl) ?_
        refine lv_goto (tgt := 115) hx hb dX3_peak_105 (by decide) ?_
        obtain rfl := Option.some.inj hf
        exact gx_iretR C hr hlocks dX3_peak_115
    · have hf := gx_neg hc10 hf
      refine lv_aload_n hx hb dX3_peak_61 rfl (lv_at hl 0 rfl) ?_
      refine lv_iload hx hb dX3_peak_62 (lv_at hl 6 rfl) ?_
      refine lv_aload_n hx hb dX3_peak_64 rfl (lv_at hl 0 rfl) ?_
      refine gx_get C hH 0 (by decide) rfl fl_X3_27 rfl dX3_peak_65 ?_
      refine lv_iload_n hx hb dX3_peak_68 rfl (lv_at hl 1 rfl) ?_
      obtain ⟨hb12, hf⟩ := gx_chk hf
      have hl13 := gx_lt12 hb12
      have hn14 := gx_ne9 hb12
      refine gx_aaldR C hH 3 (by decide) 3 rfl rfl hb12 rfl dX3_peak_69 ?_
      obtain ⟨r15, hr15, hf⟩ := gx_bnd hf
      refine gx_vR (v := (some (.int r15))) (rest := []) C hH hS 0 (by decide) rfl rfl [.int v7, .ref (gx_q G (44 + 1 * v1.toNatClampNeg))] (t_X3_rawAt l G σ v7 v1 r15 hl13 hr15) lk_X3_204 ⟨rfl, rfl, Nat.le_of_ble_eq_true rfl, Nat.le_of_ble_eq_true rfl⟩ ⟨Nat.zero_le _, Nat.zero_le _⟩ hl.1 rfl (Nat.le_of_ble_eq_true rfl) dX3_peak_70 ?_
      refine gx_e0 (st := [.int r15]) ?_ rfl
      refine va_mabs hx hb (C.1.2.2.1.trans hl.1.symm) C.1.2.2.2.1 (C.1.2.2.2.2 _ kw_420) (C.1.2.2.2.2 _ kw_348) (C.1.2.2.2.2 _ kw_6) (C.1.2.2.2.2 _ kw_349) (Nat.le_of_ble_eq_true rfl) (Nat.le_of_ble_eq_true rfl) (Nat.zero_le _) (Nat.zero_le _) dX3_peak_73 ?_
      refine lv_topi (fun x16 hx16 => ?_)
      have hf := gx_let hf x16 hx16
      refine lv_istore (lv' := [(8, .int x16), (0, .ref (gx_q G 0)), (1, .int v1), (3, .int v3), (4, .int v4), (5, .int v5), (6, .int v6), (7, .int v7)]) hx hb dX3_peak_76 hl (by decide) rfl (fun ls hl => ?_)
      refine lv_iload hx hb dX3_peak_78 (lv_at hl 0 rfl) ?_
      refine lv_iload hx hb dX3_peak_80 (lv_at hl 4 rfl) ?_
      refine lv_icmp_le (tgt := 93) hx hb dX3_peak_82 (by decide) (fun hc17 => ?_) (fun hc17 => ?_)
      · have hf := gx_pos hc17 hf
        obtain ⟨x18, hx18⟩ : ∃ z : Int32, z = (v7 + (1 : Int32)) := ⟨_, rfl⟩
        have hf := gx_let hf x18 hx18
        refine lv_iinc (v := x18) (lv' := [(7, .int x18), (8, .int x16), (0, .ref (gx_q G 0)), (1, .int v1), (3, .int v3), (4, .int v4), (5, .int v5), (6, .int v6)]) hx hb dX3_peak_93 hl (k := 7) rfl (by rw [hx18]; rfl) (by decide) rfl (fun ls hl => ?_)
        refine lv_goto (tgt := 54) hx hb dX3_peak_96 (by decide) ?_
        exact ih v1 v3 v4 v5 v6 x18  _ hf ls (lv_sub hl [2, 3, 4, 5, 6, 7, 0] rfl)
      · have hf := gx_neg hc17 hf
        refine lv_iload hx hb dX3_peak_85 (lv_at hl 0 rfl) ?_
        refine lv_istore (lv' := [(4, .int x16), (8, .int x16), (0, .ref (gx_q G 0)), (1, .int v1), (3, .int v3), (5, .int v5), (6, .int v6), (7, .int v7)]) hx hb dX3_peak_87 hl (by decide) rfl (fun ls hl => ?_)
        refine lv_iload hx hb dX3_peak_89 (lv_at hl 7 rfl) ?_
        refine lv_istore (lv' := [(5, .int v7), (4, .int x16), (8, .int x16), (0, .ref (gx_q G 0)), (1, .int v1), (3, .int v3), (6, .int v6), (7, .int v7)]) hx hb dX3_peak_91 hl (by decide) rfl (fun ls hl => ?_)
        obtain ⟨x19, hx19⟩ : ∃ z : Int32, z = (v7 + (1 : Int32)) := ⟨_, rfl⟩
        have hf := gx_let hf x19 hx19
        refine lv_iinc (v := x19) (lv' := [(7, .int x19), (5, .int v7), (4, .int x16), (8, .int x16), (0, .ref (gx_q G 0)), (1, .int v1), (3, .int v3), (6, .int v6)]) hx hb dX3_peak_93 hl (k := 7) rfl (by rw [hx19]; rfl) (by decide) rfl (fun ls hl => ?_)
        refine lv_goto (tgt := 54) hx hb dX3_peak_96 (by decide) ?_
        exact ih v1 v3 x16 v7 v6 x19  _ hf ls (lv_sub hl [4, 5, 6, 2, 1, 7, 0] rfl)
def f_X3_peak (σ : gx_St) (a1 a2 a3 : Int32) : Option Int32 :=
  (f_X3_isAxis a1).bind fun r1 =>
  if r1 = 0 then (some (-1 : Int32)) else ((f_X3_isWithin a2 (1 : Int32) (2000 : Int32)).bind fun r3 =>
  if r3 = 0 then (some (-2 : Int32)) else ((f_X3_isWithin a3 (0 : Int32) (1 : Int32)).bind fun r5 =>
  if r5 = 0 then (some (-2 : Int32)) else (gx_lt (σ 0 7) fun x7 =>
  (f_X3_endOfPush σ a2).bind fun r8 =>
  gx_lt (σ 0 7) fun x9 =>
  fL_X3_peak_54 2001 σ a1 a3 (0 : Int32) x7 r8 x9)))
set_option maxHeartbeats 4000000 in
set_option maxRecDepth 100000 in
theorem t_X3_peak (l : Launch) (G : gx_G) (σ : gx_St) (a1 a2 a3 : Int32) (r : Int32)  (hf : f_X3_peak σ a1 a2 a3 = some r) : Met l yX3_peak (Cond.code yX3_peak cX3_peak 9 (some .int) :: wT) rm_X3_peak (va_Pc [.ref (gx_q G 0), .int a1, .int a2, .int a3] (gx_S G 50 (gc_mk G) σ)) (gx_QR (some (.int r))) 0 0 (fun _ => False) := by
  refine Met.ofW (cc := cX3_peak) (maxL := 9) (ret := (some .int)) (by decide) rfl ?_
  intro p e s m args below meth c s₁ B hml hv
  obtain ⟨rfl, hH, hE⟩ := hv
  have C := gx_C.of (G := G) B hml hE
  have hx := C.1.1
  have hb := C.1.2.1
  have hr := B.returns
  have hlocks := B.notSynchronized
  have hS : va_S (gx_A G) s.heap s.heap [] := va_S.rf
  have hl := lv_entry ([.ref (gx_q G 0), .int a1, .int a2, .int a3]) (n := 9) (Nat.le_of_ble_eq_true rfl)
  rw [lg_entry_eq]
  generalize (lg_sl ([.ref (gx_q G 0), .int a1, .int a2, .int a3]) ++ List.replicate (9 - (lg_sl ([.ref (gx_q G 0), .int a1, .int a2, .int a3])).length) Slot.unset).toArray = ls at hl ⊢
  have hl : lv_has ls 9 [(0, .ref (gx_q G 0)), (1, .int a1), (2, .int a2), (3, .int a3)] := hl
  unfold f_X3_peak at hf
  refine lv_iload_n hx hb dX3_peak_0 rfl (lv_at hl 1 rfl) ?_
  obtain ⟨r1, hr1, hf⟩ := gx_bnd hf
  refine gx_sR (v := (some (.int r1))) (rest := []) C hH hS [.int a1] (t_X3_isAxis l G σ a1 r1  hr1) lk_X3_110 ⟨rfl, rfl, Nat.le_of_ble_eq_true rfl, Nat.le_of_ble_eq_true rfl⟩ ⟨Nat.zero_le _, Nat.zero_le _⟩ hl.1 rfl (Nat.le_of_ble_eq_true rfl) dX3_peak_1 ?_
  refine gx_e0 (st := [.int r1]) ?_ rfl
  refine lv_if_ne (tgt := 9) hx hb dX3_peak_4 (by decide) (fun hc2 => ?_) (fun hc2 => ?_)
  · have hf := gx_neg hc2 hf
    refine lv_iload_n hx hb dX3_peak_9 rfl (lv_at hl 2 rfl) ?_
    refine lv_iconst (v := (1 : Int32)) hx hb dX3_peak_10 (by decide) ?_
    refine lv_sipush (v := (2000 : Int32)) hx hb dX3_peak_11 (by decide) ?_
    obtain ⟨r3, hr3, hf⟩ := gx_bnd hf
    refine gx_sR (v := (some (.int r3))) (rest := []) C hH hS [.int a2, .int (1 : Int32), .int (2000 : Int32)] (t_X3_isWithin l G σ a2 (1 : Int32) (2000 : Int32) r3  hr3) lk_X3_102 ⟨rfl, rfl, Nat.le_of_ble_eq_true rfl, Nat.le_of_ble_eq_true rfl⟩ ⟨Nat.zero_le _, Nat.zero_le _⟩ hl.1 rfl (Nat.le_of_ble_eq_true rfl) dX3_peak_14 ?_
    refine gx_e0 (st := [.int r3]) ?_ rfl
    refine lv_if_eq (tgt := 29) hx hb dX3_peak_17 (by decide) (fun hc4 => ?_) (fun hc4 => ?_)
    · have hf := gx_pos hc4 hf
      refine lv_bipush (v := (-2 : Int32)) hx hb dX3_peak_29 (by decide) ?_
      obtain rfl := Option.some.inj hf
      exact gx_iretR C hr hlocks dX3_peak_31
    · have hf := gx_neg hc4 hf
      refine lv_iload_n hx hb dX3_peak_20 rfl (lv_at hl 3 rfl) ?_
      refine lv_iconst (v := (0 : Int32)) hx hb dX3_peak_21 (by decide) ?_
      refine lv_iconst (v := (1 : Int32)) hx hb dX3_peak_22 (by decide) ?_
      obtain ⟨r5, hr5, hf⟩ := gx_bnd hf
      refine gx_sR (v := (some (.int r5))) (rest := []) C hH hS [.int a3, .int (0 : Int32), .int (1 : Int32)] (t_X3_isWithin l G σ a3 (0 : Int32) (1 : Int32) r5  hr5) lk_X3_102 ⟨rfl, rfl, Nat.le_of_ble_eq_true rfl, Nat.le_of_ble_eq_true rfl⟩ ⟨Nat.zero_le _, Nat.zero_le _⟩ hl.1 rfl (Nat.le_of_ble_eq_true rfl) dX3_peak_23 ?_
      refine gx_e0 (st := [.int r5]) ?_ rfl
      refine lv_if_ne (tgt := 32) hx hb dX3_peak_26 (by decide) (fun hc6 => ?_) (fun hc6 => ?_)
      · have hf := gx_neg hc6 hf
        refine lv_iconst (v := (0 : Int32)) hx hb dX3_peak_32 (by decide) ?_
        refine lv_istore (lv' := [(4, .int (0 : Int32)), (0, .ref (gx_q G 0)), (1, .int a1), (2, .int a2), (3, .int a3)]) hx hb dX3_peak_33 hl (by decide) rfl (fun ls hl => ?_)
        refine lv_aload_n hx hb dX3_peak_35 rfl (lv_at hl 1 rfl) ?_
        refine gx_get C hH 0 (by decide) rfl fl_X3_40 rfl dX3_peak_36 ?_
        refine lv_topi (fun x7 hx7 => ?_)
        have hf := gx_let hf x7 hx7
        refine lv_istore (lv' := [(5, .int x7), (4, .int (0 : Int32)), (0, .ref (gx_q G 0)), (1, .int a1), (2, .int a2), (3, .int a3)]) hx hb dX3_peak_39 hl (by decide) rfl (fun ls hl => ?_)
        refine lv_aload_n hx hb dX3_peak_41 rfl (lv_at hl 2 rfl) ?_
        refine lv_iload_n hx hb dX3_peak_42 rfl (lv_at hl 4 rfl) ?_
        obtain ⟨r8, hr8, hf⟩ := gx_bnd hf
        refine gx_vR (v := (some (.int r8))) (rest := []) C hH hS 0 (by decide) rfl rfl [.int a2] (t_X3_endOfPush l G σ a2 r8  hr8) lk_X3_219 ⟨rfl, rfl, Nat.le_of_ble_eq_true rfl, Nat.le_of_ble_eq_true rfl⟩ ⟨Nat.zero_le _, Nat.zero_le _⟩ hl.1 rfl (Nat.le_of_ble_eq_true rfl) dX3_peak_43 ?_
        refine gx_e0 (st := [.int r8]) ?_ rfl
        refine lv_istore (lv' := [(6, .int r8), (5, .int x7), (4, .int (0 : Int32)), (0, .ref (gx_q G 0)), (1, .int a1), (2, .int a2), (3, .int a3)]) hx hb dX3_peak_46 hl (by decide) rfl (fun ls hl => ?_)
        refine lv_aload_n hx hb dX3_peak_48 rfl (lv_at hl 3 rfl) ?_
        refine gx_get C hH 0 (by decide) rfl fl_X3_40 rfl dX3_peak_49 ?_
        refine lv_topi (fun x9 hx9 => ?_)
        have hf := gx_let hf x9 hx9
        refine lv_istore (lv' := [(7, .int x9), (6, .int r8), (5, .int x7), (4, .int (0 : Int32)), (0, .ref (gx_q G 0)), (1, .int a1), (2, .int a2), (3, .int a3)]) hx hb dX3_peak_52 hl (by decide) rfl (fun ls hl => ?_)
        exact w_X3_peak_54 (l := l) G C hr hlocks σ hH 2001 a1 a3 (0 : Int32) x7 r8 x9  _ hf ls (lv_sub hl [4, 5, 7, 3, 2, 1, 0] rfl)
      · have hf := gx_pos hc6 hf
        refine lv_bipush (v := (-2 : Int32)) hx hb dX3_peak_29 (by decide) ?_
        obtain rfl := Option.some.inj hf
        exact gx_iretR C hr hlocks dX3_peak_31
  · have hf := gx_pos hc2 hf
    refine lv_iconst (v := (-1 : Int32)) hx hb dX3_peak_7 (by decide) ?_
    obtain rfl := Option.some.inj hf
    exact gx_iretR C hr hlocks dX3_peak_8
abbrev rm_X3_isHeldBack : Room := { frames := 0, cells := 0, slots := 0, locals := 0 }
def f_X3_isHeldBack (a0 : Int32) : Option Int32 :=
  if (1000 : Int32) < a0 then (some (1 : Int32)) else (if (-1000 : Int32) ≤ a0 then (some (0 : Int32)) else (some (1 : Int32)))
set_option maxHeartbeats 4000000 in
set_option maxRecDepth 100000 in
theorem t_X3_isHeldBack (l : Launch) (G : gx_G) (σ : gx_St) (a0 : Int32) (r : Int32)  (hf : f_X3_isHeldBack a0 = some r) : Met l yX3_isHeldBack (Cond.code yX3_isHeldBack cX3_isHeldBack 1 (some .boolean) :: wT) rm_X3_isHeldBack (va_Pc [.int a0] (gx_S G 50 (gc_mk G) σ)) (gx_QR (some (.int r))) 0 0 (fun _ => False) := by
  refine Met.ofW (cc := cX3_isHeldBack) (maxL := 1) (ret := (some .boolean)) (by decide) rfl ?_
  intro p e s m args below meth c s₁ B hml hv
  obtain ⟨rfl, hH, hE⟩ := hv
  have C := gx_C.of (G := G) B hml hE
  have hx := C.1.1
  have hb := C.1.2.1
  have hr := B.returns
  have hlocks := B.notSynchronized
  have hS : va_S (gx_A G) s.heap s.heap [] := va_S.rf
  have hl := lv_entry ([.int a0]) (n := 1) (Nat.le_of_ble_eq_true rfl)
  rw [lg_entry_eq]
  generalize (lg_sl ([.int a0]) ++ List.replicate (1 - (lg_sl ([.int a0])).length) Slot.unset).toArray = ls at hl ⊢
  have hl : lv_has ls 1 [(0, .int a0)] := hl
  unfold f_X3_isHeldBack at hf
  refine lv_iload_n hx hb dX3_isHeldBack_0 rfl (lv_at hl 0 rfl) ?_
  refine lv_sipush (v := (1000 : Int32)) hx hb dX3_isHeldBack_1 (by decide) ?_
  refine lv_icmp_gt (tgt := 14) hx hb dX3_isHeldBack_4 (by decide) (fun hc1 => ?_) (fun hc1 => ?_)
  · have hf := gx_pos hc1 hf
    refine lv_iconst (v := (1 : Int32)) hx hb dX3_isHeldBack_14 (by decide) ?_
    refine lv_goto (tgt := 19) hx hb dX3_isHeldBack_15 (by decide) ?_
    obtain rfl := Option.some.inj hf
    exact gx_zretR C hr hlocks (by decide) dX3_isHeldBack_19
  · have hf := gx_neg hc1 hf
    refine lv_iload_n hx hb dX3_isHeldBack_7 rfl (lv_at hl 0 rfl) ?_
    refine lv_sipush (v := (-1000 : Int32)) hx hb dX3_isHeldBack_8 (by decide) ?_
    refine lv_icmp_ge (tgt := 18) hx hb dX3_isHeldBack_11 (by decide) (fun hc2 => ?_) (fun hc2 => ?_)
    · have hf := gx_pos hc2 hf
      refine lv_iconst (v := (0 : Int32)) hx hb dX3_isHeldBack_18 (by decide) ?_
      obtain rfl := Option.some.inj hf
      exact gx_zretR C hr hlocks (by decide) dX3_isHeldBack_19
    · have hf := gx_neg hc2 hf
      refine lv_iconst (v := (1 : Int32)) hx hb dX3_isHeldBack_14 (by decide) ?_
      refine lv_goto (tgt := 19) hx hb dX3_isHeldBack_15 (by decide) ?_
      obtain rfl := Option.some.inj hf
      exact gx_zretR C hr hlocks (by decide) dX3_isHeldBack_19
abbrev rm_X3_soLong : Room := { frames := 5, cells := 0, slots := 0, locals := 116 }
def fL_X3_soLong_28 : Nat → gx_St → Int32 → Int32 → Int32 → Option Int32
  | 0, _, _, _, _ => none
  | N + 1, σ, v2, v3, v4 =>
    if v3 ≤ v4 then (some v2) else (if ((0 : Int32) < 0 ∨ 2 ≤ (0 : Int32).toNatClampNeg) then none else
    (f_X3_rawAt σ v4 (0 : Int32)).bind fun r9 =>
    (f_X3_isHeldBack r9).bind fun r10 =>
    if r10 = 0 then (if ((1 : Int32) < 0 ∨ 2 ≤ (1 : Int32).toNatClampNeg) then none else
    (f_X3_rawAt σ v4 (1 : Int32)).bind fun r17 =>
    (f_X3_isHeldBack r17).bind fun r18 =>
    if r18 = 0 then (gx_lt (v4 + (1 : Int32)) fun x20 =>
    fL_X3_soLong_28 N σ v2 v3 x20) else (gx_lt (v2 + (1 : Int32)) fun x21 =>
    gx_lt (v4 + (1 : Int32)) fun x22 =>
    fL_X3_soLong_28 N σ x21 v3 x22)) else (gx_lt (v2 + (1 : Int32)) fun x12 =>
    gx_lt (v4 + (1 : Int32)) fun x13 =>
    fL_X3_soLong_28 N σ x12 v3 x13))
set_option maxHeartbeats 4000000 in
set_option maxRecDepth 100000 in
theorem w_X3_soLong_28 {p : Program} {l : Launch} {e : Env} {s : State} {m : MethodId} {args : Array Value} {below : List Frame} {meth : Method} {c : Code} (G : gx_G) (C : gx_C p m c cX3_soLong 5 s args RX3 G) (hr : meth.sig.returnType = (some .int)) (hlocks : meth.locks = false) (σ : gx_St) (hH : gx_H G 50 (gc_mk G) σ s.heap) : ∀ (N : Nat) (v2 v3 v4 : Int32)  (z : Int32), fL_X3_soLong_28 N σ v2 v3 v4 = some z → ∀ (ls : Array Slot), lv_has ls 5 [(0, .ref (gx_q G 0)), (2, .int v2), (3, .int v3), (4, .int v4)] → W p l e rm_X3_soLong s m args below meth c s.heap [] 0 0 (MQ below (gx_QR (some (.int z))) args s 0 0 (fun _ => False)) (F0 m 28 ls []) := by
  have hx := C.1.1
  have hb := C.1.2.1
  have hS : va_S (gx_A G) s.heap s.heap [] := va_S.rf
  intro N
  induction N with
  | zero =>
    intro v2 v3 v4  z hf ls hl
    cases (show (none : Option Int32) = some z from hf)
  | succ N ih =>
    intro v2 v3 v4  z hf ls hl
    rw [fL_X3_soLong_28] at hf
    refine lv_iload hx hb dX3_soLong_28 (lv_at hl 3 rfl) ?_
    refine lv_iload_n hx hb dX3_soLong_30 rfl (lv_at hl 2 rfl) ?_
    refine lv_icmp_ge (tgt := 79) hx hb dX3_soLong_31 (by decide) (fun hc5 => ?_) (fun hc5 => ?_)
    · have hf := gx_pos hc5 hf
      refine lv_iload_n hx hb dX3_soLong_79 rfl (lv_at hl 1 rfl) ?_
      obtain rfl := Option.some.inj hf
      exact gx_iretR C hr hlocks dX3_soLong_80
    · have hf := gx_neg hc5 hf
      refine lv_aload_n hx hb dX3_soLong_34 rfl (lv_at hl 0 rfl) ?_
      refine lv_iload hx hb dX3_soLong_35 (lv_at hl 3 rfl) ?_
      refine lv_aload_n hx hb dX3_soLong_37 rfl (lv_at hl 0 rfl) ?_
      refine gx_get C hH 0 (by decide) rfl fl_X3_27 rfl dX3_soLong_38 ?_
      refine lv_iconst (v := (0 : Int32)) hx hb dX3_soLong_41 (by decide) ?_
      obtain ⟨hb6, hf⟩ := gx_chk hf
      have hl7 := gx_lt12 hb6
      have hn8 := gx_ne9 hb6
      refine gx_aaldR C hH 3 (by decide) 3 rfl rfl hb6 rfl dX3_soLong_42 ?_
      obtain ⟨r9, hr9, hf⟩ := gx_bnd hf
      refine gx_vR (v := (some (.int r9))) (rest := []) C hH hS 0 (by decide) rfl rfl [.int v4, .ref (gx_q G (44 + 1 * (0 : Int32).toNatClampNeg))] (t_X3_rawAt l G σ v4 (0 : Int32) r9 hl7 hr9) lk_X3_204 ⟨rfl, rfl, Nat.le_of_ble_eq_true rfl, Nat.le_of_ble_eq_true rfl⟩ ⟨Nat.zero_le _, Nat.zero_le _⟩ hl.1 rfl (Nat.le_of_ble_eq_true rfl) dX3_soLong_43 ?_
      refine gx_e0 (st := [.int r9]) ?_ rfl
      obtain ⟨r10, hr10, hf⟩ := gx_bnd hf
      refine gx_sR (v := (some (.int r10))) (rest := []) C hH hS [.int r9] (t_X3_isHeldBack l G σ r9 r10  hr10) lk_X3_225 ⟨rfl, rfl, Nat.le_of_ble_eq_true rfl, Nat.le_of_ble_eq_true rfl⟩ ⟨Nat.zero_le _, Nat.zero_le _⟩ hl.1 rfl (Nat.le_of_ble_eq_true rfl) dX3_soLong_46 ?_
      refine gx_e0 (st := [.int r10]) ?_ rfl
      refine lv_if_ne (tgt := 70) hx hb dX3_soLong_49 (by decide) (fun hc11 => ?_) (fun hc11 => ?_)
      · have hf := gx_neg hc11 hf
        obtain ⟨x12, hx12⟩ : ∃ z : Int32, z = (v2 + (1 : Int32)) := ⟨_, rfl⟩
        have hf := gx_let hf x12 hx12
        refine lv_iinc (v := x12) (lv' := [(2, .int x12), (0, .ref (gx_q G 0)), (3, .int v3), (4, .int v4)]) hx hb dX3_soLong_70 hl (k := 1) rfl (by rw [hx12]; rfl) (by decide) rfl (fun ls hl => ?_)
        obtain ⟨x13, hx13⟩ : ∃ z : Int32, z = (v4 + (1 : Int32)) := ⟨_, rfl⟩
        have hf := gx_let hf x13 hx13
        refine lv_iinc (v := x13) (lv' := [(4, .int x13), (2, .int x12), (0, .ref (gx_q G 0)), (3, .int v3)]) hx hb dX3_soLong_73 hl (k := 3) rfl (by rw [hx13]; rfl) (by decide) rfl (fun ls hl => ?_)
        refine lv_goto (tgt := 28) hx hb dX3_soLong_76 (by decide) ?_
        exact ih x12 v3 x13  _ hf ls (lv_sub hl [2, 1, 3, 0] rfl)
      · have hf := gx_pos hc11 hf
        refine lv_aload_n hx hb dX3_soLong_52 rfl (lv_at hl 0 rfl) ?_
        refine lv_iload hx hb dX3_soLong_53 (lv_at hl 3 rfl) ?_
        refine lv_aload_n hx hb dX3_soLong_55 rfl (lv_at hl 0 rfl) ?_
        refine gx_get C hH 0 (by decide) rfl fl_X3_27 rfl dX3_soLong_56 ?_
        refine lv_iconst (v := (1 : Int32)) hx hb dX3_soLong_59 (by decide) ?_
        obtain ⟨hb14, hf⟩ := gx_chk hf
        have hl15 := gx_lt12 hb14
        have hn16 := gx_ne9 hb14
        refine gx_aaldR C hH 3 (by decide) 3 rfl rfl hb14 rfl dX3_soLong_60 ?_
        obtain ⟨r17, hr17, hf⟩ := gx_bnd hf
        refine gx_vR (v := (some (.int r17))) (rest := []) C hH hS 0 (by decide) rfl rfl [.int v4, .ref (gx_q G (44 + 1 * (1 : Int32).toNatClampNeg))] (t_X3_rawAt l G σ v4 (1 : Int32) r17 hl15 hr17) lk_X3_204 ⟨rfl, rfl, Nat.le_of_ble_eq_true rfl, Nat.le_of_ble_eq_true rfl⟩ ⟨Nat.zero_le _, Nat.zero_le _⟩ hl.1 rfl (Nat.le_of_ble_eq_true rfl) dX3_soLong_61 ?_
        refine gx_e0 (st := [.int r17]) ?_ rfl
        obtain ⟨r18, hr18, hf⟩ := gx_bnd hf
        refine gx_sR (v := (some (.int r18))) (rest := []) C hH hS [.int r17] (t_X3_isHeldBack l G σ r17 r18  hr18) lk_X3_225 ⟨rfl, rfl, Nat.le_of_ble_eq_true rfl, Nat.le_of_ble_eq_true rfl⟩ ⟨Nat.zero_le _, Nat.zero_le _⟩ hl.1 rfl (Nat.le_of_ble_eq_true rfl) dX3_soLong_64 ?_
        refine gx_e0 (st := [.int r18]) ?_ rfl
        refine lv_if_eq (tgt := 73) hx hb dX3_soLong_67 (by decide) (fun hc19 => ?_) (fun hc19 => ?_)
        · have hf := gx_pos hc19 hf
          obtain ⟨x20, hx20⟩ : ∃ z : Int32, z = (v4 + (1 : Int32)) := ⟨_, rfl⟩
          have hf := gx_let hf x20 hx20
          refine lv_iinc (v := x20) (lv' := [(4, .int x20), (0, .ref (gx_q G 0)), (2, .int v2), (3, .int v3)]) hx hb dX3_soLong_73 hl (k := 3) rfl (by rw [hx20]; rfl) (by decide) rfl (fun ls hl => ?_)
          refine lv_goto (tgt := 28) hx hb dX3_soLong_76 (by decide) ?_
          exact ih v2 v3 x20  _ hf ls (lv_sub hl [1, 2, 3, 0] rfl)
        · have hf := gx_neg hc19 hf
          obtain ⟨x21, hx21⟩ : ∃ z : Int32, z = (v2 + (1 : Int32)) := ⟨_, rfl⟩
          have hf := gx_let hf x21 hx21
          refine lv_iinc (v := x21) (lv' := [(2, .int x21), (0, .ref (gx_q G 0)), (3, .int v3), (4, .int v4)]) hx hb dX3_soLong_70 hl (k := 1) rfl (by rw [hx21]; rfl) (by decide) rfl (fun ls hl => ?_)
          obtain ⟨x22, hx22⟩ : ∃ z : Int32, z = (v4 + (1 : Int32)) := ⟨_, rfl⟩
          have hf := gx_let hf x22 hx22
          refine lv_iinc (v := x22) (lv' := [(4, .int x22), (2, .int x21), (0, .ref (gx_q G 0)), (3, .int v3)]) hx hb dX3_soLong_73 hl (k := 3) rfl (by rw [hx22]; rfl) (by decide) rfl (fun ls hl => ?_)
          refine lv_goto (tgt := 28) hx hb dX3_soLong_76 (by decide) ?_
          exact ih x21 v3 x22  _ hf ls (lv_sub hl [2, 1, 3, 0] rfl)
def f_X3_soLong (σ : gx_St) (a1 : Int32) : Option Int32 :=
  (f_X3_isWithin a1 (1 : Int32) (2000 : Int32)).bind fun r1 =>
  if r1 = 0 then (some (-2 : Int32)) else ((f_X3_endOfPush σ a1).bind fun r3 =>
  gx_lt (σ 0 7) fun x4 =>
  fL_X3_soLong_28 2001 σ (0 : Int32) r3 x4)
set_option maxHeartbeats 4000000 in
set_option maxRecDepth 100000 in
theorem t_X3_soLong (l : Launch) (G : gx_G) (σ : gx_St) (a1 : Int32) (r : Int32)  (hf : f_X3_soLong σ a1 = some r) : Met l yX3_soLong (Cond.code yX3_soLong cX3_soLong 5 (some .int) :: wT) rm_X3_soLong (va_Pc [.ref (gx_q G 0), .int a1] (gx_S G 50 (gc_mk G) σ)) (gx_QR (some (.int r))) 0 0 (fun _ => False) := by
  refine Met.ofW (cc := cX3_soLong) (maxL := 5) (ret := (some .int)) (by decide) rfl ?_
  intro p e s m args below meth c s₁ B hml hv
  obtain ⟨rfl, hH, hE⟩ := hv
  have C := gx_C.of (G := G) B hml hE
  have hx := C.1.1
  have hb := C.1.2.1
  have hr := B.returns
  have hlocks := B.notSynchronized
  have hS : va_S (gx_A G) s.heap s.heap [] := va_S.rf
  have hl := lv_entry ([.ref (gx_q G 0), .int a1]) (n := 5) (Nat.le_of_ble_eq_true rfl)
  rw [lg_entry_eq]
  generalize (lg_sl ([.ref (gx_q G 0), .int a1]) ++ List.replicate (5 - (lg_sl ([.ref (gx_q G 0), .int a1])).length) Slot.unset).toArray = ls at hl ⊢
  have hl : lv_has ls 5 [(0, .ref (gx_q G 0)), (1, .int a1)] := hl
  unfold f_X3_soLong at hf
  refine lv_iload_n hx hb dX3_soLong_0 rfl (lv_at hl 1 rfl) ?_
  refine lv_iconst (v := (1 : Int32)) hx hb dX3_soLong_1 (by decide) ?_
  refine lv_sipush (v := (2000 : Int32)) hx hb dX3_soLong_2 (by decide) ?_
  obtain ⟨r1, hr1, hf⟩ := gx_bnd hf
  refine gx_sR (v := (some (.int r1))) (rest := []) C hH hS [.int a1, .int (1 : Int32), .int (2000 : Int32)] (t_X3_isWithin l G σ a1 (1 : Int32) (2000 : Int32) r1  hr1) lk_X3_102 ⟨rfl, rfl, Nat.le_of_ble_eq_true rfl, Nat.le_of_ble_eq_true rfl⟩ ⟨Nat.zero_le _, Nat.zero_le _⟩ hl.1 rfl (Nat.le_of_ble_eq_true rfl) dX3_soLong_5 ?_
  refine gx_e0 (st := [.int r1]) ?_ rfl
  refine lv_if_ne (tgt := 14) hx hb dX3_soLong_8 (by decide) (fun hc2 => ?_) (fun hc2 => ?_)
  · have hf := gx_neg hc2 hf
    refine lv_iconst (v := (0 : Int32)) hx hb dX3_soLong_14 (by decide) ?_
    refine lv_istore_n (lv' := [(2, .int (0 : Int32)), (0, .ref (gx_q G 0)), (1, .int a1)]) hx hb dX3_soLong_15 rfl hl (by decide) rfl (fun ls hl => ?_)
    refine lv_aload_n hx hb dX3_soLong_16 rfl (lv_at hl 1 rfl) ?_
    refine lv_iload_n hx hb dX3_soLong_17 rfl (lv_at hl 2 rfl) ?_
    obtain ⟨r3, hr3, hf⟩ := gx_bnd hf
    refine gx_vR (v := (some (.int r3))) (rest := []) C hH hS 0 (by decide) rfl rfl [.int a1] (t_X3_endOfPush l G σ a1 r3  hr3) lk_X3_219 ⟨rfl, rfl, Nat.le_of_ble_eq_true rfl, Nat.le_of_ble_eq_true rfl⟩ ⟨Nat.zero_le _, Nat.zero_le _⟩ hl.1 rfl (Nat.le_of_ble_eq_true rfl) dX3_soLong_18 ?_
    refine gx_e0 (st := [.int r3]) ?_ rfl
    refine lv_istore_n (lv' := [(3, .int r3), (2, .int (0 : Int32)), (0, .ref (gx_q G 0)), (1, .int a1)]) hx hb dX3_soLong_21 rfl hl (by decide) rfl (fun ls hl => ?_)
    refine lv_aload_n hx hb dX3_soLong_22 rfl (lv_at hl 2 rfl) ?_
    refine gx_get C hH 0 (by decide) rfl fl_X3_40 rfl dX3_soLong_23 ?_
    refine lv_topi (fun x4 hx4 => ?_)
    have hf := gx_let hf x4 hx4
    refine lv_istore (lv' := [(4, .int x4), (3, .int r3), (2, .int (0 : Int32)), (0, .ref (gx_q G 0)), (1, .int a1)]) hx hb dX3_soLong_26 hl (by decide) rfl (fun ls hl => ?_)
    exact w_X3_soLong_28 (l := l) G C hr hlocks σ hH 2001 (0 : Int32) r3 x4  _ hf ls (lv_sub hl [3, 2, 1, 0] rfl)
  · have hf := gx_pos hc2 hf
    refine lv_bipush (v := (-2 : Int32)) hx hb dX3_soLong_11 (by decide) ?_
    obtain rfl := Option.some.inj hf
    exact gx_iretR C hr hlocks dX3_soLong_13
