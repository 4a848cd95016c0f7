abbrev rm_X0_moveTo : Room := { frames := 0, cells := 0, slots := 0, locals := 0 }
def f_X0_moveTo (σ : gx_St) (ee a1 a2 : Int32) : Option gx_St :=
  if a2 ≤ 0 then (gx_lt (gx_w2 σ (44 + 1 * ee.toNatClampNeg) 1 a1) fun σ2 =>
  some σ2) else (if a2 = 0 then none else
  gx_lt (gx_w2 σ (44 + 1 * ee.toNatClampNeg) 2 (((1000 : Int32) * (a1 - (σ (44 + 1 * ee.toNatClampNeg) 1))) / a2)) fun σ4 =>
  gx_lt (gx_w2 σ4 (44 + 1 * ee.toNatClampNeg) 1 a1) fun σ5 =>
  some σ5)
set_option maxHeartbeats 4000000 in
set_option maxRecDepth 100000 in
theorem t_X0_moveTo (l : Launch) (G : gx_G) (hG : gx_D G 50) (σ : gx_St) (ee a1 a2 : Int32) (σ' : gx_St) (hl_ee : ee.toNatClampNeg < 2) (hf : f_X0_moveTo σ ee a1 a2 = some σ') : Met l yX0_moveTo (Cond.code yX0_moveTo cX0_moveTo 3 none :: wT) rm_X0_moveTo (va_Pc [.ref (gx_q G (44 + 1 * ee.toNatClampNeg)), .int a1, .int a2] (gx_S G 50 (gc_mk G) σ)) (gx_QM G 50 (gc_mk G) none σ') 0 0 (gx_A G) := by
  refine Met.ofW (cc := cX0_moveTo) (maxL := 3) (ret := none) (by decide) rfl ?_
  intro p e s m args below meth c s₁ B hml hv
  obtain ⟨rfl, hH, hE⟩ := hv
  have C := gx_C.of (G := G) B hml hE
  have hx := C.1.1
  have hb := C.1.2.1
  have hr := B.returns
  have hlocks := B.notSynchronized
  have hS : va_S (gx_A G) s.heap s.heap [] := va_S.rf
  have hl := lv_entry ([.ref (gx_q G (44 + 1 * ee.toNatClampNeg)), .int a1, .int a2]) (n := 3) (Nat.le_of_ble_eq_true rfl)
  rw [lg_entry_eq]
  generalize (lg_sl ([.ref (gx_q G (44 + 1 * ee.toNatClampNeg)), .int a1, .int a2]) ++ List.replicate (3 - (lg_sl ([.ref (gx_q G (44 + 1 * ee.toNatClampNeg)), .int a1, .int a2])).length) Slot.unset).toArray = ls at hl ⊢
  have hl : lv_has ls 3 [(0, .ref (gx_q G (44 + 1 * ee.toNatClampNeg))), (1, .int a1), (2, .int a2)] := hl
  unfold f_X0_moveTo at hf
  refine lv_iload_n hx hb dX0_moveTo_0 rfl (lv_at hl 2 rfl) ?_
  refine lv_if_le (tgt := 20) hx hb dX0_moveTo_1 (by decide) (fun hc1 => ?_) (fun hc1 => ?_)
  · have hf := gx_pos hc1 hf
    refine lv_aload_n hx hb dX0_moveTo_20 rfl (lv_at hl 0 rfl) ?_
    refine lv_iload_n hx hb dX0_moveTo_21 rfl (lv_at hl 1 rfl) ?_
    refine gx_put C hG hH hS (44 + 1 * ee.toNatClampNeg) (gc_ka hl_ee) (gc_a _ hl_ee) fl_X0_7 fw_X0_1 (pw_X0_1 hl_ee _ _) rfl rfl (Nat.le_of_ble_eq_true rfl) dX0_moveTo_22 (fun H locs σ2 hσ2 hH hS => ?_)
    have hf := gx_let hf σ2 hσ2
    cases hf
    exact gx_vretM C hr hlocks hH hS dX0_moveTo_25
  · have hf := gx_neg hc1 hf
    refine lv_aload_n hx hb dX0_moveTo_4 rfl (lv_at hl 0 rfl) ?_
    refine lv_sipush (v := (1000 : Int32)) hx hb dX0_moveTo_5 (by decide) ?_
    refine lv_iload_n hx hb dX0_moveTo_8 rfl (lv_at hl 1 rfl) ?_
    refine lv_aload_n hx hb dX0_moveTo_9 rfl (lv_at hl 0 rfl) ?_
    refine gx_get C hH (44 + 1 * ee.toNatClampNeg) (gc_ka hl_ee) (gc_a _ hl_ee) fl_X0_7 rfl dX0_moveTo_10 ?_
    refine lv_isub hx hb dX0_moveTo_13 ?_
    refine lv_imul hx hb dX0_moveTo_14 ?_
    refine lv_iload_n hx hb dX0_moveTo_15 rfl (lv_at hl 2 rfl) ?_
    obtain ⟨hz3, hf⟩ := gx_chk hf
    refine lv_idiv hx hb dX0_moveTo_16 hz3 ?_
    refine gx_put C hG hH hS (44 + 1 * ee.toNatClampNeg) (gc_ka hl_ee) (gc_a _ hl_ee) fl_X0_13 fw_X0_2 (pw_X0_2 hl_ee _ _) rfl rfl (Nat.le_of_ble_eq_true rfl) dX0_moveTo_17 (fun H locs σ4 hσ4 hH hS => ?_)
    have hf := gx_let hf σ4 hσ4
    refine lv_aload_n hx hb dX0_moveTo_20 rfl (lv_at hl 0 rfl) ?_
    refine lv_iload_n hx hb dX0_moveTo_21 rfl (lv_at hl 1 rfl) ?_
    refine gx_put C hG hH hS (44 + 1 * ee.toNatClampNeg) (gc_ka hl_ee) (gc_a _ hl_ee) fl_X0_7 fw_X0_1 (pw_X0_1 hl_ee _ _) rfl rfl (Nat.le_of_ble_eq_true rfl) dX0_moveTo_22 (fun H locs σ5 hσ5 hH hS => ?_)
    have hf := gx_let hf σ5 hσ5
    cases hf
    exact gx_vretM C hr hlocks hH hS dX0_moveTo_25
abbrev rm_X2_become : Room := { frames := 0, cells := 0, slots := 0, locals := 0 }
def fL_X2_become_30 : Nat → gx_St → Int32 → Int32 → Option gx_St
  | 0, _, _, _ => none
  | N + 1, σ, v0, v6 =>
    if (12 : Int32) ≤ v6 then (some σ) else (if (v6 < 0 ∨ 12 ≤ v6.toNatClampNeg) then none else
    if (v6 < 0 ∨ 12 ≤ v6.toNatClampNeg) then none else
    gx_lt (gx_w2 σ (8 + 3 * v0.toNatClampNeg + 1) v6.toNatClampNeg (gx_tv 4 v6.toNatClampNeg)) fun σ9 =>
    gx_lt (v6 + (1 : Int32)) fun x10 =>
    fL_X2_become_30 N σ9 v0 x10)
set_option maxHeartbeats 4000000 in
set_option maxRecDepth 100000 in
theorem w_X2_become_30 {p : Program} {l : Launch} {e : Env} {s : State} {m : MethodId} {args : Array Value} {below : List Frame} {meth : Method} {c : Code} (G : gx_G) (hG : gx_D G 50) (C : gx_C p m c cX2_become 7 s args RX2 G) (hr : meth.sig.returnType = none) (hlocks : meth.locks = false) : ∀ (N : Nat) (σ : gx_St) (v0 v6 : Int32) (hl_v0 : v0.toNatClampNeg < 12) (z : gx_St), fL_X2_become_30 N σ v0 v6 = some z → ∀ (H : Heap) (locs : List Loc) (ls : Array Slot), gx_H G 50 (gc_mk G) σ H → va_S (gx_A G) s.heap H locs → lv_has ls 7 [(0, .ref (gx_q G (8 + 3 * v0.toNatClampNeg))), (6, .int v6)] → W p l e rm_X2_become s m args below meth c H locs 0 0 (MQ below (gx_QM G 50 (gc_mk G) none z) args s 0 0 (gx_A G)) (F0 m 30 ls []) := by
  have hx := C.1.1
  have hb := C.1.2.1
  intro N
  induction N with
  | zero =>
    intro σ v0 v6 hl_v0 z hf H locs ls hH hS hl
    cases (show (none : Option gx_St) = some z from hf)
  | succ N ih =>
    intro σ v0 v6 hl_v0 z hf H locs ls hH hS hl
    rw [fL_X2_become_30] at hf
    refine lv_iload hx hb dX2_become_30 (lv_at hl 1 rfl) ?_
    refine lv_bipush (v := (12 : Int32)) hx hb dX2_become_32 (by decide) ?_
    refine lv_icmp_ge (tgt := 56) hx hb dX2_become_34 (by decide) (fun hc6 => ?_) (fun hc6 => ?_)
    · have hf := gx_pos hc6 hf
      cases hf
      exact gx_vretM C hr hlocks hH hS dX2_become_56
    · have hf := gx_neg hc6 hf
      refine lv_aload_n hx hb dX2_become_37 rfl (lv_at hl 0 rfl) ?_
      refine gx_get C hH (8 + 3 * v0.toNatClampNeg) (gc_ke hl_v0) (gc_e _ hl_v0) fl_X2_27 rfl dX2_become_38 ?_
      refine lv_iload hx hb dX2_become_41 (lv_at hl 1 rfl) ?_
      refine gx_getsN C hS dX2_become_43 ?_
      refine lv_iload hx hb dX2_become_46 (lv_at hl 1 rfl) ?_
      obtain ⟨hb7, hf⟩ := gx_chk hf
      refine gx_tald C hS 4 (by decide) rfl hb7 dX2_become_48 ?_
      obtain ⟨hb8, hf⟩ := gx_chk hf
      refine gx_iast C hG hH hS (8 + 3 * v0.toNatClampNeg + 1) (gc_kn hl_v0) (fun r => gc_n r hl_v0) hb8 dX2_become_49 (fun H locs σ9 hσ9 hH hS => ?_)
      have hf := gx_let hf σ9 hσ9
      obtain ⟨x10, hx10⟩ : ∃ z : Int32, z = (v6 + (1 : Int32)) := ⟨_, rfl⟩
      have hf := gx_let hf x10 hx10
      refine lv_iinc (v := x10) (lv' := [(6, .int x10), (0, .ref (gx_q G (8 + 3 * v0.toNatClampNeg)))]) hx hb dX2_become_50 hl (k := 1) rfl (by rw [hx10]; rfl) (by decide) rfl (fun ls hl => ?_)
      refine lv_goto (tgt := 30) hx hb dX2_become_53 (by decide) ?_
      exact ih σ9 v0 x10 hl_v0 _ hf _ _ ls hH hS (lv_sub hl [1, 0] rfl)
def f_X2_become (σ : gx_St) (ee a1 a2 a3 a4 a5 : Int32) : Option gx_St :=
  gx_lt (gx_w2 σ (8 + 3 * ee.toNatClampNeg) 1 a1) fun σ1 =>
  gx_lt (gx_w2 σ1 (8 + 3 * ee.toNatClampNeg) 2 a2) fun σ2 =>
  gx_lt (gx_w2 σ2 (8 + 3 * ee.toNatClampNeg) 3 a3) fun σ3 =>
  gx_lt (gx_w2 σ3 (8 + 3 * ee.toNatClampNeg) 4 a4) fun σ4 =>
  gx_lt (gx_w2 σ4 (8 + 3 * ee.toNatClampNeg) 5 a5) fun σ5 =>
  fL_X2_become_30 13 σ5 ee (0 : Int32)
set_option maxHeartbeats 4000000 in
set_option maxRecDepth 100000 in
theorem t_X2_become (l : Launch) (G : gx_G) (hG : gx_D G 50) (σ : gx_St) (ee a1 a2 a3 a4 a5 : Int32) (σ' : gx_St) (hl_ee : ee.toNatClampNeg < 12) (hf : f_X2_become σ ee a1 a2 a3 a4 a5 = some σ') : Met l yX2_become (Cond.code yX2_become cX2_become 7 none :: wT) rm_X2_become (va_Pc [.ref (gx_q G (8 + 3 * ee.toNatClampNeg)), .int a1, .int a2, .int a3, .int a4, .int a5] (gx_S G 50 (gc_mk G) σ)) (gx_QM G 50 (gc_mk G) none σ') 0 0 (gx_A G) := by
  refine Met.ofW (cc := cX2_become) (maxL := 7) (ret := none) (by decide) rfl ?_
  intro p e s m args below meth c s₁ B hml hv
  obtain ⟨rfl, hH, hE⟩ := hv
  have C := gx_C.of (G := G) B hml hE
  have hx := C.1.1
  have hb := C.1.2.1
  have hr := B.returns
  have hlocks := B.notSynchronized
  have hS : va_S (gx_A G) s.heap s.heap [] := va_S.rf
  have hl := lv_entry ([.ref (gx_q G (8 + 3 * ee.toNatClampNeg)), .int a1, .int a2, .int a3, .int a4, .int a5]) (n := 7) (Nat.le_of_ble_eq_true rfl)
  rw [lg_entry_eq]
  generalize (lg_sl ([.ref (gx_q G (8 + 3 * ee.toNatClampNeg)), .int a1, .int a2, .int a3, .int a4, .int a5]) ++ List.replicate (7 - (lg_sl ([.ref (gx_q G (8 + 3 * ee.toNatClampNeg)), .int a1, .int a2, .int a3, .int a4, .int a5])).length) Slot.unset).toArray = ls at hl ⊢
  have hl : lv_has ls 7 [(0, .ref (gx_q G (8 + 3 * ee.toNatClampNeg))), (1, .int a1), (2, .int a2), (3, .int a3), (4, .int a4), (5, .int a5)] := hl
  unfold f_X2_become at hf
  refine lv_aload_n hx hb dX2_become_0 rfl (lv_at hl 0 rfl) ?_
  refine lv_iload_n hx hb dX2_become_1 rfl (lv_at hl 1 rfl) ?_
  refine gx_put C hG hH hS (8 + 3 * ee.toNatClampNeg) (gc_ke hl_ee) (gc_e _ hl_ee) fl_X2_9 fw_X2_1 (pw_X2_1 hl_ee _ _) rfl rfl (Nat.le_of_ble_eq_true rfl) dX2_become_2 (fun H locs σ1 hσ1 hH hS => ?_)
  have hf := gx_let hf σ1 hσ1
  refine lv_aload_n hx hb dX2_become_5 rfl (lv_at hl 0 rfl) ?_
  refine lv_iload_n hx hb dX2_become_6 rfl (lv_at hl 2 rfl) ?_
  refine gx_put C hG hH hS (8 + 3 * ee.toNatClampNeg) (gc_ke hl_ee) (gc_e _ hl_ee) fl_X2_15 fw_X2_2 (pw_X2_2 hl_ee _ _) rfl rfl (Nat.le_of_ble_eq_true rfl) dX2_become_7 (fun H locs σ2 hσ2 hH hS => ?_)
  have hf := gx_let hf σ2 hσ2
  refine lv_aload_n hx hb dX2_become_10 rfl (lv_at hl 0 rfl) ?_
  refine lv_iload_n hx hb dX2_become_11 rfl (lv_at hl 3 rfl) ?_
  refine gx_put C hG hH hS (8 + 3 * ee.toNatClampNeg) (gc_ke hl_ee) (gc_e _ hl_ee) fl_X2_18 fw_X2_3 (pw_X2_3 hl_ee _ _) rfl rfl (Nat.le_of_ble_eq_true rfl) dX2_become_12 (fun H locs σ3 hσ3 hH hS => ?_)
  have hf := gx_let hf σ3 hσ3
  refine lv_aload_n hx hb dX2_become_15 rfl (lv_at hl 0 rfl) ?_
  refine lv_iload hx hb dX2_become_16 (lv_at hl 4 rfl) ?_
  refine gx_put C hG hH hS (8 + 3 * ee.toNatClampNeg) (gc_ke hl_ee) (gc_e _ hl_ee) fl_X2_21 fw_X2_4 (pw_X2_4 hl_ee _ _) rfl rfl (Nat.le_of_ble_eq_true rfl) dX2_become_18 (fun H locs σ4 hσ4 hH hS => ?_)
  have hf := gx_let hf σ4 hσ4
  refine lv_aload_n hx hb dX2_become_21 rfl (lv_at hl 0 rfl) ?_
  refine lv_iload hx hb dX2_become_22 (lv_at hl 5 rfl) ?_
  refine gx_put C hG hH hS (8 + 3 * ee.toNatClampNeg) (gc_ke hl_ee) (gc_e _ hl_ee) fl_X2_24 fw_X2_5 (pw_X2_5 hl_ee _ _) rfl rfl (Nat.le_of_ble_eq_true rfl) dX2_become_24 (fun H locs σ5 hσ5 hH hS => ?_)
  have hf := gx_let hf σ5 hσ5
  refine lv_iconst (v := (0 : Int32)) hx hb dX2_become_27 (by decide) ?_
  refine lv_istore (lv' := [(6, .int (0 : Int32)), (0, .ref (gx_q G (8 + 3 * ee.toNatClampNeg))), (1, .int a1), (2, .int a2), (3, .int a3), (4, .int a4), (5, .int a5)]) hx hb dX2_become_28 hl (by decide) rfl (fun ls hl => ?_)
  exact w_X2_become_30 (l := l) G hG C hr hlocks 13 σ5 ee (0 : Int32) hl_ee _ hf _ _ ls hH hS (lv_sub hl [1, 0] rfl)
abbrev rm_X2_playsAt : Room := { frames := 0, cells := 0, slots := 0, locals := 0 }
def f_X2_playsAt (σ : gx_St) (ee a1 a2 : Int32) : Option Int32 :=
  gx_lt (σ (8 + 3 * ee.toNatClampNeg + 1) 0) fun x1 =>
  if a1 = (-9 : Int32) then (some (0 : Int32)) else (if x1 = (-9 : Int32) then (some (1 : Int32)) else (if ((a1 + (σ (8 + 3 * ee.toNatClampNeg + 1) 1)) + x1) ≤ a2 then (some (0 : Int32)) else (some (1 : Int32))))
set_option maxHeartbeats 4000000 in
set_option maxRecDepth 100000 in
theorem t_X2_playsAt (l : Launch) (G : gx_G) (σ : gx_St) (ee a1 a2 : Int32) (r : Int32) (hl_ee : ee.toNatClampNeg < 12) (hf : f_X2_playsAt σ ee a1 a2 = some r) : Met l yX2_playsAt (Cond.code yX2_playsAt cX2_playsAt 4 (some .boolean) :: wT) rm_X2_playsAt (va_Pc [.ref (gx_q G (8 + 3 * ee.toNatClampNeg)), .int a1, .int a2] (gx_S G 50 (gc_mk G) σ)) (gx_QR (some (.int r))) 0 0 (fun _ => False) := by
  refine Met.ofW (cc := cX2_playsAt) (maxL := 4) (ret := (some .boolean)) (by decide) rfl ?_
  intro p e s m args below meth c s₁ B hml hv
  obtain ⟨rfl, hH, hE⟩ := hv
  have C := gx_C.of (G := G) B hml hE
  have hx := C.1.1
  have hb := C.1.2.1
  have hr := B.returns
  have hlocks := B.notSynchronized
  have hS : va_S (gx_A G) s.heap s.heap [] := va_S.rf
  have hl := lv_entry ([.ref (gx_q G (8 + 3 * ee.toNatClampNeg)), .int a1, .int a2]) (n := 4) (Nat.le_of_ble_eq_true rfl)
  rw [lg_entry_eq]
  generalize (lg_sl ([.ref (gx_q G (8 + 3 * ee.toNatClampNeg)), .int a1, .int a2]) ++ List.replicate (4 - (lg_sl ([.ref (gx_q G (8 + 3 * ee.toNatClampNeg)), .int a1, .int a2])).length) Slot.unset).toArray = ls at hl ⊢
  have hl : lv_has ls 4 [(0, .ref (gx_q G (8 + 3 * ee.toNatClampNeg))), (1, .int a1), (2, .int a2)] := hl
  unfold f_X2_playsAt at hf
  refine lv_aload_n hx hb dX2_playsAt_0 rfl (lv_at hl 0 rfl) ?_
  refine gx_get C hH (8 + 3 * ee.toNatClampNeg) (gc_ke hl_ee) (gc_e _ hl_ee) fl_X2_27 rfl dX2_playsAt_1 ?_
  refine lv_iconst (v := (0 : Int32)) hx hb dX2_playsAt_4 (by decide) ?_
  refine gx_ialdL C hH (8 + 3 * ee.toNatClampNeg + 1) (gc_kn hl_ee) (gc_n _ hl_ee) 0 (by decide) dX2_playsAt_5 ?_
  refine lv_topi (fun x1 hx1 => ?_)
  have hf := gx_let hf x1 hx1
  refine lv_istore_n (lv' := [(3, .int x1), (0, .ref (gx_q G (8 + 3 * ee.toNatClampNeg))), (1, .int a1), (2, .int a2)]) hx hb dX2_playsAt_6 rfl hl (by decide) rfl (fun ls hl => ?_)
  refine lv_iload_n hx hb dX2_playsAt_7 rfl (lv_at hl 2 rfl) ?_
  refine lv_bipush (v := (-9 : Int32)) hx hb dX2_playsAt_8 (by decide) ?_
  refine lv_icmp_eq (tgt := 37) hx hb dX2_playsAt_10 (by decide) (fun hc2 => ?_) (fun hc2 => ?_)
  · have hf := gx_pos hc2 hf
    refine lv_iconst (v := (0 : Int32)) hx hb dX2_playsAt_37 (by decide) ?_
    obtain rfl := Option.some.inj hf
    exact gx_zretR C hr hlocks (by decide) dX2_playsAt_38
  · have hf := gx_neg hc2 hf
    refine lv_iload_n hx hb dX2_playsAt_13 rfl (lv_at hl 0 rfl) ?_
    refine lv_bipush (v := (-9 : Int32)) hx hb dX2_playsAt_14 (by decide) ?_
    refine lv_icmp_eq (tgt := 33) hx hb dX2_playsAt_16 (by decide) (fun hc3 => ?_) (fun hc3 => ?_)
    · have hf := gx_pos hc3 hf
      refine lv_iconst (v := (1 : Int32)) hx hb dX2_playsAt_33 (by decide) ?_
      refine lv_goto (tgt := 38) hx hb dX2_playsAt_34 (by decide) ?_
      obtain rfl := Option.some.inj hf
      exact gx_zretR C hr hlocks (by decide) dX2_playsAt_38
    · have hf := gx_neg hc3 hf
      refine lv_iload_n hx hb dX2_playsAt_19 rfl (lv_at hl 3 rfl) ?_
      refine lv_iload_n hx hb dX2_playsAt_20 rfl (lv_at hl 2 rfl) ?_
      refine lv_aload_n hx hb dX2_playsAt_21 rfl (lv_at hl 1 rfl) ?_
      refine gx_get C hH (8 + 3 * ee.toNatClampNeg) (gc_ke hl_ee) (gc_e _ hl_ee) fl_X2_27 rfl dX2_playsAt_22 ?_
      refine lv_iconst (v := (1 : Int32)) hx hb dX2_playsAt_25 (by decide) ?_
      refine gx_ialdL C hH (8 + 3 * ee.toNatClampNeg + 1) (gc_kn hl_ee) (gc_n _ hl_ee) 1 (by decide) dX2_playsAt_26 ?_
      refine lv_iadd hx hb dX2_playsAt_27 ?_
      refine lv_iload_n hx hb dX2_playsAt_28 rfl (lv_at hl 0 rfl) ?_
      refine lv_iadd hx hb dX2_playsAt_29 ?_
      refine lv_icmp_ge (tgt := 37) hx hb dX2_playsAt_30 (by decide) (fun hc4 => ?_) (fun hc4 => ?_)
      · have hf := gx_pos hc4 hf
        refine lv_iconst (v := (0 : Int32)) hx hb dX2_playsAt_37 (by decide) ?_
        obtain rfl := Option.some.inj hf
        exact gx_zretR C hr hlocks (by decide) dX2_playsAt_38
      · have hf := gx_neg hc4 hf
        refine lv_iconst (v := (1 : Int32)) hx hb dX2_playsAt_33 (by decide) ?_
        refine lv_goto (tgt := 38) hx hb dX2_playsAt_34 (by decide) ?_
        obtain rfl := Option.some.inj hf
        exact gx_zretR C hr hlocks (by decide) dX2_playsAt_38
abbrev rm_X2_isOnAt : Room := { frames := 1, cells := 0, slots := 0, locals := 23 }
def f_X2_isOnAt (σ : gx_St) (ee a1 a2 : Int32) : Option Int32 :=
  (f_X2_playsAt σ ee a1 a2).bind fun r1 =>
  if r1 = 0 then (some (0 : Int32)) else (if a2 < (a1 + (σ (8 + 3 * ee.toNatClampNeg + 1) 1)) then (some (0 : Int32)) else (some (1 : Int32)))
set_option maxHeartbeats 4000000 in
set_option maxRecDepth 100000 in
theorem t_X2_isOnAt (l : Launch) (G : gx_G) (σ : gx_St) (ee a1 a2 : Int32) (r : Int32) (hl_ee : ee.toNatClampNeg < 12) (hf : f_X2_isOnAt σ ee a1 a2 = some r) : Met l yX2_isOnAt (Cond.code yX2_isOnAt cX2_isOnAt 3 (some .boolean) :: wT) rm_X2_isOnAt (va_Pc [.ref (gx_q G (8 + 3 * ee.toNatClampNeg)), .int a1, .int a2] (gx_S G 50 (gc_mk G) σ)) (gx_QR (some (.int r))) 0 0 (fun _ => False) := by
  refine Met.ofW (cc := cX2_isOnAt) (maxL := 3) (ret := (some .boolean)) (by decide) rfl ?_
  intro p e s m args below meth c s₁ B hml hv
  obtain ⟨rfl, hH, hE⟩ := hv
  have C := gx_C.of (G := G) B hml hE
  have hx := C.1.1
  have hb := C.1.2.1
  have hr := B.returns
  have hlocks := B.notSynchronized
  have hS : va_S (gx_A G) s.heap s.heap [] := va_S.rf
  have hl := lv_entry ([.ref (gx_q G (8 + 3 * ee.toNatClampNeg)), .int a1, .int a2]) (n := 3) (Nat.le_of_ble_eq_true rfl)
  rw [lg_entry_eq]
  generalize (lg_sl ([.ref (gx_q G (8 + 3 * ee.toNatClampNeg)), .int a1, .int a2]) ++ List.replicate (3 - (lg_sl ([.ref (gx_q G (8 + 3 * ee.toNatClampNeg)), .int a1, .int a2])).length) Slot.unset).toArray = ls at hl ⊢
  have hl : lv_has ls 3 [(0, .ref (gx_q G (8 + 3 * ee.toNatClampNeg))), (1, .int a1), (2, .int a2)] := hl
  unfold f_X2_isOnAt at hf
  refine lv_aload_n hx hb dX2_isOnAt_0 rfl (lv_at hl 0 rfl) ?_
  refine lv_iload_n hx hb dX2_isOnAt_1 rfl (lv_at hl 1 rfl) ?_
  refine lv_iload_n hx hb dX2_isOnAt_2 rfl (lv_at hl 2 rfl) ?_
  obtain ⟨r1, hr1, hf⟩ := gx_bnd hf
  refine gx_vR (v := (some (.int r1))) (rest := []) C hH hS (8 + 3 * ee.toNatClampNeg) (gc_ke hl_ee) (gc_e _ hl_ee) rfl [.int a1, .int a2] (t_X2_playsAt l G σ ee a1 a2 r1 hl_ee hr1) lk_X2_46 ⟨rfl, rfl, Nat.le_of_ble_eq_true rfl, Nat.le_of_ble_eq_true rfl⟩ ⟨Nat.zero_le _, Nat.zero_le _⟩ hl.1 rfl (Nat.le_of_ble_eq_true rfl) dX2_isOnAt_3 ?_
  refine gx_e0 (st := [.int r1]) ?_ rfl
  refine lv_if_eq (tgt := 25) hx hb dX2_isOnAt_6 (by decide) (fun hc2 => ?_) (fun hc2 => ?_)
  · have hf := gx_pos hc2 hf
    refine lv_iconst (v := (0 : Int32)) hx hb dX2_isOnAt_25 (by decide) ?_
    obtain rfl := Option.some.inj hf
    exact gx_zretR C hr hlocks (by decide) dX2_isOnAt_26
  · have hf := gx_neg hc2 hf
    refine lv_iload_n hx hb dX2_isOnAt_9 rfl (lv_at hl 2 rfl) ?_
    refine lv_iload_n hx hb dX2_isOnAt_10 rfl (lv_at hl 1 rfl) ?_
    refine lv_aload_n hx hb dX2_isOnAt_11 rfl (lv_at hl 0 rfl) ?_
    refine gx_get C hH (8 + 3 * ee.toNatClampNeg) (gc_ke hl_ee) (gc_e _ hl_ee) fl_X2_27 rfl dX2_isOnAt_12 ?_
    refine lv_iconst (v := (1 : Int32)) hx hb dX2_isOnAt_15 (by decide) ?_
    refine gx_ialdL C hH (8 + 3 * ee.toNatClampNeg + 1) (gc_kn hl_ee) (gc_n _ hl_ee) 1 (by decide) dX2_isOnAt_16 ?_
    refine lv_iadd hx hb dX2_isOnAt_17 ?_
    refine lv_icmp_lt (tgt := 25) hx hb dX2_isOnAt_18 (by decide) (fun hc3 => ?_) (fun hc3 => ?_)
    · have hf := gx_pos hc3 hf
      refine lv_iconst (v := (0 : Int32)) hx hb dX2_isOnAt_25 (by decide) ?_
      obtain rfl := Option.some.inj hf
      exact gx_zretR C hr hlocks (by decide) dX2_isOnAt_26
    · have hf := gx_neg hc3 hf
      refine lv_iconst (v := (1 : Int32)) hx hb dX2_isOnAt_21 (by decide) ?_
      refine lv_goto (tgt := 26) hx hb dX2_isOnAt_22 (by decide) ?_
      obtain rfl := Option.some.inj hf
      exact gx_zretR C hr hlocks (by decide) dX2_isOnAt_26
abbrev rm_X2_sinceDelay : Room := { frames := 0, cells := 0, slots := 0, locals := 0 }
def f_X2_sinceDelay (σ : gx_St) (ee a1 a2 : Int32) : Option Int32 :=
  some ((a2 - a1) - (σ (8 + 3 * ee.toNatClampNeg + 1) 1))
set_option maxHeartbeats 4000000 in
set_option maxRecDepth 100000 in
theorem t_X2_sinceDelay (l : Launch) (G : gx_G) (σ : gx_St) (ee a1 a2 : Int32) (r : Int32) (hl_ee : ee.toNatClampNeg < 12) (hf : f_X2_sinceDelay σ ee a1 a2 = some r) : Met l yX2_sinceDelay (Cond.code yX2_sinceDelay cX2_sinceDelay 3 (some .int) :: wT) rm_X2_sinceDelay (va_Pc [.ref (gx_q G (8 + 3 * ee.toNatClampNeg)), .int a1, .int a2] (gx_S G 50 (gc_mk G) σ)) (gx_QR (some (.int r))) 0 0 (fun _ => False) := by
  refine Met.ofW (cc := cX2_sinceDelay) (maxL := 3) (ret := (some .int)) (by decide) rfl ?_
  intro p e s m args below meth c s₁ B hml hv
  obtain ⟨rfl, hH, hE⟩ := hv
  have C := gx_C.of (G := G) B hml hE
  have hx := C.1.1
  have hb := C.1.2.1
  have hr := B.returns
  have hlocks := B.notSynchronized
  have hS : va_S (gx_A G) s.heap s.heap [] := va_S.rf
  have hl := lv_entry ([.ref (gx_q G (8 + 3 * ee.toNatClampNeg)), .int a1, .int a2]) (n := 3) (Nat.le_of_ble_eq_true rfl)
  rw [lg_entry_eq]
  generalize (lg_sl ([.ref (gx_q G (8 + 3 * ee.toNatClampNeg)), .int a1, .int a2]) ++ List.replicate (3 - (lg_sl ([.ref (gx_q G (8 + 3 * ee.toNatClampNeg)), .int a1, .int a2])).length) Slot.unset).toArray = ls at hl ⊢
  have hl : lv_has ls 3 [(0, .ref (gx_q G (8 + 3 * ee.toNatClampNeg))), (1, .int a1), (2, .int a2)] := hl
  unfold f_X2_sinceDelay at hf
  refine lv_iload_n hx hb dX2_sinceDelay_0 rfl (lv_at hl 2 rfl) ?_
  refine lv_iload_n hx hb dX2_sinceDelay_1 rfl (lv_at hl 1 rfl) ?_
  refine lv_isub hx hb dX2_sinceDelay_2 ?_
  refine lv_aload_n hx hb dX2_sinceDelay_3 rfl (lv_at hl 0 rfl) ?_
  refine gx_get C hH (8 + 3 * ee.toNatClampNeg) (gc_ke hl_ee) (gc_e _ hl_ee) fl_X2_27 rfl dX2_sinceDelay_4 ?_
  refine lv_iconst (v := (1 : Int32)) hx hb dX2_sinceDelay_7 (by decide) ?_
  refine gx_ialdL C hH (8 + 3 * ee.toNatClampNeg + 1) (gc_kn hl_ee) (gc_n _ hl_ee) 1 (by decide) dX2_sinceDelay_8 ?_
  refine lv_isub hx hb dX2_sinceDelay_9 ?_
  obtain rfl := Option.some.inj hf
  exact gx_iretR C hr hlocks dX2_sinceDelay_10
abbrev rm_X2_hasEnvelope : Room := { frames := 0, cells := 0, slots := 0, locals := 0 }
def f_X2_hasEnvelope (σ : gx_St) (ee : Int32) : Option Int32 :=
  if (3 : Int32) < (σ (8 + 3 * ee.toNatClampNeg) 1) then (some (0 : Int32)) else (some (1 : Int32))
set_option maxHeartbeats 4000000 in
set_option maxRecDepth 100000 in
theorem t_X2_hasEnvelope (l : Launch) (G : gx_G) (σ : gx_St) (ee : Int32) (r : Int32) (hl_ee : ee.toNatClampNeg < 12) (hf : f_X2_hasEnvelope σ ee = some r) : Met l yX2_hasEnvelope (Cond.code yX2_hasEnvelope cX2_hasEnvelope 1 (some .boolean) :: wT) rm_X2_hasEnvelope (va_Pc [.ref (gx_q G (8 + 3 * ee.toNatClampNeg))] (gx_S G 50 (gc_mk G) σ)) (gx_QR (some (.int r))) 0 0 (fun _ => False) := by
  refine Met.ofW (cc := cX2_hasEnvelope) (maxL := 1) (ret := (some .boolean)) (by decide) rfl ?_
  intro p e s m args below meth c s₁ B hml hv
  obtain ⟨rfl, hH, hE⟩ := hv
  have C := gx_C.of (G := G) B hml hE
  have hx := C.1.1
  have hb := C.1.2.1
  have hr := B.returns
  have hlocks := B.notSynchronized
  have hS : va_S (gx_A G) s.heap s.heap [] := va_S.rf
  have hl := lv_entry ([.ref (gx_q G (8 + 3 * ee.toNatClampNeg))]) (n := 1) (Nat.le_of_ble_eq_true rfl)
  rw [lg_entry_eq]
  generalize (lg_sl ([.ref (gx_q G (8 + 3 * ee.toNatClampNeg))]) ++ List.replicate (1 - (lg_sl ([.ref (gx_q G (8 + 3 * ee.toNatClampNeg))])).length) Slot.unset).toArray = ls at hl ⊢
  have hl : lv_has ls 1 [(0, .ref (gx_q G (8 + 3 * ee.toNatClampNeg)))] := hl
  unfold f_X2_hasEnvelope at hf
  refine lv_aload_n hx hb dX2_hasEnvelope_0 rfl (lv_at hl 0 rfl) ?_
  refine gx_get C hH (8 + 3 * ee.toNatClampNeg) (gc_ke hl_ee) (gc_e _ hl_ee) fl_X2_9 rfl dX2_hasEnvelope_1 ?_
  refine lv_iconst (v := (3 : Int32)) hx hb dX2_hasEnvelope_4 (by decide) ?_
  refine lv_icmp_gt (tgt := 12) hx hb dX2_hasEnvelope_5 (by decide) (fun hc1 => ?_) (fun hc1 => ?_)
  · have hf := gx_pos hc1 hf
    refine lv_iconst (v := (0 : Int32)) hx hb dX2_hasEnvelope_12 (by decide) ?_
    obtain rfl := Option.some.inj hf
    exact gx_zretR C hr hlocks (by decide) dX2_hasEnvelope_13
  · have hf := gx_neg hc1 hf
    refine lv_iconst (v := (1 : Int32)) hx hb dX2_hasEnvelope_8 (by decide) ?_
    refine lv_goto (tgt := 13) hx hb dX2_hasEnvelope_9 (by decide) ?_
    obtain rfl := Option.some.inj hf
    exact gx_zretR C hr hlocks (by decide) dX2_hasEnvelope_13
abbrev rm_X2_levelAt : Room := { frames := 0, cells := 0, slots := 0, locals := 0 }
def f_X2_levelAt (a0 a1 a2 : Int32) : Option Int32 :=
  if a2 < (1 : Int32) then (some (100 : Int32)) else (if a1 < a2 then (if a2 = 0 then none else
  some (a0 + ((((100 : Int32) - a0) * a1) / a2))) else (some (100 : Int32)))
set_option maxHeartbeats 4000000 in
set_option maxRecDepth 100000 in
theorem t_X2_levelAt (l : Launch) (G : gx_G) (σ : gx_St) (a0 a1 a2 : Int32) (r : Int32)  (hf : f_X2_levelAt a0 a1 a2 = some r) : Met l yX2_levelAt (Cond.code yX2_levelAt cX2_levelAt 3 (some .int) :: wT) rm_X2_levelAt (va_Pc [.int a0, .int a1, .int a2] (gx_S G 50 (gc_mk G) σ)) (gx_QR (some (.int r))) 0 0 (fun _ => False) := by
  refine Met.ofW (cc := cX2_levelAt) (maxL := 3) (ret := (some .int)) (by decide) rfl ?_
  intro p e s m args below meth c s₁ B hml hv
  obtain ⟨rfl, hH, hE⟩ := hv
  have C := gx_C.of (G := G) B hml hE
  have hx := C.1.1
  have hb := C.1.2.1
  have hr := B.returns
  have hlocks := B.notSynchronized
  have hS : va_S (gx_A G) s.heap s.heap [] := va_S.rf
  have hl := lv_entry ([.int a0, .int a1, .int a2]) (n := 3) (Nat.le_of_ble_eq_true rfl)
  rw [lg_entry_eq]
  generalize (lg_sl ([.int a0, .int a1, .int a2]) ++ List.replicate (3 - (lg_sl ([.int a0, .int a1, .int a2])).length) Slot.unset).toArray = ls at hl ⊢
  have hl : lv_has ls 3 [(0, .int a0), (1, .int a1), (2, .int a2)] := hl
  unfold f_X2_levelAt at hf
  refine lv_iload_n hx hb dX2_levelAt_0 rfl (lv_at hl 2 rfl) ?_
  refine lv_iconst (v := (1 : Int32)) hx hb dX2_levelAt_1 (by decide) ?_
  refine lv_icmp_lt (tgt := 10) hx hb dX2_levelAt_2 (by decide) (fun hc1 => ?_) (fun hc1 => ?_)
  · have hf := gx_pos hc1 hf
    refine lv_bipush (v := (100 : Int32)) hx hb dX2_levelAt_10 (by decide) ?_
    obtain rfl := Option.some.inj hf
    exact gx_iretR C hr hlocks dX2_levelAt_12
  · have hf := gx_neg hc1 hf
    refine lv_iload_n hx hb dX2_levelAt_5 rfl (lv_at hl 1 rfl) ?_
    refine lv_iload_n hx hb dX2_levelAt_6 rfl (lv_at hl 2 rfl) ?_
    refine lv_icmp_lt (tgt := 13) hx hb dX2_levelAt_7 (by decide) (fun hc2 => ?_) (fun hc2 => ?_)
    · have hf := gx_pos hc2 hf
      refine lv_iload_n hx hb dX2_levelAt_13 rfl (lv_at hl 0 rfl) ?_
      refine lv_bipush (v := (100 : Int32)) hx hb dX2_levelAt_14 (by decide) ?_
      refine lv_iload_n hx hb dX2_levelAt_16 rfl (lv_at hl 0 rfl) ?_
      refine lv_isub hx hb dX2_levelAt_17 ?_
      refine lv_iload_n hx hb dX2_levelAt_18 rfl (lv_at hl 1 rfl) ?_
      refine lv_imul hx hb dX2_levelAt_19 ?_
      refine lv_iload_n hx hb dX2_levelAt_20 rfl (lv_at hl 2 rfl) ?_
      obtain ⟨hz3, hf⟩ := gx_chk hf
      refine lv_idiv hx hb dX2_levelAt_21 hz3 ?_
      refine lv_iadd hx hb dX2_levelAt_22 ?_
      obtain rfl := Option.some.inj hf
      exact gx_iretR C hr hlocks dX2_levelAt_23
    · have hf := gx_neg hc2 hf
      refine lv_bipush (v := (100 : Int32)) hx hb dX2_levelAt_10 (by decide) ?_
      obtain rfl := Option.some.inj hf
      exact gx_iretR C hr hlocks dX2_levelAt_12
abbrev rm_X2_envelopeAt : Room := { frames := 1, cells := 0, slots := 0, locals := 22 }
def f_X2_envelopeAt (σ : gx_St) (ee a1 : Int32) : Option Int32 :=
  (f_X2_levelAt (σ (8 + 3 * ee.toNatClampNeg + 1) 3) a1 (σ (8 + 3 * ee.toNatClampNeg + 1) 2)).bind fun r1 =>
  if (σ (8 + 3 * ee.toNatClampNeg + 1) 0) = (-9 : Int32) then (some r1) else ((f_X2_levelAt (σ (8 + 3 * ee.toNatClampNeg + 1) 5) ((σ (8 + 3 * ee.toNatClampNeg + 1) 0) - a1) (σ (8 + 3 * ee.toNatClampNeg + 1) 4)).bind fun r3 =>
  gx_lt (if r3 < r1 then r3 else r1) fun x4 =>
  some x4)
set_option maxHeartbeats 4000000 in
set_option maxRecDepth 100000 in
theorem t_X2_envelopeAt (l : Launch) (G : gx_G) (σ : gx_St) (ee a1 : Int32) (r : Int32) (hl_ee : ee.toNatClampNeg < 12) (hf : f_X2_envelopeAt σ ee a1 = some r) : Met l yX2_envelopeAt (Cond.code yX2_envelopeAt cX2_envelopeAt 4 (some .int) :: wT) rm_X2_envelopeAt (va_Pc [.ref (gx_q G (8 + 3 * ee.toNatClampNeg)), .int a1] (gx_S G 50 (gc_mk G) σ)) (gx_QR (some (.int r))) 0 0 (fun _ => False) := by
  refine Met.ofW (cc := cX2_envelopeAt) (maxL := 4) (ret := (some .int)) (by decide) rfl ?_
  intro p e s m args below meth c s₁ B hml hv
  obtain ⟨rfl, hH, hE⟩ := hv
  have C := gx_C.of (G := G) B hml hE
  have hx := C.1.1
  have hb := C.1.2.1
  have hr := B.returns
  have hlocks := B.notSynchronized
  have hS : va_S (gx_A G) s.heap s.heap [] := va_S.rf
  have hl := lv_entry ([.ref (gx_q G (8 + 3 * ee.toNatClampNeg)), .int a1]) (n := 4) (Nat.le_of_ble_eq_true rfl)
  rw [lg_entry_eq]
  generalize (lg_sl ([.ref (gx_q G (8 + 3 * ee.toNatClampNeg)), .int a1]) ++ List.replicate (4 - (lg_sl ([.ref (gx_q G (8 + 3 * ee.toNatClampNeg)), .int a1])).length) Slot.unset).toArray = ls at hl ⊢
  have hl : lv_has ls 4 [(0, .ref (gx_q G (8 + 3 * ee.toNatClampNeg))), (1, .int a1)] := hl
  unfold f_X2_envelopeAt at hf
  refine lv_aload_n hx hb dX2_envelopeAt_0 rfl (lv_at hl 0 rfl) ?_
  refine gx_get C hH (8 + 3 * ee.toNatClampNeg) (gc_ke hl_ee) (gc_e _ hl_ee) fl_X2_27 rfl dX2_envelopeAt_1 ?_
  refine lv_iconst (v := (3 : Int32)) hx hb dX2_envelopeAt_4 (by decide) ?_
  refine gx_ialdL C hH (8 + 3 * ee.toNatClampNeg + 1) (gc_kn hl_ee) (gc_n _ hl_ee) 3 (by decide) dX2_envelopeAt_5 ?_
  refine lv_iload_n hx hb dX2_envelopeAt_6 rfl (lv_at hl 1 rfl) ?_
  refine lv_aload_n hx hb dX2_envelopeAt_7 rfl (lv_at hl 0 rfl) ?_
  refine gx_get C hH (8 + 3 * ee.toNatClampNeg) (gc_ke hl_ee) (gc_e _ hl_ee) fl_X2_27 rfl dX2_envelopeAt_8 ?_
  refine lv_iconst (v := (2 : Int32)) hx hb dX2_envelopeAt_11 (by decide) ?_
  refine gx_ialdL C hH (8 + 3 * ee.toNatClampNeg + 1) (gc_kn hl_ee) (gc_n _ hl_ee) 2 (by decide) dX2_envelopeAt_12 ?_
  obtain ⟨r1, hr1, hf⟩ := gx_bnd hf
  refine gx_sR (v := (some (.int r1))) (rest := []) C hH hS [.int (σ (8 + 3 * ee.toNatClampNeg + 1) 3), .int a1, .int (σ (8 + 3 * ee.toNatClampNeg + 1) 2)] (t_X2_levelAt l G σ (σ (8 + 3 * ee.toNatClampNeg + 1) 3) a1 (σ (8 + 3 * ee.toNatClampNeg + 1) 2) r1  hr1) lk_X2_50 ⟨rfl, rfl, Nat.le_of_ble_eq_true rfl, Nat.le_of_ble_eq_true rfl⟩ ⟨Nat.zero_le _, Nat.zero_le _⟩ hl.1 rfl (Nat.le_of_ble_eq_true rfl) dX2_envelopeAt_13 ?_
  refine gx_e0 (st := [.int r1]) ?_ rfl
  refine lv_istore_n (lv' := [(2, .int r1), (0, .ref (gx_q G (8 + 3 * ee.toNatClampNeg))), (1, .int a1)]) hx hb dX2_envelopeAt_16 rfl hl (by decide) rfl (fun ls hl => ?_)
  refine lv_aload_n hx hb dX2_envelopeAt_17 rfl (lv_at hl 1 rfl) ?_
  refine gx_get C hH (8 + 3 * ee.toNatClampNeg) (gc_ke hl_ee) (gc_e _ hl_ee) fl_X2_27 rfl dX2_envelopeAt_18 ?_
  refine lv_iconst (v := (0 : Int32)) hx hb dX2_envelopeAt_21 (by decide) ?_
  refine gx_ialdL C hH (8 + 3 * ee.toNatClampNeg + 1) (gc_kn hl_ee) (gc_n _ hl_ee) 0 (by decide) dX2_envelopeAt_22 ?_
  refine lv_bipush (v := (-9 : Int32)) hx hb dX2_envelopeAt_23 (by decide) ?_
  refine lv_icmp_ne (tgt := 30) hx hb dX2_envelopeAt_25 (by decide) (fun hc2 => ?_) (fun hc2 => ?_)
  · have hf := gx_neg hc2 hf
    refine lv_aload_n hx hb dX2_envelopeAt_30 rfl (lv_at hl 1 rfl) ?_
    refine gx_get C hH (8 + 3 * ee.toNatClampNeg) (gc_ke hl_ee) (gc_e _ hl_ee) fl_X2_27 rfl dX2_envelopeAt_31 ?_
    refine lv_iconst (v := (5 : Int32)) hx hb dX2_envelopeAt_34 (by decide) ?_
    refine gx_ialdL C hH (8 + 3 * ee.toNatClampNeg + 1) (gc_kn hl_ee) (gc_n _ hl_ee) 5 (by decide) dX2_envelopeAt_35 ?_
    refine lv_aload_n hx hb dX2_envelopeAt_36 rfl (lv_at hl 1 rfl) ?_
    refine gx_get C hH (8 + 3 * ee.toNatClampNeg) (gc_ke hl_ee) (gc_e _ hl_ee) fl_X2_27 rfl dX2_envelopeAt_37 ?_
    refine lv_iconst (v := (0 : Int32)) hx hb dX2_envelopeAt_40 (by decide) ?_
    refine gx_ialdL C hH (8 + 3 * ee.toNatClampNeg + 1) (gc_kn hl_ee) (gc_n _ hl_ee) 0 (by decide) dX2_envelopeAt_41 ?_
    refine lv_iload_n hx hb dX2_envelopeAt_42 rfl (lv_at hl 2 rfl) ?_
    refine lv_isub hx hb dX2_envelopeAt_43 ?_
    refine lv_aload_n hx hb dX2_envelopeAt_44 rfl (lv_at hl 1 rfl) ?_
    refine gx_get C hH (8 + 3 * ee.toNatClampNeg) (gc_ke hl_ee) (gc_e _ hl_ee) fl_X2_27 rfl dX2_envelopeAt_45 ?_
    refine lv_iconst (v := (4 : Int32)) hx hb dX2_envelopeAt_48 (by decide) ?_
    refine gx_ialdL C hH (8 + 3 * ee.toNatClampNeg + 1) (gc_kn hl_ee) (gc_n _ hl_ee) 4 (by decide) dX2_envelopeAt_49 ?_
    obtain ⟨r3, hr3, hf⟩ := gx_bnd hf
    refine gx_sR (v := (some (.int r3))) (rest := []) C hH hS [.int (σ (8 + 3 * ee.toNatClampNeg + 1) 5), .int ((σ (8 + 3 * ee.toNatClampNeg + 1) 0) - a1), .int (σ (8 + 3 * ee.toNatClampNeg + 1) 4)] (t_X2_levelAt l G σ (σ (8 + 3 * ee.toNatClampNeg + 1) 5) ((σ (8 + 3 * ee.toNatClampNeg + 1) 0) - a1) (σ (8 + 3 * ee.toNatClampNeg + 1) 4) r3  hr3) lk_X2_50 ⟨rfl, rfl, Nat.le_of_ble_eq_true rfl, Nat.le_of_ble_eq_true rfl⟩ ⟨Nat.zero_le _, Nat.zero_le _⟩ hl.1 rfl (Nat.le_of_ble_eq_true rfl) dX2_envelopeAt_50 ?_
    refine gx_e0 (st := [.int r3]) ?_ rfl
    refine lv_istore_n (lv' := [(3, .int r3), (2, .int r1), (0, .ref (gx_q G (8 + 3 * ee.toNatClampNeg))), (1, .int a1)]) hx hb dX2_envelopeAt_53 rfl hl (by decide) rfl (fun ls hl => ?_)
    refine lv_iload_n hx hb dX2_envelopeAt_54 rfl (lv_at hl 1 rfl) ?_
    refine lv_iload_n hx hb dX2_envelopeAt_55 rfl (lv_at hl 0 rfl) ?_
    refine va_mmin hx hb (C.1.2.2.1.trans hl.1.symm) C.1.2.2.2.1 (C.1.2.2.2.2 _ kw_376) (C.1.2.2.2.2 _ kw_293) (C.1.2.2.2.2 _ kw_6) (C.1.2.2.2.2 _ kw_294) (Nat.le_of_ble_eq_true rfl) (Nat.le_of_ble_eq_true rfl) (Nat.zero_le _) (Nat.zero_le _) dX2_envelopeAt_56 ?_
    refine lv_topi (fun x4 hx4 => ?_)
    have hf := gx_let hf x4 hx4
    obtain rfl := Option.some.inj hf
    exact gx_iretR C hr hlocks dX2_envelopeAt_59
  · have hf := gx_pos hc2 hf
    refine lv_iload_n hx hb dX2_envelopeAt_28 rfl (lv_at hl 0 rfl) ?_
    obtain rfl := Option.some.inj hf
    exact gx_iretR C hr hlocks dX2_envelopeAt_29
abbrev rm_X3_quotient : Room := { frames := 0, cells := 0, slots := 0, locals := 0 }
def f_X3_quotient (a0 a1 : Int32) : Option Int32 :=
  if a1 ≤ 0 then (some (0 : Int32)) else (if a1 = 0 then none else
  some (a0 / a1))
set_option maxHeartbeats 4000000 in
set_option maxRecDepth 100000 in
theorem t_X3_quotient (l : Launch) (G : gx_G) (σ : gx_St) (a0 a1 : Int32) (r : Int32)  (hf : f_X3_quotient a0 a1 = some r) : Met l yX3_quotient (Cond.code yX3_quotient cX3_quotient 2 (some .int) :: wT) rm_X3_quotient (va_Pc [.int a0, .int a1] (gx_S G 50 (gc_mk G) σ)) (gx_QR (some (.int r))) 0 0 (fun _ => False) := by
  refine Met.ofW (cc := cX3_quotient) (maxL := 2) (ret := (some .int)) (by decide) rfl ?_
  intro p e s m args below meth c s₁ B hml hv
  obtain ⟨rfl, hH, hE⟩ := hv
  have C := gx_C.of (G := G) B hml hE
  have hx := C.1.1
  have hb := C.1.2.1
  have hr := B.returns
  have hlocks := B.notSynchronized
  have hS : va_S (gx_A G) s.heap s.heap [] := va_S.rf
  have hl := lv_entry ([.int a0, .int a1]) (n := 2) (Nat.le_of_ble_eq_true rfl)
  rw [lg_entry_eq]
  generalize (lg_sl ([.int a0, .int a1]) ++ List.replicate (2 - (lg_sl ([.int a0, .int a1])).length) Slot.unset).toArray = ls at hl ⊢
  have hl : lv_has ls 2 [(0, .int a0), (1, .int a1)] := hl
  unfold f_X3_quotient at hf
  refine lv_iload_n hx hb dX3_quotient_0 rfl (lv_at hl 1 rfl) ?_
  refine lv_if_le (tgt := 10) hx hb dX3_quotient_1 (by decide) (fun hc1 => ?_) (fun hc1 => ?_)
  · have hf := gx_pos hc1 hf
    refine lv_iconst (v := (0 : Int32)) hx hb dX3_quotient_10 (by decide) ?_
    obtain rfl := Option.some.inj hf
    exact gx_iretR C hr hlocks dX3_quotient_11
  · have hf := gx_neg hc1 hf
    refine lv_iload_n hx hb dX3_quotient_4 rfl (lv_at hl 0 rfl) ?_
    refine lv_iload_n hx hb dX3_quotient_5 rfl (lv_at hl 1 rfl) ?_
    obtain ⟨hz2, hf⟩ := gx_chk hf
    refine lv_idiv hx hb dX3_quotient_6 hz2 ?_
    refine lv_goto (tgt := 11) hx hb dX3_quotient_7 (by decide) ?_
    obtain rfl := Option.some.inj hf
    exact gx_iretR C hr hlocks dX3_quotient_11
abbrev rm_X3_noFarther : Room := { frames := 0, cells := 0, slots := 0, locals := 0 }
def f_X3_noFarther (a0 a1 : Int32) : Option Int32 :=
  if a0 ≤ a1 then (if (-a1) ≤ a0 then (some a0) else (some (-a1))) else (some a1)
set_option maxHeartbeats 4000000 in
set_option maxRecDepth 100000 in
theorem t_X3_noFarther (l : Launch) (G : gx_G) (σ : gx_St) (a0 a1 : Int32) (r : Int32)  (hf : f_X3_noFarther a0 a1 = some r) : Met l yX3_noFarther (Cond.code yX3_noFarther cX3_noFarther 2 (some .int) :: wT) rm_X3_noFarther (va_Pc [.int a0, .int a1] (gx_S G 50 (gc_mk G) σ)) (gx_QR (some (.int r))) 0 0 (fun _ => False) := by
  refine Met.ofW (cc := cX3_noFarther) (maxL := 2) (ret := (some .int)) (by decide) rfl ?_
  intro p e s m args below meth c s₁ B hml hv
  obtain ⟨rfl, hH, hE⟩ := hv
  have C := gx_C.of (G := G) B hml hE
  have hx := C.1.1
  have hb := C.1.2.1
  have hr := B.returns
  have hlocks := B.notSynchronized
  have hS : va_S (gx_A G) s.heap s.heap [] := va_S.rf
  have hl := lv_entry ([.int a0, .int a1]) (n := 2) (Nat.le_of_ble_eq_true rfl)
  rw [lg_entry_eq]
  generalize (lg_sl ([.int a0, .int a1]) ++ List.replicate (2 - (lg_sl ([.int a0, .int a1])).length) Slot.unset).toArray = ls at hl ⊢
  have hl : lv_has ls 2 [(0, .int a0), (1, .int a1)] := hl
  unfold f_X3_noFarther at hf
  refine lv_iload_n hx hb dX3_noFarther_0 rfl (lv_at hl 0 rfl) ?_
  refine lv_iload_n hx hb dX3_noFarther_1 rfl (lv_at hl 1 rfl) ?_
  refine lv_icmp_le (tgt := 7) hx hb dX3_noFarther_2 (by decide) (fun hc1 => ?_) (fun hc1 => ?_)
  · have hf := gx_pos hc1 hf
    refine lv_iload_n hx hb dX3_noFarther_7 rfl (lv_at hl 0 rfl) ?_
    refine lv_iload_n hx hb dX3_noFarther_8 rfl (lv_at hl 1 rfl) ?_
    refine lv_ineg hx hb dX3_noFarther_9 ?_
    refine lv_icmp_ge (tgt := 18) hx hb dX3_noFarther_10 (by decide) (fun hc2 => ?_) (fun hc2 => ?_)
    · have hf := gx_pos hc2 hf
      refine lv_iload_n hx hb dX3_noFarther_18 rfl (lv_at hl 0 rfl) ?_
      obtain rfl := Option.some.inj hf
      exact gx_iretR C hr hlocks dX3_noFarther_19
    · have hf := gx_neg hc2 hf
      refine lv_iload_n hx hb dX3_noFarther_13 rfl (lv_at hl 1 rfl) ?_
      refine lv_ineg hx hb dX3_noFarther_14 ?_
      refine lv_goto (tgt := 19) hx hb dX3_noFarther_15 (by decide) ?_
      obtain rfl := Option.some.inj hf
      exact gx_iretR C hr hlocks dX3_noFarther_19
  · have hf := gx_neg hc1 hf
    refine lv_iload_n hx hb dX3_noFarther_5 rfl (lv_at hl 1 rfl) ?_
    obtain rfl := Option.some.inj hf
    exact gx_iretR C hr hlocks dX3_noFarther_6
abbrev rm_X2_awayFrom : Room := { frames := 1, cells := 0, slots := 0, locals := 21 }
def f_X2_awayFrom (σ : gx_St) (ee a1 a2 : Int32) : Option Int32 :=
  gx_lt (if 0 ≤ a1 then a1 else 0 - a1) fun x1 =>
  if (σ (8 + 3 * ee.toNatClampNeg) 4) < x1 then (if a1 ≤ 0 then (gx_lt (a1 + (σ (8 + 3 * ee.toNatClampNeg) 4)) fun x4 =>
  (f_X3_quotient ((-(σ (8 + 3 * ee.toNatClampNeg) 2)) * x4) a2).bind fun r5 =>
  (f_X3_noFarther r5 (σ (8 + 3 * ee.toNatClampNeg) 5)).bind fun r6 =>
  some r6) else (gx_lt (a1 - (σ (8 + 3 * ee.toNatClampNeg) 4)) fun x7 =>
  (f_X3_quotient ((-(σ (8 + 3 * ee.toNatClampNeg) 2)) * x7) a2).bind fun r8 =>
  (f_X3_noFarther r8 (σ (8 + 3 * ee.toNatClampNeg) 5)).bind fun r9 =>
  some r9)) else (some (0 : Int32))
set_option maxHeartbeats 4000000 in
set_option maxRecDepth 100000 in
theorem t_X2_awayFrom (l : Launch) (G : gx_G) (σ : gx_St) (ee a1 a2 : Int32) (r : Int32) (hl_ee : ee.toNatClampNeg < 12) (hf : f_X2_awayFrom σ ee a1 a2 = some r) : Met l yX2_awayFrom (Cond.code yX2_awayFrom cX2_awayFrom 4 (some .int) :: wT) rm_X2_awayFrom (va_Pc [.ref (gx_q G (8 + 3 * ee.toNatClampNeg)), .int a1, .int a2] (gx_S G 50 (gc_mk G) σ)) (gx_QR (some (.int r))) 0 0 (fun _ => False) := by
  refine Met.ofW (cc := cX2_awayFrom) (maxL := 4) (ret := (some .int)) (by decide) rfl ?_
  intro p e s m args below meth c s₁ B hml hv
  obtain ⟨rfl, hH, hE⟩ := hv
  have C := gx_C.of (G := G) B hml hE
  have hx := C.1.1
  have hb := C.1.2.1
  have hr := B.returns
  have hlocks := B.notSynchronized
  have hS : va_S (gx_A G) s.heap s.heap [] := va_S.rf
  have hl := lv_entry ([.ref (gx_q G (8 + 3 * ee.toNatClampNeg)), .int a1, .int a2]) (n := 4) (Nat.le_of_ble_eq_true rfl)
  rw [lg_entry_eq]
  generalize (lg_sl ([.ref (gx_q G (8 + 3 * ee.toNatClampNeg)), .int a1, .int a2]) ++ List.replicate (4 - (lg_sl ([.ref (gx_q G (8 + 3 * ee.toNatClampNeg)), .int a1, .int a2])).length) Slot.unset).toArray = ls at hl ⊢
  have hl : lv_has ls 4 [(0, .ref (gx_q G (8 + 3 * ee.toNatClampNeg))), (1, .int a1), (2, .int a2)] := hl
  unfold f_X2_awayFrom at hf
  refine lv_iload_n hx hb dX2_awayFrom_0 rfl (lv_at hl 1 rfl) ?_
  refine va_mabs hx hb (C.1.2.2.1.trans hl.1.symm) C.1.2.2.2.1 (C.1.2.2.2.2 _ kw_347) (C.1.2.2.2.2 _ kw_348) (C.1.2.2.2.2 _ kw_6) (C.1.2.2.2.2 _ kw_349) (Nat.le_of_ble_eq_true rfl) (Nat.le_of_ble_eq_true rfl) (Nat.zero_le _) (Nat.zero_le _) dX2_awayFrom_1 ?_
  refine lv_topi (fun x1 hx1 => ?_)
  have hf := gx_let hf x1 hx1
  refine lv_aload_n hx hb dX2_awayFrom_4 rfl (lv_at hl 0 rfl) ?_
  refine gx_get C hH (8 + 3 * ee.toNatClampNeg) (gc_ke hl_ee) (gc_e _ hl_ee) fl_X2_21 rfl dX2_awayFrom_5 ?_
  refine lv_icmp_gt (tgt := 13) hx hb dX2_awayFrom_8 (by decide) (fun hc2 => ?_) (fun hc2 => ?_)
  · have hf := gx_pos hc2 hf
    refine lv_iload_n hx hb dX2_awayFrom_13 rfl (lv_at hl 1 rfl) ?_
    refine lv_if_le (tgt := 26) hx hb dX2_awayFrom_14 (by decide) (fun hc3 => ?_) (fun hc3 => ?_)
    · have hf := gx_pos hc3 hf
      refine lv_iload_n hx hb dX2_awayFrom_26 rfl (lv_at hl 1 rfl) ?_
      refine lv_aload_n hx hb dX2_awayFrom_27 rfl (lv_at hl 0 rfl) ?_
      refine gx_get C hH (8 + 3 * ee.toNatClampNeg) (gc_ke hl_ee) (gc_e _ hl_ee) fl_X2_21 rfl dX2_awayFrom_28 ?_
      refine lv_iadd hx hb dX2_awayFrom_31 ?_
      refine lv_topi (fun x4 hx4 => ?_)
      have hf := gx_let hf x4 hx4
      refine lv_istore_n (lv' := [(3, .int x4), (0, .ref (gx_q G (8 + 3 * ee.toNatClampNeg))), (1, .int a1), (2, .int a2)]) hx hb dX2_awayFrom_32 rfl hl (by decide) rfl (fun ls hl => ?_)
      refine lv_aload_n hx hb dX2_awayFrom_33 rfl (lv_at hl 1 rfl) ?_
      refine gx_get C hH (8 + 3 * ee.toNatClampNeg) (gc_ke hl_ee) (gc_e _ hl_ee) fl_X2_15 rfl dX2_awayFrom_34 ?_
      refine lv_ineg hx hb dX2_awayFrom_37 ?_
      refine lv_iload_n hx hb dX2_awayFrom_38 rfl (lv_at hl 0 rfl) ?_
      refine lv_imul hx hb dX2_awayFrom_39 ?_
      refine lv_iload_n hx hb dX2_awayFrom_40 rfl (lv_at hl 3 rfl) ?_
      obtain ⟨r5, hr5, hf⟩ := gx_bnd hf
      refine gx_nR (v := (some (.int r5))) (rest := []) C hH hS [.int ((-(σ (8 + 3 * ee.toNatClampNeg) 2)) * x4), .int a2] (t_X3_quotient l G σ ((-(σ (8 + 3 * ee.toNatClampNeg) 2)) * x4) a2 r5  hr5) C.2.2.2.1 lk_X2_100 ⟨rfl, rfl, Nat.le_of_ble_eq_true rfl, Nat.le_of_ble_eq_true rfl⟩ ⟨Nat.zero_le _, Nat.zero_le _⟩ hl.1 rfl (Nat.le_of_ble_eq_true rfl) dX2_awayFrom_41 ?_
      refine gx_e0 (st := [.int r5]) ?_ rfl
      refine lv_aload_n hx hb dX2_awayFrom_44 rfl (lv_at hl 1 rfl) ?_
      refine gx_get C hH (8 + 3 * ee.toNatClampNeg) (gc_ke hl_ee) (gc_e _ hl_ee) fl_X2_24 rfl dX2_awayFrom_45 ?_
      obtain ⟨r6, hr6, hf⟩ := gx_bnd hf
      refine gx_nR (v := (some (.int r6))) (rest := []) C hH hS [.int r5, .int (σ (8 + 3 * ee.toNatClampNeg) 5)] (t_X3_noFarther l G σ r5 (σ (8 + 3 * ee.toNatClampNeg) 5) r6  hr6) C.2.2.2.2.1 lk_X2_106 ⟨rfl, rfl, Nat.le_of_ble_eq_true rfl, Nat.le_of_ble_eq_true rfl⟩ ⟨Nat.zero_le _, Nat.zero_le _⟩ hl.1 rfl (Nat.le_of_ble_eq_true rfl) dX2_awayFrom_48 ?_
      refine gx_e0 (st := [.int r6]) ?_ rfl
      obtain rfl := Option.some.inj hf
      exact gx_iretR C hr hlocks dX2_awayFrom_51
    · have hf := gx_neg hc3 hf
      refine lv_iload_n hx hb dX2_awayFrom_17 rfl (lv_at hl 1 rfl) ?_
      refine lv_aload_n hx hb dX2_awayFrom_18 rfl (lv_at hl 0 rfl) ?_
      refine gx_get C hH (8 + 3 * ee.toNatClampNeg) (gc_ke hl_ee) (gc_e _ hl_ee) fl_X2_21 rfl dX2_awayFrom_19 ?_
      refine lv_isub hx hb dX2_awayFrom_22 ?_
      refine lv_goto (tgt := 32) hx hb dX2_awayFrom_23 (by decide) ?_
      refine lv_topi (fun x7 hx7 => ?_)
      have hf := gx_let hf x7 hx7
      refine lv_istore_n (lv' := [(3, .int x7), (0, .ref (gx_q G (8 + 3 * ee.toNatClampNeg))), (1, .int a1), (2, .int a2)]) hx hb dX2_awayFrom_32 rfl hl (by decide) rfl (fun ls hl => ?_)
      refine lv_aload_n hx hb dX2_awayFrom_33 rfl (lv_at hl 1 rfl) ?_
      refine gx_get C hH (8 + 3 * ee.toNatClampNeg) (gc_ke hl_ee) (gc_e _ hl_ee) fl_X2_15 rfl dX2_awayFrom_34 ?_
      refine lv_ineg hx hb dX2_awayFrom_37 ?_
      refine lv_iload_n hx hb dX2_awayFrom_38 rfl (lv_at hl 0 rfl) ?_
      refine lv_imul hx hb dX2_awayFrom_39 ?_
      refine lv_iload_n hx hb dX2_awayFrom_40 rfl (lv_at hl 3 rfl) ?_
      obtain ⟨r8, hr8, hf⟩ := gx_bnd hf
      refine gx_nR (v := (some (.int r8))) (rest := []) C hH hS [.int ((-(σ (8 + 3 * ee.toNatClampNeg) 2)) * x7), .int a2] (t_X3_quotient l G σ ((-(σ (8 + 3 * ee.toNatClampNeg) 2)) * x7) a2 r8  hr8) C.2.2.2.1 lk_X2_100 ⟨rfl, rfl, Nat.le_of_ble_eq_true rfl, Nat.le_of_ble_eq_true rfl⟩ ⟨Nat.zero_le _, Nat.zero_le _⟩ hl.1 rfl (Nat.le_of_ble_eq_true rfl) dX2_awayFrom_41 ?_
      refine gx_e0 (st := [.int r8]) ?_ rfl
      refine lv_aload_n hx hb dX2_awayFrom_44 rfl (lv_at hl 1 rfl) ?_
      refine gx_get C hH (8 + 3 * ee.toNatClampNeg) (gc_ke hl_ee) (gc_e _ hl_ee) fl_X2_24 rfl dX2_awayFrom_45 ?_
      obtain ⟨r9, hr9, hf⟩ := gx_bnd hf
      refine gx_nR (v := (some (.int r9))) (rest := []) C hH hS [.int r8, .int (σ (8 + 3 * ee.toNatClampNeg) 5)] (t_X3_noFarther l G σ r8 (σ (8 + 3 * ee.toNatClampNeg) 5) r9  hr9) C.2.2.2.2.1 lk_X2_106 ⟨rfl, rfl, Nat.le_of_ble_eq_true rfl, Nat.le_of_ble_eq_true rfl⟩ ⟨Nat.zero_le _, Nat.zero_le _⟩ hl.1 rfl (Nat.le_of_ble_eq_true rfl) dX2_awayFrom_48 ?_
      refine gx_e0 (st := [.int r9]) ?_ rfl
      obtain rfl := Option.some.inj hf
      exact gx_iretR C hr hlocks dX2_awayFrom_51
  · have hf := gx_neg hc2 hf
    refine lv_iconst (v := (0 : Int32)) hx hb dX2_awayFrom_11 (by decide) ?_
    obtain rfl := Option.some.inj hf
    exact gx_iretR C hr hlocks dX2_awayFrom_12
abbrev rm_X2_wallAt : Room := { frames := 1, cells := 0, slots := 0, locals := 21 }
def f_X2_wallAt (σ : gx_St) (ee a1 : Int32) : Option Int32 :=
  if (σ (8 + 3 * ee.toNatClampNeg) 4) = 0 then (gx_lt (a1 - (σ (8 + 3 * ee.toNatClampNeg) 3)) fun x6 =>
  if 0 < x6 then ((f_X3_noFarther (((σ (8 + 3 * ee.toNatClampNeg) 2) * x6) / (100 : Int32)) (σ (8 + 3 * ee.toNatClampNeg) 5)).bind fun r8 =>
  some (-r8)) else (some (0 : Int32))) else (gx_lt ((σ (8 + 3 * ee.toNatClampNeg) 3) - a1) fun x2 =>
  if 0 < x2 then ((f_X3_noFarther (((σ (8 + 3 * ee.toNatClampNeg) 2) * x2) / (100 : Int32)) (σ (8 + 3 * ee.toNatClampNeg) 5)).bind fun r4 =>
  some r4) else (some (0 : Int32)))
set_option maxHeartbeats 4000000 in
set_option maxRecDepth 100000 in
theorem t_X2_wallAt (l : Launch) (G : gx_G) (σ : gx_St) (ee a1 : Int32) (r : Int32) (hl_ee : ee.toNatClampNeg < 12) (hf : f_X2_wallAt σ ee a1 = some r) : Met l yX2_wallAt (Cond.code yX2_wallAt cX2_wallAt 4 (some .int) :: wT) rm_X2_wallAt (va_Pc [.ref (gx_q G (8 + 3 * ee.toNatClampNeg)), .int a1] (gx_S G 50 (gc_mk G) σ)) (gx_QR (some (.int r))) 0 0 (fun _ => False) := by
  refine Met.ofW (cc := cX2_wallAt) (maxL := 4) (ret := (some .int)) (by decide) rfl ?_
  intro p e s m args below meth c s₁ B hml hv
  obtain ⟨rfl, hH, hE⟩ := hv
  have C := gx_C.of (G := G) B hml hE
  have hx := C.1.1
  have hb := C.1.2.1
  have hr := B.returns
  have hlocks := B.notSynchronized
  have hS : va_S (gx_A G) s.heap s.heap [] := va_S.rf
  have hl := lv_entry ([.ref (gx_q G (8 + 3 * ee.toNatClampNeg)), .int a1]) (n := 4) (Nat.le_of_ble_eq_true rfl)
  rw [lg_entry_eq]
  generalize (lg_sl ([.ref (gx_q G (8 + 3 * ee.toNatClampNeg)), .int a1]) ++ List.replicate (4 - (lg_sl ([.ref (gx_q G (8 + 3 * ee.toNatClampNeg)), .int a1])).length) Slot.unset).toArray = ls at hl ⊢
  have hl : lv_has ls 4 [(0, .ref (gx_q G (8 + 3 * ee.toNatClampNeg))), (1, .int a1)] := hl
  unfold f_X2_wallAt at hf
  refine lv_aload_n hx hb dX2_wallAt_0 rfl (lv_at hl 0 rfl) ?_
  refine gx_get C hH (8 + 3 * ee.toNatClampNeg) (gc_ke hl_ee) (gc_e _ hl_ee) fl_X2_21 rfl dX2_wallAt_1 ?_
  refine lv_if_ne (tgt := 16) hx hb dX2_wallAt_4 (by decide) (fun hc1 => ?_) (fun hc1 => ?_)
  · have hf := gx_neg hc1 hf
    refine lv_aload_n hx hb dX2_wallAt_16 rfl (lv_at hl 0 rfl) ?_
    refine gx_get C hH (8 + 3 * ee.toNatClampNeg) (gc_ke hl_ee) (gc_e _ hl_ee) fl_X2_18 rfl dX2_wallAt_17 ?_
    refine lv_iload_n hx hb dX2_wallAt_20 rfl (lv_at hl 1 rfl) ?_
    refine lv_isub hx hb dX2_wallAt_21 ?_
    refine lv_topi (fun x2 hx2 => ?_)
    have hf := gx_let hf x2 hx2
    refine lv_istore_n (lv' := [(2, .int x2), (0, .ref (gx_q G (8 + 3 * ee.toNatClampNeg))), (1, .int a1)]) hx hb dX2_wallAt_22 rfl hl (by decide) rfl (fun ls hl => ?_)
    refine lv_iload_n hx hb dX2_wallAt_23 rfl (lv_at hl 0 rfl) ?_
    refine lv_if_gt (tgt := 29) hx hb dX2_wallAt_24 (by decide) (fun hc3 => ?_) (fun hc3 => ?_)
    · have hf := gx_pos hc3 hf
      refine lv_aload_n hx hb dX2_wallAt_29 rfl (lv_at hl 1 rfl) ?_
      refine gx_get C hH (8 + 3 * ee.toNatClampNeg) (gc_ke hl_ee) (gc_e _ hl_ee) fl_X2_15 rfl dX2_wallAt_30 ?_
      refine lv_iload_n hx hb dX2_wallAt_33 rfl (lv_at hl 0 rfl) ?_
      refine lv_imul hx hb dX2_wallAt_34 ?_
      refine lv_bipush (v := (100 : Int32)) hx hb dX2_wallAt_35 (by decide) ?_
      refine lv_idiv hx hb dX2_wallAt_37 (by decide) ?_
      refine lv_aload_n hx hb dX2_wallAt_38 rfl (lv_at hl 1 rfl) ?_
      refine gx_get C hH (8 + 3 * ee.toNatClampNeg) (gc_ke hl_ee) (gc_e _ hl_ee) fl_X2_24 rfl dX2_wallAt_39 ?_
      obtain ⟨r4, hr4, hf⟩ := gx_bnd hf
      refine gx_nR (v := (some (.int r4))) (rest := []) C hH hS [.int (((σ (8 + 3 * ee.toNatClampNeg) 2) * x2) / (100 : Int32)), .int (σ (8 + 3 * ee.toNatClampNeg) 5)] (t_X3_noFarther l G σ (((σ (8 + 3 * ee.toNatClampNeg) 2) * x2) / (100 : Int32)) (σ (8 + 3 * ee.toNatClampNeg) 5) r4  hr4) C.2.2.2.2.1 lk_X2_106 ⟨rfl, rfl, Nat.le_of_ble_eq_true rfl, Nat.le_of_ble_eq_true rfl⟩ ⟨Nat.zero_le _, Nat.zero_le _⟩ hl.1 rfl (Nat.le_of_ble_eq_true rfl) dX2_wallAt_42 ?_
      refine gx_e0 (st := [.int r4]) ?_ rfl
      refine lv_istore_n (lv' := [(3, .int r4), (2, .int x2), (0, .ref (gx_q G (8 + 3 * ee.toNatClampNeg))), (1, .int a1)]) hx hb dX2_wallAt_45 rfl hl (by decide) rfl (fun ls hl => ?_)
      refine lv_aload_n hx hb dX2_wallAt_46 rfl (lv_at hl 2 rfl) ?_
      refine gx_get C hH (8 + 3 * ee.toNatClampNeg) (gc_ke hl_ee) (gc_e _ hl_ee) fl_X2_21 rfl dX2_wallAt_47 ?_
      refine lv_if_ne (tgt := 58) hx hb dX2_wallAt_50 (by decide) (fun hc5 => ?_) (fun hc5 => absurd hc5 hc1)
      refine lv_iload_n hx hb dX2_wallAt_58 rfl (lv_at hl 0 rfl) ?_
      obtain rfl := Option.some.inj hf
      exact gx_iretR C hr hlocks dX2_wallAt_59
    · have hf := gx_neg hc3 hf
      refine lv_iconst (v := (0 : Int32)) hx hb dX2_wallAt_27 (by decide) ?_
      obtain rfl := Option.some.inj hf
      exact gx_iretR C hr hlocks dX2_wallAt_28
  · have hf := gx_pos hc1 hf
    refine lv_iload_n hx hb dX2_wallAt_7 rfl (lv_at hl 1 rfl) ?_
    refine lv_aload_n hx hb dX2_wallAt_8 rfl (lv_at hl 0 rfl) ?_
    refine gx_get C hH (8 + 3 * ee.toNatClampNeg) (gc_ke hl_ee) (gc_e _ hl_ee) fl_X2_18 rfl dX2_wallAt_9 ?_
    refine lv_isub hx hb dX2_wallAt_12 ?_
    refine lv_goto (tgt := 22) hx hb dX2_wallAt_13 (by decide) ?_
    refine lv_topi (fun x6 hx6 => ?_)
    have hf := gx_let hf x6 hx6
    refine lv_istore_n (lv' := [(2, .int x6), (0, .ref (gx_q G (8 + 3 * ee.toNatClampNeg))), (1, .int a1)]) hx hb dX2_wallAt_22 rfl hl (by decide) rfl (fun ls hl => ?_)
    refine lv_iload_n hx hb dX2_wallAt_23 rfl (lv_at hl 0 rfl) ?_
    refine lv_if_gt (tgt := 29) hx hb dX2_wallAt_24 (by decide) (fun hc7 => ?_) (fun hc7 => ?_)
    · have hf := gx_pos hc7 hf
      refine lv_aload_n hx hb dX2_wallAt_29 rfl (lv_at hl 1 rfl) ?_
      refine gx_get C hH (8 + 3 * ee.toNatClampNeg) (gc_ke hl_ee) (gc_e _ hl_ee) fl_X2_15 rfl dX2_wallAt_30 ?_
      refine lv_iload_n hx hb dX2_wallAt_33 rfl (lv_at hl 0 rfl) ?_
      refine lv_imul hx hb dX2_wallAt_34 ?_
      refine lv_bipush (v := (100 : Int32)) hx hb dX2_wallAt_35 (by decide) ?_
      refine lv_idiv hx hb dX2_wallAt_37 (by decide) ?_
      refine lv_aload_n hx hb dX2_wallAt_38 rfl (lv_at hl 1 rfl) ?_
      refine gx_get C hH (8 + 3 * ee.toNatClampNeg) (gc_ke hl_ee) (gc_e _ hl_ee) fl_X2_24 rfl dX2_wallAt_39 ?_
      obtain ⟨r8, hr8, hf⟩ := gx_bnd hf
      refine gx_nR (v := (some (.int r8))) (rest := []) C hH hS [.int (((σ (8 + 3 * ee.toNatClampNeg) 2) * x6) / (100 : Int32)), .int (σ (8 + 3 * ee.toNatClampNeg) 5)] (t_X3_noFarther l G σ (((σ (8 + 3 * ee.toNatClampNeg) 2) * x6) / (100 : Int32)) (σ (8 + 3 * ee.toNatClampNeg) 5) r8  hr8) C.2.2.2.2.1 lk_X2_106 ⟨rfl, rfl, Nat.le_of_ble_eq_true rfl, Nat.le_of_ble_eq_true rfl⟩ ⟨Nat.zero_le _, Nat.zero_le _⟩ hl.1 rfl (Nat.le_of_ble_eq_true rfl) dX2_wallAt_42 ?_
      refine gx_e0 (st := [.int r8]) ?_ rfl
      refine lv_istore_n (lv' := [(3, .int r8), (2, .int x6), (0, .ref (gx_q G (8 + 3 * ee.toNatClampNeg))), (1, .int a1)]) hx hb dX2_wallAt_45 rfl hl (by decide) rfl (fun ls hl => ?_)
      refine lv_aload_n hx hb dX2_wallAt_46 rfl (lv_at hl 2 rfl) ?_
      refine gx_get C hH (8 + 3 * ee.toNatClampNeg) (gc_ke hl_ee) (gc_e _ hl_ee) fl_X2_21 rfl dX2_wallAt_47 ?_
      refine lv_if_ne (tgt := 58) hx hb dX2_wallAt_50 (by decide) (fun hc9 => absurd hc1 hc9) (fun hc9 => ?_)
      refine lv_iload_n hx hb dX2_wallAt_53 rfl (lv_at hl 0 rfl) ?_
      refine lv_ineg hx hb dX2_wallAt_54 ?_
      refine lv_goto (tgt := 59) hx hb dX2_wallAt_55 (by decide) ?_
      obtain rfl := Option.some.inj hf
      exact gx_iretR C hr hlocks dX2_wallAt_59
    · have hf := gx_neg hc7 hf
      refine lv_iconst (v := (0 : Int32)) hx hb dX2_wallAt_27 (by decide) ?_
      obtain rfl := Option.some.inj hf
      exact gx_iretR C hr hlocks dX2_wallAt_28
abbrev rm_X3_remainder : Room := { frames := 0, cells := 0, slots := 0, locals := 0 }
def f_X3_remainder (a0 a1 : Int32) : Option Int32 :=
  if a1 ≤ 0 then (some (0 : Int32)) else (if a1 = 0 then none else
  some (a0 - a0 / a1 * a1))
set_option maxHeartbeats 4000000 in
set_option maxRecDepth 100000 in
theorem t_X3_remainder (l : Launch) (G : gx_G) (σ : gx_St) (a0 a1 : Int32) (r : Int32)  (hf : f_X3_remainder a0 a1 = some r) : Met l yX3_remainder (Cond.code yX3_remainder cX3_remainder 2 (some .int) :: wT) rm_X3_remainder (va_Pc [.int a0, .int a1] (gx_S G 50 (gc_mk G) σ)) (gx_QR (some (.int r))) 0 0 (fun _ => False) := by
  refine Met.ofW (cc := cX3_remainder) (maxL := 2) (ret := (some .int)) (by decide) rfl ?_
  intro p e s m args below meth c s₁ B hml hv
  obtain ⟨rfl, hH, hE⟩ := hv
  have C := gx_C.of (G := G) B hml hE
  have hx := C.1.1
  have hb := C.1.2.1
  have hr := B.returns
  have hlocks := B.notSynchronized
  have hS : va_S (gx_A G) s.heap s.heap [] := va_S.rf
  have hl := lv_entry ([.int a0, .int a1]) (n := 2) (Nat.le_of_ble_eq_true rfl)
  rw [lg_entry_eq]
  generalize (lg_sl ([.int a0, .int a1]) ++ List.replicate (2 - (lg_sl ([.int a0, .int a1])).length) Slot.unset).toArray = ls at hl ⊢
  have hl : lv_has ls 2 [(0, .int a0), (1, .int a1)] := hl
  unfold f_X3_remainder at hf
  refine lv_iload_n hx hb dX3_remainder_0 rfl (lv_at hl 1 rfl) ?_
  refine lv_if_le (tgt := 10) hx hb dX3_remainder_1 (by decide) (fun hc1 => ?_) (fun hc1 => ?_)
  · have hf := gx_pos hc1 hf
    refine lv_iconst (v := (0 : Int32)) hx hb dX3_remainder_10 (by decide) ?_
    obtain rfl := Option.some.inj hf
    exact gx_iretR C hr hlocks dX3_remainder_11
  · have hf := gx_neg hc1 hf
    refine lv_iload_n hx hb dX3_remainder_4 rfl (lv_at hl 0 rfl) ?_
    refine lv_iload_n hx hb dX3_remainder_5 rfl (lv_at hl 1 rfl) ?_
    obtain ⟨hz2, hf⟩ := gx_chk hf
    refine lv_irem hx hb dX3_remainder_6 hz2 ?_
    refine lv_goto (tgt := 11) hx hb dX3_remainder_7 (by decide) ?_
    obtain rfl := Option.some.inj hf
    exact gx_iretR C hr hlocks dX3_remainder_11
abbrev rm_X2_riseAt : Room := { frames := 0, cells := 0, slots := 0, locals := 0 }
def f_X2_riseAt (σ : gx_St) (ee a1 : Int32) : Option Int32 :=
  if (σ (8 + 3 * ee.toNatClampNeg) 4) ≤ ((2 : Int32) * a1) then (some (((3 : Int32) * (σ (8 + 3 * ee.toNatClampNeg) 4)) - ((4 : Int32) * a1))) else (some (((4 : Int32) * a1) - (σ (8 + 3 * ee.toNatClampNeg) 4)))
set_option maxHeartbeats 4000000 in
set_option maxRecDepth 100000 in
theorem t_X2_riseAt (l : Launch) (G : gx_G) (σ : gx_St) (ee a1 : Int32) (r : Int32) (hl_ee : ee.toNatClampNeg < 12) (hf : f_X2_riseAt σ ee a1 = some r) : Met l yX2_riseAt (Cond.code yX2_riseAt cX2_riseAt 2 (some .int) :: wT) rm_X2_riseAt (va_Pc [.ref (gx_q G (8 + 3 * ee.toNatClampNeg)), .int a1] (gx_S G 50 (gc_mk G) σ)) (gx_QR (some (.int r))) 0 0 (fun _ => False) := by
  refine Met.ofW (cc := cX2_riseAt) (maxL := 2) (ret := (some .int)) (by decide) rfl ?_
  intro p e s m args below meth c s₁ B hml hv
  obtain ⟨rfl, hH, hE⟩ := hv
  have C := gx_C.of (G := G) B hml hE
  have hx := C.1.1
  have hb := C.1.2.1
  have hr := B.returns
  have hlocks := B.notSynchronized
  have hS : va_S (gx_A G) s.heap s.heap [] := va_S.rf
  have hl := lv_entry ([.ref (gx_q G (8 + 3 * ee.toNatClampNeg)), .int a1]) (n := 2) (Nat.le_of_ble_eq_true rfl)
  rw [lg_entry_eq]
  generalize (lg_sl ([.ref (gx_q G (8 + 3 * ee.toNatClampNeg)), .int a1]) ++ List.replicate (2 - (lg_sl ([.ref (gx_q G (8 + 3 * ee.toNatClampNeg)), .int a1])).length) Slot.unset).toArray = ls at hl ⊢
  have hl : lv_has ls 2 [(0, .ref (gx_q G (8 + 3 * ee.toNatClampNeg))), (1, .int a1)] := hl
  unfold f_X2_riseAt at hf
  refine lv_iconst (v := (2 : Int32)) hx hb dX2_riseAt_0 (by decide) ?_
  refine lv_iload_n hx hb dX2_riseAt_1 rfl (lv_at hl 1 rfl) ?_
  refine lv_imul hx hb dX2_riseAt_2 ?_
  refine lv_aload_n hx hb dX2_riseAt_3 rfl (lv_at hl 0 rfl) ?_
  refine gx_get C hH (8 + 3 * ee.toNatClampNeg) (gc_ke hl_ee) (gc_e _ hl_ee) fl_X2_21 rfl dX2_riseAt_4 ?_
  refine lv_icmp_ge (tgt := 21) hx hb dX2_riseAt_7 (by decide) (fun hc1 => ?_) (fun hc1 => ?_)
  · have hf := gx_pos hc1 hf
    refine lv_iconst (v := (3 : Int32)) hx hb dX2_riseAt_21 (by decide) ?_
    refine lv_aload_n hx hb dX2_riseAt_22 rfl (lv_at hl 0 rfl) ?_
    refine gx_get C hH (8 + 3 * ee.toNatClampNeg) (gc_ke hl_ee) (gc_e _ hl_ee) fl_X2_21 rfl dX2_riseAt_23 ?_
    refine lv_imul hx hb dX2_riseAt_26 ?_
    refine lv_iconst (v := (4 : Int32)) hx hb dX2_riseAt_27 (by decide) ?_
    refine lv_iload_n hx hb dX2_riseAt_28 rfl (lv_at hl 1 rfl) ?_
    refine lv_imul hx hb dX2_riseAt_29 ?_
    refine lv_isub hx hb dX2_riseAt_30 ?_
    obtain rfl := Option.some.inj hf
    exact gx_iretR C hr hlocks dX2_riseAt_31
  · have hf := gx_neg hc1 hf
    refine lv_iconst (v := (4 : Int32)) hx hb dX2_riseAt_10 (by decide) ?_
    refine lv_iload_n hx hb dX2_riseAt_11 rfl (lv_at hl 1 rfl) ?_
    refine lv_imul hx hb dX2_riseAt_12 ?_
    refine lv_aload_n hx hb dX2_riseAt_13 rfl (lv_at hl 0 rfl) ?_
    refine gx_get C hH (8 + 3 * ee.toNatClampNeg) (gc_ke hl_ee) (gc_e _ hl_ee) fl_X2_21 rfl dX2_riseAt_14 ?_
    refine lv_isub hx hb dX2_riseAt_17 ?_
    refine lv_goto (tgt := 31) hx hb dX2_riseAt_18 (by decide) ?_
    obtain rfl := Option.some.inj hf
    exact gx_iretR C hr hlocks dX2_riseAt_31
abbrev rm_X2_waveAt : Room := { frames := 1, cells := 0, slots := 0, locals := 21 }
def f_X2_waveAt (σ : gx_St) (ee a1 : Int32) : Option Int32 :=
  if (σ (8 + 3 * ee.toNatClampNeg) 1) = (1 : Int32) then ((f_X3_remainder (a1 + (σ (8 + 3 * ee.toNatClampNeg) 5)) (σ (8 + 3 * ee.toNatClampNeg) 4)).bind fun r2 =>
  if (σ (8 + 3 * ee.toNatClampNeg) 4) ≤ ((2 : Int32) * r2) then (some ((σ (8 + 3 * ee.toNatClampNeg) 3) - (σ (8 + 3 * ee.toNatClampNeg) 2))) else (some ((σ (8 + 3 * ee.toNatClampNeg) 3) + (σ (8 + 3 * ee.toNatClampNeg) 2)))) else if (σ (8 + 3 * ee.toNatClampNeg) 1) = (2 : Int32) then ((f_X3_remainder (a1 + (σ (8 + 3 * ee.toNatClampNeg) 5)) (σ (8 + 3 * ee.toNatClampNeg) 4)).bind fun r5 =>
  (f_X2_riseAt σ ee r5).bind fun r6 =>
  (f_X3_quotient ((σ (8 + 3 * ee.toNatClampNeg) 2) * r6) (σ (8 + 3 * ee.toNatClampNeg) 4)).bind fun r7 =>
  some ((σ (8 + 3 * ee.toNatClampNeg) 3) + r7)) else if (σ (8 + 3 * ee.toNatClampNeg) 1) = (3 : Int32) then (if (σ (8 + 3 * ee.toNatClampNeg + 1) 0) = (-9 : Int32) then (some (σ (8 + 3 * ee.toNatClampNeg) 2)) else ((f_X3_quotient (((σ (8 + 3 * ee.toNatClampNeg) 3) - (σ (8 + 3 * ee.toNatClampNeg) 2)) * a1) (σ (8 + 3 * ee.toNatClampNeg + 1) 0)).bind fun r10 =>
  some ((σ (8 + 3 * ee.toNatClampNeg) 2) + r10))) else (some (σ (8 + 3 * ee.toNatClampNeg) 2))
set_option maxHeartbeats 4000000 in
set_option maxRecDepth 100000 in
theorem t_X2_waveAt (l : Launch) (G : gx_G) (σ : gx_St) (ee a1 : Int32) (r : Int32) (hl_ee : ee.toNatClampNeg < 12) (hf : f_X2_waveAt σ ee a1 = some r) : Met l yX2_waveAt (Cond.code yX2_waveAt cX2_waveAt 2 (some .int) :: wT) rm_X2_waveAt (va_Pc [.ref (gx_q G (8 + 3 * ee.toNatClampNeg)), .int a1] (gx_S G 50 (gc_mk G) σ)) (gx_QR (some (.int r))) 0 0 (fun _ => False) := by
  refine Met.ofW (cc := cX2_waveAt) (maxL := 2) (ret := (some .int)) (by decide) rfl ?_
  intro p e s m args below meth c s₁ B hml hv
  obtain ⟨rfl, hH, hE⟩ := hv
  have C := gx_C.of (G := G) B hml hE
  have hx := C.1.1
  have hb := C.1.2.1
  have hr := B.returns
  have hlocks := B.notSynchronized
  have hS : va_S (gx_A G) s.heap s.heap [] := va_S.rf
  have hl := lv_entry ([.ref (gx_q G (8 + 3 * ee.toNatClampNeg)), .int a1]) (n := 2) (Nat.le_of_ble_eq_true rfl)
  rw [lg_entry_eq]
  generalize (lg_sl ([.ref (gx_q G (8 + 3 * ee.toNatClampNeg)), .int a1]) ++ List.replicate (2 - (lg_sl ([.ref (gx_q G (8 + 3 * ee.toNatClampNeg)), .int a1])).length) Slot.unset).toArray = ls at hl ⊢
  have hl : lv_has ls 2 [(0, .ref (gx_q G (8 + 3 * ee.toNatClampNeg))), (1, .int a1)] := hl
  unfold f_X2_waveAt at hf
  refine lv_aload_n hx hb dX2_waveAt_0 rfl (lv_at hl 0 rfl) ?_
  refine gx_get C hH (8 + 3 * ee.toNatClampNeg) (gc_ke hl_ee) (gc_e _ hl_ee) fl_X2_9 rfl dX2_waveAt_1 ?_
  by_cases hc1 : (σ (8 + 3 * ee.toNatClampNeg) 1) = (1 : Int32)
  · have hf := gx_pos hc1 hf
    refine lv_tableIn (tgt := 32) hx hb dX2_waveAt_4 (by rw [hc1]; decide) (by rw [hc1]; decide) (by rw [hc1]; rfl) (by decide) ?_
    refine lv_iconst (v := (2 : Int32)) hx hb dX2_waveAt_32 (by decide) ?_
    refine lv_iload_n hx hb dX2_waveAt_33 rfl (lv_at hl 1 rfl) ?_
    refine lv_aload_n hx hb dX2_waveAt_34 rfl (lv_at hl 0 rfl) ?_
    refine gx_get C hH (8 + 3 * ee.toNatClampNeg) (gc_ke hl_ee) (gc_e _ hl_ee) fl_X2_24 rfl dX2_waveAt_35 ?_
    refine lv_iadd hx hb dX2_waveAt_38 ?_
    refine lv_aload_n hx hb dX2_waveAt_39 rfl (lv_at hl 0 rfl) ?_
    refine gx_get C hH (8 + 3 * ee.toNatClampNeg) (gc_ke hl_ee) (gc_e _ hl_ee) fl_X2_21 rfl dX2_waveAt_40 ?_
    obtain ⟨r2, hr2, hf⟩ := gx_bnd hf
    refine gx_nR (v := (some (.int r2))) (rest := [.int (2 : Int32)]) C hH hS [.int (a1 + (σ (8 + 3 * ee.toNatClampNeg) 5)), .int (σ (8 + 3 * ee.toNatClampNeg) 4)] (t_X3_remainder l G σ (a1 + (σ (8 + 3 * ee.toNatClampNeg) 5)) (σ (8 + 3 * ee.toNatClampNeg) 4) r2  hr2) C.2.2.2.2.2.1 lk_X2_94 ⟨rfl, rfl, Nat.le_of_ble_eq_true rfl, Nat.le_of_ble_eq_true rfl⟩ ⟨Nat.zero_le _, Nat.zero_le _⟩ hl.1 rfl (Nat.le_of_ble_eq_true rfl) dX2_waveAt_43 ?_
    refine gx_e0 (st := [.int r2, .int (2 : Int32)]) ?_ rfl
    refine lv_imul hx hb dX2_waveAt_46 ?_
    refine lv_aload_n hx hb dX2_waveAt_47 rfl (lv_at hl 0 rfl) ?_
    refine gx_get C hH (8 + 3 * ee.toNatClampNeg) (gc_ke hl_ee) (gc_e _ hl_ee) fl_X2_21 rfl dX2_waveAt_48 ?_
    refine lv_icmp_ge (tgt := 66) hx hb dX2_waveAt_51 (by decide) (fun hc3 => ?_) (fun hc3 => ?_)
    · have hf := gx_pos hc3 hf
      refine lv_aload_n hx hb dX2_waveAt_66 rfl (lv_at hl 0 rfl) ?_
      refine gx_get C hH (8 + 3 * ee.toNatClampNeg) (gc_ke hl_ee) (gc_e _ hl_ee) fl_X2_18 rfl dX2_waveAt_67 ?_
      refine lv_aload_n hx hb dX2_waveAt_70 rfl (lv_at hl 0 rfl) ?_
      refine gx_get C hH (8 + 3 * ee.toNatClampNeg) (gc_ke hl_ee) (gc_e _ hl_ee) fl_X2_15 rfl dX2_waveAt_71 ?_
      refine lv_isub hx hb dX2_waveAt_74 ?_
      obtain rfl := Option.some.inj hf
      exact gx_iretR C hr hlocks dX2_waveAt_75
    · have hf := gx_neg hc3 hf
      refine lv_aload_n hx hb dX2_waveAt_54 rfl (lv_at hl 0 rfl) ?_
      refine gx_get C hH (8 + 3 * ee.toNatClampNeg) (gc_ke hl_ee) (gc_e _ hl_ee) fl_X2_18 rfl dX2_waveAt_55 ?_
      refine lv_aload_n hx hb dX2_waveAt_58 rfl (lv_at hl 0 rfl) ?_
      refine gx_get C hH (8 + 3 * ee.toNatClampNeg) (gc_ke hl_ee) (gc_e _ hl_ee) fl_X2_15 rfl dX2_waveAt_59 ?_
      refine lv_iadd hx hb dX2_waveAt_62 ?_
      refine lv_goto (tgt := 75) hx hb dX2_waveAt_63 (by decide) ?_
      obtain rfl := Option.some.inj hf
      exact gx_iretR C hr hlocks dX2_waveAt_75
  · have hf := gx_neg hc1 hf
    by_cases hc4 : (σ (8 + 3 * ee.toNatClampNeg) 1) = (2 : Int32)
    · have hf := gx_pos hc4 hf
      refine lv_tableIn (tgt := 76) hx hb dX2_waveAt_4 (by rw [hc4]; decide) (by rw [hc4]; decide) (by rw [hc4]; rfl) (by decide) ?_
      refine lv_aload_n hx hb dX2_waveAt_76 rfl (lv_at hl 0 rfl) ?_
      refine gx_get C hH (8 + 3 * ee.toNatClampNeg) (gc_ke hl_ee) (gc_e _ hl_ee) fl_X2_18 rfl dX2_waveAt_77 ?_
      refine lv_aload_n hx hb dX2_waveAt_80 rfl (lv_at hl 0 rfl) ?_
      refine gx_get C hH (8 + 3 * ee.toNatClampNeg) (gc_ke hl_ee) (gc_e _ hl_ee) fl_X2_15 rfl dX2_waveAt_81 ?_
      refine lv_aload_n hx hb dX2_waveAt_84 rfl (lv_at hl 0 rfl) ?_
      refine lv_iload_n hx hb dX2_waveAt_85 rfl (lv_at hl 1 rfl) ?_
      refine lv_aload_n hx hb dX2_waveAt_86 rfl (lv_at hl 0 rfl) ?_
      refine gx_get C hH (8 + 3 * ee.toNatClampNeg) (gc_ke hl_ee) (gc_e _ hl_ee) fl_X2_24 rfl dX2_waveAt_87 ?_
      refine lv_iadd hx hb dX2_waveAt_90 ?_
      refine lv_aload_n hx hb dX2_waveAt_91 rfl (lv_at hl 0 rfl) ?_
      refine gx_get C hH (8 + 3 * ee.toNatClampNeg) (gc_ke hl_ee) (gc_e _ hl_ee) fl_X2_21 rfl dX2_waveAt_92 ?_
      obtain ⟨r5, hr5, hf⟩ := gx_bnd hf
      refine gx_nR (v := (some (.int r5))) (rest := [.ref (gx_q G (8 + 3 * ee.toNatClampNeg)), .int (σ (8 + 3 * ee.toNatClampNeg) 2), .int (σ (8 + 3 * ee.toNatClampNeg) 3)]) C hH hS [.int (a1 + (σ (8 + 3 * ee.toNatClampNeg) 5)), .int (σ (8 + 3 * ee.toNatClampNeg) 4)] (t_X3_remainder l G σ (a1 + (σ (8 + 3 * ee.toNatClampNeg) 5)) (σ (8 + 3 * ee.toNatClampNeg) 4) r5  hr5) C.2.2.2.2.2.1 lk_X2_94 ⟨rfl, rfl, Nat.le_of_ble_eq_true rfl, Nat.le_of_ble_eq_true rfl⟩ ⟨Nat.zero_le _, Nat.zero_le _⟩ hl.1 rfl (Nat.le_of_ble_eq_true rfl) dX2_waveAt_95 ?_
      refine gx_e0 (st := [.int r5, .ref (gx_q G (8 + 3 * ee.toNatClampNeg)), .int (σ (8 + 3 * ee.toNatClampNeg) 2), .int (σ (8 + 3 * ee.toNatClampNeg) 3)]) ?_ rfl
      obtain ⟨r6, hr6, hf⟩ := gx_bnd hf
      refine gx_vR (v := (some (.int r6))) (rest := [.int (σ (8 + 3 * ee.toNatClampNeg) 2), .int (σ (8 + 3 * ee.toNatClampNeg) 3)]) C hH hS (8 + 3 * ee.toNatClampNeg) (gc_ke hl_ee) (gc_e _ hl_ee) rfl [.int r5] (t_X2_riseAt l G σ ee r5 r6 hl_ee hr6) lk_X2_97 ⟨rfl, rfl, Nat.le_of_ble_eq_true rfl, Nat.le_of_ble_eq_true rfl⟩ ⟨Nat.zero_le _, Nat.zero_le _⟩ hl.1 rfl (Nat.le_of_ble_eq_true rfl) dX2_waveAt_98 ?_
      refine gx_e0 (st := [.int r6, .int (σ (8 + 3 * ee.toNatClampNeg) 2), .int (σ (8 + 3 * ee.toNatClampNeg) 3)]) ?_ rfl
      refine lv_imul hx hb dX2_waveAt_101 ?_
      refine lv_aload_n hx hb dX2_waveAt_102 rfl (lv_at hl 0 rfl) ?_
      refine gx_get C hH (8 + 3 * ee.toNatClampNeg) (gc_ke hl_ee) (gc_e _ hl_ee) fl_X2_21 rfl dX2_waveAt_103 ?_
      obtain ⟨r7, hr7, hf⟩ := gx_bnd hf
      refine gx_nR (v := (some (.int r7))) (rest := [.int (σ (8 + 3 * ee.toNatClampNeg) 3)]) C hH hS [.int ((σ (8 + 3 * ee.toNatClampNeg) 2) * r6), .int (σ (8 + 3 * ee.toNatClampNeg) 4)] (t_X3_quotient l G σ ((σ (8 + 3 * ee.toNatClampNeg) 2) * r6) (σ (8 + 3 * ee.toNatClampNeg) 4) r7  hr7) C.2.2.2.1 lk_X2_100 ⟨rfl, rfl, Nat.le_of_ble_eq_true rfl, Nat.le_of_ble_eq_true rfl⟩ ⟨Nat.zero_le _, Nat.zero_le _⟩ hl.1 rfl (Nat.le_of_ble_eq_true rfl) dX2_waveAt_106 ?_
      refine gx_e0 (st := [.int r7, .int (σ (8 + 3 * ee.toNatClampNeg) 3)]) ?_ rfl
      refine lv_iadd hx hb dX2_waveAt_109 ?_
      obtain rfl := Option.some.inj hf
      exact gx_iretR C hr hlocks dX2_waveAt_110
    · have hf := gx_neg hc4 hf
      by_cases hc8 : (σ (8 + 3 * ee.toNatClampNeg) 1) = (3 : Int32)
      · have hf := gx_pos hc8 hf
        refine lv_tableIn (tgt := 111) hx hb dX2_waveAt_4 (by rw [hc8]; decide) (by rw [hc8]; decide) (by rw [hc8]; rfl) (by decide) ?_
        refine lv_aload_n hx hb dX2_waveAt_111 rfl (lv_at hl 0 rfl) ?_
        refine gx_get C hH (8 + 3 * ee.toNatClampNeg) (gc_ke hl_ee) (gc_e _ hl_ee) fl_X2_27 rfl dX2_waveAt_112 ?_
        refine lv_iconst (v := (0 : Int32)) hx hb dX2_waveAt_115 (by decide) ?_
        refine gx_ialdL C hH (8 + 3 * ee.toNatClampNeg + 1) (gc_kn hl_ee) (gc_n _ hl_ee) 0 (by decide) dX2_waveAt_116 ?_
        refine lv_bipush (v := (-9 : Int32)) hx hb dX2_waveAt_117 (by decide) ?_
        refine lv_icmp_ne (tgt := 129) hx hb dX2_waveAt_119 (by decide) (fun hc9 => ?_) (fun hc9 => ?_)
        · have hf := gx_neg hc9 hf
          refine lv_aload_n hx hb dX2_waveAt_129 rfl (lv_at hl 0 rfl) ?_
          refine gx_get C hH (8 + 3 * ee.toNatClampNeg) (gc_ke hl_ee) (gc_e _ hl_ee) fl_X2_15 rfl dX2_waveAt_130 ?_
          refine lv_aload_n hx hb dX2_waveAt_133 rfl (lv_at hl 0 rfl) ?_
          refine gx_get C hH (8 + 3 * ee.toNatClampNeg) (gc_ke hl_ee) (gc_e _ hl_ee) fl_X2_18 rfl dX2_waveAt_134 ?_
          refine lv_aload_n hx hb dX2_waveAt_137 rfl (lv_at hl 0 rfl) ?_
          refine gx_get C hH (8 + 3 * ee.toNatClampNeg) (gc_ke hl_ee) (gc_e _ hl_ee) fl_X2_15 rfl dX2_waveAt_138 ?_
          refine lv_isub hx hb dX2_waveAt_141 ?_
          refine lv_iload_n hx hb dX2_waveAt_142 rfl (lv_at hl 1 rfl) ?_
          refine lv_imul hx hb dX2_waveAt_143 ?_
          refine lv_aload_n hx hb dX2_waveAt_144 rfl (lv_at hl 0 rfl) ?_
          refine gx_get C hH (8 + 3 * ee.toNatClampNeg) (gc_ke hl_ee) (gc_e _ hl_ee) fl_X2_27 rfl dX2_waveAt_145 ?_
          refine lv_iconst (v := (0 : Int32)) hx hb dX2_waveAt_148 (by decide) ?_
          refine gx_ialdL C hH (8 + 3 * ee.toNatClampNeg + 1) (gc_kn hl_ee) (gc_n _ hl_ee) 0 (by decide) dX2_waveAt_149 ?_
          obtain ⟨r10, hr10, hf⟩ := gx_bnd hf
          refine gx_nR (v := (some (.int r10))) (rest := [.int (σ (8 + 3 * ee.toNatClampNeg) 2)]) C hH hS [.int (((σ (8 + 3 * ee.toNatClampNeg) 3) - (σ (8 + 3 * ee.toNatClampNeg) 2)) * a1), .int (σ (8 + 3 * ee.toNatClampNeg + 1) 0)] (t_X3_quotient l G σ (((σ (8 + 3 * ee.toNatClampNeg) 3) - (σ (8 + 3 * ee.toNatClampNeg) 2)) * a1) (σ (8 + 3 * ee.toNatClampNeg + 1) 0) r10  hr10) C.2.2.2.1 lk_X2_100 ⟨rfl, rfl, Nat.le_of_ble_eq_true rfl, Nat.le_of_ble_eq_true rfl⟩ ⟨Nat.zero_le _, Nat.zero_le _⟩ hl.1 rfl (Nat.le_of_ble_eq_true rfl) dX2_waveAt_150 ?_
          refine gx_e0 (st := [.int r10, .int (σ (8 + 3 * ee.toNatClampNeg) 2)]) ?_ rfl
          refine lv_iadd hx hb dX2_waveAt_153 ?_
          obtain rfl := Option.some.inj hf
          exact gx_iretR C hr hlocks dX2_waveAt_154
        · have hf := gx_pos hc9 hf
          refine lv_aload_n hx hb dX2_waveAt_122 rfl (lv_at hl 0 rfl) ?_
          refine gx_get C hH (8 + 3 * ee.toNatClampNeg) (gc_ke hl_ee) (gc_e _ hl_ee) fl_X2_15 rfl dX2_waveAt_123 ?_
          refine lv_goto (tgt := 154) hx hb dX2_waveAt_126 (by decide) ?_
          obtain rfl := Option.some.inj hf
          exact gx_iretR C hr hlocks dX2_waveAt_154
      · have hf := gx_neg hc8 hf
        refine lv_tableOut (tgt := 155) hx hb dX2_waveAt_4 (by have q0 := lv_neT hc1 (a := 1) rfl; have q1 := lv_neT hc4 (a := 2) rfl; have q2 := lv_neT hc8 (a := 3) rfl; omega) (by decide) ?_
        refine lv_aload_n hx hb dX2_waveAt_155 rfl (lv_at hl 0 rfl) ?_
        refine gx_get C hH (8 + 3 * ee.toNatClampNeg) (gc_ke hl_ee) (gc_e _ hl_ee) fl_X2_15 rfl dX2_waveAt_156 ?_
        obtain rfl := Option.some.inj hf
        exact gx_iretR C hr hlocks dX2_waveAt_159
abbrev rm_X2_valueAt : Room := { frames := 2, cells := 0, slots := 0, locals := 45 }
def f_X2_valueAt (σ : gx_St) (ee a1 a2 : Int32) : Option Int32 :=
  if (σ (8 + 3 * ee.toNatClampNeg) 1) = (4 : Int32) then ((f_X2_awayFrom σ ee ((σ (44 + 1 * a2.toNatClampNeg) 1) - (σ (8 + 3 * ee.toNatClampNeg) 3)) (100 : Int32)).bind fun r2 =>
  some r2) else if (σ (8 + 3 * ee.toNatClampNeg) 1) = (5 : Int32) then ((f_X2_awayFrom σ ee (σ (44 + 1 * a2.toNatClampNeg) 2) (1000 : Int32)).bind fun r4 =>
  some r4) else if (σ (8 + 3 * ee.toNatClampNeg) 1) = (6 : Int32) then ((f_X2_wallAt σ ee (σ (44 + 1 * a2.toNatClampNeg) 1)).bind fun r6 =>
  some r6) else ((f_X2_waveAt σ ee a1).bind fun r7 =>
  (f_X2_envelopeAt σ ee a1).bind fun r8 =>
  some ((r7 * r8) / (100 : Int32)))
set_option maxHeartbeats 4000000 in
set_option maxRecDepth 100000 in
theorem t_X2_valueAt (l : Launch) (G : gx_G) (σ : gx_St) (ee a1 a2 : Int32) (r : Int32) (hl_ee : ee.toNatClampNeg < 12) (hl_a2 : a2.toNatClampNeg < 2) (hf : f_X2_valueAt σ ee a1 a2 = some r) : Met l yX2_valueAt (Cond.code yX2_valueAt cX2_valueAt 3 (some .int) :: wT) rm_X2_valueAt (va_Pc [.ref (gx_q G (8 + 3 * ee.toNatClampNeg)), .int a1, .ref (gx_q G (44 + 1 * a2.toNatClampNeg))] (gx_S G 50 (gc_mk G) σ)) (gx_QR (some (.int r))) 0 0 (fun _ => False) := by
  refine Met.ofW (cc := cX2_valueAt) (maxL := 3) (ret := (some .int)) (by decide) rfl ?_
  intro p e s m args below meth c s₁ B hml hv
  obtain ⟨rfl, hH, hE⟩ := hv
  have C := gx_C.of (G := G) B hml hE
  have hx := C.1.1
  have hb := C.1.2.1
  have hr := B.returns
  have hlocks := B.notSynchronized
  have hS : va_S (gx_A G) s.heap s.heap [] := va_S.rf
  have hl := lv_entry ([.ref (gx_q G (8 + 3 * ee.toNatClampNeg)), .int a1, .ref (gx_q G (44 + 1 * a2.toNatClampNeg))]) (n := 3) (Nat.le_of_ble_eq_true rfl)
  rw [lg_entry_eq]
  generalize (lg_sl ([.ref (gx_q G (8 + 3 * ee.toNatClampNeg)), .int a1, .ref (gx_q G (44 + 1 * a2.toNatClampNeg))]) ++ List.replicate (3 - (lg_sl ([.ref (gx_q G (8 + 3 * ee.toNatClampNeg)), .int a1, .ref (gx_q G (44 + 1 * a2.toNatClampNeg))])).length) Slot.unset).toArray = ls at hl ⊢
  have hl : lv_has ls 3 [(0, .ref (gx_q G (8 + 3 * ee.toNatClampNeg))), (1, .int a1), (2, .ref (gx_q G (44 + 1 * a2.toNatClampNeg)))] := hl
  unfold f_X2_valueAt at hf
  refine lv_aload_n hx hb dX2_valueAt_0 rfl (lv_at hl 0 rfl) ?_
  refine gx_get C hH (8 + 3 * ee.toNatClampNeg) (gc_ke hl_ee) (gc_e _ hl_ee) fl_X2_9 rfl dX2_valueAt_1 ?_
  by_cases hc1 : (σ (8 + 3 * ee.toNatClampNeg) 1) = (4 : Int32)
  · have hf := gx_pos hc1 hf
    refine lv_tableIn (tgt := 32) hx hb dX2_valueAt_4 (by rw [hc1]; decide) (by rw [hc1]; decide) (by rw [hc1]; rfl) (by decide) ?_
    refine lv_aload_n hx hb dX2_valueAt_32 rfl (lv_at hl 0 rfl) ?_
    refine lv_aload_n hx hb dX2_valueAt_33 rfl (lv_at hl 2 rfl) ?_
    refine gx_get C hH (44 + 1 * a2.toNatClampNeg) (gc_ka hl_a2) (gc_a _ hl_a2) fl_X2_75 rfl dX2_valueAt_34 ?_
    refine lv_aload_n hx hb dX2_valueAt_37 rfl (lv_at hl 0 rfl) ?_
    refine gx_get C hH (8 + 3 * ee.toNatClampNeg) (gc_ke hl_ee) (gc_e _ hl_ee) fl_X2_18 rfl dX2_valueAt_38 ?_
    refine lv_isub hx hb dX2_valueAt_41 ?_
    refine lv_bipush (v := (100 : Int32)) hx hb dX2_valueAt_42 (by decide) ?_
    obtain ⟨r2, hr2, hf⟩ := gx_bnd hf
    refine gx_vR (v := (some (.int r2))) (rest := []) C hH hS (8 + 3 * ee.toNatClampNeg) (gc_ke hl_ee) (gc_e _ hl_ee) rfl [.int ((σ (44 + 1 * a2.toNatClampNeg) 1) - (σ (8 + 3 * ee.toNatClampNeg) 3)), .int (100 : Int32)] (t_X2_awayFrom l G σ ee ((σ (44 + 1 * a2.toNatClampNeg) 1) - (σ (8 + 3 * ee.toNatClampNeg) 3)) (100 : Int32) r2 hl_ee hr2) lk_X2_78 ⟨rfl, rfl, Nat.le_of_ble_eq_true rfl, Nat.le_of_ble_eq_true rfl⟩ ⟨Nat.zero_le _, Nat.zero_le _⟩ hl.1 rfl (Nat.le_of_ble_eq_true rfl) dX2_valueAt_44 ?_
    refine gx_e0 (st := [.int r2]) ?_ rfl
    obtain rfl := Option.some.inj hf
    exact gx_iretR C hr hlocks dX2_valueAt_47
  · have hf := gx_neg hc1 hf
    by_cases hc3 : (σ (8 + 3 * ee.toNatClampNeg) 1) = (5 : Int32)
    · have hf := gx_pos hc3 hf
      refine lv_tableIn (tgt := 48) hx hb dX2_valueAt_4 (by rw [hc3]; decide) (by rw [hc3]; decide) (by rw [hc3]; rfl) (by decide) ?_
      refine lv_aload_n hx hb dX2_valueAt_48 rfl (lv_at hl 0 rfl) ?_
      refine lv_aload_n hx hb dX2_valueAt_49 rfl (lv_at hl 2 rfl) ?_
      refine gx_get C hH (44 + 1 * a2.toNatClampNeg) (gc_ka hl_a2) (gc_a _ hl_a2) fl_X2_81 rfl dX2_valueAt_50 ?_
      refine lv_sipush (v := (1000 : Int32)) hx hb dX2_valueAt_53 (by decide) ?_
      obtain ⟨r4, hr4, hf⟩ := gx_bnd hf
      refine gx_vR (v := (some (.int r4))) (rest := []) C hH hS (8 + 3 * ee.toNatClampNeg) (gc_ke hl_ee) (gc_e _ hl_ee) rfl [.int (σ (44 + 1 * a2.toNatClampNeg) 2), .int (1000 : Int32)] (t_X2_awayFrom l G σ ee (σ (44 + 1 * a2.toNatClampNeg) 2) (1000 : Int32) r4 hl_ee hr4) lk_X2_78 ⟨rfl, rfl, Nat.le_of_ble_eq_true rfl, Nat.le_of_ble_eq_true rfl⟩ ⟨Nat.zero_le _, Nat.zero_le _⟩ hl.1 rfl (Nat.le_of_ble_eq_true rfl) dX2_valueAt_56 ?_
      refine gx_e0 (st := [.int r4]) ?_ rfl
      obtain rfl := Option.some.inj hf
      exact gx_iretR C hr hlocks dX2_valueAt_59
    · have hf := gx_neg hc3 hf
      by_cases hc5 : (σ (8 + 3 * ee.toNatClampNeg) 1) = (6 : Int32)
      · have hf := gx_pos hc5 hf
        refine lv_tableIn (tgt := 60) hx hb dX2_valueAt_4 (by rw [hc5]; decide) (by rw [hc5]; decide) (by rw [hc5]; rfl) (by decide) ?_
        refine lv_aload_n hx hb dX2_valueAt_60 rfl (lv_at hl 0 rfl) ?_
        refine lv_aload_n hx hb dX2_valueAt_61 rfl (lv_at hl 2 rfl) ?_
        refine gx_get C hH (44 + 1 * a2.toNatClampNeg) (gc_ka hl_a2) (gc_a _ hl_a2) fl_X2_75 rfl dX2_valueAt_62 ?_
        obtain ⟨r6, hr6, hf⟩ := gx_bnd hf
        refine gx_vR (v := (some (.int r6))) (rest := []) C hH hS (8 + 3 * ee.toNatClampNeg) (gc_ke hl_ee) (gc_e _ hl_ee) rfl [.int (σ (44 + 1 * a2.toNatClampNeg) 1)] (t_X2_wallAt l G σ ee (σ (44 + 1 * a2.toNatClampNeg) 1) r6 hl_ee hr6) lk_X2_84 ⟨rfl, rfl, Nat.le_of_ble_eq_true rfl, Nat.le_of_ble_eq_true rfl⟩ ⟨Nat.zero_le _, Nat.zero_le _⟩ hl.1 rfl (Nat.le_of_ble_eq_true rfl) dX2_valueAt_65 ?_
        refine gx_e0 (st := [.int r6]) ?_ rfl
        obtain rfl := Option.some.inj hf
        exact gx_iretR C hr hlocks dX2_valueAt_68
      · have hf := gx_neg hc5 hf
        refine lv_tableOut (tgt := 69) hx hb dX2_valueAt_4 (by have q0 := lv_neT hc1 (a := 4) rfl; have q1 := lv_neT hc3 (a := 5) rfl; have q2 := lv_neT hc5 (a := 6) rfl; omega) (by decide) ?_
        refine lv_aload_n hx hb dX2_valueAt_69 rfl (lv_at hl 0 rfl) ?_
        refine lv_iload_n hx hb dX2_valueAt_70 rfl (lv_at hl 1 rfl) ?_
        obtain ⟨r7, hr7, hf⟩ := gx_bnd hf
        refine gx_vR (v := (some (.int r7))) (rest := []) C hH hS (8 + 3 * ee.toNatClampNeg) (gc_ke hl_ee) (gc_e _ hl_ee) rfl [.int a1] (t_X2_waveAt l G σ ee a1 r7 hl_ee hr7) lk_X2_88 ⟨rfl, rfl, Nat.le_of_ble_eq_true rfl, Nat.le_of_ble_eq_true rfl⟩ ⟨Nat.zero_le _, Nat.zero_le _⟩ hl.1 rfl (Nat.le_of_ble_eq_true rfl) dX2_valueAt_71 ?_
        refine gx_e0 (st := [.int r7]) ?_ rfl
        refine lv_aload_n hx hb dX2_valueAt_74 rfl (lv_at hl 0 rfl) ?_
        refine lv_iload_n hx hb dX2_valueAt_75 rfl (lv_at hl 1 rfl) ?_
        obtain ⟨r8, hr8, hf⟩ := gx_bnd hf
        refine gx_vR (v := (some (.int r8))) (rest := [.int r7]) C hH hS (8 + 3 * ee.toNatClampNeg) (gc_ke hl_ee) (gc_e _ hl_ee) rfl [.int a1] (t_X2_envelopeAt l G σ ee a1 r8 hl_ee hr8) lk_X2_91 ⟨rfl, rfl, Nat.le_of_ble_eq_true rfl, Nat.le_of_ble_eq_true rfl⟩ ⟨Nat.zero_le _, Nat.zero_le _⟩ hl.1 rfl (Nat.le_of_ble_eq_true rfl) dX2_valueAt_76 ?_
        refine gx_e0 (st := [.int r8, .int r7]) ?_ rfl
        refine lv_imul hx hb dX2_valueAt_79 ?_
        refine lv_bipush (v := (100 : Int32)) hx hb dX2_valueAt_80 (by decide) ?_
        refine lv_idiv hx hb dX2_valueAt_82 (by decide) ?_
        obtain rfl := Option.some.inj hf
        exact gx_iretR C hr hlocks dX2_valueAt_83
