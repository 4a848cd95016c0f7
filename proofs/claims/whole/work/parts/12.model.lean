abbrev rm_X4_free : Room := { frames := 1, cells := 0, slots := 0, locals := 22 }
def f_X4_free (σ : gx_St) (a1 : Int32) : Option (Int32 × gx_St) :=
  (f_X4_within a1 (0 : Int32) (3 : Int32)).bind fun r1 =>
  if r1 = 0 then (some ((-1 : Int32), σ)) else (if (a1 < 0 ∨ 4 ≤ a1.toNatClampNeg) then none else
  if (σ (11) a1.toNatClampNeg) = (-9 : Int32) then (some ((-3 : Int32), σ)) else (if (a1 < 0 ∨ 4 ≤ a1.toNatClampNeg) then none else
  gx_lt ((σ 0 0) - (σ (11) a1.toNatClampNeg)) fun x6 =>
  (f_X4_comesUp σ a1).bind fun σ7 =>
  some (x6, σ7)))
set_option maxHeartbeats 4000000 in
set_option maxRecDepth 100000 in
theorem t_X4_free (l : Launch) (G : gx_G) (hG : gx_D G 13) (σ : gx_St) (a1 : Int32) (r : Int32) (σ' : gx_St)  (hf : f_X4_free σ a1 = some (r, σ')) : Met l yX4_free (Cond.code yX4_free cX4_free 3 (some .int) :: wT) rm_X4_free (va_Pc [.ref (gx_q G 0), .int a1] (gx_S G 13 (gm_mk G) σ)) (gx_QM G 13 (gm_mk G) (some (.int r)) σ') 0 0 (gx_A G) := by
  refine Met.ofW (cc := cX4_free) (maxL := 3) (ret := (some .int)) (by decide) rfl ?_
  intro p e s m args below meth c s₁ B hml hv
  obtain ⟨rfl, hH, hE⟩ := hv
  have C := gx_C.of (G := G) B hml hE
  have hx := C.1.1
  have hb := C.1.2.1
  have hr := B.returns
  have hlocks := B.notSynchronized
  have hS : va_S (gx_A G) s.heap s.heap [] := va_S.rf
  have hl := lv_entry ([.ref (gx_q G 0), .int a1]) (n := 3) (Nat.le_of_ble_eq_true rfl)
  rw [lg_entry_eq]
  generalize (lg_sl ([.ref (gx_q G 0), .int a1]) ++ List.replicate (3 - (lg_sl ([.ref (gx_q G 0), .int a1])).length) Slot.unset).toArray = ls at hl ⊢
  have hl : lv_has ls 3 [(0, .ref (gx_q G 0)), (1, .int a1)] := hl
  unfold f_X4_free at hf
  refine lv_iload_n hx hb dX4_free_0 rfl (lv_at hl 1 rfl) ?_
  refine lv_iconst (v := (0 : Int32)) hx hb dX4_free_1 (by decide) ?_
  refine lv_iconst (v := (3 : Int32)) hx hb dX4_free_2 (by decide) ?_
  obtain ⟨r1, hr1, hf⟩ := gx_bnd hf
  refine gx_sR (v := (some (.int r1))) (rest := []) C hH hS [.int a1, .int (0 : Int32), .int (3 : Int32)] (t_X4_within l G σ a1 (0 : Int32) (3 : Int32) r1  hr1) lk_X4_59 ⟨rfl, rfl, Nat.le_of_ble_eq_true rfl, Nat.le_of_ble_eq_true rfl⟩ ⟨Nat.zero_le _, Nat.zero_le _⟩ hl.1 rfl (Nat.le_of_ble_eq_true rfl) dX4_free_3 ?_
  refine gx_e0 (st := [.int r1]) ?_ rfl
  refine lv_if_ne (tgt := 11) hx hb dX4_free_6 (by decide) (fun hc2 => ?_) (fun hc2 => ?_)
  · have hf := gx_neg hc2 hf
    refine lv_aload_n hx hb dX4_free_11 rfl (lv_at hl 0 rfl) ?_
    refine gx_get C hH 0 (by decide) rfl fl_X4_44 rfl dX4_free_12 ?_
    refine lv_iload_n hx hb dX4_free_15 rfl (lv_at hl 1 rfl) ?_
    obtain ⟨hb3, hf⟩ := gx_chk hf
    refine gx_iald C hH (11) (by decide) rfl hb3 dX4_free_16 ?_
    refine lv_bipush (v := (-9 : Int32)) hx hb dX4_free_17 (by decide) ?_
    refine lv_icmp_ne (tgt := 25) hx hb dX4_free_19 (by decide) (fun hc4 => ?_) (fun hc4 => ?_)
    · have hf := gx_neg hc4 hf
      refine lv_aload_n hx hb dX4_free_25 rfl (lv_at hl 0 rfl) ?_
      refine gx_get C hH 0 (by decide) rfl fl_X4_91 rfl dX4_free_26 ?_
      refine lv_aload_n hx hb dX4_free_29 rfl (lv_at hl 0 rfl) ?_
      refine gx_get C hH 0 (by decide) rfl fl_X4_44 rfl dX4_free_30 ?_
      refine lv_iload_n hx hb dX4_free_33 rfl (lv_at hl 1 rfl) ?_
      obtain ⟨hb5, hf⟩ := gx_chk hf
      refine gx_iald C hH (11) (by decide) rfl hb5 dX4_free_34 ?_
      refine lv_isub hx hb dX4_free_35 ?_
      refine lv_topi (fun x6 hx6 => ?_)
      have hf := gx_let hf x6 hx6
      refine lv_istore_n (lv' := [(2, .int x6), (0, .ref (gx_q G 0)), (1, .int a1)]) hx hb dX4_free_36 rfl hl (by decide) rfl (fun ls hl => ?_)
      refine lv_aload_n hx hb dX4_free_37 rfl (lv_at hl 1 rfl) ?_
      refine lv_iload_n hx hb dX4_free_38 rfl (lv_at hl 2 rfl) ?_
      obtain ⟨σ7, hr8, hf⟩ := gx_bnd hf
      refine gx_vM (v := none) (rest := []) C hH hS 0 (by decide) rfl rfl [.int a1] (t_X4_comesUp l G hG σ a1 σ7  hr8) lk_X4_129 ⟨rfl, rfl, Nat.le_of_ble_eq_true rfl, Nat.le_of_ble_eq_true rfl⟩ ⟨Nat.zero_le _, Nat.zero_le _⟩ hl.1 rfl (Nat.le_of_ble_eq_true rfl) dX4_free_39 (fun H locs hH hS => ?_)
      refine gx_e0 (st := []) ?_ rfl
      refine lv_iload_n hx hb dX4_free_42 rfl (lv_at hl 0 rfl) ?_
      cases hf
      exact gx_iretM C hr hlocks hH hS dX4_free_43
    · have hf := gx_pos hc4 hf
      refine lv_bipush (v := (-3 : Int32)) hx hb dX4_free_22 (by decide) ?_
      cases hf
      exact gx_iretM C hr hlocks hH hS dX4_free_24
  · have hf := gx_pos hc2 hf
    refine lv_iconst (v := (-1 : Int32)) hx hb dX4_free_9 (by decide) ?_
    cases hf
    exact gx_iretM C hr hlocks hH hS dX4_free_10
abbrev rm_X4_isLostBy : Room := { frames := 0, cells := 0, slots := 0, locals := 0 }
def f_X4_isLostBy (σ : gx_St) (a1 : Int32) : Option Int32 :=
  if (σ 0 18) = 0 then (if (σ 0 16) ≤ 0 then (some (0 : Int32)) else (if a1 < ((σ 0 17) + (σ 0 16)) then (some (0 : Int32)) else (some (1 : Int32)))) else (some (0 : Int32))
set_option maxHeartbeats 4000000 in
set_option maxRecDepth 100000 in
theorem t_X4_isLostBy (l : Launch) (G : gx_G) (σ : gx_St) (a1 : Int32) (r : Int32)  (hf : f_X4_isLostBy σ a1 = some r) : Met l yX4_isLostBy (Cond.code yX4_isLostBy cX4_isLostBy 2 (some .boolean) :: wT) rm_X4_isLostBy (va_Pc [.ref (gx_q G 0), .int a1] (gx_S G 13 (gm_mk G) σ)) (gx_QR (some (.int r))) 0 0 (fun _ => False) := by
  refine Met.ofW (cc := cX4_isLostBy) (maxL := 2) (ret := (some .boolean)) (by decide) rfl ?_
  intro p e s m args below meth c s₁ B hml hv
  obtain ⟨rfl, hH, hE⟩ := hv
  have C := gx_C.of (G := G) B hml hE
  have hx := C.1.1
  have hb := C.1.2.1
  have hr := B.returns
  have hlocks := B.notSynchronized
  have hS : va_S (gx_A G) s.heap s.heap [] := va_S.rf
  have hl := lv_entry ([.ref (gx_q G 0), .int a1]) (n := 2) (Nat.le_of_ble_eq_true rfl)
  rw [lg_entry_eq]
  generalize (lg_sl ([.ref (gx_q G 0), .int a1]) ++ List.replicate (2 - (lg_sl ([.ref (gx_q G 0), .int a1])).length) Slot.unset).toArray = ls at hl ⊢
  have hl : lv_has ls 2 [(0, .ref (gx_q G 0)), (1, .int a1)] := hl
  unfold f_X4_isLostBy at hf
  refine lv_aload_n hx hb dX4_isLostBy_0 rfl (lv_at hl 0 rfl) ?_
  refine gx_get C hH 0 (by decide) rfl fl_X4_125 rfl dX4_isLostBy_1 ?_
  refine lv_if_ne (tgt := 31) hx hb dX4_isLostBy_4 (by decide) (fun hc1 => ?_) (fun hc1 => ?_)
  · have hf := gx_neg hc1 hf
    refine lv_iconst (v := (0 : Int32)) hx hb dX4_isLostBy_31 (by decide) ?_
    obtain rfl := Option.some.inj hf
    exact gx_zretR C hr hlocks (by decide) dX4_isLostBy_32
  · have hf := gx_pos hc1 hf
    refine lv_aload_n hx hb dX4_isLostBy_7 rfl (lv_at hl 0 rfl) ?_
    refine gx_get C hH 0 (by decide) rfl fl_X4_132 rfl dX4_isLostBy_8 ?_
    refine lv_if_le (tgt := 31) hx hb dX4_isLostBy_11 (by decide) (fun hc2 => ?_) (fun hc2 => ?_)
    · have hf := gx_pos hc2 hf
      refine lv_iconst (v := (0 : Int32)) hx hb dX4_isLostBy_31 (by decide) ?_
      obtain rfl := Option.some.inj hf
      exact gx_zretR C hr hlocks (by decide) dX4_isLostBy_32
    · have hf := gx_neg hc2 hf
      refine lv_aload_n hx hb dX4_isLostBy_14 rfl (lv_at hl 0 rfl) ?_
      refine gx_get C hH 0 (by decide) rfl fl_X4_135 rfl dX4_isLostBy_15 ?_
      refine lv_aload_n hx hb dX4_isLostBy_18 rfl (lv_at hl 0 rfl) ?_
      refine gx_get C hH 0 (by decide) rfl fl_X4_132 rfl dX4_isLostBy_19 ?_
      refine lv_iadd hx hb dX4_isLostBy_22 ?_
      refine lv_iload_n hx hb dX4_isLostBy_23 rfl (lv_at hl 1 rfl) ?_
      refine lv_icmp_gt (tgt := 31) hx hb dX4_isLostBy_24 (by decide) (fun hc3 => ?_) (fun hc3 => ?_)
      · have hf := gx_pos hc3 hf
        refine lv_iconst (v := (0 : Int32)) hx hb dX4_isLostBy_31 (by decide) ?_
        obtain rfl := Option.some.inj hf
        exact gx_zretR C hr hlocks (by decide) dX4_isLostBy_32
      · have hf := gx_neg hc3 hf
        refine lv_iconst (v := (1 : Int32)) hx hb dX4_isLostBy_27 (by decide) ?_
        refine lv_goto (tgt := 32) hx hb dX4_isLostBy_28 (by decide) ?_
        obtain rfl := Option.some.inj hf
        exact gx_zretR C hr hlocks (by decide) dX4_isLostBy_32
abbrev rm_X4_startAt : Room := { frames := 0, cells := 0, slots := 0, locals := 0 }
def fL_X4_startAt_6 : Nat → gx_St → Int32 → Int32 → Int32 → Int32 → Option Int32
  | 0, _, _, _, _, _ => none
  | N + 1, σ, v1, v3, v4, v5 =>
    if (4 : Int32) ≤ v5 then (some v4) else (if ((((12 : Int32) * v5) + v1) < 0 ∨ 48 ≤ (((12 : Int32) * v5) + v1).toNatClampNeg) then none else
    gx_lt (σ (12) (((12 : Int32) * v5) + v1).toNatClampNeg) fun x3 =>
    if (v5 < 0 ∨ 4 ≤ v5.toNatClampNeg) then none else
    if (σ (11) v5.toNatClampNeg) = (-9 : Int32) then (gx_lt (v5 + (1 : Int32)) fun x6 =>
    fL_X4_startAt_6 N σ v1 v3 v4 x6) else (if x3 ≤ 0 then (gx_lt (v5 + (1 : Int32)) fun x8 =>
    fL_X4_startAt_6 N σ v1 v3 v4 x8) else (if (v5 < 0 ∨ 4 ≤ v5.toNatClampNeg) then none else
    if x3 = 0 then none else
    gx_lt (v3 - ((v3 - (σ (11) v5.toNatClampNeg)) - (v3 - (σ (11) v5.toNatClampNeg)) / x3 * x3)) fun x11 =>
    if x11 ≤ (σ 0 0) then (gx_lt (v5 + (1 : Int32)) fun x13 =>
    fL_X4_startAt_6 N σ v1 v3 v4 x13) else (if x11 ≤ v4 then (gx_lt (v5 + (1 : Int32)) fun x15 =>
    fL_X4_startAt_6 N σ v1 v3 v4 x15) else (gx_lt (v5 + (1 : Int32)) fun x16 =>
    fL_X4_startAt_6 N σ v1 v3 x11 x16)))))
set_option maxHeartbeats 4000000 in
set_option maxRecDepth 100000 in
theorem w_X4_startAt_6 {p : Program} {l : Launch} {e : Env} {s : State} {m : MethodId} {args : Array Value} {below : List Frame} {meth : Method} {c : Code} (G : gx_G) (C : gx_C p m c cX4_startAt 8 s args RX4 G) (hr : meth.sig.returnType = (some .int)) (hlocks : meth.locks = false) (σ : gx_St) (hH : gx_H G 13 (gm_mk G) σ s.heap) : ∀ (N : Nat) (v1 v3 v4 v5 : Int32)  (z : Int32), fL_X4_startAt_6 N σ v1 v3 v4 v5 = some z → ∀ (ls : Array Slot), lv_has ls 8 [(0, .ref (gx_q G 0)), (1, .int v1), (3, .int v3), (4, .int v4), (5, .int v5)] → W p l e rm_X4_startAt s m args below meth c s.heap [] 0 0 (MQ below (gx_QR (some (.int z))) args s 0 0 (fun _ => False)) (F0 m 6 ls []) := by
  have hx := C.1.1
  have hb := C.1.2.1
  have hS : va_S (gx_A G) s.heap s.heap [] := va_S.rf
  intro N
  induction N with
  | zero =>
    intro v1 v3 v4 v5  z hf ls hl
    cases (show (none : Option Int32) = some z from hf)
  | succ N ih =>
    intro v1 v3 v4 v5  z hf ls hl
    rw [fL_X4_startAt_6] at hf
    refine lv_iload hx hb dX4_startAt_6 (lv_at hl 4 rfl) ?_
    refine lv_iconst (v := (4 : Int32)) hx hb dX4_startAt_8 (by decide) ?_
    refine lv_icmp_ge (tgt := 90) hx hb dX4_startAt_9 (by decide) (fun hc1 => ?_) (fun hc1 => ?_)
    · have hf := gx_pos hc1 hf
      refine lv_iload hx hb dX4_startAt_90 (lv_at hl 3 rfl) ?_
      obtain rfl := Option.some.inj hf
      exact gx_iretR C hr hlocks dX4_startAt_92
    · have hf := gx_neg hc1 hf
      refine lv_aload_n hx hb dX4_startAt_12 rfl (lv_at hl 0 rfl) ?_
      refine gx_get C hH 0 (by decide) rfl fl_X4_47 rfl dX4_startAt_13 ?_
      refine lv_bipush (v := (12 : Int32)) hx hb dX4_startAt_16 (by decide) ?_
      refine lv_iload hx hb dX4_startAt_18 (lv_at hl 4 rfl) ?_
      refine lv_imul hx hb dX4_startAt_20 ?_
      refine lv_iload_n hx hb dX4_startAt_21 rfl (lv_at hl 1 rfl) ?_
      refine lv_iadd hx hb dX4_startAt_22 ?_
      obtain ⟨hb2, hf⟩ := gx_chk hf
      refine gx_iald C hH (12) (by decide) rfl hb2 dX4_startAt_23 ?_
      refine lv_topi (fun x3 hx3 => ?_)
      have hf := gx_let hf x3 hx3
      refine lv_istore (lv' := [(6, .int x3), (0, .ref (gx_q G 0)), (1, .int v1), (3, .int v3), (4, .int v4), (5, .int v5)]) hx hb dX4_startAt_24 hl (by decide) rfl (fun ls hl => ?_)
      refine lv_aload_n hx hb dX4_startAt_26 rfl (lv_at hl 1 rfl) ?_
      refine gx_get C hH 0 (by decide) rfl fl_X4_44 rfl dX4_startAt_27 ?_
      refine lv_iload hx hb dX4_startAt_30 (lv_at hl 5 rfl) ?_
      obtain ⟨hb4, hf⟩ := gx_chk hf
      refine gx_iald C hH (11) (by decide) rfl hb4 dX4_startAt_32 ?_
      refine lv_bipush (v := (-9 : Int32)) hx hb dX4_startAt_33 (by decide) ?_
      refine lv_icmp_eq (tgt := 84) hx hb dX4_startAt_35 (by decide) (fun hc5 => ?_) (fun hc5 => ?_)
      · have hf := gx_pos hc5 hf
        obtain ⟨x6, hx6⟩ : ∃ z : Int32, z = (v5 + (1 : Int32)) := ⟨_, rfl⟩
        have hf := gx_let hf x6 hx6
        refine lv_iinc (v := x6) (lv' := [(5, .int x6), (6, .int x3), (0, .ref (gx_q G 0)), (1, .int v1), (3, .int v3), (4, .int v4)]) hx hb dX4_startAt_84 hl (k := 5) rfl (by rw [hx6]; rfl) (by decide) rfl (fun ls hl => ?_)
        refine lv_goto (tgt := 6) hx hb dX4_startAt_87 (by decide) ?_
        exact ih v1 v3 v4 x6  _ hf ls (lv_sub hl [2, 3, 4, 5, 0] rfl)
      · have hf := gx_neg hc5 hf
        refine lv_iload hx hb dX4_startAt_38 (lv_at hl 0 rfl) ?_
        refine lv_if_le (tgt := 84) hx hb dX4_startAt_40 (by decide) (fun hc7 => ?_) (fun hc7 => ?_)
        · have hf := gx_pos hc7 hf
          obtain ⟨x8, hx8⟩ : ∃ z : Int32, z = (v5 + (1 : Int32)) := ⟨_, rfl⟩
          have hf := gx_let hf x8 hx8
          refine lv_iinc (v := x8) (lv' := [(5, .int x8), (6, .int x3), (0, .ref (gx_q G 0)), (1, .int v1), (3, .int v3), (4, .int v4)]) hx hb dX4_startAt_84 hl (k := 5) rfl (by rw [hx8]; rfl) (by decide) rfl (fun ls hl => ?_)
          refine lv_goto (tgt := 6) hx hb dX4_startAt_87 (by decide) ?_
          exact ih v1 v3 v4 x8  _ hf ls (lv_sub hl [2, 3, 4, 5, 0] rfl)
        · have hf := gx_neg hc7 hf
          refine lv_iload_n hx hb dX4_startAt_43 rfl (lv_at hl 3 rfl) ?_
          refine lv_iload_n hx hb dX4_startAt_44 rfl (lv_at hl 3 rfl) ?_
          refine lv_aload_n hx hb dX4_startAt_45 rfl (lv_at hl 1 rfl) ?_
          refine gx_get C hH 0 (by decide) rfl fl_X4_44 rfl dX4_startAt_46 ?_
          refine lv_iload hx hb dX4_startAt_49 (lv_at hl 5 rfl) ?_
          obtain ⟨hb9, hf⟩ := gx_chk hf
          refine gx_iald C hH (11) (by decide) rfl hb9 dX4_startAt_51 ?_
          refine lv_isub hx hb dX4_startAt_52 ?_
          refine lv_iload hx hb dX4_startAt_53 (lv_at hl 0 rfl) ?_
          obtain ⟨hz10, hf⟩ := gx_chk hf
          refine lv_irem hx hb dX4_startAt_55 hz10 ?_
          refine lv_isub hx hb dX4_startAt_56 ?_
          refine lv_topi (fun x11 hx11 => ?_)
          have hf := gx_let hf x11 hx11
          refine lv_istore (lv' := [(7, .int x11), (6, .int x3), (0, .ref (gx_q G 0)), (1, .int v1), (3, .int v3), (4, .int v4), (5, .int v5)]) hx hb dX4_startAt_57 hl (by decide) rfl (fun ls hl => ?_)
          refine lv_iload hx hb dX4_startAt_59 (lv_at hl 0 rfl) ?_
          refine lv_aload_n hx hb dX4_startAt_61 rfl (lv_at hl 2 rfl) ?_
          refine gx_get C hH 0 (by decide) rfl fl_X4_91 rfl dX4_startAt_62 ?_
          refine lv_icmp_le (tgt := 80) hx hb dX4_startAt_65 (by decide) (fun hc12 => ?_) (fun hc12 => ?_)
          · have hf := gx_pos hc12 hf
            refine lv_iload hx hb dX4_startAt_80 (lv_at hl 5 rfl) ?_
            refine lv_istore (lv' := [(4, .int v4), (7, .int x11), (6, .int x3), (0, .ref (gx_q G 0)), (1, .int v1), (3, .int v3), (5, .int v5)]) hx hb dX4_startAt_82 hl (by decide) rfl (fun ls hl => ?_)
            obtain ⟨x13, hx13⟩ : ∃ z : Int32, z = (v5 + (1 : Int32)) := ⟨_, rfl⟩
            have hf := gx_let hf x13 hx13
            refine lv_iinc (v := x13) (lv' := [(5, .int x13), (4, .int v4), (7, .int x11), (6, .int x3), (0, .ref (gx_q G 0)), (1, .int v1), (3, .int v3)]) hx hb dX4_startAt_84 hl (k := 6) rfl (by rw [hx13]; rfl) (by decide) rfl (fun ls hl => ?_)
            refine lv_goto (tgt := 6) hx hb dX4_startAt_87 (by decide) ?_
            exact ih v1 v3 v4 x13  _ hf ls (lv_sub hl [4, 5, 6, 1, 0] rfl)
          · have hf := gx_neg hc12 hf
            refine lv_iload hx hb dX4_startAt_68 (lv_at hl 0 rfl) ?_
            refine lv_iload hx hb dX4_startAt_70 (lv_at hl 5 rfl) ?_
            refine lv_icmp_le (tgt := 80) hx hb dX4_startAt_72 (by decide) (fun hc14 => ?_) (fun hc14 => ?_)
            · have hf := gx_pos hc14 hf
              refine lv_iload hx hb dX4_startAt_80 (lv_at hl 5 rfl) ?_
              refine lv_istore (lv' := [(4, .int v4), (7, .int x11), (6, .int x3), (0, .ref (gx_q G 0)), (1, .int v1), (3, .int v3), (5, .int v5)]) hx hb dX4_startAt_82 hl (by decide) rfl (fun ls hl => ?_)
              obtain ⟨x15, hx15⟩ : ∃ z : Int32, z = (v5 + (1 : Int32)) := ⟨_, rfl⟩
              have hf := gx_let hf x15 hx15
              refine lv_iinc (v := x15) (lv' := [(5, .int x15), (4, .int v4), (7, .int x11), (6, .int x3), (0, .ref (gx_q G 0)), (1, .int v1), (3, .int v3)]) hx hb dX4_startAt_84 hl (k := 6) rfl (by rw [hx15]; rfl) (by decide) rfl (fun ls hl => ?_)
              refine lv_goto (tgt := 6) hx hb dX4_startAt_87 (by decide) ?_
              exact ih v1 v3 v4 x15  _ hf ls (lv_sub hl [4, 5, 6, 1, 0] rfl)
            · have hf := gx_neg hc14 hf
              refine lv_iload hx hb dX4_startAt_75 (lv_at hl 0 rfl) ?_
              refine lv_goto (tgt := 82) hx hb dX4_startAt_77 (by decide) ?_
              refine lv_istore (lv' := [(4, .int x11), (7, .int x11), (6, .int x3), (0, .ref (gx_q G 0)), (1, .int v1), (3, .int v3), (5, .int v5)]) hx hb dX4_startAt_82 hl (by decide) rfl (fun ls hl => ?_)
              obtain ⟨x16, hx16⟩ : ∃ z : Int32, z = (v5 + (1 : Int32)) := ⟨_, rfl⟩
              have hf := gx_let hf x16 hx16
              refine lv_iinc (v := x16) (lv' := [(5, .int x16), (4, .int x11), (7, .int x11), (6, .int x3), (0, .ref (gx_q G 0)), (1, .int v1), (3, .int v3)]) hx hb dX4_startAt_84 hl (k := 6) rfl (by rw [hx16]; rfl) (by decide) rfl (fun ls hl => ?_)
              refine lv_goto (tgt := 6) hx hb dX4_startAt_87 (by decide) ?_
              exact ih v1 v3 x11 x16  _ hf ls (lv_sub hl [4, 5, 6, 1, 0] rfl)
def f_X4_startAt (σ : gx_St) (a1 a2 a3 : Int32) : Option Int32 :=
  fL_X4_startAt_6 5 σ a1 a3 a2 (0 : Int32)
set_option maxHeartbeats 4000000 in
set_option maxRecDepth 100000 in
theorem t_X4_startAt (l : Launch) (G : gx_G) (σ : gx_St) (a1 a2 a3 : Int32) (r : Int32)  (hf : f_X4_startAt σ a1 a2 a3 = some r) : Met l yX4_startAt (Cond.code yX4_startAt cX4_startAt 8 (some .int) :: wT) rm_X4_startAt (va_Pc [.ref (gx_q G 0), .int a1, .int a2, .int a3] (gx_S G 13 (gm_mk G) σ)) (gx_QR (some (.int r))) 0 0 (fun _ => False) := by
  refine Met.ofW (cc := cX4_startAt) (maxL := 8) (ret := (some .int)) (by decide) rfl ?_
  intro p e s m args below meth c s₁ B hml hv
  obtain ⟨rfl, hH, hE⟩ := hv
  have C := gx_C.of (G := G) B hml hE
  have hx := C.1.1
  have hb := C.1.2.1
  have hr := B.returns
  have hlocks := B.notSynchronized
  have hS : va_S (gx_A G) s.heap s.heap [] := va_S.rf
  have hl := lv_entry ([.ref (gx_q G 0), .int a1, .int a2, .int a3]) (n := 8) (Nat.le_of_ble_eq_true rfl)
  rw [lg_entry_eq]
  generalize (lg_sl ([.ref (gx_q G 0), .int a1, .int a2, .int a3]) ++ List.replicate (8 - (lg_sl ([.ref (gx_q G 0), .int a1, .int a2, .int a3])).length) Slot.unset).toArray = ls at hl ⊢
  have hl : lv_has ls 8 [(0, .ref (gx_q G 0)), (1, .int a1), (2, .int a2), (3, .int a3)] := hl
  unfold f_X4_startAt at hf
  refine lv_iload_n hx hb dX4_startAt_0 rfl (lv_at hl 2 rfl) ?_
  refine lv_istore (lv' := [(4, .int a2), (0, .ref (gx_q G 0)), (1, .int a1), (2, .int a2), (3, .int a3)]) hx hb dX4_startAt_1 hl (by decide) rfl (fun ls hl => ?_)
  refine lv_iconst (v := (0 : Int32)) hx hb dX4_startAt_3 (by decide) ?_
  refine lv_istore (lv' := [(5, .int (0 : Int32)), (4, .int a2), (0, .ref (gx_q G 0)), (1, .int a1), (2, .int a2), (3, .int a3)]) hx hb dX4_startAt_4 hl (by decide) rfl (fun ls hl => ?_)
  exact w_X4_startAt_6 (l := l) G C hr hlocks σ hH 5 a1 a3 a2 (0 : Int32)  _ hf ls (lv_sub hl [2, 3, 5, 1, 0] rfl)
abbrev rm_X4_getsLost : Room := { frames := 2, cells := 0, slots := 0, locals := 46 }
def fL_X4_getsLost_66 : Nat → gx_St → Int32 → Option gx_St
  | 0, _, _ => none
  | N + 1, σ, v2 =>
    if (4 : Int32) ≤ v2 then (gx_lt (gx_w2 σ 0 18 (1 : Int32)) fun σ3 =>
    some σ3) else ((f_X4_comesUp σ v2).bind fun σ4 =>
    gx_lt (v2 + (1 : Int32)) fun x6 =>
    fL_X4_getsLost_66 N σ4 x6)
set_option maxHeartbeats 4000000 in
set_option maxRecDepth 100000 in
theorem w_X4_getsLost_66 {p : Program} {l : Launch} {e : Env} {s : State} {m : MethodId} {args : Array Value} {below : List Frame} {meth : Method} {c : Code} (G : gx_G) (hG : gx_D G 13) (C : gx_C p m c cX4_getsLost 3 s args RX4 G) (hr : meth.sig.returnType = none) (hlocks : meth.locks = false) : ∀ (N : Nat) (σ : gx_St) (v2 : Int32)  (z : gx_St), fL_X4_getsLost_66 N σ v2 = some z → ∀ (H : Heap) (locs : List Loc) (ls : Array Slot), gx_H G 13 (gm_mk G) σ H → va_S (gx_A G) s.heap H locs → lv_has ls 3 [(0, .ref (gx_q G 0)), (2, .int v2)] → W p l e rm_X4_getsLost s m args below meth c H locs 0 0 (MQ below (gx_QM G 13 (gm_mk G) none z) args s 0 0 (gx_A G)) (F0 m 66 ls []) := by
  have hx := C.1.1
  have hb := C.1.2.1
  intro N
  induction N with
  | zero =>
    intro σ v2  z hf H locs ls hH hS hl
    cases (show (none : Option gx_St) = some z from hf)
  | succ N ih =>
    intro σ v2  z hf H locs ls hH hS hl
    rw [fL_X4_getsLost_66] at hf
    refine lv_iload_n hx hb dX4_getsLost_66 rfl (lv_at hl 1 rfl) ?_
    refine lv_iconst (v := (4 : Int32)) hx hb dX4_getsLost_67 (by decide) ?_
    refine lv_icmp_ge (tgt := 82) hx hb dX4_getsLost_68 (by decide) (fun hc2 => ?_) (fun hc2 => ?_)
    · have hf := gx_pos hc2 hf
      refine lv_aload_n hx hb dX4_getsLost_82 rfl (lv_at hl 0 rfl) ?_
      refine lv_iconst (v := (1 : Int32)) hx hb dX4_getsLost_83 (by decide) ?_
      refine gx_put C hG hH hS 0 (by decide) rfl fl_X4_125 fw_X4_18 (pw_X4_18 _ _) rfl rfl (Nat.le_of_ble_eq_true rfl) dX4_getsLost_84 (fun H locs σ3 hσ3 hH hS => ?_)
      have hf := gx_let hf σ3 hσ3
      cases hf
      exact gx_vretM C hr hlocks hH hS dX4_getsLost_87
    · have hf := gx_neg hc2 hf
      refine lv_aload_n hx hb dX4_getsLost_71 rfl (lv_at hl 0 rfl) ?_
      refine lv_iload_n hx hb dX4_getsLost_72 rfl (lv_at hl 1 rfl) ?_
      obtain ⟨σ4, hr5, hf⟩ := gx_bnd hf
      refine gx_vM (v := none) (rest := []) C hH hS 0 (by decide) rfl rfl [.int v2] (t_X4_comesUp l G hG σ v2 σ4  hr5) lk_X4_129 ⟨rfl, rfl, Nat.le_of_ble_eq_true rfl, Nat.le_of_ble_eq_true rfl⟩ ⟨Nat.zero_le _, Nat.zero_le _⟩ hl.1 rfl (Nat.le_of_ble_eq_true rfl) dX4_getsLost_73 (fun H locs hH hS => ?_)
      refine gx_e0 (st := []) ?_ rfl
      obtain ⟨x6, hx6⟩ : ∃ z : Int32, z = (v2 + (1 : Int32)) := ⟨_, rfl⟩
      have hf := gx_let hf x6 hx6
      refine lv_iinc (v := x6) (lv' := [(2, .int x6), (0, .ref (gx_q G 0))]) hx hb dX4_getsLost_76 hl (k := 1) rfl (by rw [hx6]; rfl) (by decide) rfl (fun ls hl => ?_)
      refine lv_goto (tgt := 66) hx hb dX4_getsLost_79 (by decide) ?_
      exact ih σ4 x6  _ hf _ _ ls hH hS (lv_sub hl [1, 0] rfl)
def fL_X4_getsLost_2 : Nat → gx_St → Int32 → Int32 → Option gx_St
  | 0, _, _, _ => none
  | N + 1, σ, v1, v2 =>
    if (σ 0 4) ≤ v2 then (fL_X4_getsLost_66 5 σ (0 : Int32)) else (if (v2 < 0 ∨ 12 ≤ v2.toNatClampNeg) then none else
    (f_X4_startAt σ v2 (σ (9) v2.toNatClampNeg) (v1 - (1 : Int32))).bind fun r8 =>
    (f_X4_doesPlay σ v2 r8 v1).bind fun r9 =>
    if r9 = 0 then (if (v2 < 0 ∨ 12 ≤ v2.toNatClampNeg) then none else
    (f_X4_startAt σ v2 (σ (9) v2.toNatClampNeg) (v1 - (1 : Int32))).bind fun r12 =>
    if (v2 < 0 ∨ 12 ≤ v2.toNatClampNeg) then none else
    gx_lt (gx_w2 σ (9) v2.toNatClampNeg r12) fun σ14 =>
    gx_lt (v2 + (1 : Int32)) fun x15 =>
    fL_X4_getsLost_2 N σ14 v1 x15) else (if (v2 < 0 ∨ 12 ≤ v2.toNatClampNeg) then none else
    gx_lt (gx_w2 σ (9) v2.toNatClampNeg (-9 : Int32)) fun σ17 =>
    gx_lt (v2 + (1 : Int32)) fun x18 =>
    fL_X4_getsLost_2 N σ17 v1 x18))
set_option maxHeartbeats 4000000 in
set_option maxRecDepth 100000 in
theorem w_X4_getsLost_2 {p : Program} {l : Launch} {e : Env} {s : State} {m : MethodId} {args : Array Value} {below : List Frame} {meth : Method} {c : Code} (G : gx_G) (hG : gx_D G 13) (C : gx_C p m c cX4_getsLost 3 s args RX4 G) (hr : meth.sig.returnType = none) (hlocks : meth.locks = false) : ∀ (N : Nat) (σ : gx_St) (v1 v2 : Int32)  (z : gx_St), fL_X4_getsLost_2 N σ v1 v2 = some z → ∀ (H : Heap) (locs : List Loc) (ls : Array Slot), gx_H G 13 (gm_mk G) σ H → va_S (gx_A G) s.heap H locs → lv_has ls 3 [(0, .ref (gx_q G 0)), (1, .int v1), (2, .int v2)] → W p l e rm_X4_getsLost s m args below meth c H locs 0 0 (MQ below (gx_QM G 13 (gm_mk G) none z) args s 0 0 (gx_A G)) (F0 m 2 ls []) := by
  have hx := C.1.1
  have hb := C.1.2.1
  intro N
  induction N with
  | zero =>
    intro σ v1 v2  z hf H locs ls hH hS hl
    cases (show (none : Option gx_St) = some z from hf)
  | succ N ih =>
    intro σ v1 v2  z hf H locs ls hH hS hl
    rw [fL_X4_getsLost_2] at hf
    refine lv_iload_n hx hb dX4_getsLost_2 rfl (lv_at hl 2 rfl) ?_
    refine lv_aload_n hx hb dX4_getsLost_3 rfl (lv_at hl 0 rfl) ?_
    refine gx_get C hH 0 (by decide) rfl fl_X4_56 rfl dX4_getsLost_4 ?_
    refine lv_icmp_ge (tgt := 64) hx hb dX4_getsLost_7 (by decide) (fun hc1 => ?_) (fun hc1 => ?_)
    · have hf := gx_pos hc1 hf
      refine lv_iconst (v := (0 : Int32)) hx hb dX4_getsLost_64 (by decide) ?_
      refine lv_istore_n (lv' := [(2, .int (0 : Int32)), (0, .ref (gx_q G 0)), (1, .int v1)]) hx hb dX4_getsLost_65 rfl hl (by decide) rfl (fun ls hl => ?_)
      exact w_X4_getsLost_66 (l := l) G hG C hr hlocks 5 σ (0 : Int32)  _ hf _ _ ls hH hS (lv_sub hl [1, 0] rfl)
    · have hf := gx_neg hc1 hf
      refine lv_aload_n hx hb dX4_getsLost_10 rfl (lv_at hl 0 rfl) ?_
      refine gx_get C hH 0 (by decide) rfl fl_X4_34 rfl dX4_getsLost_11 ?_
      refine lv_iload_n hx hb dX4_getsLost_14 rfl (lv_at hl 2 rfl) ?_
      refine lv_aload_n hx hb dX4_getsLost_15 rfl (lv_at hl 0 rfl) ?_
      refine lv_iload_n hx hb dX4_getsLost_16 rfl (lv_at hl 2 rfl) ?_
      refine lv_aload_n hx hb dX4_getsLost_17 rfl (lv_at hl 0 rfl) ?_
      refine lv_iload_n hx hb dX4_getsLost_18 rfl (lv_at hl 2 rfl) ?_
      refine lv_aload_n hx hb dX4_getsLost_19 rfl (lv_at hl 0 rfl) ?_
      refine gx_get C hH 0 (by decide) rfl fl_X4_34 rfl dX4_getsLost_20 ?_
      refine lv_iload_n hx hb dX4_getsLost_23 rfl (lv_at hl 2 rfl) ?_
      obtain ⟨hb7, hf⟩ := gx_chk hf
      refine gx_iald C hH (9) (by decide) rfl hb7 dX4_getsLost_24 ?_
      refine lv_iload_n hx hb dX4_getsLost_25 rfl (lv_at hl 1 rfl) ?_
      refine lv_iconst (v := (1 : Int32)) hx hb dX4_getsLost_26 (by decide) ?_
      refine lv_isub hx hb dX4_getsLost_27 ?_
      obtain ⟨r8, hr8, hf⟩ := gx_bnd hf
      refine gx_vR (v := (some (.int r8))) (rest := [.int v2, .ref (gx_q G 0), .int v2, .ref (gx_q G (9))]) C hH hS 0 (by decide) rfl rfl [.int v2, .int (σ (9) v2.toNatClampNeg), .int (v1 - (1 : Int32))] (t_X4_startAt l G σ v2 (σ (9) v2.toNatClampNeg) (v1 - (1 : Int32)) r8  hr8) lk_X4_138 ⟨rfl, rfl, Nat.le_of_ble_eq_true rfl, Nat.le_of_ble_eq_true rfl⟩ ⟨Nat.zero_le _, Nat.zero_le _⟩ hl.1 rfl (Nat.le_of_ble_eq_true rfl) dX4_getsLost_28 ?_
      refine gx_e0 (st := [.int r8, .int v2, .ref (gx_q G 0), .int v2, .ref (gx_q G (9))]) ?_ rfl
      refine lv_iload_n hx hb dX4_getsLost_31 rfl (lv_at hl 1 rfl) ?_
      obtain ⟨r9, hr9, hf⟩ := gx_bnd hf
      refine gx_vR (v := (some (.int r9))) (rest := [.int v2, .ref (gx_q G (9))]) C hH hS 0 (by decide) rfl rfl [.int v2, .int r8, .int v1] (t_X4_doesPlay l G σ v2 r8 v1 r9  hr9) lk_X4_108 ⟨rfl, rfl, Nat.le_of_ble_eq_true rfl, Nat.le_of_ble_eq_true rfl⟩ ⟨Nat.zero_le _, Nat.zero_le _⟩ hl.1 rfl (Nat.le_of_ble_eq_true rfl) dX4_getsLost_32 ?_
      refine gx_e0 (st := [.int r9, .int v2, .ref (gx_q G (9))]) ?_ rfl
      refine lv_if_eq (tgt := 43) hx hb dX4_getsLost_35 (by decide) (fun hc10 => ?_) (fun hc10 => ?_)
      · have hf := gx_pos hc10 hf
        refine lv_aload_n hx hb dX4_getsLost_43 rfl (lv_at hl 0 rfl) ?_
        refine lv_iload_n hx hb dX4_getsLost_44 rfl (lv_at hl 2 rfl) ?_
        refine lv_aload_n hx hb dX4_getsLost_45 rfl (lv_at hl 0 rfl) ?_
        refine gx_get C hH 0 (by decide) rfl fl_X4_34 rfl dX4_getsLost_46 ?_
        refine lv_iload_n hx hb dX4_getsLost_49 rfl (lv_at hl 2 rfl) ?_
        obtain ⟨hb11, hf⟩ := gx_chk hf
        refine gx_iald C hH (9) (by decide) rfl hb11 dX4_getsLost_50 ?_
        refine lv_iload_n hx hb dX4_getsLost_51 rfl (lv_at hl 1 rfl) ?_
        refine lv_iconst (v := (1 : Int32)) hx hb dX4_getsLost_52 (by decide) ?_
        refine lv_isub hx hb dX4_getsLost_53 ?_
        obtain ⟨r12, hr12, hf⟩ := gx_bnd hf
        refine gx_vR (v := (some (.int r12))) (rest := [.int v2, .ref (gx_q G (9))]) C hH hS 0 (by decide) rfl rfl [.int v2, .int (σ (9) v2.toNatClampNeg), .int (v1 - (1 : Int32))] (t_X4_startAt l G σ v2 (σ (9) v2.toNatClampNeg) (v1 - (1 : Int32)) r12  hr12) lk_X4_138 ⟨rfl, rfl, Nat.le_of_ble_eq_true rfl, Nat.le_of_ble_eq_true rfl⟩ ⟨Nat.zero_le _, Nat.zero_le _⟩ hl.1 rfl (Nat.le_of_ble_eq_true rfl) dX4_getsLost_54 ?_
        refine gx_e0 (st := [.int r12, .int v2, .ref (gx_q G (9))]) ?_ rfl
        obtain ⟨hb13, hf⟩ := gx_chk hf
        refine gx_iast C hG hH hS (9) (by decide) (fun _ => rfl) hb13 dX4_getsLost_57 (fun H locs σ14 hσ14 hH hS => ?_)
        have hf := gx_let hf σ14 hσ14
        obtain ⟨x15, hx15⟩ : ∃ z : Int32, z = (v2 + (1 : Int32)) := ⟨_, rfl⟩
        have hf := gx_let hf x15 hx15
        refine lv_iinc (v := x15) (lv' := [(2, .int x15), (0, .ref (gx_q G 0)), (1, .int v1)]) hx hb dX4_getsLost_58 hl (k := 2) rfl (by rw [hx15]; rfl) (by decide) rfl (fun ls hl => ?_)
        refine lv_goto (tgt := 2) hx hb dX4_getsLost_61 (by decide) ?_
        exact ih σ14 v1 x15  _ hf _ _ ls hH hS (lv_sub hl [1, 2, 0] rfl)
      · have hf := gx_neg hc10 hf
        refine lv_bipush (v := (-9 : Int32)) hx hb dX4_getsLost_38 (by decide) ?_
        refine lv_goto (tgt := 57) hx hb dX4_getsLost_40 (by decide) ?_
        obtain ⟨hb16, hf⟩ := gx_chk hf
        refine gx_iast C hG hH hS (9) (by decide) (fun _ => rfl) hb16 dX4_getsLost_57 (fun H locs σ17 hσ17 hH hS => ?_)
        have hf := gx_let hf σ17 hσ17
        obtain ⟨x18, hx18⟩ : ∃ z : Int32, z = (v2 + (1 : Int32)) := ⟨_, rfl⟩
        have hf := gx_let hf x18 hx18
        refine lv_iinc (v := x18) (lv' := [(2, .int x18), (0, .ref (gx_q G 0)), (1, .int v1)]) hx hb dX4_getsLost_58 hl (k := 2) rfl (by rw [hx18]; rfl) (by decide) rfl (fun ls hl => ?_)
        refine lv_goto (tgt := 2) hx hb dX4_getsLost_61 (by decide) ?_
        exact ih σ17 v1 x18  _ hf _ _ ls hH hS (lv_sub hl [1, 2, 0] rfl)
def f_X4_getsLost (σ : gx_St) (a1 : Int32) : Option gx_St :=
  fL_X4_getsLost_2 13 σ a1 (0 : Int32)
set_option maxHeartbeats 4000000 in
set_option maxRecDepth 100000 in
theorem t_X4_getsLost (l : Launch) (G : gx_G) (hG : gx_D G 13) (σ : gx_St) (a1 : Int32) (σ' : gx_St)  (hf : f_X4_getsLost σ a1 = some σ') : Met l yX4_getsLost (Cond.code yX4_getsLost cX4_getsLost 3 none :: wT) rm_X4_getsLost (va_Pc [.ref (gx_q G 0), .int a1] (gx_S G 13 (gm_mk G) σ)) (gx_QM G 13 (gm_mk G) none σ') 0 0 (gx_A G) := by
  refine Met.ofW (cc := cX4_getsLost) (maxL := 3) (ret := none) (by decide) rfl ?_
  intro p e s m args below meth c s₁ B hml hv
  obtain ⟨rfl, hH, hE⟩ := hv
  have C := gx_C.of (G := G) B hml hE
  have hx := C.1.1
  have hb := C.1.2.1
  have hr := B.returns
  have hlocks := B.notSynchronized
  have hS : va_S (gx_A G) s.heap s.heap [] := va_S.rf
  have hl := lv_entry ([.ref (gx_q G 0), .int a1]) (n := 3) (Nat.le_of_ble_eq_true rfl)
  rw [lg_entry_eq]
  generalize (lg_sl ([.ref (gx_q G 0), .int a1]) ++ List.replicate (3 - (lg_sl ([.ref (gx_q G 0), .int a1])).length) Slot.unset).toArray = ls at hl ⊢
  have hl : lv_has ls 3 [(0, .ref (gx_q G 0)), (1, .int a1)] := hl
  unfold f_X4_getsLost at hf
  refine lv_iconst (v := (0 : Int32)) hx hb dX4_getsLost_0 (by decide) ?_
  refine lv_istore_n (lv' := [(2, .int (0 : Int32)), (0, .ref (gx_q G 0)), (1, .int a1)]) hx hb dX4_getsLost_1 rfl hl (by decide) rfl (fun ls hl => ?_)
  exact w_X4_getsLost_2 (l := l) G hG C hr hlocks 13 σ a1 (0 : Int32)  _ hf _ _ ls hH hS (lv_sub hl [1, 2, 0] rfl)
abbrev rm_X4_manyPlay : Room := { frames := 2, cells := 0, slots := 0, locals := 46 }
def fL_X4_manyPlay_4 : Nat → gx_St → Int32 → Int32 → Option Int32
  | 0, _, _, _ => none
  | N + 1, σ, v1, v2 =>
    if (σ 0 4) ≤ v2 then (some v1) else (if (v2 < 0 ∨ 12 ≤ v2.toNatClampNeg) then none else
    (f_X4_doesPlay σ v2 (σ (9) v2.toNatClampNeg) (σ 0 0)).bind fun r3 =>
    if r3 = 0 then (gx_lt (v1 + (0 : Int32)) fun x5 =>
    gx_lt (v2 + (1 : Int32)) fun x6 =>
    fL_X4_manyPlay_4 N σ x5 x6) else (gx_lt (v1 + (1 : Int32)) fun x7 =>
    gx_lt (v2 + (1 : Int32)) fun x8 =>
    fL_X4_manyPlay_4 N σ x7 x8))
set_option maxHeartbeats 4000000 in
set_option maxRecDepth 100000 in
theorem w_X4_manyPlay_4 {p : Program} {l : Launch} {e : Env} {s : State} {m : MethodId} {args : Array Value} {below : List Frame} {meth : Method} {c : Code} (G : gx_G) (C : gx_C p m c cX4_manyPlay 3 s args RX4 G) (hr : meth.sig.returnType = (some .int)) (hlocks : meth.locks = false) (σ : gx_St) (hH : gx_H G 13 (gm_mk G) σ s.heap) : ∀ (N : Nat) (v1 v2 : Int32)  (z : Int32), fL_X4_manyPlay_4 N σ v1 v2 = some z → ∀ (ls : Array Slot), lv_has ls 3 [(0, .ref (gx_q G 0)), (1, .int v1), (2, .int v2)] → W p l e rm_X4_manyPlay s m args below meth c s.heap [] 0 0 (MQ below (gx_QR (some (.int z))) args s 0 0 (fun _ => False)) (F0 m 4 ls []) := by
  have hx := C.1.1
  have hb := C.1.2.1
  have hS : va_S (gx_A G) s.heap s.heap [] := va_S.rf
  intro N
  induction N with
  | zero =>
    intro v1 v2  z hf ls hl
    cases (show (none : Option Int32) = some z from hf)
  | succ N ih =>
    intro v1 v2  z hf ls hl
    rw [fL_X4_manyPlay_4] at hf
    refine lv_iload_n hx hb dX4_manyPlay_4 rfl (lv_at hl 2 rfl) ?_
    refine lv_aload_n hx hb dX4_manyPlay_5 rfl (lv_at hl 0 rfl) ?_
    refine gx_get C hH 0 (by decide) rfl fl_X4_56 rfl dX4_manyPlay_6 ?_
    refine lv_icmp_ge (tgt := 44) hx hb dX4_manyPlay_9 (by decide) (fun hc1 => ?_) (fun hc1 => ?_)
    · have hf := gx_pos hc1 hf
      refine lv_iload_n hx hb dX4_manyPlay_44 rfl (lv_at hl 1 rfl) ?_
      obtain rfl := Option.some.inj hf
      exact gx_iretR C hr hlocks dX4_manyPlay_45
    · have hf := gx_neg hc1 hf
      refine lv_iload_n hx hb dX4_manyPlay_12 rfl (lv_at hl 1 rfl) ?_
      refine lv_aload_n hx hb dX4_manyPlay_13 rfl (lv_at hl 0 rfl) ?_
      refine lv_iload_n hx hb dX4_manyPlay_14 rfl (lv_at hl 2 rfl) ?_
      refine lv_aload_n hx hb dX4_manyPlay_15 rfl (lv_at hl 0 rfl) ?_
      refine gx_get C hH 0 (by decide) rfl fl_X4_34 rfl dX4_manyPlay_16 ?_
      refine lv_iload_n hx hb dX4_manyPlay_19 rfl (lv_at hl 2 rfl) ?_
      obtain ⟨hb2, hf⟩ := gx_chk hf
      refine gx_iald C hH (9) (by decide) rfl hb2 dX4_manyPlay_20 ?_
      refine lv_aload_n hx hb dX4_manyPlay_21 rfl (lv_at hl 0 rfl) ?_
      refine gx_get C hH 0 (by decide) rfl fl_X4_91 rfl dX4_manyPlay_22 ?_
      obtain ⟨r3, hr3, hf⟩ := gx_bnd hf
      refine gx_vR (v := (some (.int r3))) (rest := [.int v1]) C hH hS 0 (by decide) rfl rfl [.int v2, .int (σ (9) v2.toNatClampNeg), .int (σ 0 0)] (t_X4_doesPlay l G σ v2 (σ (9) v2.toNatClampNeg) (σ 0 0) r3  hr3) lk_X4_108 ⟨rfl, rfl, Nat.le_of_ble_eq_true rfl, Nat.le_of_ble_eq_true rfl⟩ ⟨Nat.zero_le _, Nat.zero_le _⟩ hl.1 rfl (Nat.le_of_ble_eq_true rfl) dX4_manyPlay_25 ?_
      refine gx_e0 (st := [.int r3, .int v1]) ?_ rfl
      refine lv_if_eq (tgt := 35) hx hb dX4_manyPlay_28 (by decide) (fun hc4 => ?_) (fun hc4 => ?_)
      · have hf := gx_pos hc4 hf
        refine lv_iconst (v := (0 : Int32)) hx hb dX4_manyPlay_35 (by decide) ?_
        refine lv_iadd hx hb dX4_manyPlay_36 ?_
        refine lv_topi (fun x5 hx5 => ?_)
        have hf := gx_let hf x5 hx5
        refine lv_istore_n (lv' := [(1, .int x5), (0, .ref (gx_q G 0)), (2, .int v2)]) hx hb dX4_manyPlay_37 rfl hl (by decide) rfl (fun ls hl => ?_)
        obtain ⟨x6, hx6⟩ : ∃ z : Int32, z = (v2 + (1 : Int32)) := ⟨_, rfl⟩
        have hf := gx_let hf x6 hx6
        refine lv_iinc (v := x6) (lv' := [(2, .int x6), (1, .int x5), (0, .ref (gx_q G 0))]) hx hb dX4_manyPlay_38 hl (k := 2) rfl (by rw [hx6]; rfl) (by decide) rfl (fun ls hl => ?_)
        refine lv_goto (tgt := 4) hx hb dX4_manyPlay_41 (by decide) ?_
        exact ih x5 x6  _ hf ls (lv_sub hl [2, 1, 0] rfl)
      · have hf := gx_neg hc4 hf
        refine lv_iconst (v := (1 : Int32)) hx hb dX4_manyPlay_31 (by decide) ?_
        refine lv_goto (tgt := 36) hx hb dX4_manyPlay_32 (by decide) ?_
        refine lv_iadd hx hb dX4_manyPlay_36 ?_
        refine lv_topi (fun x7 hx7 => ?_)
        have hf := gx_let hf x7 hx7
        refine lv_istore_n (lv' := [(1, .int x7), (0, .ref (gx_q G 0)), (2, .int v2)]) hx hb dX4_manyPlay_37 rfl hl (by decide) rfl (fun ls hl => ?_)
        obtain ⟨x8, hx8⟩ : ∃ z : Int32, z = (v2 + (1 : Int32)) := ⟨_, rfl⟩
        have hf := gx_let hf x8 hx8
        refine lv_iinc (v := x8) (lv' := [(2, .int x8), (1, .int x7), (0, .ref (gx_q G 0))]) hx hb dX4_manyPlay_38 hl (k := 2) rfl (by rw [hx8]; rfl) (by decide) rfl (fun ls hl => ?_)
        refine lv_goto (tgt := 4) hx hb dX4_manyPlay_41 (by decide) ?_
        exact ih x7 x8  _ hf ls (lv_sub hl [2, 1, 0] rfl)
def f_X4_manyPlay (σ : gx_St) : Option Int32 :=
  fL_X4_manyPlay_4 13 σ (0 : Int32) (0 : Int32)
set_option maxHeartbeats 4000000 in
set_option maxRecDepth 100000 in
theorem t_X4_manyPlay (l : Launch) (G : gx_G) (σ : gx_St) (r : Int32)  (hf : f_X4_manyPlay σ = some r) : Met l yX4_manyPlay (Cond.code yX4_manyPlay cX4_manyPlay 3 (some .int) :: wT) rm_X4_manyPlay (va_Pc [.ref (gx_q G 0)] (gx_S G 13 (gm_mk G) σ)) (gx_QR (some (.int r))) 0 0 (fun _ => False) := by
  refine Met.ofW (cc := cX4_manyPlay) (maxL := 3) (ret := (some .int)) (by decide) rfl ?_
  intro p e s m args below meth c s₁ B hml hv
  obtain ⟨rfl, hH, hE⟩ := hv
  have C := gx_C.of (G := G) B hml hE
  have hx := C.1.1
  have hb := C.1.2.1
  have hr := B.returns
  have hlocks := B.notSynchronized
  have hS : va_S (gx_A G) s.heap s.heap [] := va_S.rf
  have hl := lv_entry ([.ref (gx_q G 0)]) (n := 3) (Nat.le_of_ble_eq_true rfl)
  rw [lg_entry_eq]
  generalize (lg_sl ([.ref (gx_q G 0)]) ++ List.replicate (3 - (lg_sl ([.ref (gx_q G 0)])).length) Slot.unset).toArray = ls at hl ⊢
  have hl : lv_has ls 3 [(0, .ref (gx_q G 0))] := hl
  unfold f_X4_manyPlay at hf
  refine lv_iconst (v := (0 : Int32)) hx hb dX4_manyPlay_0 (by decide) ?_
  refine lv_istore_n (lv' := [(1, .int (0 : Int32)), (0, .ref (gx_q G 0))]) hx hb dX4_manyPlay_1 rfl hl (by decide) rfl (fun ls hl => ?_)
  refine lv_iconst (v := (0 : Int32)) hx hb dX4_manyPlay_2 (by decide) ?_
  refine lv_istore_n (lv' := [(2, .int (0 : Int32)), (1, .int (0 : Int32)), (0, .ref (gx_q G 0))]) hx hb dX4_manyPlay_3 rfl hl (by decide) rfl (fun ls hl => ?_)
  exact w_X4_manyPlay_4 (l := l) G C hr hlocks σ hH 13 (0 : Int32) (0 : Int32)  _ hf ls (lv_sub hl [2, 1, 0] rfl)
abbrev rm_X4_pass : Room := { frames := 3, cells := 0, slots := 0, locals := 68 }
def fL_X4_pass_60 : Nat → gx_St → Int32 → Int32 → Option (Int32 × gx_St)
  | 0, _, _, _ => none
  | N + 1, σ, v2, v3 =>
    if (σ 0 4) ≤ v3 then (gx_lt (gx_w2 σ 0 0 v2) fun σ8 =>
    (f_X4_manyPlay σ8 ).bind fun r9 =>
    some (r9, σ8)) else (if (v3 < 0 ∨ 12 ≤ v3.toNatClampNeg) then none else
    (f_X4_startAt σ v3 (σ (9) v3.toNatClampNeg) v2).bind fun r11 =>
    if (v3 < 0 ∨ 12 ≤ v3.toNatClampNeg) then none else
    gx_lt (gx_w2 σ (9) v3.toNatClampNeg r11) fun σ13 =>
    gx_lt (v3 + (1 : Int32)) fun x14 =>
    fL_X4_pass_60 N σ13 v2 x14)
set_option maxHeartbeats 4000000 in
set_option maxRecDepth 100000 in
theorem w_X4_pass_60 {p : Program} {l : Launch} {e : Env} {s : State} {m : MethodId} {args : Array Value} {below : List Frame} {meth : Method} {c : Code} (G : gx_G) (hG : gx_D G 13) (C : gx_C p m c cX4_pass 4 s args RX4 G) (hr : meth.sig.returnType = (some .int)) (hlocks : meth.locks = false) : ∀ (N : Nat) (σ : gx_St) (v2 v3 : Int32)  (z : (Int32 × gx_St)), fL_X4_pass_60 N σ v2 v3 = some z → ∀ (H : Heap) (locs : List Loc) (ls : Array Slot), gx_H G 13 (gm_mk G) σ H → va_S (gx_A G) s.heap H locs → lv_has ls 4 [(0, .ref (gx_q G 0)), (2, .int v2), (3, .int v3)] → W p l e rm_X4_pass s m args below meth c H locs 0 0 (MQ below (gx_QM G 13 (gm_mk G) (some (.int z.1)) z.2) args s 0 0 (gx_A G)) (F0 m 60 ls []) := by
  have hx := C.1.1
  have hb := C.1.2.1
  intro N
  induction N with
  | zero =>
    intro σ v2 v3  z hf H locs ls hH hS hl
    cases (show (none : Option (Int32 × gx_St)) = some z from hf)
  | succ N ih =>
    intro σ v2 v3  z hf H locs ls hH hS hl
    rw [fL_X4_pass_60] at hf
    refine lv_iload_n hx hb dX4_pass_60 rfl (lv_at hl 2 rfl) ?_
    refine lv_aload_n hx hb dX4_pass_61 rfl (lv_at hl 0 rfl) ?_
    refine gx_get C hH 0 (by decide) rfl fl_X4_56 rfl dX4_pass_62 ?_
    refine lv_icmp_ge (tgt := 92) hx hb dX4_pass_65 (by decide) (fun hc7 => ?_) (fun hc7 => ?_)
    · have hf := gx_pos hc7 hf
      refine lv_aload_n hx hb dX4_pass_92 rfl (lv_at hl 0 rfl) ?_
      refine lv_iload_n hx hb dX4_pass_93 rfl (lv_at hl 1 rfl) ?_
      refine gx_put C hG hH hS 0 (by decide) rfl fl_X4_91 fw_X4_0 (pw_X4_0 _ _) rfl rfl (Nat.le_of_ble_eq_true rfl) dX4_pass_94 (fun H locs σ8 hσ8 hH hS => ?_)
      have hf := gx_let hf σ8 hσ8
      refine lv_aload_n hx hb dX4_pass_97 rfl (lv_at hl 0 rfl) ?_
      obtain ⟨r9, hr9, hf⟩ := gx_bnd hf
      refine gx_vR (v := (some (.int r9))) (rest := []) C hH hS 0 (by decide) rfl rfl [] (t_X4_manyPlay l G σ8  r9  hr9) lk_X4_149 ⟨rfl, rfl, Nat.le_of_ble_eq_true rfl, Nat.le_of_ble_eq_true rfl⟩ ⟨Nat.zero_le _, Nat.zero_le _⟩ hl.1 rfl (Nat.le_of_ble_eq_true rfl) dX4_pass_98 ?_
      refine gx_e0 (st := [.int r9]) ?_ rfl
      cases hf
      exact gx_iretM C hr hlocks hH hS dX4_pass_101
    · have hf := gx_neg hc7 hf
      refine lv_aload_n hx hb dX4_pass_68 rfl (lv_at hl 0 rfl) ?_
      refine gx_get C hH 0 (by decide) rfl fl_X4_34 rfl dX4_pass_69 ?_
      refine lv_iload_n hx hb dX4_pass_72 rfl (lv_at hl 2 rfl) ?_
      refine lv_aload_n hx hb dX4_pass_73 rfl (lv_at hl 0 rfl) ?_
      refine lv_iload_n hx hb dX4_pass_74 rfl (lv_at hl 2 rfl) ?_
      refine lv_aload_n hx hb dX4_pass_75 rfl (lv_at hl 0 rfl) ?_
      refine gx_get C hH 0 (by decide) rfl fl_X4_34 rfl dX4_pass_76 ?_
      refine lv_iload_n hx hb dX4_pass_79 rfl (lv_at hl 2 rfl) ?_
      obtain ⟨hb10, hf⟩ := gx_chk hf
      refine gx_iald C hH (9) (by decide) rfl hb10 dX4_pass_80 ?_
      refine lv_iload_n hx hb dX4_pass_81 rfl (lv_at hl 1 rfl) ?_
      obtain ⟨r11, hr11, hf⟩ := gx_bnd hf
      refine gx_vR (v := (some (.int r11))) (rest := [.int v3, .ref (gx_q G (9))]) C hH hS 0 (by decide) rfl rfl [.int v3, .int (σ (9) v3.toNatClampNeg), .int v2] (t_X4_startAt l G σ v3 (σ (9) v3.toNatClampNeg) v2 r11  hr11) lk_X4_138 ⟨rfl, rfl, Nat.le_of_ble_eq_true rfl, Nat.le_of_ble_eq_true rfl⟩ ⟨Nat.zero_le _, Nat.zero_le _⟩ hl.1 rfl (Nat.le_of_ble_eq_true rfl) dX4_pass_82 ?_
      refine gx_e0 (st := [.int r11, .int v3, .ref (gx_q G (9))]) ?_ rfl
      obtain ⟨hb12, hf⟩ := gx_chk hf
      refine gx_iast C hG hH hS (9) (by decide) (fun _ => rfl) hb12 dX4_pass_85 (fun H locs σ13 hσ13 hH hS => ?_)
      have hf := gx_let hf σ13 hσ13
      obtain ⟨x14, hx14⟩ : ∃ z : Int32, z = (v3 + (1 : Int32)) := ⟨_, rfl⟩
      have hf := gx_let hf x14 hx14
      refine lv_iinc (v := x14) (lv' := [(3, .int x14), (0, .ref (gx_q G 0)), (2, .int v2)]) hx hb dX4_pass_86 hl (k := 2) rfl (by rw [hx14]; rfl) (by decide) rfl (fun ls hl => ?_)
      refine lv_goto (tgt := 60) hx hb dX4_pass_89 (by decide) ?_
      exact ih σ13 v2 x14  _ hf _ _ ls hH hS (lv_sub hl [1, 2, 0] rfl)
def f_X4_pass (σ : gx_St) (a1 : Int32) : Option (Int32 × gx_St) :=
  (f_X4_within a1 (1 : Int32) (100000 : Int32)).bind fun r1 =>
  if r1 = 0 then (some ((-2 : Int32), σ)) else (if ((σ 0 0) + a1) ≤ (10000000 : Int32) then (gx_lt ((σ 0 0) + a1) fun x4 =>
  (f_X4_isLostBy σ x4).bind fun r5 =>
  if r5 = 0 then (fL_X4_pass_60 13 σ x4 (0 : Int32)) else ((f_X4_getsLost σ ((σ 0 17) + (σ 0 16))).bind fun σ15 =>
  gx_lt (gx_w2 σ15 0 0 x4) fun σ17 =>
  (f_X4_manyPlay σ17 ).bind fun r18 =>
  some (r18, σ17))) else (some ((-3 : Int32), σ)))
set_option maxHeartbeats 4000000 in
set_option maxRecDepth 100000 in
theorem t_X4_pass (l : Launch) (G : gx_G) (hG : gx_D G 13) (σ : gx_St) (a1 : Int32) (r : Int32) (σ' : gx_St)  (hf : f_X4_pass σ a1 = some (r, σ')) : Met l yX4_pass (Cond.code yX4_pass cX4_pass 4 (some .int) :: wT) rm_X4_pass (va_Pc [.ref (gx_q G 0), .int a1] (gx_S G 13 (gm_mk G) σ)) (gx_QM G 13 (gm_mk G) (some (.int r)) σ') 0 0 (gx_A G) := by
  refine Met.ofW (cc := cX4_pass) (maxL := 4) (ret := (some .int)) (by decide) rfl ?_
  intro p e s m args below meth c s₁ B hml hv
  obtain ⟨rfl, hH, hE⟩ := hv
  have C := gx_C.of (G := G) B hml hE
  have hx := C.1.1
  have hb := C.1.2.1
  have hr := B.returns
  have hlocks := B.notSynchronized
  have hS : va_S (gx_A G) s.heap s.heap [] := va_S.rf
  have hl := lv_entry ([.ref (gx_q G 0), .int a1]) (n := 4) (Nat.le_of_ble_eq_true rfl)
  rw [lg_entry_eq]
  generalize (lg_sl ([.ref (gx_q G 0), .int a1]) ++ List.replicate (4 - (lg_sl ([.ref (gx_q G 0), .int a1])).length) Slot.unset).toArray = ls at hl ⊢
  have hl : lv_has ls 4 [(0, .ref (gx_q G 0)), (1, .int a1)] := hl
  unfold f_X4_pass at hf
  refine lv_iload_n hx hb dX4_pass_0 rfl (lv_at hl 1 rfl) ?_
  refine lv_iconst (v := (1 : Int32)) hx hb dX4_pass_1 (by decide) ?_
  refine lv_ldc hx hb C.1.2.2.2.1 (C.1.2.2.2.2 _ kw_669) dX4_pass_2 ?_
  obtain ⟨r1, hr1, hf⟩ := gx_bnd hf
  refine gx_sR (v := (some (.int r1))) (rest := []) C hH hS [.int a1, .int (1 : Int32), .int (100000 : Int32)] (t_X4_within l G σ a1 (1 : Int32) (100000 : Int32) r1  hr1) lk_X4_59 ⟨rfl, rfl, Nat.le_of_ble_eq_true rfl, Nat.le_of_ble_eq_true rfl⟩ ⟨Nat.zero_le _, Nat.zero_le _⟩ hl.1 rfl (Nat.le_of_ble_eq_true rfl) dX4_pass_4 ?_
  refine gx_e0 (st := [.int r1]) ?_ rfl
  refine lv_if_ne (tgt := 13) hx hb dX4_pass_7 (by decide) (fun hc2 => ?_) (fun hc2 => ?_)
  · have hf := gx_neg hc2 hf
    refine lv_aload_n hx hb dX4_pass_13 rfl (lv_at hl 0 rfl) ?_
    refine gx_get C hH 0 (by decide) rfl fl_X4_91 rfl dX4_pass_14 ?_
    refine lv_iload_n hx hb dX4_pass_17 rfl (lv_at hl 1 rfl) ?_
    refine lv_iadd hx hb dX4_pass_18 ?_
    refine lv_ldc hx hb C.1.2.2.2.1 (C.1.2.2.2.2 _ kw_604) dX4_pass_19 ?_
    refine lv_icmp_le (tgt := 27) hx hb dX4_pass_21 (by decide) (fun hc3 => ?_) (fun hc3 => ?_)
    · have hf := gx_pos hc3 hf
      refine lv_aload_n hx hb dX4_pass_27 rfl (lv_at hl 0 rfl) ?_
      refine gx_get C hH 0 (by decide) rfl fl_X4_91 rfl dX4_pass_28 ?_
      refine lv_iload_n hx hb dX4_pass_31 rfl (lv_at hl 1 rfl) ?_
      refine lv_iadd hx hb dX4_pass_32 ?_
      refine lv_topi (fun x4 hx4 => ?_)
      have hf := gx_let hf x4 hx4
      refine lv_istore_n (lv' := [(2, .int x4), (0, .ref (gx_q G 0)), (1, .int a1)]) hx hb dX4_pass_33 rfl hl (by decide) rfl (fun ls hl => ?_)
      refine lv_aload_n hx hb dX4_pass_34 rfl (lv_at hl 1 rfl) ?_
      refine lv_iload_n hx hb dX4_pass_35 rfl (lv_at hl 0 rfl) ?_
      obtain ⟨r5, hr5, hf⟩ := gx_bnd hf
      refine gx_vR (v := (some (.int r5))) (rest := []) C hH hS 0 (by decide) rfl rfl [.int x4] (t_X4_isLostBy l G σ x4 r5  hr5) lk_X4_143 ⟨rfl, rfl, Nat.le_of_ble_eq_true rfl, Nat.le_of_ble_eq_true rfl⟩ ⟨Nat.zero_le _, Nat.zero_le _⟩ hl.1 rfl (Nat.le_of_ble_eq_true rfl) dX4_pass_36 ?_
      refine gx_e0 (st := [.int r5]) ?_ rfl
      refine lv_if_eq (tgt := 58) hx hb dX4_pass_39 (by decide) (fun hc6 => ?_) (fun hc6 => ?_)
      · have hf := gx_pos hc6 hf
        refine lv_iconst (v := (0 : Int32)) hx hb dX4_pass_58 (by decide) ?_
        refine lv_istore_n (lv' := [(3, .int (0 : Int32)), (2, .int x4), (0, .ref (gx_q G 0)), (1, .int a1)]) hx hb dX4_pass_59 rfl hl (by decide) rfl (fun ls hl => ?_)
        exact w_X4_pass_60 (l := l) G hG C hr hlocks 13 σ x4 (0 : Int32)  _ hf _ _ ls hH hS (lv_sub hl [2, 1, 0] rfl)
      · have hf := gx_neg hc6 hf
        refine lv_aload_n hx hb dX4_pass_42 rfl (lv_at hl 1 rfl) ?_
        refine lv_aload_n hx hb dX4_pass_43 rfl (lv_at hl 1 rfl) ?_
        refine gx_get C hH 0 (by decide) rfl fl_X4_135 rfl dX4_pass_44 ?_
        refine lv_aload_n hx hb dX4_pass_47 rfl (lv_at hl 1 rfl) ?_
        refine gx_get C hH 0 (by decide) rfl fl_X4_132 rfl dX4_pass_48 ?_
        refine lv_iadd hx hb dX4_pass_51 ?_
        obtain ⟨σ15, hr16, hf⟩ := gx_bnd hf
        refine gx_vM (v := none) (rest := []) C hH hS 0 (by decide) rfl rfl [.int ((σ 0 17) + (σ 0 16))] (t_X4_getsLost l G hG σ ((σ 0 17) + (σ 0 16)) σ15  hr16) lk_X4_146 ⟨rfl, rfl, Nat.le_of_ble_eq_true rfl, Nat.le_of_ble_eq_true rfl⟩ ⟨Nat.zero_le _, Nat.zero_le _⟩ hl.1 rfl (Nat.le_of_ble_eq_true rfl) dX4_pass_52 (fun H locs hH hS => ?_)
        refine gx_e0 (st := []) ?_ rfl
        refine lv_goto (tgt := 92) hx hb dX4_pass_55 (by decide) ?_
        refine lv_aload_n hx hb dX4_pass_92 rfl (lv_at hl 1 rfl) ?_
        refine lv_iload_n hx hb dX4_pass_93 rfl (lv_at hl 0 rfl) ?_
        refine gx_put C hG hH hS 0 (by decide) rfl fl_X4_91 fw_X4_0 (pw_X4_0 _ _) rfl rfl (Nat.le_of_ble_eq_true rfl) dX4_pass_94 (fun H locs σ17 hσ17 hH hS => ?_)
        have hf := gx_let hf σ17 hσ17
        refine lv_aload_n hx hb dX4_pass_97 rfl (lv_at hl 1 rfl) ?_
        obtain ⟨r18, hr18, hf⟩ := gx_bnd hf
        refine gx_vR (v := (some (.int r18))) (rest := []) C hH hS 0 (by decide) rfl rfl [] (t_X4_manyPlay l G σ17  r18  hr18) lk_X4_149 ⟨rfl, rfl, Nat.le_of_ble_eq_true rfl, Nat.le_of_ble_eq_true rfl⟩ ⟨Nat.zero_le _, Nat.zero_le _⟩ hl.1 rfl (Nat.le_of_ble_eq_true rfl) dX4_pass_98 ?_
        refine gx_e0 (st := [.int r18]) ?_ rfl
        cases hf
        exact gx_iretM C hr hlocks hH hS dX4_pass_101
    · have hf := gx_neg hc3 hf
      refine lv_bipush (v := (-3 : Int32)) hx hb dX4_pass_24 (by decide) ?_
      cases hf
      exact gx_iretM C hr hlocks hH hS dX4_pass_26
  · have hf := gx_pos hc2 hf
    refine lv_bipush (v := (-2 : Int32)) hx hb dX4_pass_10 (by decide) ?_
    cases hf
    exact gx_iretM C hr hlocks hH hS dX4_pass_12
abbrev rm_X4_hello : Room := { frames := 0, cells := 0, slots := 0, locals := 0 }
def f_X4_hello (σ : gx_St) : Option (Int32 × gx_St) :=
  if (σ 0 18) = 0 then (gx_lt (gx_w2 σ 0 18 (0 : Int32)) fun σ2 =>
  gx_lt (gx_w2 σ2 0 17 (σ2 0 0)) fun σ3 =>
  some ((0 : Int32), σ3)) else (gx_lt (gx_w2 σ 0 18 (0 : Int32)) fun σ4 =>
  gx_lt (gx_w2 σ4 0 17 (σ4 0 0)) fun σ5 =>
  some ((1 : Int32), σ5))
set_option maxHeartbeats 4000000 in
set_option maxRecDepth 100000 in
theorem t_X4_hello (l : Launch) (G : gx_G) (hG : gx_D G 13) (σ : gx_St) (r : Int32) (σ' : gx_St)  (hf : f_X4_hello σ = some (r, σ')) : Met l yX4_hello (Cond.code yX4_hello cX4_hello 2 (some .int) :: wT) rm_X4_hello (va_Pc [.ref (gx_q G 0)] (gx_S G 13 (gm_mk G) σ)) (gx_QM G 13 (gm_mk G) (some (.int r)) σ') 0 0 (gx_A G) := by
  refine Met.ofW (cc := cX4_hello) (maxL := 2) (ret := (some .int)) (by decide) rfl ?_
  intro p e s m args below meth c s₁ B hml hv
  obtain ⟨rfl, hH, hE⟩ := hv
  have C := gx_C.of (G := G) B hml hE
  have hx := C.1.1
  have hb := C.1.2.1
  have hr := B.returns
  have hlocks := B.notSynchronized
  have hS : va_S (gx_A G) s.heap s.heap [] := va_S.rf
  have hl := lv_entry ([.ref (gx_q G 0)]) (n := 2) (Nat.le_of_ble_eq_true rfl)
  rw [lg_entry_eq]
  generalize (lg_sl ([.ref (gx_q G 0)]) ++ List.replicate (2 - (lg_sl ([.ref (gx_q G 0)])).length) Slot.unset).toArray = ls at hl ⊢
  have hl : lv_has ls 2 [(0, .ref (gx_q G 0))] := hl
  unfold f_X4_hello at hf
  refine lv_aload_n hx hb dX4_hello_0 rfl (lv_at hl 0 rfl) ?_
  refine gx_get C hH 0 (by decide) rfl fl_X4_125 rfl dX4_hello_1 ?_
  refine lv_if_eq (tgt := 11) hx hb dX4_hello_4 (by decide) (fun hc1 => ?_) (fun hc1 => ?_)
  · have hf := gx_pos hc1 hf
    refine lv_iconst (v := (0 : Int32)) hx hb dX4_hello_11 (by decide) ?_
    refine lv_istore_n (lv' := [(1, .int (0 : Int32)), (0, .ref (gx_q G 0))]) hx hb dX4_hello_12 rfl hl (by decide) rfl (fun ls hl => ?_)
    refine lv_aload_n hx hb dX4_hello_13 rfl (lv_at hl 1 rfl) ?_
    refine lv_iconst (v := (0 : Int32)) hx hb dX4_hello_14 (by decide) ?_
    refine gx_put C hG hH hS 0 (by decide) rfl fl_X4_125 fw_X4_18 (pw_X4_18 _ _) rfl rfl (Nat.le_of_ble_eq_true rfl) dX4_hello_15 (fun H locs σ2 hσ2 hH hS => ?_)
    have hf := gx_let hf σ2 hσ2
    refine lv_aload_n hx hb dX4_hello_18 rfl (lv_at hl 1 rfl) ?_
    refine lv_aload_n hx hb dX4_hello_19 rfl (lv_at hl 1 rfl) ?_
    refine gx_get C hH 0 (by decide) rfl fl_X4_91 rfl dX4_hello_20 ?_
    refine gx_put C hG hH hS 0 (by decide) rfl fl_X4_135 fw_X4_17 (pw_X4_17 _ _) rfl rfl (Nat.le_of_ble_eq_true rfl) dX4_hello_23 (fun H locs σ3 hσ3 hH hS => ?_)
    have hf := gx_let hf σ3 hσ3
    refine lv_iload_n hx hb dX4_hello_26 rfl (lv_at hl 0 rfl) ?_
    cases hf
    exact gx_iretM C hr hlocks hH hS dX4_hello_27
  · have hf := gx_neg hc1 hf
    refine lv_iconst (v := (1 : Int32)) hx hb dX4_hello_7 (by decide) ?_
    refine lv_goto (tgt := 12) hx hb dX4_hello_8 (by decide) ?_
    refine lv_istore_n (lv' := [(1, .int (1 : Int32)), (0, .ref (gx_q G 0))]) hx hb dX4_hello_12 rfl hl (by decide) rfl (fun ls hl => ?_)
    refine lv_aload_n hx hb dX4_hello_13 rfl (lv_at hl 1 rfl) ?_
    refine lv_iconst (v := (0 : Int32)) hx hb dX4_hello_14 (by decide) ?_
    refine gx_put C hG hH hS 0 (by decide) rfl fl_X4_125 fw_X4_18 (pw_X4_18 _ _) rfl rfl (Nat.le_of_ble_eq_true rfl) dX4_hello_15 (fun H locs σ4 hσ4 hH hS => ?_)
    have hf := gx_let hf σ4 hσ4
    refine lv_aload_n hx hb dX4_hello_18 rfl (lv_at hl 1 rfl) ?_
    refine lv_aload_n hx hb dX4_hello_19 rfl (lv_at hl 1 rfl) ?_
    refine gx_get C hH 0 (by decide) rfl fl_X4_91 rfl dX4_hello_20 ?_
    refine gx_put C hG hH hS 0 (by decide) rfl fl_X4_135 fw_X4_17 (pw_X4_17 _ _) rfl rfl (Nat.le_of_ble_eq_true rfl) dX4_hello_23 (fun H locs σ5 hσ5 hH hS => ?_)
    have hf := gx_let hf σ5 hσ5
    refine lv_iload_n hx hb dX4_hello_26 rfl (lv_at hl 0 rfl) ?_
    cases hf
    exact gx_iretM C hr hlocks hH hS dX4_hello_27
abbrev rm_X4_watch : Room := { frames := 1, cells := 0, slots := 0, locals := 22 }
def f_X4_watch (σ : gx_St) (a1 : Int32) : Option (Int32 × gx_St) :=
  (f_X4_within a1 (0 : Int32) (10000 : Int32)).bind fun r1 =>
  if r1 = 0 then (some ((-2 : Int32), σ)) else (gx_lt (σ 0 16) fun x3 =>
  gx_lt (gx_w2 σ 0 16 a1) fun σ4 =>
  gx_lt (gx_w2 σ4 0 17 (σ4 0 0)) fun σ5 =>
  some (x3, σ5))
set_option maxHeartbeats 4000000 in
set_option maxRecDepth 100000 in
theorem t_X4_watch (l : Launch) (G : gx_G) (hG : gx_D G 13) (σ : gx_St) (a1 : Int32) (r : Int32) (σ' : gx_St)  (hf : f_X4_watch σ a1 = some (r, σ')) : Met l yX4_watch (Cond.code yX4_watch cX4_watch 3 (some .int) :: wT) rm_X4_watch (va_Pc [.ref (gx_q G 0), .int a1] (gx_S G 13 (gm_mk G) σ)) (gx_QM G 13 (gm_mk G) (some (.int r)) σ') 0 0 (gx_A G) := by
  refine Met.ofW (cc := cX4_watch) (maxL := 3) (ret := (some .int)) (by decide) rfl ?_
  intro p e s m args below meth c s₁ B hml hv
  obtain ⟨rfl, hH, hE⟩ := hv
  have C := gx_C.of (G := G) B hml hE
  have hx := C.1.1
  have hb := C.1.2.1
  have hr := B.returns
  have hlocks := B.notSynchronized
  have hS : va_S (gx_A G) s.heap s.heap [] := va_S.rf
  have hl := lv_entry ([.ref (gx_q G 0), .int a1]) (n := 3) (Nat.le_of_ble_eq_true rfl)
  rw [lg_entry_eq]
  generalize (lg_sl ([.ref (gx_q G 0), .int a1]) ++ List.replicate (3 - (lg_sl ([.ref (gx_q G 0), .int a1])).length) Slot.unset).toArray = ls at hl ⊢
  have hl : lv_has ls 3 [(0, .ref (gx_q G 0)), (1, .int a1)] := hl
  unfold f_X4_watch at hf
  refine lv_iload_n hx hb dX4_watch_0 rfl (lv_at hl 1 rfl) ?_
  refine lv_iconst (v := (0 : Int32)) hx hb dX4_watch_1 (by decide) ?_
  refine lv_sipush (v := (10000 : Int32)) hx hb dX4_watch_2 (by decide) ?_
  obtain ⟨r1, hr1, hf⟩ := gx_bnd hf
  refine gx_sR (v := (some (.int r1))) (rest := []) C hH hS [.int a1, .int (0 : Int32), .int (10000 : Int32)] (t_X4_within l G σ a1 (0 : Int32) (10000 : Int32) r1  hr1) lk_X4_59 ⟨rfl, rfl, Nat.le_of_ble_eq_true rfl, Nat.le_of_ble_eq_true rfl⟩ ⟨Nat.zero_le _, Nat.zero_le _⟩ hl.1 rfl (Nat.le_of_ble_eq_true rfl) dX4_watch_5 ?_
  refine gx_e0 (st := [.int r1]) ?_ rfl
  refine lv_if_ne (tgt := 14) hx hb dX4_watch_8 (by decide) (fun hc2 => ?_) (fun hc2 => ?_)
  · have hf := gx_neg hc2 hf
    refine lv_aload_n hx hb dX4_watch_14 rfl (lv_at hl 0 rfl) ?_
    refine gx_get C hH 0 (by decide) rfl fl_X4_132 rfl dX4_watch_15 ?_
    refine lv_topi (fun x3 hx3 => ?_)
    have hf := gx_let hf x3 hx3
    refine lv_istore_n (lv' := [(2, .int x3), (0, .ref (gx_q G 0)), (1, .int a1)]) hx hb dX4_watch_18 rfl hl (by decide) rfl (fun ls hl => ?_)
    refine lv_aload_n hx hb dX4_watch_19 rfl (lv_at hl 1 rfl) ?_
    refine lv_iload_n hx hb dX4_watch_20 rfl (lv_at hl 2 rfl) ?_
    refine gx_put C hG hH hS 0 (by decide) rfl fl_X4_132 fw_X4_16 (pw_X4_16 _ _) rfl rfl (Nat.le_of_ble_eq_true rfl) dX4_watch_21 (fun H locs σ4 hσ4 hH hS => ?_)
    have hf := gx_let hf σ4 hσ4
    refine lv_aload_n hx hb dX4_watch_24 rfl (lv_at hl 1 rfl) ?_
    refine lv_aload_n hx hb dX4_watch_25 rfl (lv_at hl 1 rfl) ?_
    refine gx_get C hH 0 (by decide) rfl fl_X4_91 rfl dX4_watch_26 ?_
    refine gx_put C hG hH hS 0 (by decide) rfl fl_X4_135 fw_X4_17 (pw_X4_17 _ _) rfl rfl (Nat.le_of_ble_eq_true rfl) dX4_watch_29 (fun H locs σ5 hσ5 hH hS => ?_)
    have hf := gx_let hf σ5 hσ5
    refine lv_iload_n hx hb dX4_watch_32 rfl (lv_at hl 0 rfl) ?_
    cases hf
    exact gx_iretM C hr hlocks hH hS dX4_watch_33
  · have hf := gx_pos hc2 hf
    refine lv_bipush (v := (-2 : Int32)) hx hb dX4_watch_11 (by decide) ?_
    cases hf
    exact gx_iretM C hr hlocks hH hS dX4_watch_13
abbrev rm_X4_master : Room := { frames := 1, cells := 0, slots := 0, locals := 22 }
def f_X4_master (σ : gx_St) (a1 : Int32) : Option (Int32 × gx_St) :=
  (f_X4_within a1 (0 : Int32) (100 : Int32)).bind fun r1 =>
  if r1 = 0 then (some ((-2 : Int32), σ)) else (gx_lt (σ 0 19) fun x3 =>
  gx_lt (gx_w2 σ 0 19 a1) fun σ4 =>
  some (x3, σ4))
set_option maxHeartbeats 4000000 in
set_option maxRecDepth 100000 in
theorem t_X4_master (l : Launch) (G : gx_G) (hG : gx_D G 13) (σ : gx_St) (a1 : Int32) (r : Int32) (σ' : gx_St)  (hf : f_X4_master σ a1 = some (r, σ')) : Met l yX4_master (Cond.code yX4_master cX4_master 3 (some .int) :: wT) rm_X4_master (va_Pc [.ref (gx_q G 0), .int a1] (gx_S G 13 (gm_mk G) σ)) (gx_QM G 13 (gm_mk G) (some (.int r)) σ') 0 0 (gx_A G) := by
  refine Met.ofW (cc := cX4_master) (maxL := 3) (ret := (some .int)) (by decide) rfl ?_
  intro p e s m args below meth c s₁ B hml hv
  obtain ⟨rfl, hH, hE⟩ := hv
  have C := gx_C.of (G := G) B hml hE
  have hx := C.1.1
  have hb := C.1.2.1
  have hr := B.returns
  have hlocks := B.notSynchronized
  have hS : va_S (gx_A G) s.heap s.heap [] := va_S.rf
  have hl := lv_entry ([.ref (gx_q G 0), .int a1]) (n := 3) (Nat.le_of_ble_eq_true rfl)
  rw [lg_entry_eq]
  generalize (lg_sl ([.ref (gx_q G 0), .int a1]) ++ List.replicate (3 - (lg_sl ([.ref (gx_q G 0), .int a1])).length) Slot.unset).toArray = ls at hl ⊢
  have hl : lv_has ls 3 [(0, .ref (gx_q G 0)), (1, .int a1)] := hl
  unfold f_X4_master at hf
  refine lv_iload_n hx hb dX4_master_0 rfl (lv_at hl 1 rfl) ?_
  refine lv_iconst (v := (0 : Int32)) hx hb dX4_master_1 (by decide) ?_
  refine lv_bipush (v := (100 : Int32)) hx hb dX4_master_2 (by decide) ?_
  obtain ⟨r1, hr1, hf⟩ := gx_bnd hf
  refine gx_sR (v := (some (.int r1))) (rest := []) C hH hS [.int a1, .int (0 : Int32), .int (100 : Int32)] (t_X4_within l G σ a1 (0 : Int32) (100 : Int32) r1  hr1) lk_X4_59 ⟨rfl, rfl, Nat.le_of_ble_eq_true rfl, Nat.le_of_ble_eq_true rfl⟩ ⟨Nat.zero_le _, Nat.zero_le _⟩ hl.1 rfl (Nat.le_of_ble_eq_true rfl) dX4_master_4 ?_
  refine gx_e0 (st := [.int r1]) ?_ rfl
  refine lv_if_ne (tgt := 13) hx hb dX4_master_7 (by decide) (fun hc2 => ?_) (fun hc2 => ?_)
  · have hf := gx_neg hc2 hf
    refine lv_aload_n hx hb dX4_master_13 rfl (lv_at hl 0 rfl) ?_
    refine gx_get C hH 0 (by decide) rfl fl_X4_50 rfl dX4_master_14 ?_
    refine lv_topi (fun x3 hx3 => ?_)
    have hf := gx_let hf x3 hx3
    refine lv_istore_n (lv' := [(2, .int x3), (0, .ref (gx_q G 0)), (1, .int a1)]) hx hb dX4_master_17 rfl hl (by decide) rfl (fun ls hl => ?_)
    refine lv_aload_n hx hb dX4_master_18 rfl (lv_at hl 1 rfl) ?_
    refine lv_iload_n hx hb dX4_master_19 rfl (lv_at hl 2 rfl) ?_
    refine gx_put C hG hH hS 0 (by decide) rfl fl_X4_50 fw_X4_19 (pw_X4_19 _ _) rfl rfl (Nat.le_of_ble_eq_true rfl) dX4_master_20 (fun H locs σ4 hσ4 hH hS => ?_)
    have hf := gx_let hf σ4 hσ4
    refine lv_iload_n hx hb dX4_master_23 rfl (lv_at hl 0 rfl) ?_
    cases hf
    exact gx_iretM C hr hlocks hH hS dX4_master_24
  · have hf := gx_pos hc2 hf
    refine lv_bipush (v := (-2 : Int32)) hx hb dX4_master_10 (by decide) ?_
    cases hf
    exact gx_iretM C hr hlocks hH hS dX4_master_12
abbrev rm_X4_levelBy : Room := { frames := 0, cells := 0, slots := 0, locals := 0 }
def f_X4_levelBy (a0 a1 a2 : Int32) : Option Int32 :=
  if a2 = 0 then none else
  some (a0 + ((((100 : Int32) - a0) * a1) / a2))
set_option maxHeartbeats 4000000 in
set_option maxRecDepth 100000 in
theorem t_X4_levelBy (l : Launch) (G : gx_G) (σ : gx_St) (a0 a1 a2 : Int32) (r : Int32)  (hf : f_X4_levelBy a0 a1 a2 = some r) : Met l yX4_levelBy (Cond.code yX4_levelBy cX4_levelBy 3 (some .int) :: wT) rm_X4_levelBy (va_Pc [.int a0, .int a1, .int a2] (gx_S G 13 (gm_mk G) σ)) (gx_QR (some (.int r))) 0 0 (fun _ => False) := by
  refine Met.ofW (cc := cX4_levelBy) (maxL := 3) (ret := (some .int)) (by decide) rfl ?_
  intro p e s m args below meth c s₁ B hml hv
  obtain ⟨rfl, hH, hE⟩ := hv
  have C := gx_C.of (G := G) B hml hE
  have hx := C.1.1
  have hb := C.1.2.1
  have hr := B.returns
  have hlocks := B.notSynchronized
  have hS : va_S (gx_A G) s.heap s.heap [] := va_S.rf
  have hl := lv_entry ([.int a0, .int a1, .int a2]) (n := 3) (Nat.le_of_ble_eq_true rfl)
  rw [lg_entry_eq]
  generalize (lg_sl ([.int a0, .int a1, .int a2]) ++ List.replicate (3 - (lg_sl ([.int a0, .int a1, .int a2])).length) Slot.unset).toArray = ls at hl ⊢
  have hl : lv_has ls 3 [(0, .int a0), (1, .int a1), (2, .int a2)] := hl
  unfold f_X4_levelBy at hf
  refine lv_iload_n hx hb dX4_levelBy_0 rfl (lv_at hl 0 rfl) ?_
  refine lv_bipush (v := (100 : Int32)) hx hb dX4_levelBy_1 (by decide) ?_
  refine lv_iload_n hx hb dX4_levelBy_3 rfl (lv_at hl 0 rfl) ?_
  refine lv_isub hx hb dX4_levelBy_4 ?_
  refine lv_iload_n hx hb dX4_levelBy_5 rfl (lv_at hl 1 rfl) ?_
  refine lv_imul hx hb dX4_levelBy_6 ?_
  refine lv_iload_n hx hb dX4_levelBy_7 rfl (lv_at hl 2 rfl) ?_
  obtain ⟨hz1, hf⟩ := gx_chk hf
  refine lv_idiv hx hb dX4_levelBy_8 hz1 ?_
  refine lv_iadd hx hb dX4_levelBy_9 ?_
  obtain rfl := Option.some.inj hf
  exact gx_iretR C hr hlocks dX4_levelBy_10
abbrev rm_X4_envelopeAt : Room := { frames := 1, cells := 0, slots := 0, locals := 22 }
def f_X4_envelopeAt (σ : gx_St) (a1 a2 : Int32) : Option Int32 :=
  (f_X4_numberOf σ a1 (2 : Int32)).bind fun r1 =>
  (f_X4_numberOf σ a1 (4 : Int32)).bind fun r2 =>
  (f_X4_numberOf σ a1 (0 : Int32)).bind fun r3 =>
  if r1 ≤ a2 then (gx_lt (r3 - a2) fun x5 =>
  if r3 = (-9 : Int32) then (some (100 : Int32)) else (if r2 ≤ x5 then (some (100 : Int32)) else ((f_X4_numberOf σ a1 (5 : Int32)).bind fun r10 =>
  (f_X4_levelBy r10 x5 r2).bind fun r11 =>
  if r11 ≤ (100 : Int32) then (some r11) else (some (100 : Int32))))) else ((f_X4_numberOf σ a1 (3 : Int32)).bind fun r13 =>
  (f_X4_levelBy r13 a2 r1).bind fun r14 =>
  gx_lt (r3 - a2) fun x15 =>
  if r3 = (-9 : Int32) then (if (100 : Int32) ≤ r14 then (some (100 : Int32)) else (some r14)) else (if r2 ≤ x15 then (if (100 : Int32) ≤ r14 then (some (100 : Int32)) else (some r14)) else ((f_X4_numberOf σ a1 (5 : Int32)).bind fun r20 =>
  (f_X4_levelBy r20 x15 r2).bind fun r21 =>
  if r21 ≤ r14 then (some r21) else (some r14))))
set_option maxHeartbeats 4000000 in
set_option maxRecDepth 100000 in
theorem t_X4_envelopeAt (l : Launch) (G : gx_G) (σ : gx_St) (a1 a2 : Int32) (r : Int32)  (hf : f_X4_envelopeAt σ a1 a2 = some r) : Met l yX4_envelopeAt (Cond.code yX4_envelopeAt cX4_envelopeAt 9 (some .int) :: wT) rm_X4_envelopeAt (va_Pc [.ref (gx_q G 0), .int a1, .int a2] (gx_S G 13 (gm_mk G) σ)) (gx_QR (some (.int r))) 0 0 (fun _ => False) := by
  refine Met.ofW (cc := cX4_envelopeAt) (maxL := 9) (ret := (some .int)) (by decide) rfl ?_
  intro p e s m args below meth c s₁ B hml hv
  obtain ⟨rfl, hH, hE⟩ := hv
  have C := gx_C.of (G := G) B hml hE
  have hx := C.1.1
  have hb := C.1.2.1
  have hr := B.returns
  have hlocks := B.notSynchronized
  have hS : va_S (gx_A G) s.heap s.heap [] := va_S.rf
  have hl := lv_entry ([.ref (gx_q G 0), .int a1, .int a2]) (n := 9) (Nat.le_of_ble_eq_true rfl)
  rw [lg_entry_eq]
  generalize (lg_sl ([.ref (gx_q G 0), .int a1, .int a2]) ++ List.replicate (9 - (lg_sl ([.ref (gx_q G 0), .int a1, .int a2])).length) Slot.unset).toArray = ls at hl ⊢
  have hl : lv_has ls 9 [(0, .ref (gx_q G 0)), (1, .int a1), (2, .int a2)] := hl
  unfold f_X4_envelopeAt at hf
  refine lv_aload_n hx hb dX4_envelopeAt_0 rfl (lv_at hl 0 rfl) ?_
  refine lv_iload_n hx hb dX4_envelopeAt_1 rfl (lv_at hl 1 rfl) ?_
  refine lv_iconst (v := (2 : Int32)) hx hb dX4_envelopeAt_2 (by decide) ?_
  obtain ⟨r1, hr1, hf⟩ := gx_bnd hf
  refine gx_vR (v := (some (.int r1))) (rest := []) C hH hS 0 (by decide) rfl rfl [.int a1, .int (2 : Int32)] (t_X4_numberOf l G σ a1 (2 : Int32) r1  hr1) lk_X4_72 ⟨rfl, rfl, Nat.le_of_ble_eq_true rfl, Nat.le_of_ble_eq_true rfl⟩ ⟨Nat.zero_le _, Nat.zero_le _⟩ hl.1 rfl (Nat.le_of_ble_eq_true rfl) dX4_envelopeAt_3 ?_
  refine gx_e0 (st := [.int r1]) ?_ rfl
  refine lv_istore_n (lv' := [(3, .int r1), (0, .ref (gx_q G 0)), (1, .int a1), (2, .int a2)]) hx hb dX4_envelopeAt_6 rfl hl (by decide) rfl (fun ls hl => ?_)
  refine lv_aload_n hx hb dX4_envelopeAt_7 rfl (lv_at hl 1 rfl) ?_
  refine lv_iload_n hx hb dX4_envelopeAt_8 rfl (lv_at hl 2 rfl) ?_
  refine lv_iconst (v := (4 : Int32)) hx hb dX4_envelopeAt_9 (by decide) ?_
  obtain ⟨r2, hr2, hf⟩ := gx_bnd hf
  refine gx_vR (v := (some (.int r2))) (rest := []) C hH hS 0 (by decide) rfl rfl [.int a1, .int (4 : Int32)] (t_X4_numberOf l G σ a1 (4 : Int32) r2  hr2) lk_X4_72 ⟨rfl, rfl, Nat.le_of_ble_eq_true rfl, Nat.le_of_ble_eq_true rfl⟩ ⟨Nat.zero_le _, Nat.zero_le _⟩ hl.1 rfl (Nat.le_of_ble_eq_true rfl) dX4_envelopeAt_10 ?_
  refine gx_e0 (st := [.int r2]) ?_ rfl
  refine lv_istore (lv' := [(4, .int r2), (3, .int r1), (0, .ref (gx_q G 0)), (1, .int a1), (2, .int a2)]) hx hb dX4_envelopeAt_13 hl (by decide) rfl (fun ls hl => ?_)
  refine lv_aload_n hx hb dX4_envelopeAt_15 rfl (lv_at hl 2 rfl) ?_
  refine lv_iload_n hx hb dX4_envelopeAt_16 rfl (lv_at hl 3 rfl) ?_
  refine lv_iconst (v := (0 : Int32)) hx hb dX4_envelopeAt_17 (by decide) ?_
  obtain ⟨r3, hr3, hf⟩ := gx_bnd hf
  refine gx_vR (v := (some (.int r3))) (rest := []) C hH hS 0 (by decide) rfl rfl [.int a1, .int (0 : Int32)] (t_X4_numberOf l G σ a1 (0 : Int32) r3  hr3) lk_X4_72 ⟨rfl, rfl, Nat.le_of_ble_eq_true rfl, Nat.le_of_ble_eq_true rfl⟩ ⟨Nat.zero_le _, Nat.zero_le _⟩ hl.1 rfl (Nat.le_of_ble_eq_true rfl) dX4_envelopeAt_18 ?_
  refine gx_e0 (st := [.int r3]) ?_ rfl
  refine lv_istore (lv' := [(5, .int r3), (4, .int r2), (3, .int r1), (0, .ref (gx_q G 0)), (1, .int a1), (2, .int a2)]) hx hb dX4_envelopeAt_21 hl (by decide) rfl (fun ls hl => ?_)
  refine lv_iload_n hx hb dX4_envelopeAt_23 rfl (lv_at hl 5 rfl) ?_
  refine lv_iload_n hx hb dX4_envelopeAt_24 rfl (lv_at hl 2 rfl) ?_
  refine lv_icmp_ge (tgt := 42) hx hb dX4_envelopeAt_25 (by decide) (fun hc4 => ?_) (fun hc4 => ?_)
  · have hf := gx_pos hc4 hf
    refine lv_bipush (v := (100 : Int32)) hx hb dX4_envelopeAt_42 (by decide) ?_
    refine lv_istore (lv' := [(6, .int (100 : Int32)), (5, .int r3), (4, .int r2), (3, .int r1), (0, .ref (gx_q G 0)), (1, .int a1), (2, .int a2)]) hx hb dX4_envelopeAt_44 hl (by decide) rfl (fun ls hl => ?_)
    refine lv_iload hx hb dX4_envelopeAt_46 (lv_at hl 1 rfl) ?_
    refine lv_iload_n hx hb dX4_envelopeAt_48 rfl (lv_at hl 6 rfl) ?_
    refine lv_isub hx hb dX4_envelopeAt_49 ?_
    refine lv_topi (fun x5 hx5 => ?_)
    have hf := gx_let hf x5 hx5
    refine lv_istore (lv' := [(7, .int x5), (6, .int (100 : Int32)), (5, .int r3), (4, .int r2), (3, .int r1), (0, .ref (gx_q G 0)), (1, .int a1), (2, .int a2)]) hx hb dX4_envelopeAt_50 hl (by decide) rfl (fun ls hl => ?_)
    refine lv_iload hx hb dX4_envelopeAt_52 (lv_at hl 2 rfl) ?_
    refine lv_bipush (v := (-9 : Int32)) hx hb dX4_envelopeAt_54 (by decide) ?_
    refine lv_icmp_eq (tgt := 82) hx hb dX4_envelopeAt_56 (by decide) (fun hc6 => ?_) (fun hc6 => ?_)
    · have hf := gx_pos hc6 hf
      refine lv_bipush (v := (100 : Int32)) hx hb dX4_envelopeAt_82 (by decide) ?_
      refine lv_istore (lv' := [(8, .int (100 : Int32)), (7, .int x5), (6, .int (100 : Int32)), (5, .int r3), (4, .int r2), (3, .int r1), (0, .ref (gx_q G 0)), (1, .int a1), (2, .int a2)]) hx hb dX4_envelopeAt_84 hl (by decide) rfl (fun ls hl => ?_)
      refine lv_iload hx hb dX4_envelopeAt_86 (lv_at hl 2 rfl) ?_
      refine lv_iload hx hb dX4_envelopeAt_88 (lv_at hl 0 rfl) ?_
      refine lv_icmp_ge (tgt := 98) hx hb dX4_envelopeAt_90 (by decide) (fun hc7 => ?_) (fun hc7 => absurd hc7 (by decide))
      refine lv_iload hx hb dX4_envelopeAt_98 (lv_at hl 0 rfl) ?_
      obtain rfl := Option.some.inj hf
      exact gx_iretR C hr hlocks dX4_envelopeAt_100
    · have hf := gx_neg hc6 hf
      refine lv_iload hx hb dX4_envelopeAt_59 (lv_at hl 0 rfl) ?_
      refine lv_iload hx hb dX4_envelopeAt_61 (lv_at hl 3 rfl) ?_
      refine lv_icmp_ge (tgt := 82) hx hb dX4_envelopeAt_63 (by decide) (fun hc8 => ?_) (fun hc8 => ?_)
      · have hf := gx_pos hc8 hf
        refine lv_bipush (v := (100 : Int32)) hx hb dX4_envelopeAt_82 (by decide) ?_
        refine lv_istore (lv' := [(8, .int (100 : Int32)), (7, .int x5), (6, .int (100 : Int32)), (5, .int r3), (4, .int r2), (3, .int r1), (0, .ref (gx_q G 0)), (1, .int a1), (2, .int a2)]) hx hb dX4_envelopeAt_84 hl (by decide) rfl (fun ls hl => ?_)
        refine lv_iload hx hb dX4_envelopeAt_86 (lv_at hl 2 rfl) ?_
        refine lv_iload hx hb dX4_envelopeAt_88 (lv_at hl 0 rfl) ?_
        refine lv_icmp_ge (tgt := 98) hx hb dX4_envelopeAt_90 (by decide) (fun hc9 => ?_) (fun hc9 => absurd hc9 (by decide))
        refine lv_iload hx hb dX4_envelopeAt_98 (lv_at hl 0 rfl) ?_
        obtain rfl := Option.some.inj hf
        exact gx_iretR C hr hlocks dX4_envelopeAt_100
      · have hf := gx_neg hc8 hf
        refine lv_aload_n hx hb dX4_envelopeAt_66 rfl (lv_at hl 5 rfl) ?_
        refine lv_iload_n hx hb dX4_envelopeAt_67 rfl (lv_at hl 6 rfl) ?_
        refine lv_iconst (v := (5 : Int32)) hx hb dX4_envelopeAt_68 (by decide) ?_
        obtain ⟨r10, hr10, hf⟩ := gx_bnd hf
        refine gx_vR (v := (some (.int r10))) (rest := []) C hH hS 0 (by decide) rfl rfl [.int a1, .int (5 : Int32)] (t_X4_numberOf l G σ a1 (5 : Int32) r10  hr10) lk_X4_72 ⟨rfl, rfl, Nat.le_of_ble_eq_true rfl, Nat.le_of_ble_eq_true rfl⟩ ⟨Nat.zero_le _, Nat.zero_le _⟩ hl.1 rfl (Nat.le_of_ble_eq_true rfl) dX4_envelopeAt_69 ?_
        refine gx_e0 (st := [.int r10]) ?_ rfl
        refine lv_iload hx hb dX4_envelopeAt_72 (lv_at hl 0 rfl) ?_
        refine lv_iload hx hb dX4_envelopeAt_74 (lv_at hl 3 rfl) ?_
        obtain ⟨r11, hr11, hf⟩ := gx_bnd hf
        refine gx_sR (v := (some (.int r11))) (rest := []) C hH hS [.int r10, .int x5, .int r2] (t_X4_levelBy l G σ r10 x5 r2 r11  hr11) lk_X4_152 ⟨rfl, rfl, Nat.le_of_ble_eq_true rfl, Nat.le_of_ble_eq_true rfl⟩ ⟨Nat.zero_le _, Nat.zero_le _⟩ hl.1 rfl (Nat.le_of_ble_eq_true rfl) dX4_envelopeAt_76 ?_
        refine gx_e0 (st := [.int r11]) ?_ rfl
        refine lv_goto (tgt := 84) hx hb dX4_envelopeAt_79 (by decide) ?_
        refine lv_istore (lv' := [(8, .int r11), (7, .int x5), (6, .int (100 : Int32)), (5, .int r3), (4, .int r2), (3, .int r1), (0, .ref (gx_q G 0)), (1, .int a1), (2, .int a2)]) hx hb dX4_envelopeAt_84 hl (by decide) rfl (fun ls hl => ?_)
        refine lv_iload hx hb dX4_envelopeAt_86 (lv_at hl 2 rfl) ?_
        refine lv_iload hx hb dX4_envelopeAt_88 (lv_at hl 0 rfl) ?_
        refine lv_icmp_ge (tgt := 98) hx hb dX4_envelopeAt_90 (by decide) (fun hc12 => ?_) (fun hc12 => ?_)
        · have hf := gx_pos hc12 hf
          refine lv_iload hx hb dX4_envelopeAt_98 (lv_at hl 0 rfl) ?_
          obtain rfl := Option.some.inj hf
          exact gx_iretR C hr hlocks dX4_envelopeAt_100
        · have hf := gx_neg hc12 hf
          refine lv_iload hx hb dX4_envelopeAt_93 (lv_at hl 2 rfl) ?_
          refine lv_goto (tgt := 100) hx hb dX4_envelopeAt_95 (by decide) ?_
          obtain rfl := Option.some.inj hf
          exact gx_iretR C hr hlocks dX4_envelopeAt_100
  · have hf := gx_neg hc4 hf
    refine lv_aload_n hx hb dX4_envelopeAt_28 rfl (lv_at hl 3 rfl) ?_
    refine lv_iload_n hx hb dX4_envelopeAt_29 rfl (lv_at hl 4 rfl) ?_
    refine lv_iconst (v := (3 : Int32)) hx hb dX4_envelopeAt_30 (by decide) ?_
    obtain ⟨r13, hr13, hf⟩ := gx_bnd hf
    refine gx_vR (v := (some (.int r13))) (rest := []) C hH hS 0 (by decide) rfl rfl [.int a1, .int (3 : Int32)] (t_X4_numberOf l G σ a1 (3 : Int32) r13  hr13) lk_X4_72 ⟨rfl, rfl, Nat.le_of_ble_eq_true rfl, Nat.le_of_ble_eq_true rfl⟩ ⟨Nat.zero_le _, Nat.zero_le _⟩ hl.1 rfl (Nat.le_of_ble_eq_true rfl) dX4_envelopeAt_31 ?_
    refine gx_e0 (st := [.int r13]) ?_ rfl
    refine lv_iload_n hx hb dX4_envelopeAt_34 rfl (lv_at hl 5 rfl) ?_
    refine lv_iload_n hx hb dX4_envelopeAt_35 rfl (lv_at hl 2 rfl) ?_
    obtain ⟨r14, hr14, hf⟩ := gx_bnd hf
    refine gx_sR (v := (some (.int r14))) (rest := []) C hH hS [.int r13, .int a2, .int r1] (t_X4_levelBy l G σ r13 a2 r1 r14  hr14) lk_X4_152 ⟨rfl, rfl, Nat.le_of_ble_eq_true rfl, Nat.le_of_ble_eq_true rfl⟩ ⟨Nat.zero_le _, Nat.zero_le _⟩ hl.1 rfl (Nat.le_of_ble_eq_true rfl) dX4_envelopeAt_36 ?_
    refine gx_e0 (st := [.int r14]) ?_ rfl
    refine lv_goto (tgt := 44) hx hb dX4_envelopeAt_39 (by decide) ?_
    refine lv_istore (lv' := [(6, .int r14), (5, .int r3), (4, .int r2), (3, .int r1), (0, .ref (gx_q G 0)), (1, .int a1), (2, .int a2)]) hx hb dX4_envelopeAt_44 hl (by decide) rfl (fun ls hl => ?_)
    refine lv_iload hx hb dX4_envelopeAt_46 (lv_at hl 1 rfl) ?_
    refine lv_iload_n hx hb dX4_envelopeAt_48 rfl (lv_at hl 6 rfl) ?_
    refine lv_isub hx hb dX4_envelopeAt_49 ?_
    refine lv_topi (fun x15 hx15 => ?_)
    have hf := gx_let hf x15 hx15
    refine lv_istore (lv' := [(7, .int x15), (6, .int r14), (5, .int r3), (4, .int r2), (3, .int r1), (0, .ref (gx_q G 0)), (1, .int a1), (2, .int a2)]) hx hb dX4_envelopeAt_50 hl (by decide) rfl (fun ls hl => ?_)
    refine lv_iload hx hb dX4_envelopeAt_52 (lv_at hl 2 rfl) ?_
    refine lv_bipush (v := (-9 : Int32)) hx hb dX4_envelopeAt_54 (by decide) ?_
    refine lv_icmp_eq (tgt := 82) hx hb dX4_envelopeAt_56 (by decide) (fun hc16 => ?_) (fun hc16 => ?_)
    · have hf := gx_pos hc16 hf
      refine lv_bipush (v := (100 : Int32)) hx hb dX4_envelopeAt_82 (by decide) ?_
      refine lv_istore (lv' := [(8, .int (100 : Int32)), (7, .int x15), (6, .int r14), (5, .int r3), (4, .int r2), (3, .int r1), (0, .ref (gx_q G 0)), (1, .int a1), (2, .int a2)]) hx hb dX4_envelopeAt_84 hl (by decide) rfl (fun ls hl => ?_)
      refine lv_iload hx hb dX4_envelopeAt_86 (lv_at hl 2 rfl) ?_
      refine lv_iload hx hb dX4_envelopeAt_88 (lv_at hl 0 rfl) ?_
      refine lv_icmp_ge (tgt := 98) hx hb dX4_envelopeAt_90 (by decide) (fun hc17 => ?_) (fun hc17 => ?_)
      · have hf := gx_pos hc17 hf
        refine lv_iload hx hb dX4_envelopeAt_98 (lv_at hl 0 rfl) ?_
        obtain rfl := Option.some.inj hf
        exact gx_iretR C hr hlocks dX4_envelopeAt_100
      · have hf := gx_neg hc17 hf
        refine lv_iload hx hb dX4_envelopeAt_93 (lv_at hl 2 rfl) ?_
        refine lv_goto (tgt := 100) hx hb dX4_envelopeAt_95 (by decide) ?_
        obtain rfl := Option.some.inj hf
        exact gx_iretR C hr hlocks dX4_envelopeAt_100
    · have hf := gx_neg hc16 hf
      refine lv_iload hx hb dX4_envelopeAt_59 (lv_at hl 0 rfl) ?_
      refine lv_iload hx hb dX4_envelopeAt_61 (lv_at hl 3 rfl) ?_
      refine lv_icmp_ge (tgt := 82) hx hb dX4_envelopeAt_63 (by decide) (fun hc18 => ?_) (fun hc18 => ?_)
      · have hf := gx_pos hc18 hf
        refine lv_bipush (v := (100 : Int32)) hx hb dX4_envelopeAt_82 (by decide) ?_
        refine lv_istore (lv' := [(8, .int (100 : Int32)), (7, .int x15), (6, .int r14), (5, .int r3), (4, .int r2), (3, .int r1), (0, .ref (gx_q G 0)), (1, .int a1), (2, .int a2)]) hx hb dX4_envelopeAt_84 hl (by decide) rfl (fun ls hl => ?_)
        refine lv_iload hx hb dX4_envelopeAt_86 (lv_at hl 2 rfl) ?_
        refine lv_iload hx hb dX4_envelopeAt_88 (lv_at hl 0 rfl) ?_
        refine lv_icmp_ge (tgt := 98) hx hb dX4_envelopeAt_90 (by decide) (fun hc19 => ?_) (fun hc19 => ?_)
        · have hf := gx_pos hc19 hf
          refine lv_iload hx hb dX4_envelopeAt_98 (lv_at hl 0 rfl) ?_
          obtain rfl := Option.some.inj hf
          exact gx_iretR C hr hlocks dX4_envelopeAt_100
        · have hf := gx_neg hc19 hf
          refine lv_iload hx hb dX4_envelopeAt_93 (lv_at hl 2 rfl) ?_
          refine lv_goto (tgt := 100) hx hb dX4_envelopeAt_95 (by decide) ?_
          obtain rfl := Option.some.inj hf
          exact gx_iretR C hr hlocks dX4_envelopeAt_100
      · have hf := gx_neg hc18 hf
        refine lv_aload_n hx hb dX4_envelopeAt_66 rfl (lv_at hl 5 rfl) ?_
        refine lv_iload_n hx hb dX4_envelopeAt_67 rfl (lv_at hl 6 rfl) ?_
        refine lv_iconst (v := (5 : Int32)) hx hb dX4_envelopeAt_68 (by decide) ?_
        obtain ⟨r20, hr20, hf⟩ := gx_bnd hf
        refine gx_vR (v := (some (.int r20))) (rest := []) C hH hS 0 (by decide) rfl rfl [.int a1, .int (5 : Int32)] (t_X4_numberOf l G σ a1 (5 : Int32) r20  hr20) lk_X4_72 ⟨rfl, rfl, Nat.le_of_ble_eq_true rfl, Nat.le_of_ble_eq_true rfl⟩ ⟨Nat.zero_le _, Nat.zero_le _⟩ hl.1 rfl (Nat.le_of_ble_eq_true rfl) dX4_envelopeAt_69 ?_
        refine gx_e0 (st := [.int r20]) ?_ rfl
        refine lv_iload hx hb dX4_envelopeAt_72 (lv_at hl 0 rfl) ?_
        refine lv_iload hx hb dX4_envelopeAt_74 (lv_at hl 3 rfl) ?_
        obtain ⟨r21, hr21, hf⟩ := gx_bnd hf
        refine gx_sR (v := (some (.int r21))) (rest := []) C hH hS [.int r20, .int x15, .int r2] (t_X4_levelBy l G σ r20 x15 r2 r21  hr21) lk_X4_152 ⟨rfl, rfl, Nat.le_of_ble_eq_true rfl, Nat.le_of_ble_eq_true rfl⟩ ⟨Nat.zero_le _, Nat.zero_le _⟩ hl.1 rfl (Nat.le_of_ble_eq_true rfl) dX4_envelopeAt_76 ?_
        refine gx_e0 (st := [.int r21]) ?_ rfl
        refine lv_goto (tgt := 84) hx hb dX4_envelopeAt_79 (by decide) ?_
        refine lv_istore (lv' := [(8, .int r21), (7, .int x15), (6, .int r14), (5, .int r3), (4, .int r2), (3, .int r1), (0, .ref (gx_q G 0)), (1, .int a1), (2, .int a2)]) hx hb dX4_envelopeAt_84 hl (by decide) rfl (fun ls hl => ?_)
        refine lv_iload hx hb dX4_envelopeAt_86 (lv_at hl 2 rfl) ?_
        refine lv_iload hx hb dX4_envelopeAt_88 (lv_at hl 0 rfl) ?_
        refine lv_icmp_ge (tgt := 98) hx hb dX4_envelopeAt_90 (by decide) (fun hc22 => ?_) (fun hc22 => ?_)
        · have hf := gx_pos hc22 hf
          refine lv_iload hx hb dX4_envelopeAt_98 (lv_at hl 0 rfl) ?_
          obtain rfl := Option.some.inj hf
          exact gx_iretR C hr hlocks dX4_envelopeAt_100
        · have hf := gx_neg hc22 hf
          refine lv_iload hx hb dX4_envelopeAt_93 (lv_at hl 2 rfl) ?_
          refine lv_goto (tgt := 100) hx hb dX4_envelopeAt_95 (by decide) ?_
          obtain rfl := Option.some.inj hf
          exact gx_iretR C hr hlocks dX4_envelopeAt_100
abbrev rm_X4_waveAt : Room := { frames := 1, cells := 0, slots := 0, locals := 22 }
def f_X4_waveAt (σ : gx_St) (a1 a2 : Int32) : Option Int32 :=
  if (a1 < 0 ∨ 12 ≤ a1.toNatClampNeg) then none else
  gx_lt (σ (4) a1.toNatClampNeg) fun x2 =>
  if (a1 < 0 ∨ 12 ≤ a1.toNatClampNeg) then none else
  gx_lt (σ (5) a1.toNatClampNeg) fun x4 =>
  if (a1 < 0 ∨ 12 ≤ a1.toNatClampNeg) then none else
  gx_lt (σ (6) a1.toNatClampNeg) fun x6 =>
  (f_X4_numberOf σ a1 (0 : Int32)).bind fun r7 =>
  if x6 ≤ 0 then (if (a1 < 0 ∨ 12 ≤ a1.toNatClampNeg) then none else
  if (σ (3) a1.toNatClampNeg) = (0 : Int32) then (some x2) else if (σ (3) a1.toNatClampNeg) = (1 : Int32) then (if x6 ≤ ((2 : Int32) * (0 : Int32)) then (some (x4 - x2)) else (some (x4 + x2))) else if (σ (3) a1.toNatClampNeg) = (2 : Int32) then (if x6 ≤ ((2 : Int32) * (0 : Int32)) then (if x6 = 0 then none else
  some (x4 + ((x2 * (((3 : Int32) * x6) - ((4 : Int32) * (0 : Int32)))) / x6))) else (if x6 = 0 then none else
  some (x4 + ((x2 * (((4 : Int32) * (0 : Int32)) - x6)) / x6)))) else (if r7 = (-9 : Int32) then (some x2) else (if r7 = 0 then none else
  some (x2 + (((x4 - x2) * a2) / r7))))) else (if (a1 < 0 ∨ 12 ≤ a1.toNatClampNeg) then none else
  if x6 = 0 then none else
  gx_lt ((a2 + (σ (7) a1.toNatClampNeg)) - (a2 + (σ (7) a1.toNatClampNeg)) / x6 * x6) fun x21 =>
  if (a1 < 0 ∨ 12 ≤ a1.toNatClampNeg) then none else
  if (σ (3) a1.toNatClampNeg) = (0 : Int32) then (some x2) else if (σ (3) a1.toNatClampNeg) = (1 : Int32) then (if x6 ≤ ((2 : Int32) * x21) then (some (x4 - x2)) else (some (x4 + x2))) else if (σ (3) a1.toNatClampNeg) = (2 : Int32) then (if x6 ≤ ((2 : Int32) * x21) then (if x6 = 0 then none else
  some (x4 + ((x2 * (((3 : Int32) * x6) - ((4 : Int32) * x21))) / x6))) else (if x6 = 0 then none else
  some (x4 + ((x2 * (((4 : Int32) * x21) - x6)) / x6)))) else (if r7 = (-9 : Int32) then (some x2) else (if r7 = 0 then none else
  some (x2 + (((x4 - x2) * a2) / r7)))))
set_option maxHeartbeats 4000000 in
set_option maxRecDepth 100000 in
theorem t_X4_waveAt (l : Launch) (G : gx_G) (σ : gx_St) (a1 a2 : Int32) (r : Int32)  (hf : f_X4_waveAt σ a1 a2 = some r) : Met l yX4_waveAt (Cond.code yX4_waveAt cX4_waveAt 8 (some .int) :: wT) rm_X4_waveAt (va_Pc [.ref (gx_q G 0), .int a1, .int a2] (gx_S G 13 (gm_mk G) σ)) (gx_QR (some (.int r))) 0 0 (fun _ => False) := by
  refine Met.ofW (cc := cX4_waveAt) (maxL := 8) (ret := (some .int)) (by decide) rfl ?_
  intro p e s m args below meth c s₁ B hml hv
  obtain ⟨rfl, hH, hE⟩ := hv
  have C := gx_C.of (G := G) B hml hE
  have hx := C.1.1
  have hb := C.1.2.1
  have hr := B.returns
  have hlocks := B.notSynchronized
  have hS : va_S (gx_A G) s.heap s.heap [] := va_S.rf
  have hl := lv_entry ([.ref (gx_q G 0), .int a1, .int a2]) (n := 8) (Nat.le_of_ble_eq_true rfl)
  rw [lg_entry_eq]
  generalize (lg_sl ([.ref (gx_q G 0), .int a1, .int a2]) ++ List.replicate (8 - (lg_sl ([.ref (gx_q G 0), .int a1, .int a2])).length) Slot.unset).toArray = ls at hl ⊢
  have hl : lv_has ls 8 [(0, .ref (gx_q G 0)), (1, .int a1), (2, .int a2)] := hl
  unfold f_X4_waveAt at hf
  refine lv_aload_n hx hb dX4_waveAt_0 rfl (lv_at hl 0 rfl) ?_
  refine gx_get C hH 0 (by decide) rfl fl_X4_19 rfl dX4_waveAt_1 ?_
  refine lv_iload_n hx hb dX4_waveAt_4 rfl (lv_at hl 1 rfl) ?_
  obtain ⟨hb1, hf⟩ := gx_chk hf
  refine gx_iald C hH (4) (by decide) rfl hb1 dX4_waveAt_5 ?_
  refine lv_topi (fun x2 hx2 => ?_)
  have hf := gx_let hf x2 hx2
  refine lv_istore_n (lv' := [(3, .int x2), (0, .ref (gx_q G 0)), (1, .int a1), (2, .int a2)]) hx hb dX4_waveAt_6 rfl hl (by decide) rfl (fun ls hl => ?_)
  refine lv_aload_n hx hb dX4_waveAt_7 rfl (lv_at hl 1 rfl) ?_
  refine gx_get C hH 0 (by decide) rfl fl_X4_22 rfl dX4_waveAt_8 ?_
  refine lv_iload_n hx hb dX4_waveAt_11 rfl (lv_at hl 2 rfl) ?_
  obtain ⟨hb3, hf⟩ := gx_chk hf
  refine gx_iald C hH (5) (by decide) rfl hb3 dX4_waveAt_12 ?_
  refine lv_topi (fun x4 hx4 => ?_)
  have hf := gx_let hf x4 hx4
  refine lv_istore (lv' := [(4, .int x4), (3, .int x2), (0, .ref (gx_q G 0)), (1, .int a1), (2, .int a2)]) hx hb dX4_waveAt_13 hl (by decide) rfl (fun ls hl => ?_)
  refine lv_aload_n hx hb dX4_waveAt_15 rfl (lv_at hl 2 rfl) ?_
  refine gx_get C hH 0 (by decide) rfl fl_X4_25 rfl dX4_waveAt_16 ?_
  refine lv_iload_n hx hb dX4_waveAt_19 rfl (lv_at hl 3 rfl) ?_
  obtain ⟨hb5, hf⟩ := gx_chk hf
  refine gx_iald C hH (6) (by decide) rfl hb5 dX4_waveAt_20 ?_
  refine lv_topi (fun x6 hx6 => ?_)
  have hf := gx_let hf x6 hx6
  refine lv_istore (lv' := [(5, .int x6), (4, .int x4), (3, .int x2), (0, .ref (gx_q G 0)), (1, .int a1), (2, .int a2)]) hx hb dX4_waveAt_21 hl (by decide) rfl (fun ls hl => ?_)
  refine lv_aload_n hx hb dX4_waveAt_23 rfl (lv_at hl 3 rfl) ?_
  refine lv_iload_n hx hb dX4_waveAt_24 rfl (lv_at hl 4 rfl) ?_
  refine lv_iconst (v := (0 : Int32)) hx hb dX4_waveAt_25 (by decide) ?_
  obtain ⟨r7, hr7, hf⟩ := gx_bnd hf
  refine gx_vR (v := (some (.int r7))) (rest := []) C hH hS 0 (by decide) rfl rfl [.int a1, .int (0 : Int32)] (t_X4_numberOf l G σ a1 (0 : Int32) r7  hr7) lk_X4_72 ⟨rfl, rfl, Nat.le_of_ble_eq_true rfl, Nat.le_of_ble_eq_true rfl⟩ ⟨Nat.zero_le _, Nat.zero_le _⟩ hl.1 rfl (Nat.le_of_ble_eq_true rfl) dX4_waveAt_26 ?_
  refine gx_e0 (st := [.int r7]) ?_ rfl
  refine lv_istore (lv' := [(6, .int r7), (5, .int x6), (4, .int x4), (3, .int x2), (0, .ref (gx_q G 0)), (1, .int a1), (2, .int a2)]) hx hb dX4_waveAt_29 hl (by decide) rfl (fun ls hl => ?_)
  refine lv_iload hx hb dX4_waveAt_31 (lv_at hl 1 rfl) ?_
  refine lv_if_le (tgt := 50) hx hb dX4_waveAt_33 (by decide) (fun hc8 => ?_) (fun hc8 => ?_)
  · have hf := gx_pos hc8 hf
    refine lv_iconst (v := (0 : Int32)) hx hb dX4_waveAt_50 (by decide) ?_
    refine lv_istore (lv' := [(7, .int (0 : Int32)), (6, .int r7), (5, .int x6), (4, .int x4), (3, .int x2), (0, .ref (gx_q G 0)), (1, .int a1), (2, .int a2)]) hx hb dX4_waveAt_51 hl (by decide) rfl (fun ls hl => ?_)
    refine lv_aload_n hx hb dX4_waveAt_53 rfl (lv_at hl 5 rfl) ?_
    refine gx_get C hH 0 (by decide) rfl fl_X4_16 rfl dX4_waveAt_54 ?_
    refine lv_iload_n hx hb dX4_waveAt_57 rfl (lv_at hl 6 rfl) ?_
    obtain ⟨hb9, hf⟩ := gx_chk hf
    refine gx_iald C hH (3) (by decide) rfl hb9 dX4_waveAt_58 ?_
    by_cases hc10 : (σ (3) a1.toNatClampNeg) = (0 : Int32)
    · have hf := gx_pos hc10 hf
      refine lv_tableIn (tgt := 84) hx hb dX4_waveAt_59 (by rw [hc10]; decide) (by rw [hc10]; decide) (by rw [hc10]; rfl) (by decide) ?_
      refine lv_iload_n hx hb dX4_waveAt_84 rfl (lv_at hl 4 rfl) ?_
      obtain rfl := Option.some.inj hf
      exact gx_iretR C hr hlocks dX4_waveAt_85
    · have hf := gx_neg hc10 hf
      by_cases hc11 : (σ (3) a1.toNatClampNeg) = (1 : Int32)
      · have hf := gx_pos hc11 hf
        refine lv_tableIn (tgt := 86) hx hb dX4_waveAt_59 (by rw [hc11]; decide) (by rw [hc11]; decide) (by rw [hc11]; rfl) (by decide) ?_
        refine lv_iconst (v := (2 : Int32)) hx hb dX4_waveAt_86 (by decide) ?_
        refine lv_iload hx hb dX4_waveAt_87 (lv_at hl 0 rfl) ?_
        refine lv_imul hx hb dX4_waveAt_89 ?_
        refine lv_iload hx hb dX4_waveAt_90 (lv_at hl 2 rfl) ?_
        refine lv_icmp_ge (tgt := 102) hx hb dX4_waveAt_92 (by decide) (fun hc12 => ?_) (fun hc12 => ?_)
        · have hf := gx_pos hc12 hf
          refine lv_iload hx hb dX4_waveAt_102 (lv_at hl 3 rfl) ?_
          refine lv_iload_n hx hb dX4_waveAt_104 rfl (lv_at hl 4 rfl) ?_
          refine lv_isub hx hb dX4_waveAt_105 ?_
          obtain rfl := Option.some.inj hf
          exact gx_iretR C hr hlocks dX4_waveAt_106
        · have hf := gx_neg hc12 hf
          refine lv_iload hx hb dX4_waveAt_95 (lv_at hl 3 rfl) ?_
          refine lv_iload_n hx hb dX4_waveAt_97 rfl (lv_at hl 4 rfl) ?_
          refine lv_iadd hx hb dX4_waveAt_98 ?_
          refine lv_goto (tgt := 106) hx hb dX4_waveAt_99 (by decide) ?_
          obtain rfl := Option.some.inj hf
          exact gx_iretR C hr hlocks dX4_waveAt_106
      · have hf := gx_neg hc11 hf
        by_cases hc13 : (σ (3) a1.toNatClampNeg) = (2 : Int32)
        · have hf := gx_pos hc13 hf
          refine lv_tableIn (tgt := 107) hx hb dX4_waveAt_59 (by rw [hc13]; decide) (by rw [hc13]; decide) (by rw [hc13]; rfl) (by decide) ?_
          refine lv_iconst (v := (2 : Int32)) hx hb dX4_waveAt_107 (by decide) ?_
          refine lv_iload hx hb dX4_waveAt_108 (lv_at hl 0 rfl) ?_
          refine lv_imul hx hb dX4_waveAt_110 ?_
          refine lv_iload hx hb dX4_waveAt_111 (lv_at hl 2 rfl) ?_
          refine lv_icmp_ge (tgt := 134) hx hb dX4_waveAt_113 (by decide) (fun hc14 => ?_) (fun hc14 => ?_)
          · have hf := gx_pos hc14 hf
            refine lv_iload hx hb dX4_waveAt_134 (lv_at hl 3 rfl) ?_
            refine lv_iload_n hx hb dX4_waveAt_136 rfl (lv_at hl 4 rfl) ?_
            refine lv_iconst (v := (3 : Int32)) hx hb dX4_waveAt_137 (by decide) ?_
            refine lv_iload hx hb dX4_waveAt_138 (lv_at hl 2 rfl) ?_
            refine lv_imul hx hb dX4_waveAt_140 ?_
            refine lv_iconst (v := (4 : Int32)) hx hb dX4_waveAt_141 (by decide) ?_
            refine lv_iload hx hb dX4_waveAt_142 (lv_at hl 0 rfl) ?_
            refine lv_imul hx hb dX4_waveAt_144 ?_
            refine lv_isub hx hb dX4_waveAt_145 ?_
            refine lv_imul hx hb dX4_waveAt_146 ?_
            refine lv_iload hx hb dX4_waveAt_147 (lv_at hl 2 rfl) ?_
            obtain ⟨hz15, hf⟩ := gx_chk hf
            refine lv_idiv hx hb dX4_waveAt_149 hz15 ?_
            refine lv_iadd hx hb dX4_waveAt_150 ?_
            obtain rfl := Option.some.inj hf
            exact gx_iretR C hr hlocks dX4_waveAt_151
          · have hf := gx_neg hc14 hf
            refine lv_iload hx hb dX4_waveAt_116 (lv_at hl 3 rfl) ?_
            refine lv_iload_n hx hb dX4_waveAt_118 rfl (lv_at hl 4 rfl) ?_
            refine lv_iconst (v := (4 : Int32)) hx hb dX4_waveAt_119 (by decide) ?_
            refine lv_iload hx hb dX4_waveAt_120 (lv_at hl 0 rfl) ?_
            refine lv_imul hx hb dX4_waveAt_122 ?_
            refine lv_iload hx hb dX4_waveAt_123 (lv_at hl 2 rfl) ?_
            refine lv_isub hx hb dX4_waveAt_125 ?_
            refine lv_imul hx hb dX4_waveAt_126 ?_
            refine lv_iload hx hb dX4_waveAt_127 (lv_at hl 2 rfl) ?_
            obtain ⟨hz16, hf⟩ := gx_chk hf
            refine lv_idiv hx hb dX4_waveAt_129 hz16 ?_
            refine lv_iadd hx hb dX4_waveAt_130 ?_
            refine lv_goto (tgt := 151) hx hb dX4_waveAt_131 (by decide) ?_
            obtain rfl := Option.some.inj hf
            exact gx_iretR C hr hlocks dX4_waveAt_151
        · have hf := gx_neg hc13 hf
          refine lv_tableOut (tgt := 152) hx hb dX4_waveAt_59 (by have q0 := lv_neT hc10 (a := 0) rfl; have q1 := lv_neT hc11 (a := 1) rfl; have q2 := lv_neT hc13 (a := 2) rfl; omega) (by decide) ?_
          refine lv_iload hx hb dX4_waveAt_152 (lv_at hl 1 rfl) ?_
          refine lv_bipush (v := (-9 : Int32)) hx hb dX4_waveAt_154 (by decide) ?_
          refine lv_icmp_ne (tgt := 163) hx hb dX4_waveAt_156 (by decide) (fun hc17 => ?_) (fun hc17 => ?_)
          · have hf := gx_neg hc17 hf
            refine lv_iload_n hx hb dX4_waveAt_163 rfl (lv_at hl 4 rfl) ?_
            refine lv_iload hx hb dX4_waveAt_164 (lv_at hl 3 rfl) ?_
            refine lv_iload_n hx hb dX4_waveAt_166 rfl (lv_at hl 4 rfl) ?_
            refine lv_isub hx hb dX4_waveAt_167 ?_
            refine lv_iload_n hx hb dX4_waveAt_168 rfl (lv_at hl 7 rfl) ?_
            refine lv_imul hx hb dX4_waveAt_169 ?_
            refine lv_iload hx hb dX4_waveAt_170 (lv_at hl 1 rfl) ?_
            obtain ⟨hz18, hf⟩ := gx_chk hf
            refine lv_idiv hx hb dX4_waveAt_172 hz18 ?_
            refine lv_iadd hx hb dX4_waveAt_173 ?_
            obtain rfl := Option.some.inj hf
            exact gx_iretR C hr hlocks dX4_waveAt_174
          · have hf := gx_pos hc17 hf
            refine lv_iload_n hx hb dX4_waveAt_159 rfl (lv_at hl 4 rfl) ?_
            refine lv_goto (tgt := 174) hx hb dX4_waveAt_160 (by decide) ?_
            obtain rfl := Option.some.inj hf
            exact gx_iretR C hr hlocks dX4_waveAt_174
  · have hf := gx_neg hc8 hf
    refine lv_iload_n hx hb dX4_waveAt_36 rfl (lv_at hl 6 rfl) ?_
    refine lv_aload_n hx hb dX4_waveAt_37 rfl (lv_at hl 4 rfl) ?_
    refine gx_get C hH 0 (by decide) rfl fl_X4_28 rfl dX4_waveAt_38 ?_
    refine lv_iload_n hx hb dX4_waveAt_41 rfl (lv_at hl 5 rfl) ?_
    obtain ⟨hb19, hf⟩ := gx_chk hf
    refine gx_iald C hH (7) (by decide) rfl hb19 dX4_waveAt_42 ?_
    refine lv_iadd hx hb dX4_waveAt_43 ?_
    refine lv_iload hx hb dX4_waveAt_44 (lv_at hl 1 rfl) ?_
    obtain ⟨hz20, hf⟩ := gx_chk hf
    refine lv_irem hx hb dX4_waveAt_46 hz20 ?_
    refine lv_goto (tgt := 51) hx hb dX4_waveAt_47 (by decide) ?_
    refine lv_topi (fun x21 hx21 => ?_)
    have hf := gx_let hf x21 hx21
    refine lv_istore (lv' := [(7, .int x21), (6, .int r7), (5, .int x6), (4, .int x4), (3, .int x2), (0, .ref (gx_q G 0)), (1, .int a1), (2, .int a2)]) hx hb dX4_waveAt_51 hl (by decide) rfl (fun ls hl => ?_)
    refine lv_aload_n hx hb dX4_waveAt_53 rfl (lv_at hl 5 rfl) ?_
    refine gx_get C hH 0 (by decide) rfl fl_X4_16 rfl dX4_waveAt_54 ?_
    refine lv_iload_n hx hb dX4_waveAt_57 rfl (lv_at hl 6 rfl) ?_
    obtain ⟨hb22, hf⟩ := gx_chk hf
    refine gx_iald C hH (3) (by decide) rfl hb22 dX4_waveAt_58 ?_
    by_cases hc23 : (σ (3) a1.toNatClampNeg) = (0 : Int32)
    · have hf := gx_pos hc23 hf
      refine lv_tableIn (tgt := 84) hx hb dX4_waveAt_59 (by rw [hc23]; decide) (by rw [hc23]; decide) (by rw [hc23]; rfl) (by decide) ?_
      refine lv_iload_n hx hb dX4_waveAt_84 rfl (lv_at hl 4 rfl) ?_
      obtain rfl := Option.some.inj hf
      exact gx_iretR C hr hlocks dX4_waveAt_85
    · have hf := gx_neg hc23 hf
      by_cases hc24 : (σ (3) a1.toNatClampNeg) = (1 : Int32)
      · have hf := gx_pos hc24 hf
        refine lv_tableIn (tgt := 86) hx hb dX4_waveAt_59 (by rw [hc24]; decide) (by rw [hc24]; decide) (by rw [hc24]; rfl) (by decide) ?_
        refine lv_iconst (v := (2 : Int32)) hx hb dX4_waveAt_86 (by decide) ?_
        refine lv_iload hx hb dX4_waveAt_87 (lv_at hl 0 rfl) ?_
        refine lv_imul hx hb dX4_waveAt_89 ?_
        refine lv_iload hx hb dX4_waveAt_90 (lv_at hl 2 rfl) ?_
        refine lv_icmp_ge (tgt := 102) hx hb dX4_waveAt_92 (by decide) (fun hc25 => ?_) (fun hc25 => ?_)
        · have hf := gx_pos hc25 hf
          refine lv_iload hx hb dX4_waveAt_102 (lv_at hl 3 rfl) ?_
          refine lv_iload_n hx hb dX4_waveAt_104 rfl (lv_at hl 4 rfl) ?_
          refine lv_isub hx hb dX4_waveAt_105 ?_
          obtain rfl := Option.some.inj hf
          exact gx_iretR C hr hlocks dX4_waveAt_106
        · have hf := gx_neg hc25 hf
          refine lv_iload hx hb dX4_waveAt_95 (lv_at hl 3 rfl) ?_
          refine lv_iload_n hx hb dX4_waveAt_97 rfl (lv_at hl 4 rfl) ?_
          refine lv_iadd hx hb dX4_waveAt_98 ?_
          refine lv_goto (tgt := 106) hx hb dX4_waveAt_99 (by decide) ?_
          obtain rfl := Option.some.inj hf
          exact gx_iretR C hr hlocks dX4_waveAt_106
      · have hf := gx_neg hc24 hf
        by_cases hc26 : (σ (3) a1.toNatClampNeg) = (2 : Int32)
        · have hf := gx_pos hc26 hf
          refine lv_tableIn (tgt := 107) hx hb dX4_waveAt_59 (by rw [hc26]; decide) (by rw [hc26]; decide) (by rw [hc26]; rfl) (by decide) ?_
          refine lv_iconst (v := (2 : Int32)) hx hb dX4_waveAt_107 (by decide) ?_
          refine lv_iload hx hb dX4_waveAt_108 (lv_at hl 0 rfl) ?_
          refine lv_imul hx hb dX4_waveAt_110 ?_
          refine lv_iload hx hb dX4_waveAt_111 (lv_at hl 2 rfl) ?_
          refine lv_icmp_ge (tgt := 134) hx hb dX4_waveAt_113 (by decide) (fun hc27 => ?_) (fun hc27 => ?_)
          · have hf := gx_pos hc27 hf
            refine lv_iload hx hb dX4_waveAt_134 (lv_at hl 3 rfl) ?_
            refine lv_iload_n hx hb dX4_waveAt_136 rfl (lv_at hl 4 rfl) ?_
            refine lv_iconst (v := (3 : Int32)) hx hb dX4_waveAt_137 (by decide) ?_
            refine lv_iload hx hb dX4_waveAt_138 (lv_at hl 2 rfl) ?_
            refine lv_imul hx hb dX4_waveAt_140 ?_
            refine lv_iconst (v := (4 : Int32)) hx hb dX4_waveAt_141 (by decide) ?_
            refine lv_iload hx hb dX4_waveAt_142 (lv_at hl 0 rfl) ?_
            refine lv_imul hx hb dX4_waveAt_144 ?_
            refine lv_isub hx hb dX4_waveAt_145 ?_
            refine lv_imul hx hb dX4_waveAt_146 ?_
            refine lv_iload hx hb dX4_waveAt_147 (lv_at hl 2 rfl) ?_
            obtain ⟨hz28, hf⟩ := gx_chk hf
            refine lv_idiv hx hb dX4_waveAt_149 hz28 ?_
            refine lv_iadd hx hb dX4_waveAt_150 ?_
            obtain rfl := Option.some.inj hf
            exact gx_iretR C hr hlocks dX4_waveAt_151
          · have hf := gx_neg hc27 hf
            refine lv_iload hx hb dX4_waveAt_116 (lv_at hl 3 rfl) ?_
            refine lv_iload_n hx hb dX4_waveAt_118 rfl (lv_at hl 4 rfl) ?_
            refine lv_iconst (v := (4 : Int32)) hx hb dX4_waveAt_119 (by decide) ?_
            refine lv_iload hx hb dX4_waveAt_120 (lv_at hl 0 rfl) ?_
            refine lv_imul hx hb dX4_waveAt_122 ?_
            refine lv_iload hx hb dX4_waveAt_123 (lv_at hl 2 rfl) ?_
            refine lv_isub hx hb dX4_waveAt_125 ?_
            refine lv_imul hx hb dX4_waveAt_126 ?_
            refine lv_iload hx hb dX4_waveAt_127 (lv_at hl 2 rfl) ?_
            obtain ⟨hz29, hf⟩ := gx_chk hf
            refine lv_idiv hx hb dX4_waveAt_129 hz29 ?_
            refine lv_iadd hx hb dX4_waveAt_130 ?_
            refine lv_goto (tgt := 151) hx hb dX4_waveAt_131 (by decide) ?_
            obtain rfl := Option.some.inj hf
            exact gx_iretR C hr hlocks dX4_waveAt_151
        · have hf := gx_neg hc26 hf
          refine lv_tableOut (tgt := 152) hx hb dX4_waveAt_59 (by have q0 := lv_neT hc23 (a := 0) rfl; have q1 := lv_neT hc24 (a := 1) rfl; have q2 := lv_neT hc26 (a := 2) rfl; omega) (by decide) ?_
          refine lv_iload hx hb dX4_waveAt_152 (lv_at hl 1 rfl) ?_
          refine lv_bipush (v := (-9 : Int32)) hx hb dX4_waveAt_154 (by decide) ?_
          refine lv_icmp_ne (tgt := 163) hx hb dX4_waveAt_156 (by decide) (fun hc30 => ?_) (fun hc30 => ?_)
          · have hf := gx_neg hc30 hf
            refine lv_iload_n hx hb dX4_waveAt_163 rfl (lv_at hl 4 rfl) ?_
            refine lv_iload hx hb dX4_waveAt_164 (lv_at hl 3 rfl) ?_
            refine lv_iload_n hx hb dX4_waveAt_166 rfl (lv_at hl 4 rfl) ?_
            refine lv_isub hx hb dX4_waveAt_167 ?_
            refine lv_iload_n hx hb dX4_waveAt_168 rfl (lv_at hl 7 rfl) ?_
            refine lv_imul hx hb dX4_waveAt_169 ?_
            refine lv_iload hx hb dX4_waveAt_170 (lv_at hl 1 rfl) ?_
            obtain ⟨hz31, hf⟩ := gx_chk hf
            refine lv_idiv hx hb dX4_waveAt_172 hz31 ?_
            refine lv_iadd hx hb dX4_waveAt_173 ?_
            obtain rfl := Option.some.inj hf
            exact gx_iretR C hr hlocks dX4_waveAt_174
          · have hf := gx_pos hc30 hf
            refine lv_iload_n hx hb dX4_waveAt_159 rfl (lv_at hl 4 rfl) ?_
            refine lv_goto (tgt := 174) hx hb dX4_waveAt_160 (by decide) ?_
            obtain rfl := Option.some.inj hf
            exact gx_iretR C hr hlocks dX4_waveAt_174
abbrev rm_X4_beyond : Room := { frames := 1, cells := 0, slots := 0, locals := 20 }
def f_X4_beyond (a0 a1 : Int32) : Option Int32 :=
  (f_X4_size a0).bind fun r1 =>
  if a1 < r1 then (if 0 ≤ a0 then (some (a0 - a1)) else (some (a0 + a1))) else (some (0 : Int32))
set_option maxHeartbeats 4000000 in
set_option maxRecDepth 100000 in
theorem t_X4_beyond (l : Launch) (G : gx_G) (σ : gx_St) (a0 a1 : Int32) (r : Int32)  (hf : f_X4_beyond a0 a1 = some r) : Met l yX4_beyond (Cond.code yX4_beyond cX4_beyond 2 (some .int) :: wT) rm_X4_beyond (va_Pc [.int a0, .int a1] (gx_S G 13 (gm_mk G) σ)) (gx_QR (some (.int r))) 0 0 (fun _ => False) := by
  refine Met.ofW (cc := cX4_beyond) (maxL := 2) (ret := (some .int)) (by decide) rfl ?_
  intro p e s m args below meth c s₁ B hml hv
  obtain ⟨rfl, hH, hE⟩ := hv
  have C := gx_C.of (G := G) B hml hE
  have hx := C.1.1
  have hb := C.1.2.1
  have hr := B.returns
  have hlocks := B.notSynchronized
  have hS : va_S (gx_A G) s.heap s.heap [] := va_S.rf
  have hl := lv_entry ([.int a0, .int a1]) (n := 2) (Nat.le_of_ble_eq_true rfl)
  rw [lg_entry_eq]
  generalize (lg_sl ([.int a0, .int a1]) ++ List.replicate (2 - (lg_sl ([.int a0, .int a1])).length) Slot.unset).toArray = ls at hl ⊢
  have hl : lv_has ls 2 [(0, .int a0), (1, .int a1)] := hl
  unfold f_X4_beyond at hf
  refine lv_iload_n hx hb dX4_beyond_0 rfl (lv_at hl 0 rfl) ?_
  obtain ⟨r1, hr1, hf⟩ := gx_bnd hf
  refine gx_sR (v := (some (.int r1))) (rest := []) C hH hS [.int a0] (t_X4_size l G σ a0 r1  hr1) lk_X4_155 ⟨rfl, rfl, Nat.le_of_ble_eq_true rfl, Nat.le_of_ble_eq_true rfl⟩ ⟨Nat.zero_le _, Nat.zero_le _⟩ hl.1 rfl (Nat.le_of_ble_eq_true rfl) dX4_beyond_1 ?_
  refine gx_e0 (st := [.int r1]) ?_ rfl
  refine lv_iload_n hx hb dX4_beyond_4 rfl (lv_at hl 1 rfl) ?_
  refine lv_icmp_gt (tgt := 12) hx hb dX4_beyond_5 (by decide) (fun hc2 => ?_) (fun hc2 => ?_)
  · have hf := gx_pos hc2 hf
    refine lv_iload_n hx hb dX4_beyond_12 rfl (lv_at hl 0 rfl) ?_
    refine lv_if_ge (tgt := 22) hx hb dX4_beyond_13 (by decide) (fun hc3 => ?_) (fun hc3 => ?_)
    · have hf := gx_pos hc3 hf
      refine lv_iload_n hx hb dX4_beyond_22 rfl (lv_at hl 0 rfl) ?_
      refine lv_iload_n hx hb dX4_beyond_23 rfl (lv_at hl 1 rfl) ?_
      refine lv_isub hx hb dX4_beyond_24 ?_
      obtain rfl := Option.some.inj hf
      exact gx_iretR C hr hlocks dX4_beyond_25
    · have hf := gx_neg hc3 hf
      refine lv_iload_n hx hb dX4_beyond_16 rfl (lv_at hl 0 rfl) ?_
      refine lv_iload_n hx hb dX4_beyond_17 rfl (lv_at hl 1 rfl) ?_
      refine lv_iadd hx hb dX4_beyond_18 ?_
      refine lv_goto (tgt := 25) hx hb dX4_beyond_19 (by decide) ?_
      obtain rfl := Option.some.inj hf
      exact gx_iretR C hr hlocks dX4_beyond_25
  · have hf := gx_neg hc2 hf
    refine lv_iconst (v := (0 : Int32)) hx hb dX4_beyond_8 (by decide) ?_
    refine lv_goto (tgt := 25) hx hb dX4_beyond_9 (by decide) ?_
    obtain rfl := Option.some.inj hf
    exact gx_iretR C hr hlocks dX4_beyond_25
abbrev rm_X4_byHand : Room := { frames := 2, cells := 0, slots := 0, locals := 41 }
def f_X4_byHand (σ : gx_St) (a1 a2 : Int32) : Option Int32 :=
  if (a1 < 0 ∨ 12 ≤ a1.toNatClampNeg) then none else
  gx_lt (σ (4) a1.toNatClampNeg) fun x2 =>
  if (a2 < 0 ∨ 2 ≤ a2.toNatClampNeg) then none else
  if (a1 < 0 ∨ 12 ≤ a1.toNatClampNeg) then none else
  gx_lt ((σ (1) a2.toNatClampNeg) - (σ (5) a1.toNatClampNeg)) fun x5 =>
  if (a1 < 0 ∨ 12 ≤ a1.toNatClampNeg) then none else
  if (σ (3) a1.toNatClampNeg) = (4 : Int32) then (if (a1 < 0 ∨ 12 ≤ a1.toNatClampNeg) then none else
  (f_X4_beyond x5 (σ (6) a1.toNatClampNeg)).bind fun r28 =>
  if (a1 < 0 ∨ 12 ≤ a1.toNatClampNeg) then none else
  (f_X4_held (((-x2) * r28) / (100 : Int32)) (σ (7) a1.toNatClampNeg)).bind fun r30 =>
  some r30) else (if (a1 < 0 ∨ 12 ≤ a1.toNatClampNeg) then none else
  if (σ (3) a1.toNatClampNeg) = (5 : Int32) then (if (a2 < 0 ∨ 2 ≤ a2.toNatClampNeg) then none else
  if (a1 < 0 ∨ 12 ≤ a1.toNatClampNeg) then none else
  (f_X4_beyond (σ (2) a2.toNatClampNeg) (σ (6) a1.toNatClampNeg)).bind fun r24 =>
  if (a1 < 0 ∨ 12 ≤ a1.toNatClampNeg) then none else
  (f_X4_held (((-x2) * r24) / (1000 : Int32)) (σ (7) a1.toNatClampNeg)).bind fun r26 =>
  some r26) else (if (a1 < 0 ∨ 12 ≤ a1.toNatClampNeg) then none else
  if (σ (6) a1.toNatClampNeg) = 0 then (if x5 ≤ 0 then (some (0 : Int32)) else (if (a1 < 0 ∨ 12 ≤ a1.toNatClampNeg) then none else
  (f_X4_held (((-x2) * x5) / (100 : Int32)) (σ (7) a1.toNatClampNeg)).bind fun r21 =>
  some r21)) else (if 0 ≤ x5 then (some (0 : Int32)) else (if (a1 < 0 ∨ 12 ≤ a1.toNatClampNeg) then none else
  (f_X4_held (((-x2) * x5) / (100 : Int32)) (σ (7) a1.toNatClampNeg)).bind fun r16 =>
  some r16))))
set_option maxHeartbeats 4000000 in
set_option maxRecDepth 100000 in
theorem t_X4_byHand (l : Launch) (G : gx_G) (σ : gx_St) (a1 a2 : Int32) (r : Int32)  (hf : f_X4_byHand σ a1 a2 = some r) : Met l yX4_byHand (Cond.code yX4_byHand cX4_byHand 6 (some .int) :: wT) rm_X4_byHand (va_Pc [.ref (gx_q G 0), .int a1, .int a2] (gx_S G 13 (gm_mk G) σ)) (gx_QR (some (.int r))) 0 0 (fun _ => False) := by
  refine Met.ofW (cc := cX4_byHand) (maxL := 6) (ret := (some .int)) (by decide) rfl ?_
  intro p e s m args below meth c s₁ B hml hv
  obtain ⟨rfl, hH, hE⟩ := hv
  have C := gx_C.of (G := G) B hml hE
  have hx := C.1.1
  have hb := C.1.2.1
  have hr := B.returns
  have hlocks := B.notSynchronized
  have hS : va_S (gx_A G) s.heap s.heap [] := va_S.rf
  have hl := lv_entry ([.ref (gx_q G 0), .int a1, .int a2]) (n := 6) (Nat.le_of_ble_eq_true rfl)
  rw [lg_entry_eq]
  generalize (lg_sl ([.ref (gx_q G 0), .int a1, .int a2]) ++ List.replicate (6 - (lg_sl ([.ref (gx_q G 0), .int a1, .int a2])).length) Slot.unset).toArray = ls at hl ⊢
  have hl : lv_has ls 6 [(0, .ref (gx_q G 0)), (1, .int a1), (2, .int a2)] := hl
  unfold f_X4_byHand at hf
  refine lv_aload_n hx hb dX4_byHand_0 rfl (lv_at hl 0 rfl) ?_
  refine gx_get C hH 0 (by decide) rfl fl_X4_19 rfl dX4_byHand_1 ?_
  refine lv_iload_n hx hb dX4_byHand_4 rfl (lv_at hl 1 rfl) ?_
  obtain ⟨hb1, hf⟩ := gx_chk hf
  refine gx_iald C hH (4) (by decide) rfl hb1 dX4_byHand_5 ?_
  refine lv_topi (fun x2 hx2 => ?_)
  have hf := gx_let hf x2 hx2
  refine lv_istore_n (lv' := [(3, .int x2), (0, .ref (gx_q G 0)), (1, .int a1), (2, .int a2)]) hx hb dX4_byHand_6 rfl hl (by decide) rfl (fun ls hl => ?_)
  refine lv_aload_n hx hb dX4_byHand_7 rfl (lv_at hl 1 rfl) ?_
  refine gx_get C hH 0 (by decide) rfl fl_X4_7 rfl dX4_byHand_8 ?_
  refine lv_iload_n hx hb dX4_byHand_11 rfl (lv_at hl 3 rfl) ?_
  obtain ⟨hb3, hf⟩ := gx_chk hf
  refine gx_iald C hH (1) (by decide) rfl hb3 dX4_byHand_12 ?_
  refine lv_aload_n hx hb dX4_byHand_13 rfl (lv_at hl 1 rfl) ?_
  refine gx_get C hH 0 (by decide) rfl fl_X4_22 rfl dX4_byHand_14 ?_
  refine lv_iload_n hx hb dX4_byHand_17 rfl (lv_at hl 2 rfl) ?_
  obtain ⟨hb4, hf⟩ := gx_chk hf
  refine gx_iald C hH (5) (by decide) rfl hb4 dX4_byHand_18 ?_
  refine lv_isub hx hb dX4_byHand_19 ?_
  refine lv_topi (fun x5 hx5 => ?_)
  have hf := gx_let hf x5 hx5
  refine lv_istore (lv' := [(4, .int x5), (3, .int x2), (0, .ref (gx_q G 0)), (1, .int a1), (2, .int a2)]) hx hb dX4_byHand_20 hl (by decide) rfl (fun ls hl => ?_)
  refine lv_aload_n hx hb dX4_byHand_22 rfl (lv_at hl 2 rfl) ?_
  refine gx_get C hH 0 (by decide) rfl fl_X4_16 rfl dX4_byHand_23 ?_
  refine lv_iload_n hx hb dX4_byHand_26 rfl (lv_at hl 3 rfl) ?_
  obtain ⟨hb6, hf⟩ := gx_chk hf
  refine gx_iald C hH (3) (by decide) rfl hb6 dX4_byHand_27 ?_
  refine lv_iconst (v := (4 : Int32)) hx hb dX4_byHand_28 (by decide) ?_
  refine lv_icmp_ne (tgt := 59) hx hb dX4_byHand_29 (by decide) (fun hc7 => ?_) (fun hc7 => ?_)
  · have hf := gx_neg hc7 hf
    refine lv_aload_n hx hb dX4_byHand_59 rfl (lv_at hl 2 rfl) ?_
    refine gx_get C hH 0 (by decide) rfl fl_X4_16 rfl dX4_byHand_60 ?_
    refine lv_iload_n hx hb dX4_byHand_63 rfl (lv_at hl 3 rfl) ?_
    obtain ⟨hb8, hf⟩ := gx_chk hf
    refine gx_iald C hH (3) (by decide) rfl hb8 dX4_byHand_64 ?_
    refine lv_iconst (v := (5 : Int32)) hx hb dX4_byHand_65 (by decide) ?_
    refine lv_icmp_ne (tgt := 101) hx hb dX4_byHand_66 (by decide) (fun hc9 => ?_) (fun hc9 => ?_)
    · have hf := gx_neg hc9 hf
      refine lv_aload_n hx hb dX4_byHand_101 rfl (lv_at hl 2 rfl) ?_
      refine gx_get C hH 0 (by decide) rfl fl_X4_25 rfl dX4_byHand_102 ?_
      refine lv_iload_n hx hb dX4_byHand_105 rfl (lv_at hl 3 rfl) ?_
      obtain ⟨hb10, hf⟩ := gx_chk hf
      refine gx_iald C hH (6) (by decide) rfl hb10 dX4_byHand_106 ?_
      refine lv_if_ne (tgt := 123) hx hb dX4_byHand_107 (by decide) (fun hc11 => ?_) (fun hc11 => ?_)
      · have hf := gx_neg hc11 hf
        refine lv_iload hx hb dX4_byHand_123 (lv_at hl 0 rfl) ?_
        refine lv_if_ge (tgt := 132) hx hb dX4_byHand_125 (by decide) (fun hc12 => ?_) (fun hc12 => ?_)
        · have hf := gx_pos hc12 hf
          refine lv_iconst (v := (0 : Int32)) hx hb dX4_byHand_132 (by decide) ?_
          refine lv_istore (lv' := [(5, .int (0 : Int32)), (4, .int x5), (3, .int x2), (0, .ref (gx_q G 0)), (1, .int a1), (2, .int a2)]) hx hb dX4_byHand_133 hl (by decide) rfl (fun ls hl => ?_)
          refine lv_iload hx hb dX4_byHand_135 (lv_at hl 0 rfl) ?_
          refine lv_if_eq (tgt := 160) hx hb dX4_byHand_137 (by decide) (fun hc13 => ?_) (fun hc13 => absurd hc13 (by decide))
          refine lv_iconst (v := (0 : Int32)) hx hb dX4_byHand_160 (by decide) ?_
          obtain rfl := Option.some.inj hf
          exact gx_iretR C hr hlocks dX4_byHand_161
        · have hf := gx_neg hc12 hf
          refine lv_iconst (v := (1 : Int32)) hx hb dX4_byHand_128 (by decide) ?_
          refine lv_goto (tgt := 133) hx hb dX4_byHand_129 (by decide) ?_
          refine lv_istore (lv' := [(5, .int (1 : Int32)), (4, .int x5), (3, .int x2), (0, .ref (gx_q G 0)), (1, .int a1), (2, .int a2)]) hx hb dX4_byHand_133 hl (by decide) rfl (fun ls hl => ?_)
          refine lv_iload hx hb dX4_byHand_135 (lv_at hl 0 rfl) ?_
          refine lv_if_eq (tgt := 160) hx hb dX4_byHand_137 (by decide) (fun hc14 => absurd hc14 (by decide)) (fun hc14 => ?_)
          refine lv_iload_n hx hb dX4_byHand_140 rfl (lv_at hl 2 rfl) ?_
          refine lv_ineg hx hb dX4_byHand_141 ?_
          refine lv_iload hx hb dX4_byHand_142 (lv_at hl 1 rfl) ?_
          refine lv_imul hx hb dX4_byHand_144 ?_
          refine lv_bipush (v := (100 : Int32)) hx hb dX4_byHand_145 (by decide) ?_
          refine lv_idiv hx hb dX4_byHand_147 (by decide) ?_
          refine lv_aload_n hx hb dX4_byHand_148 rfl (lv_at hl 3 rfl) ?_
          refine gx_get C hH 0 (by decide) rfl fl_X4_28 rfl dX4_byHand_149 ?_
          refine lv_iload_n hx hb dX4_byHand_152 rfl (lv_at hl 4 rfl) ?_
          obtain ⟨hb15, hf⟩ := gx_chk hf
          refine gx_iald C hH (7) (by decide) rfl hb15 dX4_byHand_153 ?_
          obtain ⟨r16, hr16, hf⟩ := gx_bnd hf
          refine gx_sR (v := (some (.int r16))) (rest := []) C hH hS [.int (((-x2) * x5) / (100 : Int32)), .int (σ (7) a1.toNatClampNeg)] (t_X4_held l G σ (((-x2) * x5) / (100 : Int32)) (σ (7) a1.toNatClampNeg) r16  hr16) lk_X4_161 ⟨rfl, rfl, Nat.le_of_ble_eq_true rfl, Nat.le_of_ble_eq_true rfl⟩ ⟨Nat.zero_le _, Nat.zero_le _⟩ hl.1 rfl (Nat.le_of_ble_eq_true rfl) dX4_byHand_154 ?_
          refine gx_e0 (st := [.int r16]) ?_ rfl
          refine lv_goto (tgt := 161) hx hb dX4_byHand_157 (by decide) ?_
          obtain rfl := Option.some.inj hf
          exact gx_iretR C hr hlocks dX4_byHand_161
      · have hf := gx_pos hc11 hf
        refine lv_iload hx hb dX4_byHand_110 (lv_at hl 0 rfl) ?_
        refine lv_if_le (tgt := 119) hx hb dX4_byHand_112 (by decide) (fun hc17 => ?_) (fun hc17 => ?_)
        · have hf := gx_pos hc17 hf
          refine lv_iconst (v := (0 : Int32)) hx hb dX4_byHand_119 (by decide) ?_
          refine lv_goto (tgt := 133) hx hb dX4_byHand_120 (by decide) ?_
          refine lv_istore (lv' := [(5, .int (0 : Int32)), (4, .int x5), (3, .int x2), (0, .ref (gx_q G 0)), (1, .int a1), (2, .int a2)]) hx hb dX4_byHand_133 hl (by decide) rfl (fun ls hl => ?_)
          refine lv_iload hx hb dX4_byHand_135 (lv_at hl 0 rfl) ?_
          refine lv_if_eq (tgt := 160) hx hb dX4_byHand_137 (by decide) (fun hc18 => ?_) (fun hc18 => absurd hc18 (by decide))
          refine lv_iconst (v := (0 : Int32)) hx hb dX4_byHand_160 (by decide) ?_
          obtain rfl := Option.some.inj hf
          exact gx_iretR C hr hlocks dX4_byHand_161
        · have hf := gx_neg hc17 hf
          refine lv_iconst (v := (1 : Int32)) hx hb dX4_byHand_115 (by decide) ?_
          refine lv_goto (tgt := 133) hx hb dX4_byHand_116 (by decide) ?_
          refine lv_istore (lv' := [(5, .int (1 : Int32)), (4, .int x5), (3, .int x2), (0, .ref (gx_q G 0)), (1, .int a1), (2, .int a2)]) hx hb dX4_byHand_133 hl (by decide) rfl (fun ls hl => ?_)
          refine lv_iload hx hb dX4_byHand_135 (lv_at hl 0 rfl) ?_
          refine lv_if_eq (tgt := 160) hx hb dX4_byHand_137 (by decide) (fun hc19 => absurd hc19 (by decide)) (fun hc19 => ?_)
          refine lv_iload_n hx hb dX4_byHand_140 rfl (lv_at hl 2 rfl) ?_
          refine lv_ineg hx hb dX4_byHand_141 ?_
          refine lv_iload hx hb dX4_byHand_142 (lv_at hl 1 rfl) ?_
          refine lv_imul hx hb dX4_byHand_144 ?_
          refine lv_bipush (v := (100 : Int32)) hx hb dX4_byHand_145 (by decide) ?_
          refine lv_idiv hx hb dX4_byHand_147 (by decide) ?_
          refine lv_aload_n hx hb dX4_byHand_148 rfl (lv_at hl 3 rfl) ?_
          refine gx_get C hH 0 (by decide) rfl fl_X4_28 rfl dX4_byHand_149 ?_
          refine lv_iload_n hx hb dX4_byHand_152 rfl (lv_at hl 4 rfl) ?_
          obtain ⟨hb20, hf⟩ := gx_chk hf
          refine gx_iald C hH (7) (by decide) rfl hb20 dX4_byHand_153 ?_
          obtain ⟨r21, hr21, hf⟩ := gx_bnd hf
          refine gx_sR (v := (some (.int r21))) (rest := []) C hH hS [.int (((-x2) * x5) / (100 : Int32)), .int (σ (7) a1.toNatClampNeg)] (t_X4_held l G σ (((-x2) * x5) / (100 : Int32)) (σ (7) a1.toNatClampNeg) r21  hr21) lk_X4_161 ⟨rfl, rfl, Nat.le_of_ble_eq_true rfl, Nat.le_of_ble_eq_true rfl⟩ ⟨Nat.zero_le _, Nat.zero_le _⟩ hl.1 rfl (Nat.le_of_ble_eq_true rfl) dX4_byHand_154 ?_
          refine gx_e0 (st := [.int r21]) ?_ rfl
          refine lv_goto (tgt := 161) hx hb dX4_byHand_157 (by decide) ?_
          obtain rfl := Option.some.inj hf
          exact gx_iretR C hr hlocks dX4_byHand_161
    · have hf := gx_pos hc9 hf
      refine lv_iload_n hx hb dX4_byHand_69 rfl (lv_at hl 1 rfl) ?_
      refine lv_ineg hx hb dX4_byHand_70 ?_
      refine lv_aload_n hx hb dX4_byHand_71 rfl (lv_at hl 2 rfl) ?_
      refine gx_get C hH 0 (by decide) rfl fl_X4_13 rfl dX4_byHand_72 ?_
      refine lv_iload_n hx hb dX4_byHand_75 rfl (lv_at hl 4 rfl) ?_
      obtain ⟨hb22, hf⟩ := gx_chk hf
      refine gx_iald C hH (2) (by decide) rfl hb22 dX4_byHand_76 ?_
      refine lv_aload_n hx hb dX4_byHand_77 rfl (lv_at hl 2 rfl) ?_
      refine gx_get C hH 0 (by decide) rfl fl_X4_25 rfl dX4_byHand_78 ?_
      refine lv_iload_n hx hb dX4_byHand_81 rfl (lv_at hl 3 rfl) ?_
      obtain ⟨hb23, hf⟩ := gx_chk hf
      refine gx_iald C hH (6) (by decide) rfl hb23 dX4_byHand_82 ?_
      obtain ⟨r24, hr24, hf⟩ := gx_bnd hf
      refine gx_sR (v := (some (.int r24))) (rest := [.int (-x2)]) C hH hS [.int (σ (2) a2.toNatClampNeg), .int (σ (6) a1.toNatClampNeg)] (t_X4_beyond l G σ (σ (2) a2.toNatClampNeg) (σ (6) a1.toNatClampNeg) r24  hr24) lk_X4_158 ⟨rfl, rfl, Nat.le_of_ble_eq_true rfl, Nat.le_of_ble_eq_true rfl⟩ ⟨Nat.zero_le _, Nat.zero_le _⟩ hl.1 rfl (Nat.le_of_ble_eq_true rfl) dX4_byHand_83 ?_
      refine gx_e0 (st := [.int r24, .int (-x2)]) ?_ rfl
      refine lv_imul hx hb dX4_byHand_86 ?_
      refine lv_sipush (v := (1000 : Int32)) hx hb dX4_byHand_87 (by decide) ?_
      refine lv_idiv hx hb dX4_byHand_90 (by decide) ?_
      refine lv_aload_n hx hb dX4_byHand_91 rfl (lv_at hl 2 rfl) ?_
      refine gx_get C hH 0 (by decide) rfl fl_X4_28 rfl dX4_byHand_92 ?_
      refine lv_iload_n hx hb dX4_byHand_95 rfl (lv_at hl 3 rfl) ?_
      obtain ⟨hb25, hf⟩ := gx_chk hf
      refine gx_iald C hH (7) (by decide) rfl hb25 dX4_byHand_96 ?_
      obtain ⟨r26, hr26, hf⟩ := gx_bnd hf
      refine gx_sR (v := (some (.int r26))) (rest := []) C hH hS [.int (((-x2) * r24) / (1000 : Int32)), .int (σ (7) a1.toNatClampNeg)] (t_X4_held l G σ (((-x2) * r24) / (1000 : Int32)) (σ (7) a1.toNatClampNeg) r26  hr26) lk_X4_161 ⟨rfl, rfl, Nat.le_of_ble_eq_true rfl, Nat.le_of_ble_eq_true rfl⟩ ⟨Nat.zero_le _, Nat.zero_le _⟩ hl.1 rfl (Nat.le_of_ble_eq_true rfl) dX4_byHand_97 ?_
      refine gx_e0 (st := [.int r26]) ?_ rfl
      obtain rfl := Option.some.inj hf
      exact gx_iretR C hr hlocks dX4_byHand_100
  · have hf := gx_pos hc7 hf
    refine lv_iload_n hx hb dX4_byHand_32 rfl (lv_at hl 1 rfl) ?_
    refine lv_ineg hx hb dX4_byHand_33 ?_
    refine lv_iload hx hb dX4_byHand_34 (lv_at hl 0 rfl) ?_
    refine lv_aload_n hx hb dX4_byHand_36 rfl (lv_at hl 2 rfl) ?_
    refine gx_get C hH 0 (by decide) rfl fl_X4_25 rfl dX4_byHand_37 ?_
    refine lv_iload_n hx hb dX4_byHand_40 rfl (lv_at hl 3 rfl) ?_
    obtain ⟨hb27, hf⟩ := gx_chk hf
    refine gx_iald C hH (6) (by decide) rfl hb27 dX4_byHand_41 ?_
    obtain ⟨r28, hr28, hf⟩ := gx_bnd hf
    refine gx_sR (v := (some (.int r28))) (rest := [.int (-x2)]) C hH hS [.int x5, .int (σ (6) a1.toNatClampNeg)] (t_X4_beyond l G σ x5 (σ (6) a1.toNatClampNeg) r28  hr28) lk_X4_158 ⟨rfl, rfl, Nat.le_of_ble_eq_true rfl, Nat.le_of_ble_eq_true rfl⟩ ⟨Nat.zero_le _, Nat.zero_le _⟩ hl.1 rfl (Nat.le_of_ble_eq_true rfl) dX4_byHand_42 ?_
    refine gx_e0 (st := [.int r28, .int (-x2)]) ?_ rfl
    refine lv_imul hx hb dX4_byHand_45 ?_
    refine lv_bipush (v := (100 : Int32)) hx hb dX4_byHand_46 (by decide) ?_
    refine lv_idiv hx hb dX4_byHand_48 (by decide) ?_
    refine lv_aload_n hx hb dX4_byHand_49 rfl (lv_at hl 2 rfl) ?_
    refine gx_get C hH 0 (by decide) rfl fl_X4_28 rfl dX4_byHand_50 ?_
    refine lv_iload_n hx hb dX4_byHand_53 rfl (lv_at hl 3 rfl) ?_
    obtain ⟨hb29, hf⟩ := gx_chk hf
    refine gx_iald C hH (7) (by decide) rfl hb29 dX4_byHand_54 ?_
    obtain ⟨r30, hr30, hf⟩ := gx_bnd hf
    refine gx_sR (v := (some (.int r30))) (rest := []) C hH hS [.int (((-x2) * r28) / (100 : Int32)), .int (σ (7) a1.toNatClampNeg)] (t_X4_held l G σ (((-x2) * r28) / (100 : Int32)) (σ (7) a1.toNatClampNeg) r30  hr30) lk_X4_161 ⟨rfl, rfl, Nat.le_of_ble_eq_true rfl, Nat.le_of_ble_eq_true rfl⟩ ⟨Nat.zero_le _, Nat.zero_le _⟩ hl.1 rfl (Nat.le_of_ble_eq_true rfl) dX4_byHand_55 ?_
    refine gx_e0 (st := [.int r30]) ?_ rfl
    obtain rfl := Option.some.inj hf
    exact gx_iretR C hr hlocks dX4_byHand_58
abbrev rm_X4_partAt : Room := { frames := 3, cells := 0, slots := 0, locals := 69 }
def f_X4_partAt (σ : gx_St) (a1 a2 a3 a4 : Int32) : Option Int32 :=
  (f_X4_isOn σ a1 a3 a4).bind fun r1 =>
  if r1 = 0 then (some (0 : Int32)) else ((f_X4_numberOf σ a1 (1 : Int32)).bind fun r3 =>
  gx_lt ((a4 - a3) - r3) fun x4 =>
  if (a1 < 0 ∨ 12 ≤ a1.toNatClampNeg) then none else
  if (4 : Int32) ≤ (σ (3) a1.toNatClampNeg) then ((f_X4_byHand σ a1 a2).bind fun r7 =>
  (f_X4_numberOf σ a1 (8 : Int32)).bind fun r8 =>
  if a2 = 0 then ((f_X4_numberOf σ a1 (6 : Int32)).bind fun r11 =>
  some ((((r7 * r8) / (100 : Int32)) * r11) / (100 : Int32))) else ((f_X4_numberOf σ a1 (7 : Int32)).bind fun r10 =>
  some ((((r7 * r8) / (100 : Int32)) * r10) / (100 : Int32)))) else ((f_X4_waveAt σ a1 x4).bind fun r12 =>
  (f_X4_envelopeAt σ a1 x4).bind fun r13 =>
  gx_lt ((r12 * r13) / (100 : Int32)) fun x14 =>
  (f_X4_numberOf σ a1 (8 : Int32)).bind fun r15 =>
  if a2 = 0 then ((f_X4_numberOf σ a1 (6 : Int32)).bind fun r18 =>
  some ((((x14 * r15) / (100 : Int32)) * r18) / (100 : Int32))) else ((f_X4_numberOf σ a1 (7 : Int32)).bind fun r17 =>
  some ((((x14 * r15) / (100 : Int32)) * r17) / (100 : Int32)))))
set_option maxHeartbeats 4000000 in
set_option maxRecDepth 100000 in
theorem t_X4_partAt (l : Launch) (G : gx_G) (σ : gx_St) (a1 a2 a3 a4 : Int32) (r : Int32)  (hf : f_X4_partAt σ a1 a2 a3 a4 = some r) : Met l yX4_partAt (Cond.code yX4_partAt cX4_partAt 7 (some .int) :: wT) rm_X4_partAt (va_Pc [.ref (gx_q G 0), .int a1, .int a2, .int a3, .int a4] (gx_S G 13 (gm_mk G) σ)) (gx_QR (some (.int r))) 0 0 (fun _ => False) := by
  refine Met.ofW (cc := cX4_partAt) (maxL := 7) (ret := (some .int)) (by decide) rfl ?_
  intro p e s m args below meth c s₁ B hml hv
  obtain ⟨rfl, hH, hE⟩ := hv
  have C := gx_C.of (G := G) B hml hE
  have hx := C.1.1
  have hb := C.1.2.1
  have hr := B.returns
  have hlocks := B.notSynchronized
  have hS : va_S (gx_A G) s.heap s.heap [] := va_S.rf
  have hl := lv_entry ([.ref (gx_q G 0), .int a1, .int a2, .int a3, .int a4]) (n := 7) (Nat.le_of_ble_eq_true rfl)
  rw [lg_entry_eq]
  generalize (lg_sl ([.ref (gx_q G 0), .int a1, .int a2, .int a3, .int a4]) ++ List.replicate (7 - (lg_sl ([.ref (gx_q G 0), .int a1, .int a2, .int a3, .int a4])).length) Slot.unset).toArray = ls at hl ⊢
  have hl : lv_has ls 7 [(0, .ref (gx_q G 0)), (1, .int a1), (2, .int a2), (3, .int a3), (4, .int a4)] := hl
  unfold f_X4_partAt at hf
  refine lv_aload_n hx hb dX4_partAt_0 rfl (lv_at hl 0 rfl) ?_
  refine lv_iload_n hx hb dX4_partAt_1 rfl (lv_at hl 1 rfl) ?_
  refine lv_iload_n hx hb dX4_partAt_2 rfl (lv_at hl 3 rfl) ?_
  refine lv_iload hx hb dX4_partAt_3 (lv_at hl 4 rfl) ?_
  obtain ⟨r1, hr1, hf⟩ := gx_bnd hf
  refine gx_vR (v := (some (.int r1))) (rest := []) C hH hS 0 (by decide) rfl rfl [.int a1, .int a3, .int a4] (t_X4_isOn l G σ a1 a3 a4 r1  hr1) lk_X4_111 ⟨rfl, rfl, Nat.le_of_ble_eq_true rfl, Nat.le_of_ble_eq_true rfl⟩ ⟨Nat.zero_le _, Nat.zero_le _⟩ hl.1 rfl (Nat.le_of_ble_eq_true rfl) dX4_partAt_5 ?_
  refine gx_e0 (st := [.int r1]) ?_ rfl
  refine lv_if_ne (tgt := 13) hx hb dX4_partAt_8 (by decide) (fun hc2 => ?_) (fun hc2 => ?_)
  · have hf := gx_neg hc2 hf
    refine lv_iload hx hb dX4_partAt_13 (lv_at hl 4 rfl) ?_
    refine lv_iload_n hx hb dX4_partAt_15 rfl (lv_at hl 3 rfl) ?_
    refine lv_isub hx hb dX4_partAt_16 ?_
    refine lv_aload_n hx hb dX4_partAt_17 rfl (lv_at hl 0 rfl) ?_
    refine lv_iload_n hx hb dX4_partAt_18 rfl (lv_at hl 1 rfl) ?_
    refine lv_iconst (v := (1 : Int32)) hx hb dX4_partAt_19 (by decide) ?_
    obtain ⟨r3, hr3, hf⟩ := gx_bnd hf
    refine gx_vR (v := (some (.int r3))) (rest := [.int (a4 - a3)]) C hH hS 0 (by decide) rfl rfl [.int a1, .int (1 : Int32)] (t_X4_numberOf l G σ a1 (1 : Int32) r3  hr3) lk_X4_72 ⟨rfl, rfl, Nat.le_of_ble_eq_true rfl, Nat.le_of_ble_eq_true rfl⟩ ⟨Nat.zero_le _, Nat.zero_le _⟩ hl.1 rfl (Nat.le_of_ble_eq_true rfl) dX4_partAt_20 ?_
    refine gx_e0 (st := [.int r3, .int (a4 - a3)]) ?_ rfl
    refine lv_isub hx hb dX4_partAt_23 ?_
    refine lv_topi (fun x4 hx4 => ?_)
    have hf := gx_let hf x4 hx4
    refine lv_istore (lv' := [(5, .int x4), (0, .ref (gx_q G 0)), (1, .int a1), (2, .int a2), (3, .int a3), (4, .int a4)]) hx hb dX4_partAt_24 hl (by decide) rfl (fun ls hl => ?_)
    refine lv_aload_n hx hb dX4_partAt_26 rfl (lv_at hl 1 rfl) ?_
    refine gx_get C hH 0 (by decide) rfl fl_X4_16 rfl dX4_partAt_27 ?_
    refine lv_iload_n hx hb dX4_partAt_30 rfl (lv_at hl 2 rfl) ?_
    obtain ⟨hb5, hf⟩ := gx_chk hf
    refine gx_iald C hH (3) (by decide) rfl hb5 dX4_partAt_31 ?_
    refine lv_iconst (v := (4 : Int32)) hx hb dX4_partAt_32 (by decide) ?_
    refine lv_icmp_ge (tgt := 57) hx hb dX4_partAt_33 (by decide) (fun hc6 => ?_) (fun hc6 => ?_)
    · have hf := gx_pos hc6 hf
      refine lv_aload_n hx hb dX4_partAt_57 rfl (lv_at hl 1 rfl) ?_
      refine lv_iload_n hx hb dX4_partAt_58 rfl (lv_at hl 2 rfl) ?_
      refine lv_iload_n hx hb dX4_partAt_59 rfl (lv_at hl 3 rfl) ?_
      obtain ⟨r7, hr7, hf⟩ := gx_bnd hf
      refine gx_vR (v := (some (.int r7))) (rest := []) C hH hS 0 (by decide) rfl rfl [.int a1, .int a2] (t_X4_byHand l G σ a1 a2 r7  hr7) lk_X4_170 ⟨rfl, rfl, Nat.le_of_ble_eq_true rfl, Nat.le_of_ble_eq_true rfl⟩ ⟨Nat.zero_le _, Nat.zero_le _⟩ hl.1 rfl (Nat.le_of_ble_eq_true rfl) dX4_partAt_60 ?_
      refine gx_e0 (st := [.int r7]) ?_ rfl
      refine lv_istore (lv' := [(6, .int r7), (5, .int x4), (0, .ref (gx_q G 0)), (1, .int a1), (2, .int a2), (3, .int a3), (4, .int a4)]) hx hb dX4_partAt_63 hl (by decide) rfl (fun ls hl => ?_)
      refine lv_iload hx hb dX4_partAt_65 (lv_at hl 0 rfl) ?_
      refine lv_aload_n hx hb dX4_partAt_67 rfl (lv_at hl 2 rfl) ?_
      refine lv_iload_n hx hb dX4_partAt_68 rfl (lv_at hl 3 rfl) ?_
      refine lv_bipush (v := (8 : Int32)) hx hb dX4_partAt_69 (by decide) ?_
      obtain ⟨r8, hr8, hf⟩ := gx_bnd hf
      refine gx_vR (v := (some (.int r8))) (rest := [.int r7]) C hH hS 0 (by decide) rfl rfl [.int a1, .int (8 : Int32)] (t_X4_numberOf l G σ a1 (8 : Int32) r8  hr8) lk_X4_72 ⟨rfl, rfl, Nat.le_of_ble_eq_true rfl, Nat.le_of_ble_eq_true rfl⟩ ⟨Nat.zero_le _, Nat.zero_le _⟩ hl.1 rfl (Nat.le_of_ble_eq_true rfl) dX4_partAt_71 ?_
      refine gx_e0 (st := [.int r8, .int r7]) ?_ rfl
      refine lv_imul hx hb dX4_partAt_74 ?_
      refine lv_bipush (v := (100 : Int32)) hx hb dX4_partAt_75 (by decide) ?_
      refine lv_idiv hx hb dX4_partAt_77 (by decide) ?_
      refine lv_aload_n hx hb dX4_partAt_78 rfl (lv_at hl 2 rfl) ?_
      refine lv_iload_n hx hb dX4_partAt_79 rfl (lv_at hl 3 rfl) ?_
      refine lv_iload_n hx hb dX4_partAt_80 rfl (lv_at hl 4 rfl) ?_
      refine lv_if_ne (tgt := 89) hx hb dX4_partAt_81 (by decide) (fun hc9 => ?_) (fun hc9 => ?_)
      · have hf := gx_neg hc9 hf
        refine lv_bipush (v := (7 : Int32)) hx hb dX4_partAt_89 (by decide) ?_
        obtain ⟨r10, hr10, hf⟩ := gx_bnd hf
        refine gx_vR (v := (some (.int r10))) (rest := [.int ((r7 * r8) / (100 : Int32))]) C hH hS 0 (by decide) rfl rfl [.int a1, .int (7 : Int32)] (t_X4_numberOf l G σ a1 (7 : Int32) r10  hr10) lk_X4_72 ⟨rfl, rfl, Nat.le_of_ble_eq_true rfl, Nat.le_of_ble_eq_true rfl⟩ ⟨Nat.zero_le _, Nat.zero_le _⟩ hl.1 rfl (Nat.le_of_ble_eq_true rfl) dX4_partAt_91 ?_
        refine gx_e0 (st := [.int r10, .int ((r7 * r8) / (100 : Int32))]) ?_ rfl
        refine lv_imul hx hb dX4_partAt_94 ?_
        refine lv_bipush (v := (100 : Int32)) hx hb dX4_partAt_95 (by decide) ?_
        refine lv_idiv hx hb dX4_partAt_97 (by decide) ?_
        obtain rfl := Option.some.inj hf
        exact gx_iretR C hr hlocks dX4_partAt_98
      · have hf := gx_pos hc9 hf
        refine lv_bipush (v := (6 : Int32)) hx hb dX4_partAt_84 (by decide) ?_
        refine lv_goto (tgt := 91) hx hb dX4_partAt_86 (by decide) ?_
        obtain ⟨r11, hr11, hf⟩ := gx_bnd hf
        refine gx_vR (v := (some (.int r11))) (rest := [.int ((r7 * r8) / (100 : Int32))]) C hH hS 0 (by decide) rfl rfl [.int a1, .int (6 : Int32)] (t_X4_numberOf l G σ a1 (6 : Int32) r11  hr11) lk_X4_72 ⟨rfl, rfl, Nat.le_of_ble_eq_true rfl, Nat.le_of_ble_eq_true rfl⟩ ⟨Nat.zero_le _, Nat.zero_le _⟩ hl.1 rfl (Nat.le_of_ble_eq_true rfl) dX4_partAt_91 ?_
        refine gx_e0 (st := [.int r11, .int ((r7 * r8) / (100 : Int32))]) ?_ rfl
        refine lv_imul hx hb dX4_partAt_94 ?_
        refine lv_bipush (v := (100 : Int32)) hx hb dX4_partAt_95 (by decide) ?_
        refine lv_idiv hx hb dX4_partAt_97 (by decide) ?_
        obtain rfl := Option.some.inj hf
        exact gx_iretR C hr hlocks dX4_partAt_98
    · have hf := gx_neg hc6 hf
      refine lv_aload_n hx hb dX4_partAt_36 rfl (lv_at hl 1 rfl) ?_
      refine lv_iload_n hx hb dX4_partAt_37 rfl (lv_at hl 2 rfl) ?_
      refine lv_iload hx hb dX4_partAt_38 (lv_at hl 0 rfl) ?_
      obtain ⟨r12, hr12, hf⟩ := gx_bnd hf
      refine gx_vR (v := (some (.int r12))) (rest := []) C hH hS 0 (by decide) rfl rfl [.int a1, .int x4] (t_X4_waveAt l G σ a1 x4 r12  hr12) lk_X4_164 ⟨rfl, rfl, Nat.le_of_ble_eq_true rfl, Nat.le_of_ble_eq_true rfl⟩ ⟨Nat.zero_le _, Nat.zero_le _⟩ hl.1 rfl (Nat.le_of_ble_eq_true rfl) dX4_partAt_40 ?_
      refine gx_e0 (st := [.int r12]) ?_ rfl
      refine lv_aload_n hx hb dX4_partAt_43 rfl (lv_at hl 1 rfl) ?_
      refine lv_iload_n hx hb dX4_partAt_44 rfl (lv_at hl 2 rfl) ?_
      refine lv_iload hx hb dX4_partAt_45 (lv_at hl 0 rfl) ?_
      obtain ⟨r13, hr13, hf⟩ := gx_bnd hf
      refine gx_vR (v := (some (.int r13))) (rest := [.int r12]) C hH hS 0 (by decide) rfl rfl [.int a1, .int x4] (t_X4_envelopeAt l G σ a1 x4 r13  hr13) lk_X4_167 ⟨rfl, rfl, Nat.le_of_ble_eq_true rfl, Nat.le_of_ble_eq_true rfl⟩ ⟨Nat.zero_le _, Nat.zero_le _⟩ hl.1 rfl (Nat.le_of_ble_eq_true rfl) dX4_partAt_47 ?_
      refine gx_e0 (st := [.int r13, .int r12]) ?_ rfl
      refine lv_imul hx hb dX4_partAt_50 ?_
      refine lv_bipush (v := (100 : Int32)) hx hb dX4_partAt_51 (by decide) ?_
      refine lv_idiv hx hb dX4_partAt_53 (by decide) ?_
      refine lv_goto (tgt := 63) hx hb dX4_partAt_54 (by decide) ?_
      refine lv_topi (fun x14 hx14 => ?_)
      have hf := gx_let hf x14 hx14
      refine lv_istore (lv' := [(6, .int x14), (5, .int x4), (0, .ref (gx_q G 0)), (1, .int a1), (2, .int a2), (3, .int a3), (4, .int a4)]) hx hb dX4_partAt_63 hl (by decide) rfl (fun ls hl => ?_)
      refine lv_iload hx hb dX4_partAt_65 (lv_at hl 0 rfl) ?_
      refine lv_aload_n hx hb dX4_partAt_67 rfl (lv_at hl 2 rfl) ?_
      refine lv_iload_n hx hb dX4_partAt_68 rfl (lv_at hl 3 rfl) ?_
      refine lv_bipush (v := (8 : Int32)) hx hb dX4_partAt_69 (by decide) ?_
      obtain ⟨r15, hr15, hf⟩ := gx_bnd hf
      refine gx_vR (v := (some (.int r15))) (rest := [.int x14]) C hH hS 0 (by decide) rfl rfl [.int a1, .int (8 : Int32)] (t_X4_numberOf l G σ a1 (8 : Int32) r15  hr15) lk_X4_72 ⟨rfl, rfl, Nat.le_of_ble_eq_true rfl, Nat.le_of_ble_eq_true rfl⟩ ⟨Nat.zero_le _, Nat.zero_le _⟩ hl.1 rfl (Nat.le_of_ble_eq_true rfl) dX4_partAt_71 ?_
      refine gx_e0 (st := [.int r15, .int x14]) ?_ rfl
      refine lv_imul hx hb dX4_partAt_74 ?_
      refine lv_bipush (v := (100 : Int32)) hx hb dX4_partAt_75 (by decide) ?_
      refine lv_idiv hx hb dX4_partAt_77 (by decide) ?_
      refine lv_aload_n hx hb dX4_partAt_78 rfl (lv_at hl 2 rfl) ?_
      refine lv_iload_n hx hb dX4_partAt_79 rfl (lv_at hl 3 rfl) ?_
      refine lv_iload_n hx hb dX4_partAt_80 rfl (lv_at hl 4 rfl) ?_
      refine lv_if_ne (tgt := 89) hx hb dX4_partAt_81 (by decide) (fun hc16 => ?_) (fun hc16 => ?_)
      · have hf := gx_neg hc16 hf
        refine lv_bipush (v := (7 : Int32)) hx hb dX4_partAt_89 (by decide) ?_
        obtain ⟨r17, hr17, hf⟩ := gx_bnd hf
        refine gx_vR (v := (some (.int r17))) (rest := [.int ((x14 * r15) / (100 : Int32))]) C hH hS 0 (by decide) rfl rfl [.int a1, .int (7 : Int32)] (t_X4_numberOf l G σ a1 (7 : Int32) r17  hr17) lk_X4_72 ⟨rfl, rfl, Nat.le_of_ble_eq_true rfl, Nat.le_of_ble_eq_true rfl⟩ ⟨Nat.zero_le _, Nat.zero_le _⟩ hl.1 rfl (Nat.le_of_ble_eq_true rfl) dX4_partAt_91 ?_
        refine gx_e0 (st := [.int r17, .int ((x14 * r15) / (100 : Int32))]) ?_ rfl
        refine lv_imul hx hb dX4_partAt_94 ?_
        refine lv_bipush (v := (100 : Int32)) hx hb dX4_partAt_95 (by decide) ?_
        refine lv_idiv hx hb dX4_partAt_97 (by decide) ?_
        obtain rfl := Option.some.inj hf
        exact gx_iretR C hr hlocks dX4_partAt_98
      · have hf := gx_pos hc16 hf
        refine lv_bipush (v := (6 : Int32)) hx hb dX4_partAt_84 (by decide) ?_
        refine lv_goto (tgt := 91) hx hb dX4_partAt_86 (by decide) ?_
        obtain ⟨r18, hr18, hf⟩ := gx_bnd hf
        refine gx_vR (v := (some (.int r18))) (rest := [.int ((x14 * r15) / (100 : Int32))]) C hH hS 0 (by decide) rfl rfl [.int a1, .int (6 : Int32)] (t_X4_numberOf l G σ a1 (6 : Int32) r18  hr18) lk_X4_72 ⟨rfl, rfl, Nat.le_of_ble_eq_true rfl, Nat.le_of_ble_eq_true rfl⟩ ⟨Nat.zero_le _, Nat.zero_le _⟩ hl.1 rfl (Nat.le_of_ble_eq_true rfl) dX4_partAt_91 ?_
        refine gx_e0 (st := [.int r18, .int ((x14 * r15) / (100 : Int32))]) ?_ rfl
        refine lv_imul hx hb dX4_partAt_94 ?_
        refine lv_bipush (v := (100 : Int32)) hx hb dX4_partAt_95 (by decide) ?_
        refine lv_idiv hx hb dX4_partAt_97 (by decide) ?_
        obtain rfl := Option.some.inj hf
        exact gx_iretR C hr hlocks dX4_partAt_98
  · have hf := gx_pos hc2 hf
    refine lv_iconst (v := (0 : Int32)) hx hb dX4_partAt_11 (by decide) ?_
    obtain rfl := Option.some.inj hf
    exact gx_iretR C hr hlocks dX4_partAt_12
abbrev rm_X4_rawAt : Room := { frames := 4, cells := 0, slots := 0, locals := 95 }
def fL_X4_rawAt_16 : Nat → gx_St → Int32 → Int32 → Int32 → Int32 → Int32 → Option Int32
  | 0, _, _, _, _, _, _ => none
  | N + 1, σ, v1, v2, v3, v4, v5 =>
    if (σ 0 4) ≤ v5 then (some v4) else (if ((v3 >>> (v5 &&& 31)) &&& (1 : Int32)) = (1 : Int32) then ((f_X4_startAt σ v5 (-9 : Int32) v2).bind fun r11 =>
    (f_X4_partAt σ v5 v1 r11 v2).bind fun r12 =>
    gx_lt (v4 + r12) fun x13 =>
    gx_lt (v5 + (1 : Int32)) fun x14 =>
    fL_X4_rawAt_16 N σ v1 v2 v3 x13 x14) else (if (v5 < 0 ∨ 12 ≤ v5.toNatClampNeg) then none else
    gx_lt (σ (9) v5.toNatClampNeg) fun x6 =>
    (f_X4_startAt σ v5 x6 v2).bind fun r7 =>
    (f_X4_partAt σ v5 v1 r7 v2).bind fun r8 =>
    gx_lt (v4 + r8) fun x9 =>
    gx_lt (v5 + (1 : Int32)) fun x10 =>
    fL_X4_rawAt_16 N σ v1 v2 v3 x9 x10))
set_option maxHeartbeats 4000000 in
set_option maxRecDepth 100000 in
theorem w_X4_rawAt_16 {p : Program} {l : Launch} {e : Env} {s : State} {m : MethodId} {args : Array Value} {below : List Frame} {meth : Method} {c : Code} (G : gx_G) (C : gx_C p m c cX4_rawAt 7 s args RX4 G) (hr : meth.sig.returnType = (some .int)) (hlocks : meth.locks = false) (σ : gx_St) (hH : gx_H G 13 (gm_mk G) σ s.heap) : ∀ (N : Nat) (v1 v2 v3 v4 v5 : Int32)  (z : Int32), fL_X4_rawAt_16 N σ v1 v2 v3 v4 v5 = some z → ∀ (ls : Array Slot), lv_has ls 7 [(0, .ref (gx_q G 0)), (1, .int v1), (2, .int v2), (3, .int v3), (4, .int v4), (5, .int v5)] → W p l e rm_X4_rawAt s m args below meth c s.heap [] 0 0 (MQ below (gx_QR (some (.int z))) args s 0 0 (fun _ => False)) (F0 m 16 ls []) := by
  have hx := C.1.1
  have hb := C.1.2.1
  have hS : va_S (gx_A G) s.heap s.heap [] := va_S.rf
  intro N
  induction N with
  | zero =>
    intro v1 v2 v3 v4 v5  z hf ls hl
    cases (show (none : Option Int32) = some z from hf)
  | succ N ih =>
    intro v1 v2 v3 v4 v5  z hf ls hl
    rw [fL_X4_rawAt_16] at hf
    refine lv_iload hx hb dX4_rawAt_16 (lv_at hl 5 rfl) ?_
    refine lv_aload_n hx hb dX4_rawAt_18 rfl (lv_at hl 0 rfl) ?_
    refine gx_get C hH 0 (by decide) rfl fl_X4_56 rfl dX4_rawAt_19 ?_
    refine lv_icmp_ge (tgt := 77) hx hb dX4_rawAt_22 (by decide) (fun hc3 => ?_) (fun hc3 => ?_)
    · have hf := gx_pos hc3 hf
      refine lv_iload hx hb dX4_rawAt_77 (lv_at hl 4 rfl) ?_
      obtain rfl := Option.some.inj hf
      exact gx_iretR C hr hlocks dX4_rawAt_79
    · have hf := gx_neg hc3 hf
      refine lv_iload_n hx hb dX4_rawAt_25 rfl (lv_at hl 3 rfl) ?_
      refine lv_iload hx hb dX4_rawAt_26 (lv_at hl 5 rfl) ?_
      refine lv_ishr hx hb dX4_rawAt_28 ?_
      refine lv_iconst (v := (1 : Int32)) hx hb dX4_rawAt_29 (by decide) ?_
      refine lv_iand hx hb dX4_rawAt_30 ?_
      refine lv_iconst (v := (1 : Int32)) hx hb dX4_rawAt_31 (by decide) ?_
      refine lv_icmp_ne (tgt := 40) hx hb dX4_rawAt_32 (by decide) (fun hc4 => ?_) (fun hc4 => ?_)
      · have hf := gx_neg hc4 hf
        refine lv_aload_n hx hb dX4_rawAt_40 rfl (lv_at hl 0 rfl) ?_
        refine gx_get C hH 0 (by decide) rfl fl_X4_34 rfl dX4_rawAt_41 ?_
        refine lv_iload hx hb dX4_rawAt_44 (lv_at hl 5 rfl) ?_
        obtain ⟨hb5, hf⟩ := gx_chk hf
        refine gx_iald C hH (9) (by decide) rfl hb5 dX4_rawAt_46 ?_
        refine lv_topi (fun x6 hx6 => ?_)
        have hf := gx_let hf x6 hx6
        refine lv_istore (lv' := [(6, .int x6), (0, .ref (gx_q G 0)), (1, .int v1), (2, .int v2), (3, .int v3), (4, .int v4), (5, .int v5)]) hx hb dX4_rawAt_47 hl (by decide) rfl (fun ls hl => ?_)
        refine lv_iload hx hb dX4_rawAt_49 (lv_at hl 5 rfl) ?_
        refine lv_aload_n hx hb dX4_rawAt_51 rfl (lv_at hl 1 rfl) ?_
        refine lv_iload hx hb dX4_rawAt_52 (lv_at hl 6 rfl) ?_
        refine lv_iload_n hx hb dX4_rawAt_54 rfl (lv_at hl 2 rfl) ?_
        refine lv_aload_n hx hb dX4_rawAt_55 rfl (lv_at hl 1 rfl) ?_
        refine lv_iload hx hb dX4_rawAt_56 (lv_at hl 6 rfl) ?_
        refine lv_iload hx hb dX4_rawAt_58 (lv_at hl 0 rfl) ?_
        refine lv_iload_n hx hb dX4_rawAt_60 rfl (lv_at hl 3 rfl) ?_
        obtain ⟨r7, hr7, hf⟩ := gx_bnd hf
        refine gx_vR (v := (some (.int r7))) (rest := [.int v1, .int v5, .ref (gx_q G 0), .int v4]) C hH hS 0 (by decide) rfl rfl [.int v5, .int x6, .int v2] (t_X4_startAt l G σ v5 x6 v2 r7  hr7) lk_X4_138 ⟨rfl, rfl, Nat.le_of_ble_eq_true rfl, Nat.le_of_ble_eq_true rfl⟩ ⟨Nat.zero_le _, Nat.zero_le _⟩ hl.1 rfl (Nat.le_of_ble_eq_true rfl) dX4_rawAt_61 ?_
        refine gx_e0 (st := [.int r7, .int v1, .int v5, .ref (gx_q G 0), .int v4]) ?_ rfl
        refine lv_iload_n hx hb dX4_rawAt_64 rfl (lv_at hl 3 rfl) ?_
        obtain ⟨r8, hr8, hf⟩ := gx_bnd hf
        refine gx_vR (v := (some (.int r8))) (rest := [.int v4]) C hH hS 0 (by decide) rfl rfl [.int v5, .int v1, .int r7, .int v2] (t_X4_partAt l G σ v5 v1 r7 v2 r8  hr8) lk_X4_173 ⟨rfl, rfl, Nat.le_of_ble_eq_true rfl, Nat.le_of_ble_eq_true rfl⟩ ⟨Nat.zero_le _, Nat.zero_le _⟩ hl.1 rfl (Nat.le_of_ble_eq_true rfl) dX4_rawAt_65 ?_
        refine gx_e0 (st := [.int r8, .int v4]) ?_ rfl
        refine lv_iadd hx hb dX4_rawAt_68 ?_
        refine lv_topi (fun x9 hx9 => ?_)
        have hf := gx_let hf x9 hx9
        refine lv_istore (lv' := [(4, .int x9), (6, .int x6), (0, .ref (gx_q G 0)), (1, .int v1), (2, .int v2), (3, .int v3), (5, .int v5)]) hx hb dX4_rawAt_69 hl (by decide) rfl (fun ls hl => ?_)
        obtain ⟨x10, hx10⟩ : ∃ z : Int32, z = (v5 + (1 : Int32)) := ⟨_, rfl⟩
        have hf := gx_let hf x10 hx10
        refine lv_iinc (v := x10) (lv' := [(5, .int x10), (4, .int x9), (6, .int x6), (0, .ref (gx_q G 0)), (1, .int v1), (2, .int v2), (3, .int v3)]) hx hb dX4_rawAt_71 hl (k := 6) rfl (by rw [hx10]; rfl) (by decide) rfl (fun ls hl => ?_)
        refine lv_goto (tgt := 16) hx hb dX4_rawAt_74 (by decide) ?_
        exact ih v1 v2 v3 x9 x10  _ hf ls (lv_sub hl [3, 4, 5, 6, 1, 0] rfl)
      · have hf := gx_pos hc4 hf
        refine lv_bipush (v := (-9 : Int32)) hx hb dX4_rawAt_35 (by decide) ?_
        refine lv_goto (tgt := 47) hx hb dX4_rawAt_37 (by decide) ?_
        refine lv_istore (lv' := [(6, .int (-9 : Int32)), (0, .ref (gx_q G 0)), (1, .int v1), (2, .int v2), (3, .int v3), (4, .int v4), (5, .int v5)]) hx hb dX4_rawAt_47 hl (by decide) rfl (fun ls hl => ?_)
        refine lv_iload hx hb dX4_rawAt_49 (lv_at hl 5 rfl) ?_
        refine lv_aload_n hx hb dX4_rawAt_51 rfl (lv_at hl 1 rfl) ?_
        refine lv_iload hx hb dX4_rawAt_52 (lv_at hl 6 rfl) ?_
        refine lv_iload_n hx hb dX4_rawAt_54 rfl (lv_at hl 2 rfl) ?_
        refine lv_aload_n hx hb dX4_rawAt_55 rfl (lv_at hl 1 rfl) ?_
        refine lv_iload hx hb dX4_rawAt_56 (lv_at hl 6 rfl) ?_
        refine lv_iload hx hb dX4_rawAt_58 (lv_at hl 0 rfl) ?_
        refine lv_iload_n hx hb dX4_rawAt_60 rfl (lv_at hl 3 rfl) ?_
        obtain ⟨r11, hr11, hf⟩ := gx_bnd hf
        refine gx_vR (v := (some (.int r11))) (rest := [.int v1, .int v5, .ref (gx_q G 0), .int v4]) C hH hS 0 (by decide) rfl rfl [.int v5, .int (-9 : Int32), .int v2] (t_X4_startAt l G σ v5 (-9 : Int32) v2 r11  hr11) lk_X4_138 ⟨rfl, rfl, Nat.le_of_ble_eq_true rfl, Nat.le_of_ble_eq_true rfl⟩ ⟨Nat.zero_le _, Nat.zero_le _⟩ hl.1 rfl (Nat.le_of_ble_eq_true rfl) dX4_rawAt_61 ?_
        refine gx_e0 (st := [.int r11, .int v1, .int v5, .ref (gx_q G 0), .int v4]) ?_ rfl
        refine lv_iload_n hx hb dX4_rawAt_64 rfl (lv_at hl 3 rfl) ?_
        obtain ⟨r12, hr12, hf⟩ := gx_bnd hf
        refine gx_vR (v := (some (.int r12))) (rest := [.int v4]) C hH hS 0 (by decide) rfl rfl [.int v5, .int v1, .int r11, .int v2] (t_X4_partAt l G σ v5 v1 r11 v2 r12  hr12) lk_X4_173 ⟨rfl, rfl, Nat.le_of_ble_eq_true rfl, Nat.le_of_ble_eq_true rfl⟩ ⟨Nat.zero_le _, Nat.zero_le _⟩ hl.1 rfl (Nat.le_of_ble_eq_true rfl) dX4_rawAt_65 ?_
        refine gx_e0 (st := [.int r12, .int v4]) ?_ rfl
        refine lv_iadd hx hb dX4_rawAt_68 ?_
        refine lv_topi (fun x13 hx13 => ?_)
        have hf := gx_let hf x13 hx13
        refine lv_istore (lv' := [(4, .int x13), (6, .int (-9 : Int32)), (0, .ref (gx_q G 0)), (1, .int v1), (2, .int v2), (3, .int v3), (5, .int v5)]) hx hb dX4_rawAt_69 hl (by decide) rfl (fun ls hl => ?_)
        obtain ⟨x14, hx14⟩ : ∃ z : Int32, z = (v5 + (1 : Int32)) := ⟨_, rfl⟩
        have hf := gx_let hf x14 hx14
        refine lv_iinc (v := x14) (lv' := [(5, .int x14), (4, .int x13), (6, .int (-9 : Int32)), (0, .ref (gx_q G 0)), (1, .int v1), (2, .int v2), (3, .int v3)]) hx hb dX4_rawAt_71 hl (k := 6) rfl (by rw [hx14]; rfl) (by decide) rfl (fun ls hl => ?_)
        refine lv_goto (tgt := 16) hx hb dX4_rawAt_74 (by decide) ?_
        exact ih v1 v2 v3 x13 x14  _ hf ls (lv_sub hl [3, 4, 5, 6, 1, 0] rfl)
def f_X4_rawAt (σ : gx_St) (a1 a2 a3 : Int32) : Option Int32 :=
  (f_X4_isLostBy σ a2).bind fun r1 =>
  if r1 = 0 then (fL_X4_rawAt_16 13 σ a1 a2 a3 (0 : Int32) (0 : Int32)) else (some (0 : Int32))
set_option maxHeartbeats 4000000 in
set_option maxRecDepth 100000 in
theorem t_X4_rawAt (l : Launch) (G : gx_G) (σ : gx_St) (a1 a2 a3 : Int32) (r : Int32)  (hf : f_X4_rawAt σ a1 a2 a3 = some r) : Met l yX4_rawAt (Cond.code yX4_rawAt cX4_rawAt 7 (some .int) :: wT) rm_X4_rawAt (va_Pc [.ref (gx_q G 0), .int a1, .int a2, .int a3] (gx_S G 13 (gm_mk G) σ)) (gx_QR (some (.int r))) 0 0 (fun _ => False) := by
  refine Met.ofW (cc := cX4_rawAt) (maxL := 7) (ret := (some .int)) (by decide) rfl ?_
  intro p e s m args below meth c s₁ B hml hv
  obtain ⟨rfl, hH, hE⟩ := hv
  have C := gx_C.of (G := G) B hml hE
  have hx := C.1.1
  have hb := C.1.2.1
  have hr := B.returns
  have hlocks := B.notSynchronized
  have hS : va_S (gx_A G) s.heap s.heap [] := va_S.rf
  have hl := lv_entry ([.ref (gx_q G 0), .int a1, .int a2, .int a3]) (n := 7) (Nat.le_of_ble_eq_true rfl)
  rw [lg_entry_eq]
  generalize (lg_sl ([.ref (gx_q G 0), .int a1, .int a2, .int a3]) ++ List.replicate (7 - (lg_sl ([.ref (gx_q G 0), .int a1, .int a2, .int a3])).length) Slot.unset).toArray = ls at hl ⊢
  have hl : lv_has ls 7 [(0, .ref (gx_q G 0)), (1, .int a1), (2, .int a2), (3, .int a3)] := hl
  unfold f_X4_rawAt at hf
  refine lv_aload_n hx hb dX4_rawAt_0 rfl (lv_at hl 0 rfl) ?_
  refine lv_iload_n hx hb dX4_rawAt_1 rfl (lv_at hl 2 rfl) ?_
  obtain ⟨r1, hr1, hf⟩ := gx_bnd hf
  refine gx_vR (v := (some (.int r1))) (rest := []) C hH hS 0 (by decide) rfl rfl [.int a2] (t_X4_isLostBy l G σ a2 r1  hr1) lk_X4_143 ⟨rfl, rfl, Nat.le_of_ble_eq_true rfl, Nat.le_of_ble_eq_true rfl⟩ ⟨Nat.zero_le _, Nat.zero_le _⟩ hl.1 rfl (Nat.le_of_ble_eq_true rfl) dX4_rawAt_2 ?_
  refine gx_e0 (st := [.int r1]) ?_ rfl
  refine lv_if_eq (tgt := 10) hx hb dX4_rawAt_5 (by decide) (fun hc2 => ?_) (fun hc2 => ?_)
  · have hf := gx_pos hc2 hf
    refine lv_iconst (v := (0 : Int32)) hx hb dX4_rawAt_10 (by decide) ?_
    refine lv_istore (lv' := [(4, .int (0 : Int32)), (0, .ref (gx_q G 0)), (1, .int a1), (2, .int a2), (3, .int a3)]) hx hb dX4_rawAt_11 hl (by decide) rfl (fun ls hl => ?_)
    refine lv_iconst (v := (0 : Int32)) hx hb dX4_rawAt_13 (by decide) ?_
    refine lv_istore (lv' := [(5, .int (0 : Int32)), (4, .int (0 : Int32)), (0, .ref (gx_q G 0)), (1, .int a1), (2, .int a2), (3, .int a3)]) hx hb dX4_rawAt_14 hl (by decide) rfl (fun ls hl => ?_)
    exact w_X4_rawAt_16 (l := l) G C hr hlocks σ hH 13 a1 a2 a3 (0 : Int32) (0 : Int32)  _ hf ls (lv_sub hl [2, 3, 4, 5, 1, 0] rfl)
  · have hf := gx_neg hc2 hf
    refine lv_iconst (v := (0 : Int32)) hx hb dX4_rawAt_8 (by decide) ?_
    obtain rfl := Option.some.inj hf
    exact gx_iretR C hr hlocks dX4_rawAt_9
