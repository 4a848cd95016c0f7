abbrev rm_X3_gatherPlaying : Room := { frames := 1, cells := 0, slots := 0, locals := 23 }
def fL_X3_gatherPlaying_4 : Nat → gx_St → Int32 → Int32 → Option (Int32 × gx_St)
  | 0, _, _, _ => none
  | N + 1, σ, v1, v2 =>
    if (σ 0 1) ≤ v2 then (some (v1, σ)) else (if (6 : Int32) ≤ v1 then (some (v1, σ)) else (if (v2 < 0 ∨ 12 ≤ v2.toNatClampNeg) then none else
    (f_X2_playsAt σ v2 (σ (8 + 3 * v2.toNatClampNeg) 8) (σ 0 7)).bind fun r6 =>
    if r6 = 0 then (gx_lt (v2 + (1 : Int32)) fun x8 =>
    fL_X3_gatherPlaying_4 N σ v1 x8) else (if (v1 < 0 ∨ 6 ≤ v1.toNatClampNeg) then none else
    gx_lt (gx_w2 σ 5 v1.toNatClampNeg v2) fun σ10 =>
    gx_lt (v1 + (1 : Int32)) fun x11 =>
    gx_lt (v2 + (1 : Int32)) fun x12 =>
    fL_X3_gatherPlaying_4 N σ10 x11 x12)))
set_option maxHeartbeats 4000000 in
set_option maxRecDepth 100000 in
theorem w_X3_gatherPlaying_4 {p : Program} {l : Launch} {e : Env} {s : State} {m : MethodId} {args : Array Value} {below : List Frame} {meth : Method} {c : Code} (G : gx_G) (hG : gx_D G 50) (C : gx_C p m c cX3_gatherPlaying 4 s args RX3 G) (hr : meth.sig.returnType = (some .int)) (hlocks : meth.locks = false) : ∀ (N : Nat) (σ : gx_St) (v1 v2 : Int32)  (z : (Int32 × gx_St)), fL_X3_gatherPlaying_4 N σ v1 v2 = some z → ∀ (H : Heap) (locs : List Loc) (ls : Array Slot), gx_H G 50 (gc_mk G) σ H → va_S (gx_A G) s.heap H locs → lv_has ls 4 [(0, .ref (gx_q G 0)), (1, .int v1), (2, .int v2)] → W p l e rm_X3_gatherPlaying s m args below meth c H locs 0 0 (MQ below (gx_QM G 50 (gc_mk G) (some (.int z.1)) z.2) args s 0 0 (gx_A G)) (F0 m 4 ls []) := by
  have hx := C.1.1
  have hb := C.1.2.1
  intro N
  induction N with
  | zero =>
    intro σ v1 v2  z hf H locs ls hH hS hl
    cases (show (none : Option (Int32 × gx_St)) = some z from hf)
  | succ N ih =>
    intro σ v1 v2  z hf H locs ls hH hS hl
    rw [fL_X3_gatherPlaying_4] at hf
    refine lv_iload_n hx hb dX3_gatherPlaying_4 rfl (lv_at hl 2 rfl) ?_
    refine lv_aload_n hx hb dX3_gatherPlaying_5 rfl (lv_at hl 0 rfl) ?_
    refine gx_get C hH 0 (by decide) rfl fl_X3_15 rfl dX3_gatherPlaying_6 ?_
    refine lv_icmp_ge (tgt := 56) hx hb dX3_gatherPlaying_9 (by decide) (fun hc1 => ?_) (fun hc1 => ?_)
    · have hf := gx_pos hc1 hf
      refine lv_iload_n hx hb dX3_gatherPlaying_56 rfl (lv_at hl 1 rfl) ?_
      cases hf
      exact gx_iretM C hr hlocks hH hS dX3_gatherPlaying_57
    · have hf := gx_neg hc1 hf
      refine lv_iload_n hx hb dX3_gatherPlaying_12 rfl (lv_at hl 1 rfl) ?_
      refine lv_bipush (v := (6 : Int32)) hx hb dX3_gatherPlaying_13 (by decide) ?_
      refine lv_icmp_ge (tgt := 56) hx hb dX3_gatherPlaying_15 (by decide) (fun hc2 => ?_) (fun hc2 => ?_)
      · have hf := gx_pos hc2 hf
        refine lv_iload_n hx hb dX3_gatherPlaying_56 rfl (lv_at hl 1 rfl) ?_
        cases hf
        exact gx_iretM C hr hlocks hH hS dX3_gatherPlaying_57
      · have hf := gx_neg hc2 hf
        refine lv_aload_n hx hb dX3_gatherPlaying_18 rfl (lv_at hl 0 rfl) ?_
        refine gx_get C hH 0 (by decide) rfl fl_X3_11 rfl dX3_gatherPlaying_19 ?_
        refine lv_iload_n hx hb dX3_gatherPlaying_22 rfl (lv_at hl 2 rfl) ?_
        obtain ⟨hb3, hf⟩ := gx_chk hf
        have hl4 := gx_lt12 hb3
        have hn5 := gx_ne9 hb3
        refine gx_aaldR C hH 1 (by decide) 2 rfl rfl hb3 rfl dX3_gatherPlaying_23 ?_
        refine lv_astore_n (lv' := [(3, .ref (gx_q G (8 + 3 * v2.toNatClampNeg))), (0, .ref (gx_q G 0)), (1, .int v1), (2, .int v2)]) hx hb dX3_gatherPlaying_24 rfl hl (by decide) rfl (fun ls hl => ?_)
        refine lv_aload_n hx hb dX3_gatherPlaying_25 rfl (lv_at hl 0 rfl) ?_
        refine lv_aload_n hx hb dX3_gatherPlaying_26 rfl (lv_at hl 0 rfl) ?_
        refine gx_get C hH (8 + 3 * v2.toNatClampNeg) (gc_ke hl4) (gc_e _ hl4) fl_X3_138 rfl dX3_gatherPlaying_27 ?_
        refine lv_aload_n hx hb dX3_gatherPlaying_30 rfl (lv_at hl 1 rfl) ?_
        refine gx_get C hH 0 (by decide) rfl fl_X3_40 rfl dX3_gatherPlaying_31 ?_
        obtain ⟨r6, hr6, hf⟩ := gx_bnd hf
        refine gx_vR (v := (some (.int r6))) (rest := []) C hH hS (8 + 3 * v2.toNatClampNeg) (gc_ke hl4) (gc_e _ hl4) rfl [.int (σ (8 + 3 * v2.toNatClampNeg) 8), .int (σ 0 7)] (t_X2_playsAt l G σ v2 (σ (8 + 3 * v2.toNatClampNeg) 8) (σ 0 7) r6 hl4 hr6) lk_X3_141 ⟨rfl, rfl, Nat.le_of_ble_eq_true rfl, Nat.le_of_ble_eq_true rfl⟩ ⟨Nat.zero_le _, Nat.zero_le _⟩ hl.1 rfl (Nat.le_of_ble_eq_true rfl) dX3_gatherPlaying_34 ?_
        refine gx_e0 (st := [.int r6]) ?_ rfl
        refine lv_if_eq (tgt := 50) hx hb dX3_gatherPlaying_37 (by decide) (fun hc7 => ?_) (fun hc7 => ?_)
        · have hf := gx_pos hc7 hf
          obtain ⟨x8, hx8⟩ : ∃ z : Int32, z = (v2 + (1 : Int32)) := ⟨_, rfl⟩
          have hf := gx_let hf x8 hx8
          refine lv_iinc (v := x8) (lv' := [(2, .int x8), (3, .ref (gx_q G (8 + 3 * v2.toNatClampNeg))), (0, .ref (gx_q G 0)), (1, .int v1)]) hx hb dX3_gatherPlaying_50 hl (k := 3) rfl (by rw [hx8]; rfl) (by decide) rfl (fun ls hl => ?_)
          refine lv_goto (tgt := 4) hx hb dX3_gatherPlaying_53 (by decide) ?_
          exact ih σ v1 x8  _ hf _ _ ls hH hS (lv_sub hl [2, 3, 0] rfl)
        · have hf := gx_neg hc7 hf
          refine lv_aload_n hx hb dX3_gatherPlaying_40 rfl (lv_at hl 1 rfl) ?_
          refine gx_get C hH 0 (by decide) rfl fl_X3_59 rfl dX3_gatherPlaying_41 ?_
          refine lv_iload_n hx hb dX3_gatherPlaying_44 rfl (lv_at hl 2 rfl) ?_
          refine lv_aload_n hx hb dX3_gatherPlaying_45 rfl (lv_at hl 0 rfl) ?_
          obtain ⟨hb9, hf⟩ := gx_chk hf
          refine gx_aast C hG hH hS 5 (by decide) 2 2 rfl rfl (fun _ => rfl) hn5 (gc_ke hl4) (gc_e _ hl4) hb9 dX3_gatherPlaying_46 (fun H locs σ10 hσ10 hH hS => ?_)
          have hf := gx_let hf σ10 hσ10
          obtain ⟨x11, hx11⟩ : ∃ z : Int32, z = (v1 + (1 : Int32)) := ⟨_, rfl⟩
          have hf := gx_let hf x11 hx11
          refine lv_iinc (v := x11) (lv' := [(1, .int x11), (3, .ref (gx_q G (8 + 3 * v2.toNatClampNeg))), (0, .ref (gx_q G 0)), (2, .int v2)]) hx hb dX3_gatherPlaying_47 hl (k := 2) rfl (by rw [hx11]; rfl) (by decide) rfl (fun ls hl => ?_)
          obtain ⟨x12, hx12⟩ : ∃ z : Int32, z = (v2 + (1 : Int32)) := ⟨_, rfl⟩
          have hf := gx_let hf x12 hx12
          refine lv_iinc (v := x12) (lv' := [(2, .int x12), (1, .int x11), (3, .ref (gx_q G (8 + 3 * v2.toNatClampNeg))), (0, .ref (gx_q G 0))]) hx hb dX3_gatherPlaying_50 hl (k := 3) rfl (by rw [hx12]; rfl) (by decide) rfl (fun ls hl => ?_)
          refine lv_goto (tgt := 4) hx hb dX3_gatherPlaying_53 (by decide) ?_
          exact ih σ10 x11 x12  _ hf _ _ ls hH hS (lv_sub hl [3, 1, 0] rfl)
def f_X3_gatherPlaying (σ : gx_St) : Option (Int32 × gx_St) :=
  fL_X3_gatherPlaying_4 13 σ (0 : Int32) (0 : Int32)
set_option maxHeartbeats 4000000 in
set_option maxRecDepth 100000 in
theorem t_X3_gatherPlaying (l : Launch) (G : gx_G) (hG : gx_D G 50) (σ : gx_St) (r : Int32) (σ' : gx_St)  (hf : f_X3_gatherPlaying σ = some (r, σ')) : Met l yX3_gatherPlaying (Cond.code yX3_gatherPlaying cX3_gatherPlaying 4 (some .int) :: wT) rm_X3_gatherPlaying (va_Pc [.ref (gx_q G 0)] (gx_S G 50 (gc_mk G) σ)) (gx_QM G 50 (gc_mk G) (some (.int r)) σ') 0 0 (gx_A G) := by
  refine Met.ofW (cc := cX3_gatherPlaying) (maxL := 4) (ret := (some .int)) (by decide) rfl ?_
  intro p e s m args below meth c s₁ B hml hv
  obtain ⟨rfl, hH, hE⟩ := hv
  have C := gx_C.of (G := G) B hml hE
  have hx := C.1.1
  have hb := C.1.2.1
  have hr := B.returns
  have hlocks := B.notSynchronized
  have hS : va_S (gx_A G) s.heap s.heap [] := va_S.rf
  have hl := lv_entry ([.ref (gx_q G 0)]) (n := 4) (Nat.le_of_ble_eq_true rfl)
  rw [lg_entry_eq]
  generalize (lg_sl ([.ref (gx_q G 0)]) ++ List.replicate (4 - (lg_sl ([.ref (gx_q G 0)])).length) Slot.unset).toArray = ls at hl ⊢
  have hl : lv_has ls 4 [(0, .ref (gx_q G 0))] := hl
  unfold f_X3_gatherPlaying at hf
  refine lv_iconst (v := (0 : Int32)) hx hb dX3_gatherPlaying_0 (by decide) ?_
  refine lv_istore_n (lv' := [(1, .int (0 : Int32)), (0, .ref (gx_q G 0))]) hx hb dX3_gatherPlaying_1 rfl hl (by decide) rfl (fun ls hl => ?_)
  refine lv_iconst (v := (0 : Int32)) hx hb dX3_gatherPlaying_2 (by decide) ?_
  refine lv_istore_n (lv' := [(2, .int (0 : Int32)), (1, .int (0 : Int32)), (0, .ref (gx_q G 0))]) hx hb dX3_gatherPlaying_3 rfl hl (by decide) rfl (fun ls hl => ?_)
  exact w_X3_gatherPlaying_4 (l := l) G hG C hr hlocks 13 σ (0 : Int32) (0 : Int32)  _ hf _ _ ls hH hS (lv_sub hl [2, 1, 0] rfl)
abbrev rm_X3_lackAt : Room := { frames := 4, cells := 0, slots := 0, locals := 91 }
def f_X3_lackAt (σ : gx_St) (a1 a2 a3 : Int32) : Option Int32 :=
  (f_X3_startBy σ a1 a2).bind fun r1 =>
  if r1 ≤ (σ 0 7) then ((f_X2_partAt σ a1 r1 a2 a3).bind fun r3 =>
  some r3) else (some (0 : Int32))
set_option maxHeartbeats 4000000 in
set_option maxRecDepth 100000 in
theorem t_X3_lackAt (l : Launch) (G : gx_G) (σ : gx_St) (a1 a2 a3 : Int32) (r : Int32) (hl_a1 : a1.toNatClampNeg < 12) (hn_a1 : ¬ a1 = -9) (hl_a3 : a3.toNatClampNeg < 2) (hf : f_X3_lackAt σ a1 a2 a3 = some r) : Met l yX3_lackAt (Cond.code yX3_lackAt cX3_lackAt 5 (some .int) :: wT) rm_X3_lackAt (va_Pc [.ref (gx_q G 0), .ref (gx_q G (8 + 3 * a1.toNatClampNeg)), .int a2, .ref (gx_q G (44 + 1 * a3.toNatClampNeg))] (gx_S G 50 (gc_mk G) σ)) (gx_QR (some (.int r))) 0 0 (fun _ => False) := by
  refine Met.ofW (cc := cX3_lackAt) (maxL := 5) (ret := (some .int)) (by decide) rfl ?_
  intro p e s m args below meth c s₁ B hml hv
  obtain ⟨rfl, hH, hE⟩ := hv
  have C := gx_C.of (G := G) B hml hE
  have hx := C.1.1
  have hb := C.1.2.1
  have hr := B.returns
  have hlocks := B.notSynchronized
  have hS : va_S (gx_A G) s.heap s.heap [] := va_S.rf
  have hl := lv_entry ([.ref (gx_q G 0), .ref (gx_q G (8 + 3 * a1.toNatClampNeg)), .int a2, .ref (gx_q G (44 + 1 * a3.toNatClampNeg))]) (n := 5) (Nat.le_of_ble_eq_true rfl)
  rw [lg_entry_eq]
  generalize (lg_sl ([.ref (gx_q G 0), .ref (gx_q G (8 + 3 * a1.toNatClampNeg)), .int a2, .ref (gx_q G (44 + 1 * a3.toNatClampNeg))]) ++ List.replicate (5 - (lg_sl ([.ref (gx_q G 0), .ref (gx_q G (8 + 3 * a1.toNatClampNeg)), .int a2, .ref (gx_q G (44 + 1 * a3.toNatClampNeg))])).length) Slot.unset).toArray = ls at hl ⊢
  have hl : lv_has ls 5 [(0, .ref (gx_q G 0)), (1, .ref (gx_q G (8 + 3 * a1.toNatClampNeg))), (2, .int a2), (3, .ref (gx_q G (44 + 1 * a3.toNatClampNeg)))] := hl
  unfold f_X3_lackAt at hf
  refine lv_aload_n hx hb dX3_lackAt_0 rfl (lv_at hl 1 rfl) ?_
  refine lv_ifnonnull (tgt := 6) hx hb dX3_lackAt_1 (by decide) ?_
  refine lv_aload_n hx hb dX3_lackAt_6 rfl (lv_at hl 0 rfl) ?_
  refine lv_aload_n hx hb dX3_lackAt_7 rfl (lv_at hl 1 rfl) ?_
  refine lv_iload_n hx hb dX3_lackAt_8 rfl (lv_at hl 2 rfl) ?_
  obtain ⟨r1, hr1, hf⟩ := gx_bnd hf
  refine gx_vR (v := (some (.int r1))) (rest := []) C hH hS 0 (by decide) rfl rfl [.ref (gx_q G (8 + 3 * a1.toNatClampNeg)), .int a2] (t_X3_startBy l G σ a1 a2 r1 hl_a1 hn_a1 hr1) lk_X3_276 ⟨rfl, rfl, Nat.le_of_ble_eq_true rfl, Nat.le_of_ble_eq_true rfl⟩ ⟨Nat.zero_le _, Nat.zero_le _⟩ hl.1 rfl (Nat.le_of_ble_eq_true rfl) dX3_lackAt_9 ?_
  refine gx_e0 (st := [.int r1]) ?_ rfl
  refine lv_istore (lv' := [(4, .int r1), (0, .ref (gx_q G 0)), (1, .ref (gx_q G (8 + 3 * a1.toNatClampNeg))), (2, .int a2), (3, .ref (gx_q G (44 + 1 * a3.toNatClampNeg)))]) hx hb dX3_lackAt_12 hl (by decide) rfl (fun ls hl => ?_)
  refine lv_iload hx hb dX3_lackAt_14 (lv_at hl 0 rfl) ?_
  refine lv_aload_n hx hb dX3_lackAt_16 rfl (lv_at hl 1 rfl) ?_
  refine gx_get C hH 0 (by decide) rfl fl_X3_40 rfl dX3_lackAt_17 ?_
  refine lv_icmp_le (tgt := 27) hx hb dX3_lackAt_20 (by decide) (fun hc2 => ?_) (fun hc2 => ?_)
  · have hf := gx_pos hc2 hf
    refine lv_aload_n hx hb dX3_lackAt_27 rfl (lv_at hl 2 rfl) ?_
    refine lv_iload hx hb dX3_lackAt_28 (lv_at hl 0 rfl) ?_
    refine lv_iload_n hx hb dX3_lackAt_30 rfl (lv_at hl 3 rfl) ?_
    refine lv_aload_n hx hb dX3_lackAt_31 rfl (lv_at hl 4 rfl) ?_
    obtain ⟨r3, hr3, hf⟩ := gx_bnd hf
    refine gx_vR (v := (some (.int r3))) (rest := []) C hH hS (8 + 3 * a1.toNatClampNeg) (gc_ke hl_a1) (gc_e _ hl_a1) rfl [.int r1, .int a2, .ref (gx_q G (44 + 1 * a3.toNatClampNeg))] (t_X2_partAt l G σ a1 r1 a2 a3 r3 hl_a1 hl_a3 hr3) lk_X3_189 ⟨rfl, rfl, Nat.le_of_ble_eq_true rfl, Nat.le_of_ble_eq_true rfl⟩ ⟨Nat.zero_le _, Nat.zero_le _⟩ hl.1 rfl (Nat.le_of_ble_eq_true rfl) dX3_lackAt_32 ?_
    refine gx_e0 (st := [.int r3]) ?_ rfl
    obtain rfl := Option.some.inj hf
    exact gx_iretR C hr hlocks dX3_lackAt_35
  · have hf := gx_neg hc2 hf
    refine lv_iconst (v := (0 : Int32)) hx hb dX3_lackAt_23 (by decide) ?_
    refine lv_goto (tgt := 35) hx hb dX3_lackAt_24 (by decide) ?_
    obtain rfl := Option.some.inj hf
    exact gx_iretR C hr hlocks dX3_lackAt_35
abbrev rm_X3_markHeldBack : Room := { frames := 5, cells := 0, slots := 0, locals := 116 }
def fL_X3_markHeldBack_97 : Nat → gx_St → Int32 → Int32 → Option gx_St
  | 0, _, _, _ => none
  | N + 1, σ, v3, v5 =>
    if v3 ≤ v5 then (some σ) else (if (v5 < 0 ∨ 64 ≤ v5.toNatClampNeg) then none else
    (f_X3_isHeldBack (σ (6) v5.toNatClampNeg)).bind fun r7 =>
    if r7 = 0 then (gx_lt (v5 + (1 : Int32)) fun x9 =>
    fL_X3_markHeldBack_97 N σ v3 x9) else (if (v5 < 0 ∨ 64 ≤ v5.toNatClampNeg) then none else
    gx_lt (gx_w2 σ (7) v5.toNatClampNeg (1 : Int32)) fun σ11 =>
    gx_lt (v5 + (1 : Int32)) fun x12 =>
    fL_X3_markHeldBack_97 N σ11 v3 x12))
set_option maxHeartbeats 4000000 in
set_option maxRecDepth 100000 in
theorem w_X3_markHeldBack_97 {p : Program} {l : Launch} {e : Env} {s : State} {m : MethodId} {args : Array Value} {below : List Frame} {meth : Method} {c : Code} (G : gx_G) (hG : gx_D G 50) (C : gx_C p m c cX3_markHeldBack 8 s args RX3 G) (hr : meth.sig.returnType = none) (hlocks : meth.locks = false) : ∀ (N : Nat) (σ : gx_St) (v3 v5 : Int32)  (z : gx_St), fL_X3_markHeldBack_97 N σ v3 v5 = some z → ∀ (H : Heap) (locs : List Loc) (ls : Array Slot), gx_H G 50 (gc_mk G) σ H → va_S (gx_A G) s.heap H locs → lv_has ls 8 [(0, .ref (gx_q G 0)), (3, .int v3), (5, .int v5)] → W p l e rm_X3_markHeldBack s m args below meth c H locs 0 0 (MQ below (gx_QM G 50 (gc_mk G) none z) args s 0 0 (gx_A G)) (F0 m 97 ls []) := by
  have hx := C.1.1
  have hb := C.1.2.1
  intro N
  induction N with
  | zero =>
    intro σ v3 v5  z hf H locs ls hH hS hl
    cases (show (none : Option gx_St) = some z from hf)
  | succ N ih =>
    intro σ v3 v5  z hf H locs ls hH hS hl
    rw [fL_X3_markHeldBack_97] at hf
    refine lv_iload hx hb dX3_markHeldBack_97 (lv_at hl 2 rfl) ?_
    refine lv_iload_n hx hb dX3_markHeldBack_99 rfl (lv_at hl 1 rfl) ?_
    refine lv_icmp_ge (tgt := 130) hx hb dX3_markHeldBack_100 (by decide) (fun hc5 => ?_) (fun hc5 => ?_)
    · have hf := gx_pos hc5 hf
      cases hf
      exact gx_vretM C hr hlocks hH hS dX3_markHeldBack_130
    · have hf := gx_neg hc5 hf
      refine lv_aload_n hx hb dX3_markHeldBack_103 rfl (lv_at hl 0 rfl) ?_
      refine gx_get C hH 0 (by decide) rfl fl_X3_62 rfl dX3_markHeldBack_104 ?_
      refine lv_iload hx hb dX3_markHeldBack_107 (lv_at hl 2 rfl) ?_
      obtain ⟨hb6, hf⟩ := gx_chk hf
      refine gx_iald C hH (6) (by decide) rfl hb6 dX3_markHeldBack_109 ?_
      obtain ⟨r7, hr7, hf⟩ := gx_bnd hf
      refine gx_sR (v := (some (.int r7))) (rest := []) C hH hS [.int (σ (6) v5.toNatClampNeg)] (t_X3_isHeldBack l G σ (σ (6) v5.toNatClampNeg) r7  hr7) lk_X3_225 ⟨rfl, rfl, Nat.le_of_ble_eq_true rfl, Nat.le_of_ble_eq_true rfl⟩ ⟨Nat.zero_le _, Nat.zero_le _⟩ hl.1 rfl (Nat.le_of_ble_eq_true rfl) dX3_markHeldBack_110 ?_
      refine gx_e0 (st := [.int r7]) ?_ rfl
      refine lv_if_eq (tgt := 124) hx hb dX3_markHeldBack_113 (by decide) (fun hc8 => ?_) (fun hc8 => ?_)
      · have hf := gx_pos hc8 hf
        obtain ⟨x9, hx9⟩ : ∃ z : Int32, z = (v5 + (1 : Int32)) := ⟨_, rfl⟩
        have hf := gx_let hf x9 hx9
        refine lv_iinc (v := x9) (lv' := [(5, .int x9), (0, .ref (gx_q G 0)), (3, .int v3)]) hx hb dX3_markHeldBack_124 hl (k := 2) rfl (by rw [hx9]; rfl) (by decide) rfl (fun ls hl => ?_)
        refine lv_goto (tgt := 97) hx hb dX3_markHeldBack_127 (by decide) ?_
        exact ih σ v3 x9  _ hf _ _ ls hH hS (lv_sub hl [1, 2, 0] rfl)
      · have hf := gx_neg hc8 hf
        refine lv_aload_n hx hb dX3_markHeldBack_116 rfl (lv_at hl 0 rfl) ?_
        refine gx_get C hH 0 (by decide) rfl fl_X3_66 rfl dX3_markHeldBack_117 ?_
        refine lv_iload hx hb dX3_markHeldBack_120 (lv_at hl 2 rfl) ?_
        refine lv_iconst (v := (1 : Int32)) hx hb dX3_markHeldBack_122 (by decide) ?_
        obtain ⟨hb10, hf⟩ := gx_chk hf
        refine gx_zast C hG hH hS (7) (by decide) (fun _ => rfl) rfl hb10 dX3_markHeldBack_123 (fun H locs σ11 hσ11 hH hS => ?_)
        have hf := gx_let hf σ11 hσ11
        obtain ⟨x12, hx12⟩ : ∃ z : Int32, z = (v5 + (1 : Int32)) := ⟨_, rfl⟩
        have hf := gx_let hf x12 hx12
        refine lv_iinc (v := x12) (lv' := [(5, .int x12), (0, .ref (gx_q G 0)), (3, .int v3)]) hx hb dX3_markHeldBack_124 hl (k := 2) rfl (by rw [hx12]; rfl) (by decide) rfl (fun ls hl => ?_)
        refine lv_goto (tgt := 97) hx hb dX3_markHeldBack_127 (by decide) ?_
        exact ih σ11 v3 x12  _ hf _ _ ls hH hS (lv_sub hl [1, 2, 0] rfl)
def fL_X3_markHeldBack_49 (K : gx_St → Option gx_St) (v1 v2 v3 v4 v5 v6 : Int32) : Nat → gx_St → Int32 → Option gx_St
  | 0, _, _ => none
  | N + 1, σ, v7 =>
    if v4 ≤ v7 then (K σ) else (if (v7 < 0 ∨ 64 ≤ v7.toNatClampNeg) then none else
    if ((v4 + v7) < 0 ∨ 64 ≤ (v4 + v7).toNatClampNeg) then none else
    gx_lt (gx_w2 σ (6) (v4 + v7).toNatClampNeg ((σ (6) v7.toNatClampNeg) - v6)) fun σ22 =>
    gx_lt (v7 + (1 : Int32)) fun x23 =>
    fL_X3_markHeldBack_49 K v1 v2 v3 v4 v5 v6 N σ22 x23)
set_option maxHeartbeats 4000000 in
set_option maxRecDepth 100000 in
theorem w_X3_markHeldBack_49 {p : Program} {l : Launch} {e : Env} {s : State} {m : MethodId} {args : Array Value} {below : List Frame} {meth : Method} {c : Code} (G : gx_G) (hG : gx_D G 50) (C : gx_C p m c cX3_markHeldBack 8 s args RX3 G) (hr : meth.sig.returnType = none) (hlocks : meth.locks = false) (K : gx_St → Option gx_St) (z : gx_St) (v1 v2 v3 v4 v5 v6 : Int32) (hl_v2 : v2.toNatClampNeg < 2) (hk : ∀ (σ : gx_St) (H : Heap) (locs : List Loc) (ls : Array Slot), K σ = some z → gx_H G 50 (gc_mk G) σ H → va_S (gx_A G) s.heap H locs → lv_has ls 8 [(0, .ref (gx_q G 0)), (1, .int v1), (2, .ref (gx_q G (44 + 1 * v2.toNatClampNeg))), (3, .int v3), (4, .int v4), (5, .int v5)] → W p l e rm_X3_markHeldBack s m args below meth c H locs 0 0 (MQ below (gx_QM G 50 (gc_mk G) none z) args s 0 0 (gx_A G)) (F0 m 82 ls [])) : ∀ (N : Nat) (σ : gx_St) (v7 : Int32), fL_X3_markHeldBack_49 K v1 v2 v3 v4 v5 v6 N σ v7 = some z → ∀ (H : Heap) (locs : List Loc) (ls : Array Slot), gx_H G 50 (gc_mk G) σ H → va_S (gx_A G) s.heap H locs → lv_has ls 8 [(0, .ref (gx_q G 0)), (1, .int v1), (2, .ref (gx_q G (44 + 1 * v2.toNatClampNeg))), (3, .int v3), (4, .int v4), (5, .int v5), (6, .int v6), (7, .int v7)] → W p l e rm_X3_markHeldBack s m args below meth c H locs 0 0 (MQ below (gx_QM G 50 (gc_mk G) none z) args s 0 0 (gx_A G)) (F0 m 49 ls []) := by
  have hx := C.1.1
  have hb := C.1.2.1
  intro N
  induction N with
  | zero =>
    intro σ v7 hf H locs ls hH hS hl
    cases (show (none : Option gx_St) = some z from hf)
  | succ N ih =>
    intro σ v7 hf H locs ls hH hS hl
    rw [fL_X3_markHeldBack_49] at hf
    refine lv_iload hx hb dX3_markHeldBack_49 (lv_at hl 7 rfl) ?_
    refine lv_iload hx hb dX3_markHeldBack_51 (lv_at hl 4 rfl) ?_
    refine lv_icmp_ge (tgt := 82) hx hb dX3_markHeldBack_53 (by decide) (fun hc19 => ?_) (fun hc19 => ?_)
    · have hf := gx_pos hc19 hf
      exact hk σ _ _ ls hf hH hS (lv_sub hl [0, 1, 2, 3, 4, 5] rfl)
    · have hf := gx_neg hc19 hf
      refine lv_aload_n hx hb dX3_markHeldBack_56 rfl (lv_at hl 0 rfl) ?_
      refine gx_get C hH 0 (by decide) rfl fl_X3_62 rfl dX3_markHeldBack_57 ?_
      refine lv_iload hx hb dX3_markHeldBack_60 (lv_at hl 4 rfl) ?_
      refine lv_iload hx hb dX3_markHeldBack_62 (lv_at hl 7 rfl) ?_
      refine lv_iadd hx hb dX3_markHeldBack_64 ?_
      refine lv_aload_n hx hb dX3_markHeldBack_65 rfl (lv_at hl 0 rfl) ?_
      refine gx_get C hH 0 (by decide) rfl fl_X3_62 rfl dX3_markHeldBack_66 ?_
      refine lv_iload hx hb dX3_markHeldBack_69 (lv_at hl 7 rfl) ?_
      obtain ⟨hb20, hf⟩ := gx_chk hf
      refine gx_iald C hH (6) (by decide) rfl hb20 dX3_markHeldBack_71 ?_
      refine lv_iload hx hb dX3_markHeldBack_72 (lv_at hl 6 rfl) ?_
      refine lv_isub hx hb dX3_markHeldBack_74 ?_
      obtain ⟨hb21, hf⟩ := gx_chk hf
      refine gx_iast C hG hH hS (6) (by decide) (fun _ => rfl) hb21 dX3_markHeldBack_75 (fun H locs σ22 hσ22 hH hS => ?_)
      have hf := gx_let hf σ22 hσ22
      obtain ⟨x23, hx23⟩ : ∃ z : Int32, z = (v7 + (1 : Int32)) := ⟨_, rfl⟩
      have hf := gx_let hf x23 hx23
      refine lv_iinc (v := x23) (lv' := [(7, .int x23), (0, .ref (gx_q G 0)), (1, .int v1), (2, .ref (gx_q G (44 + 1 * v2.toNatClampNeg))), (3, .int v3), (4, .int v4), (5, .int v5), (6, .int v6)]) hx hb dX3_markHeldBack_76 hl (k := 7) rfl (by rw [hx23]; rfl) (by decide) rfl (fun ls hl => ?_)
      refine lv_goto (tgt := 49) hx hb dX3_markHeldBack_79 (by decide) ?_
      exact ih σ22 x23 hf _ _ ls hH hS (lv_sub hl [1, 2, 3, 4, 5, 6, 7, 0] rfl)
def fL_X3_markHeldBack_18 : Nat → gx_St → Int32 → Int32 → Int32 → Int32 → Int32 → Option gx_St
  | 0, _, _, _, _, _, _ => none
  | N + 1, σ, v1, v2, v3, v4, v5 =>
    if (6 : Int32) ≤ v5 then (fL_X3_markHeldBack_97 65 σ v3 (0 : Int32)) else (if v3 ≤ v4 then (fL_X3_markHeldBack_97 65 σ v3 (0 : Int32)) else (if (v5 < 0 ∨ 6 ≤ v5.toNatClampNeg) then none else
    gx_lt (σ 5 v5.toNatClampNeg) fun e15 =>
    if e15 = -9 then none else if 12 ≤ e15.toNatClampNeg then none else
    (f_X3_lackAt σ e15 v1 v2).bind fun r18 =>
    fL_X3_markHeldBack_49 (fun σ24 => gx_lt ((2 : Int32) * v4) fun x25 =>
    gx_lt (v5 + (1 : Int32)) fun x26 =>
    fL_X3_markHeldBack_18 N σ24 v1 v2 v3 x25 x26) v1 v2 v3 v4 v5 r18 65 σ (0 : Int32)))
set_option maxHeartbeats 4000000 in
set_option maxRecDepth 100000 in
theorem w_X3_markHeldBack_18 {p : Program} {l : Launch} {e : Env} {s : State} {m : MethodId} {args : Array Value} {below : List Frame} {meth : Method} {c : Code} (G : gx_G) (hG : gx_D G 50) (C : gx_C p m c cX3_markHeldBack 8 s args RX3 G) (hr : meth.sig.returnType = none) (hlocks : meth.locks = false) : ∀ (N : Nat) (σ : gx_St) (v1 v2 v3 v4 v5 : Int32) (hl_v2 : v2.toNatClampNeg < 2) (z : gx_St), fL_X3_markHeldBack_18 N σ v1 v2 v3 v4 v5 = some z → ∀ (H : Heap) (locs : List Loc) (ls : Array Slot), gx_H G 50 (gc_mk G) σ H → va_S (gx_A G) s.heap H locs → lv_has ls 8 [(0, .ref (gx_q G 0)), (1, .int v1), (2, .ref (gx_q G (44 + 1 * v2.toNatClampNeg))), (3, .int v3), (4, .int v4), (5, .int v5)] → W p l e rm_X3_markHeldBack s m args below meth c H locs 0 0 (MQ below (gx_QM G 50 (gc_mk G) none z) args s 0 0 (gx_A G)) (F0 m 18 ls []) := by
  have hx := C.1.1
  have hb := C.1.2.1
  intro N
  induction N with
  | zero =>
    intro σ v1 v2 v3 v4 v5 hl_v2 z hf H locs ls hH hS hl
    cases (show (none : Option gx_St) = some z from hf)
  | succ N ih =>
    intro σ v1 v2 v3 v4 v5 hl_v2 z hf H locs ls hH hS hl
    rw [fL_X3_markHeldBack_18] at hf
    refine lv_iload hx hb dX3_markHeldBack_18 (lv_at hl 5 rfl) ?_
    refine lv_bipush (v := (6 : Int32)) hx hb dX3_markHeldBack_20 (by decide) ?_
    refine lv_icmp_ge (tgt := 94) hx hb dX3_markHeldBack_22 (by decide) (fun hc4 => ?_) (fun hc4 => ?_)
    · have hf := gx_pos hc4 hf
      refine lv_iconst (v := (0 : Int32)) hx hb dX3_markHeldBack_94 (by decide) ?_
      refine lv_istore (lv' := [(5, .int (0 : Int32)), (0, .ref (gx_q G 0)), (1, .int v1), (2, .ref (gx_q G (44 + 1 * v2.toNatClampNeg))), (3, .int v3), (4, .int v4)]) hx hb dX3_markHeldBack_95 hl (by decide) rfl (fun ls hl => ?_)
      exact w_X3_markHeldBack_97 (l := l) G hG C hr hlocks 65 σ v3 (0 : Int32)  _ hf _ _ ls hH hS (lv_sub hl [1, 4, 0] rfl)
    · have hf := gx_neg hc4 hf
      refine lv_iload hx hb dX3_markHeldBack_25 (lv_at hl 4 rfl) ?_
      refine lv_iload_n hx hb dX3_markHeldBack_27 rfl (lv_at hl 3 rfl) ?_
      refine lv_icmp_ge (tgt := 94) hx hb dX3_markHeldBack_28 (by decide) (fun hc13 => ?_) (fun hc13 => ?_)
      · have hf := gx_pos hc13 hf
        refine lv_iconst (v := (0 : Int32)) hx hb dX3_markHeldBack_94 (by decide) ?_
        refine lv_istore (lv' := [(5, .int (0 : Int32)), (0, .ref (gx_q G 0)), (1, .int v1), (2, .ref (gx_q G (44 + 1 * v2.toNatClampNeg))), (3, .int v3), (4, .int v4)]) hx hb dX3_markHeldBack_95 hl (by decide) rfl (fun ls hl => ?_)
        exact w_X3_markHeldBack_97 (l := l) G hG C hr hlocks 65 σ v3 (0 : Int32)  _ hf _ _ ls hH hS (lv_sub hl [1, 4, 0] rfl)
      · have hf := gx_neg hc13 hf
        refine lv_aload_n hx hb dX3_markHeldBack_31 rfl (lv_at hl 0 rfl) ?_
        refine lv_aload_n hx hb dX3_markHeldBack_32 rfl (lv_at hl 0 rfl) ?_
        refine gx_get C hH 0 (by decide) rfl fl_X3_59 rfl dX3_markHeldBack_33 ?_
        refine lv_iload hx hb dX3_markHeldBack_36 (lv_at hl 5 rfl) ?_
        obtain ⟨hb14, hf⟩ := gx_chk hf
        obtain ⟨e15, he15⟩ : ∃ z : Int32, z = (σ 5 v5.toNatClampNeg) := ⟨_, rfl⟩
        have hf := gx_let hf e15 he15
        obtain ⟨hn16, hf⟩ := gx_chk hf
        obtain ⟨hl17, hf⟩ := gx_chk hf
        have hl17 := Nat.not_le.mp hl17
        refine gx_aaldR C hH 5 (by decide) 2 rfl rfl hb14 (gx_rfe he15 hn16) dX3_markHeldBack_38 ?_
        refine lv_iload_n hx hb dX3_markHeldBack_39 rfl (lv_at hl 1 rfl) ?_
        refine lv_aload_n hx hb dX3_markHeldBack_40 rfl (lv_at hl 2 rfl) ?_
        obtain ⟨r18, hr18, hf⟩ := gx_bnd hf
        refine gx_vR (v := (some (.int r18))) (rest := []) C hH hS 0 (by decide) rfl rfl [.ref (gx_q G (8 + 3 * e15.toNatClampNeg)), .int v1, .ref (gx_q G (44 + 1 * v2.toNatClampNeg))] (t_X3_lackAt l G σ e15 v1 v2 r18 hl17 hn16 hl_v2 hr18) lk_X3_279 ⟨rfl, rfl, Nat.le_of_ble_eq_true rfl, Nat.le_of_ble_eq_true rfl⟩ ⟨Nat.zero_le _, Nat.zero_le _⟩ hl.1 rfl (Nat.le_of_ble_eq_true rfl) dX3_markHeldBack_41 ?_
        refine gx_e0 (st := [.int r18]) ?_ rfl
        refine lv_istore (lv' := [(6, .int r18), (0, .ref (gx_q G 0)), (1, .int v1), (2, .ref (gx_q G (44 + 1 * v2.toNatClampNeg))), (3, .int v3), (4, .int v4), (5, .int v5)]) hx hb dX3_markHeldBack_44 hl (by decide) rfl (fun ls hl => ?_)
        refine lv_iconst (v := (0 : Int32)) hx hb dX3_markHeldBack_46 (by decide) ?_
        refine lv_istore (lv' := [(7, .int (0 : Int32)), (6, .int r18), (0, .ref (gx_q G 0)), (1, .int v1), (2, .ref (gx_q G (44 + 1 * v2.toNatClampNeg))), (3, .int v3), (4, .int v4), (5, .int v5)]) hx hb dX3_markHeldBack_47 hl (by decide) rfl (fun ls hl => ?_)
        refine w_X3_markHeldBack_49 (l := l) G hG C hr hlocks _ _ v1 v2 v3 v4 v5 r18 hl_v2 (fun σ24 H locs ls hf hH hS hl => ?_) 65 σ (0 : Int32) hf _ _ ls hH hS (lv_sub hl [2, 3, 4, 5, 6, 7, 1, 0] rfl)
        refine lv_iconst (v := (2 : Int32)) hx hb dX3_markHeldBack_82 (by decide) ?_
        refine lv_iload hx hb dX3_markHeldBack_83 (lv_at hl 4 rfl) ?_
        refine lv_imul hx hb dX3_markHeldBack_85 ?_
        refine lv_topi (fun x25 hx25 => ?_)
        have hf := gx_let hf x25 hx25
        refine lv_istore (lv' := [(4, .int x25), (0, .ref (gx_q G 0)), (1, .int v1), (2, .ref (gx_q G (44 + 1 * v2.toNatClampNeg))), (3, .int v3), (5, .int v5)]) hx hb dX3_markHeldBack_86 hl (by decide) rfl (fun ls hl => ?_)
        obtain ⟨x26, hx26⟩ : ∃ z : Int32, z = (v5 + (1 : Int32)) := ⟨_, rfl⟩
        have hf := gx_let hf x26 hx26
        refine lv_iinc (v := x26) (lv' := [(5, .int x26), (4, .int x25), (0, .ref (gx_q G 0)), (1, .int v1), (2, .ref (gx_q G (44 + 1 * v2.toNatClampNeg))), (3, .int v3)]) hx hb dX3_markHeldBack_88 hl (k := 5) rfl (by rw [hx26]; rfl) (by decide) rfl (fun ls hl => ?_)
        refine lv_goto (tgt := 18) hx hb dX3_markHeldBack_91 (by decide) ?_
        exact ih σ24 v1 v2 v3 x25 x26 hl_v2 _ hf _ _ ls hH hS (lv_sub hl [2, 3, 4, 5, 1, 0] rfl)
def f_X3_markHeldBack (σ : gx_St) (a1 a2 a3 : Int32) : Option gx_St :=
  (f_X3_rawAt σ a1 a2).bind fun r1 =>
  if ((0 : Int32) < 0 ∨ 64 ≤ (0 : Int32).toNatClampNeg) then none else
  gx_lt (gx_w2 σ (6) (0 : Int32).toNatClampNeg r1) fun σ3 =>
  fL_X3_markHeldBack_18 7 σ3 a1 a2 a3 (1 : Int32) (0 : Int32)
set_option maxHeartbeats 4000000 in
set_option maxRecDepth 100000 in
theorem t_X3_markHeldBack (l : Launch) (G : gx_G) (hG : gx_D G 50) (σ : gx_St) (a1 a2 a3 : Int32) (σ' : gx_St) (hl_a2 : a2.toNatClampNeg < 2) (hf : f_X3_markHeldBack σ a1 a2 a3 = some σ') : Met l yX3_markHeldBack (Cond.code yX3_markHeldBack cX3_markHeldBack 8 none :: wT) rm_X3_markHeldBack (va_Pc [.ref (gx_q G 0), .int a1, .ref (gx_q G (44 + 1 * a2.toNatClampNeg)), .int a3] (gx_S G 50 (gc_mk G) σ)) (gx_QM G 50 (gc_mk G) none σ') 0 0 (gx_A G) := by
  refine Met.ofW (cc := cX3_markHeldBack) (maxL := 8) (ret := none) (by decide) rfl ?_
  intro p e s m args below meth c s₁ B hml hv
  obtain ⟨rfl, hH, hE⟩ := hv
  have C := gx_C.of (G := G) B hml hE
  have hx := C.1.1
  have hb := C.1.2.1
  have hr := B.returns
  have hlocks := B.notSynchronized
  have hS : va_S (gx_A G) s.heap s.heap [] := va_S.rf
  have hl := lv_entry ([.ref (gx_q G 0), .int a1, .ref (gx_q G (44 + 1 * a2.toNatClampNeg)), .int a3]) (n := 8) (Nat.le_of_ble_eq_true rfl)
  rw [lg_entry_eq]
  generalize (lg_sl ([.ref (gx_q G 0), .int a1, .ref (gx_q G (44 + 1 * a2.toNatClampNeg)), .int a3]) ++ List.replicate (8 - (lg_sl ([.ref (gx_q G 0), .int a1, .ref (gx_q G (44 + 1 * a2.toNatClampNeg)), .int a3])).length) Slot.unset).toArray = ls at hl ⊢
  have hl : lv_has ls 8 [(0, .ref (gx_q G 0)), (1, .int a1), (2, .ref (gx_q G (44 + 1 * a2.toNatClampNeg))), (3, .int a3)] := hl
  unfold f_X3_markHeldBack at hf
  refine lv_aload_n hx hb dX3_markHeldBack_0 rfl (lv_at hl 0 rfl) ?_
  refine gx_get C hH 0 (by decide) rfl fl_X3_62 rfl dX3_markHeldBack_1 ?_
  refine lv_iconst (v := (0 : Int32)) hx hb dX3_markHeldBack_4 (by decide) ?_
  refine lv_aload_n hx hb dX3_markHeldBack_5 rfl (lv_at hl 0 rfl) ?_
  refine lv_iload_n hx hb dX3_markHeldBack_6 rfl (lv_at hl 1 rfl) ?_
  refine lv_aload_n hx hb dX3_markHeldBack_7 rfl (lv_at hl 2 rfl) ?_
  obtain ⟨r1, hr1, hf⟩ := gx_bnd hf
  refine gx_vR (v := (some (.int r1))) (rest := [.int (0 : Int32), .ref (gx_q G (6))]) C hH hS 0 (by decide) rfl rfl [.int a1, .ref (gx_q G (44 + 1 * a2.toNatClampNeg))] (t_X3_rawAt l G σ a1 a2 r1 hl_a2 hr1) lk_X3_204 ⟨rfl, rfl, Nat.le_of_ble_eq_true rfl, Nat.le_of_ble_eq_true rfl⟩ ⟨Nat.zero_le _, Nat.zero_le _⟩ hl.1 rfl (Nat.le_of_ble_eq_true rfl) dX3_markHeldBack_8 ?_
  refine gx_e0 (st := [.int r1, .int (0 : Int32), .ref (gx_q G (6))]) ?_ rfl
  obtain ⟨hb2, hf⟩ := gx_chk hf
  refine gx_iast C hG hH hS (6) (by decide) (fun _ => rfl) hb2 dX3_markHeldBack_11 (fun H locs σ3 hσ3 hH hS => ?_)
  have hf := gx_let hf σ3 hσ3
  refine lv_iconst (v := (1 : Int32)) hx hb dX3_markHeldBack_12 (by decide) ?_
  refine lv_istore (lv' := [(4, .int (1 : Int32)), (0, .ref (gx_q G 0)), (1, .int a1), (2, .ref (gx_q G (44 + 1 * a2.toNatClampNeg))), (3, .int a3)]) hx hb dX3_markHeldBack_13 hl (by decide) rfl (fun ls hl => ?_)
  refine lv_iconst (v := (0 : Int32)) hx hb dX3_markHeldBack_15 (by decide) ?_
  refine lv_istore (lv' := [(5, .int (0 : Int32)), (4, .int (1 : Int32)), (0, .ref (gx_q G 0)), (1, .int a1), (2, .ref (gx_q G (44 + 1 * a2.toNatClampNeg))), (3, .int a3)]) hx hb dX3_markHeldBack_16 hl (by decide) rfl (fun ls hl => ?_)
  exact w_X3_markHeldBack_18 (l := l) G hG C hr hlocks 7 σ3 a1 a2 a3 (1 : Int32) (0 : Int32) hl_a2 _ hf _ _ ls hH hS (lv_sub hl [2, 3, 4, 5, 1, 0] rfl)
abbrev rm_J6_bitCount_0f7a4 : Room := { frames := 0, cells := 0, slots := 0, locals := 0 }
def f_J6_bitCount_0f7a4 (a0 : Int32) : Option Int32 :=
  gx_lt (a0 - ((a0.toUInt32 >>> ((1 : Int32).toUInt32 &&& Int32.toUInt32 31)).toInt32 &&& (1431655765 : Int32))) fun x1 =>
  gx_lt ((x1 &&& (858993459 : Int32)) + ((x1.toUInt32 >>> ((2 : Int32).toUInt32 &&& Int32.toUInt32 31)).toInt32 &&& (858993459 : Int32))) fun x2 =>
  gx_lt ((x2 + (x2.toUInt32 >>> ((4 : Int32).toUInt32 &&& Int32.toUInt32 31)).toInt32) &&& (252645135 : Int32)) fun x3 =>
  gx_lt (x3 + (x3.toUInt32 >>> ((8 : Int32).toUInt32 &&& Int32.toUInt32 31)).toInt32) fun x4 =>
  gx_lt (x4 + (x4.toUInt32 >>> ((16 : Int32).toUInt32 &&& Int32.toUInt32 31)).toInt32) fun x5 =>
  some (x5 &&& (63 : Int32))
set_option maxHeartbeats 4000000 in
set_option maxRecDepth 100000 in
theorem t_J6_bitCount_0f7a4 (l : Launch) (G : gx_G) (σ : gx_St) (a0 : Int32) (r : Int32)  (hf : f_J6_bitCount_0f7a4 a0 = some r) : Met l yJ6_bitCount_0f7a4 (Cond.code yJ6_bitCount_0f7a4 cJ6_bitCount_0f7a4 1 (some .int) :: wT) rm_J6_bitCount_0f7a4 (va_Pc [.int a0] (gx_S G 50 (gc_mk G) σ)) (gx_QR (some (.int r))) 0 0 (fun _ => False) := by
  refine Met.ofW (cc := cJ6_bitCount_0f7a4) (maxL := 1) (ret := (some .int)) (by decide) rfl ?_
  intro p e s m args below meth c s₁ B hml hv
  obtain ⟨rfl, hH, hE⟩ := hv
  have C := gx_C.of (G := G) B hml hE
  have hx := C.1.1
  have hb := C.1.2.1
  have hr := B.returns
  have hlocks := B.notSynchronized
  have hS : va_S (gx_A G) s.heap s.heap [] := va_S.rf
  have hl := lv_entry ([.int a0]) (n := 1) (Nat.le_of_ble_eq_true rfl)
  rw [lg_entry_eq]
  generalize (lg_sl ([.int a0]) ++ List.replicate (1 - (lg_sl ([.int a0])).length) Slot.unset).toArray = ls at hl ⊢
  have hl : lv_has ls 1 [(0, .int a0)] := hl
  unfold f_J6_bitCount_0f7a4 at hf
  refine lv_iload_n hx hb dJ6_bitCount_0f7a4_0 rfl (lv_at hl 0 rfl) ?_
  refine lv_iload_n hx hb dJ6_bitCount_0f7a4_1 rfl (lv_at hl 0 rfl) ?_
  refine lv_iconst (v := (1 : Int32)) hx hb dJ6_bitCount_0f7a4_2 (by decide) ?_
  refine lv_iushr (v := (a0.toUInt32 >>> ((1 : Int32).toUInt32 &&& Int32.toUInt32 31)).toInt32) hx hb dJ6_bitCount_0f7a4_3 rfl ?_
  refine lv_ldcw hx hb C.1.2.2.2.1 (C.1.2.2.2.2 _ kw_451) dJ6_bitCount_0f7a4_4 ?_
  refine lv_iand hx hb dJ6_bitCount_0f7a4_7 ?_
  refine lv_isub hx hb dJ6_bitCount_0f7a4_8 ?_
  refine lv_topi (fun x1 hx1 => ?_)
  have hf := gx_let hf x1 hx1
  refine lv_istore_n (lv' := [(0, .int x1)]) hx hb dJ6_bitCount_0f7a4_9 rfl hl (by decide) rfl (fun ls hl => ?_)
  refine lv_iload_n hx hb dJ6_bitCount_0f7a4_10 rfl (lv_at hl 0 rfl) ?_
  refine lv_ldcw hx hb C.1.2.2.2.1 (C.1.2.2.2.2 _ kw_452) dJ6_bitCount_0f7a4_11 ?_
  refine lv_iand hx hb dJ6_bitCount_0f7a4_14 ?_
  refine lv_iload_n hx hb dJ6_bitCount_0f7a4_15 rfl (lv_at hl 0 rfl) ?_
  refine lv_iconst (v := (2 : Int32)) hx hb dJ6_bitCount_0f7a4_16 (by decide) ?_
  refine lv_iushr (v := (x1.toUInt32 >>> ((2 : Int32).toUInt32 &&& Int32.toUInt32 31)).toInt32) hx hb dJ6_bitCount_0f7a4_17 rfl ?_
  refine lv_ldcw hx hb C.1.2.2.2.1 (C.1.2.2.2.2 _ kw_452) dJ6_bitCount_0f7a4_18 ?_
  refine lv_iand hx hb dJ6_bitCount_0f7a4_21 ?_
  refine lv_iadd hx hb dJ6_bitCount_0f7a4_22 ?_
  refine lv_topi (fun x2 hx2 => ?_)
  have hf := gx_let hf x2 hx2
  refine lv_istore_n (lv' := [(0, .int x2)]) hx hb dJ6_bitCount_0f7a4_23 rfl hl (by decide) rfl (fun ls hl => ?_)
  refine lv_iload_n hx hb dJ6_bitCount_0f7a4_24 rfl (lv_at hl 0 rfl) ?_
  refine lv_iload_n hx hb dJ6_bitCount_0f7a4_25 rfl (lv_at hl 0 rfl) ?_
  refine lv_iconst (v := (4 : Int32)) hx hb dJ6_bitCount_0f7a4_26 (by decide) ?_
  refine lv_iushr (v := (x2.toUInt32 >>> ((4 : Int32).toUInt32 &&& Int32.toUInt32 31)).toInt32) hx hb dJ6_bitCount_0f7a4_27 rfl ?_
  refine lv_iadd hx hb dJ6_bitCount_0f7a4_28 ?_
  refine lv_ldcw hx hb C.1.2.2.2.1 (C.1.2.2.2.2 _ kw_453) dJ6_bitCount_0f7a4_29 ?_
  refine lv_iand hx hb dJ6_bitCount_0f7a4_32 ?_
  refine lv_topi (fun x3 hx3 => ?_)
  have hf := gx_let hf x3 hx3
  refine lv_istore_n (lv' := [(0, .int x3)]) hx hb dJ6_bitCount_0f7a4_33 rfl hl (by decide) rfl (fun ls hl => ?_)
  refine lv_iload_n hx hb dJ6_bitCount_0f7a4_34 rfl (lv_at hl 0 rfl) ?_
  refine lv_iload_n hx hb dJ6_bitCount_0f7a4_35 rfl (lv_at hl 0 rfl) ?_
  refine lv_bipush (v := (8 : Int32)) hx hb dJ6_bitCount_0f7a4_36 (by decide) ?_
  refine lv_iushr (v := (x3.toUInt32 >>> ((8 : Int32).toUInt32 &&& Int32.toUInt32 31)).toInt32) hx hb dJ6_bitCount_0f7a4_38 rfl ?_
  refine lv_iadd hx hb dJ6_bitCount_0f7a4_39 ?_
  refine lv_topi (fun x4 hx4 => ?_)
  have hf := gx_let hf x4 hx4
  refine lv_istore_n (lv' := [(0, .int x4)]) hx hb dJ6_bitCount_0f7a4_40 rfl hl (by decide) rfl (fun ls hl => ?_)
  refine lv_iload_n hx hb dJ6_bitCount_0f7a4_41 rfl (lv_at hl 0 rfl) ?_
  refine lv_iload_n hx hb dJ6_bitCount_0f7a4_42 rfl (lv_at hl 0 rfl) ?_
  refine lv_bipush (v := (16 : Int32)) hx hb dJ6_bitCount_0f7a4_43 (by decide) ?_
  refine lv_iushr (v := (x4.toUInt32 >>> ((16 : Int32).toUInt32 &&& Int32.toUInt32 31)).toInt32) hx hb dJ6_bitCount_0f7a4_45 rfl ?_
  refine lv_iadd hx hb dJ6_bitCount_0f7a4_46 ?_
  refine lv_topi (fun x5 hx5 => ?_)
  have hf := gx_let hf x5 hx5
  refine lv_istore_n (lv' := [(0, .int x5)]) hx hb dJ6_bitCount_0f7a4_47 rfl hl (by decide) rfl (fun ls hl => ?_)
  refine lv_iload_n hx hb dJ6_bitCount_0f7a4_48 rfl (lv_at hl 0 rfl) ?_
  refine lv_bipush (v := (63 : Int32)) hx hb dJ6_bitCount_0f7a4_49 (by decide) ?_
  refine lv_iand hx hb dJ6_bitCount_0f7a4_51 ?_
  obtain rfl := Option.some.inj hf
  exact gx_iretR C hr hlocks dJ6_bitCount_0f7a4_52
abbrev rm_X3_fewestNotHeldBack : Room := { frames := 1, cells := 0, slots := 0, locals := 20 }
def fL_X3_fewestNotHeldBack_5 : Nat → gx_St → Int32 → Int32 → Int32 → Option Int32
  | 0, _, _, _, _ => none
  | N + 1, σ, v1, v2, v3 =>
    if v1 ≤ v3 then (some v2) else (if v2 = (-9 : Int32) then (if (v3 < 0 ∨ 64 ≤ v3.toNatClampNeg) then none else
    if (σ (7) v3.toNatClampNeg) = 0 then (gx_lt (v3 + (1 : Int32)) fun x7 =>
    fL_X3_fewestNotHeldBack_5 N σ v1 v3 x7) else (gx_lt (v3 + (1 : Int32)) fun x5 =>
    fL_X3_fewestNotHeldBack_5 N σ v1 v2 x5)) else ((f_J6_bitCount_0f7a4 v3).bind fun r8 =>
    (f_J6_bitCount_0f7a4 v2).bind fun r9 =>
    if r9 ≤ r8 then (if (v3 < 0 ∨ 64 ≤ v3.toNatClampNeg) then none else
    if (σ (7) v3.toNatClampNeg) = 0 then (gx_lt (v3 + (1 : Int32)) fun x15 =>
    fL_X3_fewestNotHeldBack_5 N σ v1 v2 x15) else (gx_lt (v3 + (1 : Int32)) fun x13 =>
    fL_X3_fewestNotHeldBack_5 N σ v1 v2 x13)) else (if (v3 < 0 ∨ 64 ≤ v3.toNatClampNeg) then none else
    if (σ (7) v3.toNatClampNeg) = 0 then (gx_lt (v3 + (1 : Int32)) fun x20 =>
    fL_X3_fewestNotHeldBack_5 N σ v1 v3 x20) else (gx_lt (v3 + (1 : Int32)) fun x18 =>
    fL_X3_fewestNotHeldBack_5 N σ v1 v2 x18))))
set_option maxHeartbeats 4000000 in
set_option maxRecDepth 100000 in
theorem w_X3_fewestNotHeldBack_5 {p : Program} {l : Launch} {e : Env} {s : State} {m : MethodId} {args : Array Value} {below : List Frame} {meth : Method} {c : Code} (G : gx_G) (C : gx_C p m c cX3_fewestNotHeldBack 5 s args RX3 G) (hr : meth.sig.returnType = (some .int)) (hlocks : meth.locks = false) (σ : gx_St) (hH : gx_H G 50 (gc_mk G) σ s.heap) : ∀ (N : Nat) (v1 v2 v3 : Int32)  (z : Int32), fL_X3_fewestNotHeldBack_5 N σ v1 v2 v3 = some z → ∀ (ls : Array Slot), lv_has ls 5 [(0, .ref (gx_q G 0)), (1, .int v1), (2, .int v2), (3, .int v3)] → W p l e rm_X3_fewestNotHeldBack s m args below meth c s.heap [] 0 0 (MQ below (gx_QR (some (.int z))) args s 0 0 (fun _ => False)) (F0 m 5 ls []) := by
  have hx := C.1.1
  have hb := C.1.2.1
  have hS : va_S (gx_A G) s.heap s.heap [] := va_S.rf
  intro N
  induction N with
  | zero =>
    intro v1 v2 v3  z hf ls hl
    cases (show (none : Option Int32) = some z from hf)
  | succ N ih =>
    intro v1 v2 v3  z hf ls hl
    rw [fL_X3_fewestNotHeldBack_5] at hf
    refine lv_iload_n hx hb dX3_fewestNotHeldBack_5 rfl (lv_at hl 3 rfl) ?_
    refine lv_iload_n hx hb dX3_fewestNotHeldBack_6 rfl (lv_at hl 1 rfl) ?_
    refine lv_icmp_ge (tgt := 56) hx hb dX3_fewestNotHeldBack_7 (by decide) (fun hc1 => ?_) (fun hc1 => ?_)
    · have hf := gx_pos hc1 hf
      refine lv_iload_n hx hb dX3_fewestNotHeldBack_56 rfl (lv_at hl 2 rfl) ?_
      obtain rfl := Option.some.inj hf
      exact gx_iretR C hr hlocks dX3_fewestNotHeldBack_57
    · have hf := gx_neg hc1 hf
      refine lv_iload_n hx hb dX3_fewestNotHeldBack_10 rfl (lv_at hl 2 rfl) ?_
      refine lv_bipush (v := (-9 : Int32)) hx hb dX3_fewestNotHeldBack_11 (by decide) ?_
      refine lv_icmp_eq (tgt := 27) hx hb dX3_fewestNotHeldBack_13 (by decide) (fun hc2 => ?_) (fun hc2 => ?_)
      · have hf := gx_pos hc2 hf
        refine lv_iconst (v := (1 : Int32)) hx hb dX3_fewestNotHeldBack_27 (by decide) ?_
        refine lv_goto (tgt := 32) hx hb dX3_fewestNotHeldBack_28 (by decide) ?_
        refine lv_istore (lv' := [(4, .int (1 : Int32)), (0, .ref (gx_q G 0)), (1, .int v1), (2, .int v2), (3, .int v3)]) hx hb dX3_fewestNotHeldBack_32 hl (by decide) rfl (fun ls hl => ?_)
        refine lv_aload_n hx hb dX3_fewestNotHeldBack_34 rfl (lv_at hl 1 rfl) ?_
        refine gx_get C hH 0 (by decide) rfl fl_X3_66 rfl dX3_fewestNotHeldBack_35 ?_
        refine lv_iload_n hx hb dX3_fewestNotHeldBack_38 rfl (lv_at hl 4 rfl) ?_
        obtain ⟨hb3, hf⟩ := gx_chk hf
        refine gx_zald C hH (7) (by decide) rfl hb3 dX3_fewestNotHeldBack_39 ?_
        refine lv_if_ne (tgt := 50) hx hb dX3_fewestNotHeldBack_40 (by decide) (fun hc4 => ?_) (fun hc4 => ?_)
        · have hf := gx_neg hc4 hf
          obtain ⟨x5, hx5⟩ : ∃ z : Int32, z = (v3 + (1 : Int32)) := ⟨_, rfl⟩
          have hf := gx_let hf x5 hx5
          refine lv_iinc (v := x5) (lv' := [(3, .int x5), (4, .int (1 : Int32)), (0, .ref (gx_q G 0)), (1, .int v1), (2, .int v2)]) hx hb dX3_fewestNotHeldBack_50 hl (k := 4) rfl (by rw [hx5]; rfl) (by decide) rfl (fun ls hl => ?_)
          refine lv_goto (tgt := 5) hx hb dX3_fewestNotHeldBack_53 (by decide) ?_
          exact ih v1 v2 x5  _ hf ls (lv_sub hl [2, 3, 4, 0] rfl)
        · have hf := gx_pos hc4 hf
          refine lv_iload hx hb dX3_fewestNotHeldBack_43 (lv_at hl 0 rfl) ?_
          refine lv_if_eq (tgt := 50) hx hb dX3_fewestNotHeldBack_45 (by decide) (fun hc6 => absurd hc6 (by decide)) (fun hc6 => ?_)
          refine lv_iload_n hx hb dX3_fewestNotHeldBack_48 rfl (lv_at hl 4 rfl) ?_
          refine lv_istore_n (lv' := [(2, .int v3), (4, .int (1 : Int32)), (0, .ref (gx_q G 0)), (1, .int v1), (3, .int v3)]) hx hb dX3_fewestNotHeldBack_49 rfl hl (by decide) rfl (fun ls hl => ?_)
          obtain ⟨x7, hx7⟩ : ∃ z : Int32, z = (v3 + (1 : Int32)) := ⟨_, rfl⟩
          have hf := gx_let hf x7 hx7
          refine lv_iinc (v := x7) (lv' := [(3, .int x7), (2, .int v3), (4, .int (1 : Int32)), (0, .ref (gx_q G 0)), (1, .int v1)]) hx hb dX3_fewestNotHeldBack_50 hl (k := 4) rfl (by rw [hx7]; rfl) (by decide) rfl (fun ls hl => ?_)
          refine lv_goto (tgt := 5) hx hb dX3_fewestNotHeldBack_53 (by decide) ?_
          exact ih v1 v3 x7  _ hf ls (lv_sub hl [3, 4, 1, 0] rfl)
      · have hf := gx_neg hc2 hf
        refine lv_iload_n hx hb dX3_fewestNotHeldBack_16 rfl (lv_at hl 3 rfl) ?_
        obtain ⟨r8, hr8, hf⟩ := gx_bnd hf
        refine gx_sR (v := (some (.int r8))) (rest := []) C hH hS [.int v3] (t_J6_bitCount_0f7a4 l G σ v3 r8  hr8) lk_X3_283 ⟨rfl, rfl, Nat.le_of_ble_eq_true rfl, Nat.le_of_ble_eq_true rfl⟩ ⟨Nat.zero_le _, Nat.zero_le _⟩ hl.1 rfl (Nat.le_of_ble_eq_true rfl) dX3_fewestNotHeldBack_17 ?_
        refine gx_e0 (st := [.int r8]) ?_ rfl
        refine lv_iload_n hx hb dX3_fewestNotHeldBack_20 rfl (lv_at hl 2 rfl) ?_
        obtain ⟨r9, hr9, hf⟩ := gx_bnd hf
        refine gx_sR (v := (some (.int r9))) (rest := [.int r8]) C hH hS [.int v2] (t_J6_bitCount_0f7a4 l G σ v2 r9  hr9) lk_X3_283 ⟨rfl, rfl, Nat.le_of_ble_eq_true rfl, Nat.le_of_ble_eq_true rfl⟩ ⟨Nat.zero_le _, Nat.zero_le _⟩ hl.1 rfl (Nat.le_of_ble_eq_true rfl) dX3_fewestNotHeldBack_21 ?_
        refine gx_e0 (st := [.int r9, .int r8]) ?_ rfl
        refine lv_icmp_ge (tgt := 31) hx hb dX3_fewestNotHeldBack_24 (by decide) (fun hc10 => ?_) (fun hc10 => ?_)
        · have hf := gx_pos hc10 hf
          refine lv_iconst (v := (0 : Int32)) hx hb dX3_fewestNotHeldBack_31 (by decide) ?_
          refine lv_istore (lv' := [(4, .int (0 : Int32)), (0, .ref (gx_q G 0)), (1, .int v1), (2, .int v2), (3, .int v3)]) hx hb dX3_fewestNotHeldBack_32 hl (by decide) rfl (fun ls hl => ?_)
          refine lv_aload_n hx hb dX3_fewestNotHeldBack_34 rfl (lv_at hl 1 rfl) ?_
          refine gx_get C hH 0 (by decide) rfl fl_X3_66 rfl dX3_fewestNotHeldBack_35 ?_
          refine lv_iload_n hx hb dX3_fewestNotHeldBack_38 rfl (lv_at hl 4 rfl) ?_
          obtain ⟨hb11, hf⟩ := gx_chk hf
          refine gx_zald C hH (7) (by decide) rfl hb11 dX3_fewestNotHeldBack_39 ?_
          refine lv_if_ne (tgt := 50) hx hb dX3_fewestNotHeldBack_40 (by decide) (fun hc12 => ?_) (fun hc12 => ?_)
          · have hf := gx_neg hc12 hf
            obtain ⟨x13, hx13⟩ : ∃ z : Int32, z = (v3 + (1 : Int32)) := ⟨_, rfl⟩
            have hf := gx_let hf x13 hx13
            refine lv_iinc (v := x13) (lv' := [(3, .int x13), (4, .int (0 : Int32)), (0, .ref (gx_q G 0)), (1, .int v1), (2, .int v2)]) hx hb dX3_fewestNotHeldBack_50 hl (k := 4) rfl (by rw [hx13]; rfl) (by decide) rfl (fun ls hl => ?_)
            refine lv_goto (tgt := 5) hx hb dX3_fewestNotHeldBack_53 (by decide) ?_
            exact ih v1 v2 x13  _ hf ls (lv_sub hl [2, 3, 4, 0] rfl)
          · have hf := gx_pos hc12 hf
            refine lv_iload hx hb dX3_fewestNotHeldBack_43 (lv_at hl 0 rfl) ?_
            refine lv_if_eq (tgt := 50) hx hb dX3_fewestNotHeldBack_45 (by decide) (fun hc14 => ?_) (fun hc14 => absurd hc14 (by decide))
            obtain ⟨x15, hx15⟩ : ∃ z : Int32, z = (v3 + (1 : Int32)) := ⟨_, rfl⟩
            have hf := gx_let hf x15 hx15
            refine lv_iinc (v := x15) (lv' := [(3, .int x15), (4, .int (0 : Int32)), (0, .ref (gx_q G 0)), (1, .int v1), (2, .int v2)]) hx hb dX3_fewestNotHeldBack_50 hl (k := 4) rfl (by rw [hx15]; rfl) (by decide) rfl (fun ls hl => ?_)
            refine lv_goto (tgt := 5) hx hb dX3_fewestNotHeldBack_53 (by decide) ?_
            exact ih v1 v2 x15  _ hf ls (lv_sub hl [2, 3, 4, 0] rfl)
        · have hf := gx_neg hc10 hf
          refine lv_iconst (v := (1 : Int32)) hx hb dX3_fewestNotHeldBack_27 (by decide) ?_
          refine lv_goto (tgt := 32) hx hb dX3_fewestNotHeldBack_28 (by decide) ?_
          refine lv_istore (lv' := [(4, .int (1 : Int32)), (0, .ref (gx_q G 0)), (1, .int v1), (2, .int v2), (3, .int v3)]) hx hb dX3_fewestNotHeldBack_32 hl (by decide) rfl (fun ls hl => ?_)
          refine lv_aload_n hx hb dX3_fewestNotHeldBack_34 rfl (lv_at hl 1 rfl) ?_
          refine gx_get C hH 0 (by decide) rfl fl_X3_66 rfl dX3_fewestNotHeldBack_35 ?_
          refine lv_iload_n hx hb dX3_fewestNotHeldBack_38 rfl (lv_at hl 4 rfl) ?_
          obtain ⟨hb16, hf⟩ := gx_chk hf
          refine gx_zald C hH (7) (by decide) rfl hb16 dX3_fewestNotHeldBack_39 ?_
          refine lv_if_ne (tgt := 50) hx hb dX3_fewestNotHeldBack_40 (by decide) (fun hc17 => ?_) (fun hc17 => ?_)
          · have hf := gx_neg hc17 hf
            obtain ⟨x18, hx18⟩ : ∃ z : Int32, z = (v3 + (1 : Int32)) := ⟨_, rfl⟩
            have hf := gx_let hf x18 hx18
            refine lv_iinc (v := x18) (lv' := [(3, .int x18), (4, .int (1 : Int32)), (0, .ref (gx_q G 0)), (1, .int v1), (2, .int v2)]) hx hb dX3_fewestNotHeldBack_50 hl (k := 4) rfl (by rw [hx18]; rfl) (by decide) rfl (fun ls hl => ?_)
            refine lv_goto (tgt := 5) hx hb dX3_fewestNotHeldBack_53 (by decide) ?_
            exact ih v1 v2 x18  _ hf ls (lv_sub hl [2, 3, 4, 0] rfl)
          · have hf := gx_pos hc17 hf
            refine lv_iload hx hb dX3_fewestNotHeldBack_43 (lv_at hl 0 rfl) ?_
            refine lv_if_eq (tgt := 50) hx hb dX3_fewestNotHeldBack_45 (by decide) (fun hc19 => absurd hc19 (by decide)) (fun hc19 => ?_)
            refine lv_iload_n hx hb dX3_fewestNotHeldBack_48 rfl (lv_at hl 4 rfl) ?_
            refine lv_istore_n (lv' := [(2, .int v3), (4, .int (1 : Int32)), (0, .ref (gx_q G 0)), (1, .int v1), (3, .int v3)]) hx hb dX3_fewestNotHeldBack_49 rfl hl (by decide) rfl (fun ls hl => ?_)
            obtain ⟨x20, hx20⟩ : ∃ z : Int32, z = (v3 + (1 : Int32)) := ⟨_, rfl⟩
            have hf := gx_let hf x20 hx20
            refine lv_iinc (v := x20) (lv' := [(3, .int x20), (2, .int v3), (4, .int (1 : Int32)), (0, .ref (gx_q G 0)), (1, .int v1)]) hx hb dX3_fewestNotHeldBack_50 hl (k := 4) rfl (by rw [hx20]; rfl) (by decide) rfl (fun ls hl => ?_)
            refine lv_goto (tgt := 5) hx hb dX3_fewestNotHeldBack_53 (by decide) ?_
            exact ih v1 v3 x20  _ hf ls (lv_sub hl [3, 4, 1, 0] rfl)
def f_X3_fewestNotHeldBack (σ : gx_St) (a1 : Int32) : Option Int32 :=
  fL_X3_fewestNotHeldBack_5 65 σ a1 (-9 : Int32) (0 : Int32)
set_option maxHeartbeats 4000000 in
set_option maxRecDepth 100000 in
theorem t_X3_fewestNotHeldBack (l : Launch) (G : gx_G) (σ : gx_St) (a1 : Int32) (r : Int32)  (hf : f_X3_fewestNotHeldBack σ a1 = some r) : Met l yX3_fewestNotHeldBack (Cond.code yX3_fewestNotHeldBack cX3_fewestNotHeldBack 5 (some .int) :: wT) rm_X3_fewestNotHeldBack (va_Pc [.ref (gx_q G 0), .int a1] (gx_S G 50 (gc_mk G) σ)) (gx_QR (some (.int r))) 0 0 (fun _ => False) := by
  refine Met.ofW (cc := cX3_fewestNotHeldBack) (maxL := 5) (ret := (some .int)) (by decide) rfl ?_
  intro p e s m args below meth c s₁ B hml hv
  obtain ⟨rfl, hH, hE⟩ := hv
  have C := gx_C.of (G := G) B hml hE
  have hx := C.1.1
  have hb := C.1.2.1
  have hr := B.returns
  have hlocks := B.notSynchronized
  have hS : va_S (gx_A G) s.heap s.heap [] := va_S.rf
  have hl := lv_entry ([.ref (gx_q G 0), .int a1]) (n := 5) (Nat.le_of_ble_eq_true rfl)
  rw [lg_entry_eq]
  generalize (lg_sl ([.ref (gx_q G 0), .int a1]) ++ List.replicate (5 - (lg_sl ([.ref (gx_q G 0), .int a1])).length) Slot.unset).toArray = ls at hl ⊢
  have hl : lv_has ls 5 [(0, .ref (gx_q G 0)), (1, .int a1)] := hl
  unfold f_X3_fewestNotHeldBack at hf
  refine lv_bipush (v := (-9 : Int32)) hx hb dX3_fewestNotHeldBack_0 (by decide) ?_
  refine lv_istore_n (lv' := [(2, .int (-9 : Int32)), (0, .ref (gx_q G 0)), (1, .int a1)]) hx hb dX3_fewestNotHeldBack_2 rfl hl (by decide) rfl (fun ls hl => ?_)
  refine lv_iconst (v := (0 : Int32)) hx hb dX3_fewestNotHeldBack_3 (by decide) ?_
  refine lv_istore_n (lv' := [(3, .int (0 : Int32)), (2, .int (-9 : Int32)), (0, .ref (gx_q G 0)), (1, .int a1)]) hx hb dX3_fewestNotHeldBack_4 rfl hl (by decide) rfl (fun ls hl => ?_)
  exact w_X3_fewestNotHeldBack_5 (l := l) G C hr hlocks σ hH 65 a1 (-9 : Int32) (0 : Int32)  _ hf ls (lv_sub hl [2, 3, 1, 0] rfl)
abbrev rm_X3_asEffects : Room := { frames := 0, cells := 0, slots := 0, locals := 0 }
def fL_X3_asEffects_5 : Nat → gx_St → Int32 → Int32 → Int32 → Int32 → Option Int32
  | 0, _, _, _, _, _ => none
  | N + 1, σ, v1, v2, v3, v4 =>
    if v2 ≤ v4 then (some v3) else (if (v4 < 0 ∨ 6 ≤ v4.toNatClampNeg) then none else
    gx_lt (σ 5 v4.toNatClampNeg) fun e3 =>
    if e3 = -9 then (gx_lt (v4 + (1 : Int32)) fun x6 =>
    fL_X3_asEffects_5 N σ v1 v2 v3 x6) else if 12 ≤ e3.toNatClampNeg then none else (if ((v1 >>> (v4 &&& 31)) &&& (1 : Int32)) = (1 : Int32) then (gx_lt (v3 ||| ((1 : Int32) <<< ((σ (8 + 3 * e3.toNatClampNeg) 0) &&& 31))) fun x9 =>
    gx_lt (v4 + (1 : Int32)) fun x10 =>
    fL_X3_asEffects_5 N σ v1 v2 x9 x10) else (gx_lt (v4 + (1 : Int32)) fun x8 =>
    fL_X3_asEffects_5 N σ v1 v2 v3 x8)))
set_option maxHeartbeats 4000000 in
set_option maxRecDepth 100000 in
theorem w_X3_asEffects_5 {p : Program} {l : Launch} {e : Env} {s : State} {m : MethodId} {args : Array Value} {below : List Frame} {meth : Method} {c : Code} (G : gx_G) (C : gx_C p m c cX3_asEffects 6 s args RX3 G) (hr : meth.sig.returnType = (some .int)) (hlocks : meth.locks = false) (σ : gx_St) (hH : gx_H G 50 (gc_mk G) σ s.heap) : ∀ (N : Nat) (v1 v2 v3 v4 : Int32)  (z : Int32), fL_X3_asEffects_5 N σ v1 v2 v3 v4 = some z → ∀ (ls : Array Slot), lv_has ls 6 [(0, .ref (gx_q G 0)), (1, .int v1), (2, .int v2), (3, .int v3), (4, .int v4)] → W p l e rm_X3_asEffects s m args below meth c s.heap [] 0 0 (MQ below (gx_QR (some (.int z))) args s 0 0 (fun _ => False)) (F0 m 5 ls []) := by
  have hx := C.1.1
  have hb := C.1.2.1
  have hS : va_S (gx_A G) s.heap s.heap [] := va_S.rf
  intro N
  induction N with
  | zero =>
    intro v1 v2 v3 v4  z hf ls hl
    cases (show (none : Option Int32) = some z from hf)
  | succ N ih =>
    intro v1 v2 v3 v4  z hf ls hl
    rw [fL_X3_asEffects_5] at hf
    refine lv_iload hx hb dX3_asEffects_5 (lv_at hl 4 rfl) ?_
    refine lv_iload_n hx hb dX3_asEffects_7 rfl (lv_at hl 2 rfl) ?_
    refine lv_icmp_ge (tgt := 51) hx hb dX3_asEffects_8 (by decide) (fun hc1 => ?_) (fun hc1 => ?_)
    · have hf := gx_pos hc1 hf
      refine lv_iload_n hx hb dX3_asEffects_51 rfl (lv_at hl 3 rfl) ?_
      obtain rfl := Option.some.inj hf
      exact gx_iretR C hr hlocks dX3_asEffects_52
    · have hf := gx_neg hc1 hf
      refine lv_aload_n hx hb dX3_asEffects_11 rfl (lv_at hl 0 rfl) ?_
      refine gx_get C hH 0 (by decide) rfl fl_X3_59 rfl dX3_asEffects_12 ?_
      refine lv_iload hx hb dX3_asEffects_15 (lv_at hl 4 rfl) ?_
      obtain ⟨hb2, hf⟩ := gx_chk hf
      obtain ⟨e3, he3⟩ : ∃ z : Int32, z = (σ 5 v4.toNatClampNeg) := ⟨_, rfl⟩
      have hf := gx_let hf e3 he3
      by_cases hn4 : e3 = -9
      · have hf := gx_pos hn4 hf
        refine gx_aaldN C hH 5 (by decide) 2 rfl rfl hb2 (gx_rf_n (he3.symm.trans hn4)) dX3_asEffects_17 ?_
        refine lv_astoreN (lv' := [(5, .null), (0, .ref (gx_q G 0)), (1, .int v1), (2, .int v2), (3, .int v3), (4, .int v4)]) hx hb dX3_asEffects_18 hl (by decide) rfl (fun ls hl => ?_)
        refine lv_aloadN hx hb dX3_asEffects_20 (lv_at hl 0 rfl) ?_
        refine lv_ifnullN (tgt := 45) hx hb dX3_asEffects_22 (by decide) ?_
        obtain ⟨x6, hx6⟩ : ∃ z : Int32, z = (v4 + (1 : Int32)) := ⟨_, rfl⟩
        have hf := gx_let hf x6 hx6
        refine lv_iinc (v := x6) (lv' := [(4, .int x6), (5, .null), (0, .ref (gx_q G 0)), (1, .int v1), (2, .int v2), (3, .int v3)]) hx hb dX3_asEffects_45 hl (k := 5) rfl (by rw [hx6]; rfl) (by decide) rfl (fun ls hl => ?_)
        refine lv_goto (tgt := 5) hx hb dX3_asEffects_48 (by decide) ?_
        exact ih v1 v2 v3 x6  _ hf ls (lv_sub hl [2, 3, 4, 5, 0] rfl)
      · have hf := gx_neg hn4 hf
        obtain ⟨hl5, hf⟩ := gx_chk hf
        have hl5 := Nat.not_le.mp hl5
        refine gx_aaldR C hH 5 (by decide) 2 rfl rfl hb2 (gx_rfe he3 hn4) dX3_asEffects_17 ?_
        refine lv_astore (lv' := [(5, .ref (gx_q G (8 + 3 * e3.toNatClampNeg))), (0, .ref (gx_q G 0)), (1, .int v1), (2, .int v2), (3, .int v3), (4, .int v4)]) hx hb dX3_asEffects_18 hl (by decide) rfl (fun ls hl => ?_)
        refine lv_aload hx hb dX3_asEffects_20 (lv_at hl 0 rfl) ?_
        refine lv_ifnull hx hb dX3_asEffects_22 ?_
        refine lv_iload_n hx hb dX3_asEffects_25 rfl (lv_at hl 2 rfl) ?_
        refine lv_iload hx hb dX3_asEffects_26 (lv_at hl 5 rfl) ?_
        refine lv_ishr hx hb dX3_asEffects_28 ?_
        refine lv_iconst (v := (1 : Int32)) hx hb dX3_asEffects_29 (by decide) ?_
        refine lv_iand hx hb dX3_asEffects_30 ?_
        refine lv_iconst (v := (1 : Int32)) hx hb dX3_asEffects_31 (by decide) ?_
        refine lv_icmp_ne (tgt := 45) hx hb dX3_asEffects_32 (by decide) (fun hc7 => ?_) (fun hc7 => ?_)
        · have hf := gx_neg hc7 hf
          obtain ⟨x8, hx8⟩ : ∃ z : Int32, z = (v4 + (1 : Int32)) := ⟨_, rfl⟩
          have hf := gx_let hf x8 hx8
          refine lv_iinc (v := x8) (lv' := [(4, .int x8), (5, .ref (gx_q G (8 + 3 * e3.toNatClampNeg))), (0, .ref (gx_q G 0)), (1, .int v1), (2, .int v2), (3, .int v3)]) hx hb dX3_asEffects_45 hl (k := 5) rfl (by rw [hx8]; rfl) (by decide) rfl (fun ls hl => ?_)
          refine lv_goto (tgt := 5) hx hb dX3_asEffects_48 (by decide) ?_
          exact ih v1 v2 v3 x8  _ hf ls (lv_sub hl [2, 3, 4, 5, 0] rfl)
        · have hf := gx_pos hc7 hf
          refine lv_iload_n hx hb dX3_asEffects_35 rfl (lv_at hl 4 rfl) ?_
          refine lv_iconst (v := (1 : Int32)) hx hb dX3_asEffects_36 (by decide) ?_
          refine lv_aload hx hb dX3_asEffects_37 (lv_at hl 0 rfl) ?_
          refine gx_get C hH (8 + 3 * e3.toNatClampNeg) (gc_ke hl5) (gc_e _ hl5) fl_X3_147 rfl dX3_asEffects_39 ?_
          refine lv_ishl hx hb dX3_asEffects_42 ?_
          refine lv_ior hx hb dX3_asEffects_43 ?_
          refine lv_topi (fun x9 hx9 => ?_)
          have hf := gx_let hf x9 hx9
          refine lv_istore_n (lv' := [(3, .int x9), (5, .ref (gx_q G (8 + 3 * e3.toNatClampNeg))), (0, .ref (gx_q G 0)), (1, .int v1), (2, .int v2), (4, .int v4)]) hx hb dX3_asEffects_44 rfl hl (by decide) rfl (fun ls hl => ?_)
          obtain ⟨x10, hx10⟩ : ∃ z : Int32, z = (v4 + (1 : Int32)) := ⟨_, rfl⟩
          have hf := gx_let hf x10 hx10
          refine lv_iinc (v := x10) (lv' := [(4, .int x10), (3, .int x9), (5, .ref (gx_q G (8 + 3 * e3.toNatClampNeg))), (0, .ref (gx_q G 0)), (1, .int v1), (2, .int v2)]) hx hb dX3_asEffects_45 hl (k := 5) rfl (by rw [hx10]; rfl) (by decide) rfl (fun ls hl => ?_)
          refine lv_goto (tgt := 5) hx hb dX3_asEffects_48 (by decide) ?_
          exact ih v1 v2 x9 x10  _ hf ls (lv_sub hl [3, 4, 5, 1, 0] rfl)
def f_X3_asEffects (σ : gx_St) (a1 a2 : Int32) : Option Int32 :=
  fL_X3_asEffects_5 7 σ a1 a2 (0 : Int32) (0 : Int32)
set_option maxHeartbeats 4000000 in
set_option maxRecDepth 100000 in
theorem t_X3_asEffects (l : Launch) (G : gx_G) (σ : gx_St) (a1 a2 : Int32) (r : Int32)  (hf : f_X3_asEffects σ a1 a2 = some r) : Met l yX3_asEffects (Cond.code yX3_asEffects cX3_asEffects 6 (some .int) :: wT) rm_X3_asEffects (va_Pc [.ref (gx_q G 0), .int a1, .int a2] (gx_S G 50 (gc_mk G) σ)) (gx_QR (some (.int r))) 0 0 (fun _ => False) := by
  refine Met.ofW (cc := cX3_asEffects) (maxL := 6) (ret := (some .int)) (by decide) rfl ?_
  intro p e s m args below meth c s₁ B hml hv
  obtain ⟨rfl, hH, hE⟩ := hv
  have C := gx_C.of (G := G) B hml hE
  have hx := C.1.1
  have hb := C.1.2.1
  have hr := B.returns
  have hlocks := B.notSynchronized
  have hS : va_S (gx_A G) s.heap s.heap [] := va_S.rf
  have hl := lv_entry ([.ref (gx_q G 0), .int a1, .int a2]) (n := 6) (Nat.le_of_ble_eq_true rfl)
  rw [lg_entry_eq]
  generalize (lg_sl ([.ref (gx_q G 0), .int a1, .int a2]) ++ List.replicate (6 - (lg_sl ([.ref (gx_q G 0), .int a1, .int a2])).length) Slot.unset).toArray = ls at hl ⊢
  have hl : lv_has ls 6 [(0, .ref (gx_q G 0)), (1, .int a1), (2, .int a2)] := hl
  unfold f_X3_asEffects at hf
  refine lv_iconst (v := (0 : Int32)) hx hb dX3_asEffects_0 (by decide) ?_
  refine lv_istore_n (lv' := [(3, .int (0 : Int32)), (0, .ref (gx_q G 0)), (1, .int a1), (2, .int a2)]) hx hb dX3_asEffects_1 rfl hl (by decide) rfl (fun ls hl => ?_)
  refine lv_iconst (v := (0 : Int32)) hx hb dX3_asEffects_2 (by decide) ?_
  refine lv_istore (lv' := [(4, .int (0 : Int32)), (3, .int (0 : Int32)), (0, .ref (gx_q G 0)), (1, .int a1), (2, .int a2)]) hx hb dX3_asEffects_3 hl (by decide) rfl (fun ls hl => ?_)
  exact w_X3_asEffects_5 (l := l) G C hr hlocks σ hH 7 a1 a2 (0 : Int32) (0 : Int32)  _ hf ls (lv_sub hl [2, 3, 4, 1, 0] rfl)
abbrev rm_X3_quiet : Room := { frames := 6, cells := 0, slots := 0, locals := 143 }
def fL_X3_quiet_59 : Nat → gx_St → Int32 → Int32 → Int32 → Int32 → Option (Int32 × gx_St)
  | 0, _, _, _, _, _ => none
  | N + 1, σ, v2, v3, v4, v5 =>
    if v4 ≤ v5 then ((f_X3_fewestNotHeldBack σ v3).bind fun r10 =>
    if r10 = (-9 : Int32) then (some ((-9 : Int32), σ)) else ((f_X3_asEffects σ r10 v2).bind fun r12 =>
    some (r12, σ))) else (if ((0 : Int32) < 0 ∨ 2 ≤ (0 : Int32).toNatClampNeg) then none else
    (f_X3_markHeldBack σ v5 (0 : Int32) v3).bind fun σ16 =>
    if ((1 : Int32) < 0 ∨ 2 ≤ (1 : Int32).toNatClampNeg) then none else
    (f_X3_markHeldBack σ16 v5 (1 : Int32) v3).bind fun σ21 =>
    gx_lt (v5 + (1 : Int32)) fun x23 =>
    fL_X3_quiet_59 N σ21 v2 v3 v4 x23)
set_option maxHeartbeats 4000000 in
set_option maxRecDepth 100000 in
theorem w_X3_quiet_59 {p : Program} {l : Launch} {e : Env} {s : State} {m : MethodId} {args : Array Value} {below : List Frame} {meth : Method} {c : Code} (G : gx_G) (hG : gx_D G 50) (C : gx_C p m c cX3_quiet 6 s args RX3 G) (hr : meth.sig.returnType = (some .int)) (hlocks : meth.locks = false) : ∀ (N : Nat) (σ : gx_St) (v2 v3 v4 v5 : Int32)  (z : (Int32 × gx_St)), fL_X3_quiet_59 N σ v2 v3 v4 v5 = some z → ∀ (H : Heap) (locs : List Loc) (ls : Array Slot), gx_H G 50 (gc_mk G) σ H → va_S (gx_A G) s.heap H locs → lv_has ls 6 [(0, .ref (gx_q G 0)), (2, .int v2), (3, .int v3), (4, .int v4), (5, .int v5)] → W p l e rm_X3_quiet s m args below meth c H locs 0 0 (MQ below (gx_QM G 50 (gc_mk G) (some (.int z.1)) z.2) args s 0 0 (gx_A G)) (F0 m 59 ls []) := by
  have hx := C.1.1
  have hb := C.1.2.1
  intro N
  induction N with
  | zero =>
    intro σ v2 v3 v4 v5  z hf H locs ls hH hS hl
    cases (show (none : Option (Int32 × gx_St)) = some z from hf)
  | succ N ih =>
    intro σ v2 v3 v4 v5  z hf H locs ls hH hS hl
    rw [fL_X3_quiet_59] at hf
    refine lv_iload hx hb dX3_quiet_59 (lv_at hl 4 rfl) ?_
    refine lv_iload hx hb dX3_quiet_61 (lv_at hl 3 rfl) ?_
    refine lv_icmp_ge (tgt := 98) hx hb dX3_quiet_63 (by decide) (fun hc9 => ?_) (fun hc9 => ?_)
    · have hf := gx_pos hc9 hf
      refine lv_aload_n hx hb dX3_quiet_98 rfl (lv_at hl 0 rfl) ?_
      refine lv_iload_n hx hb dX3_quiet_99 rfl (lv_at hl 2 rfl) ?_
      obtain ⟨r10, hr10, hf⟩ := gx_bnd hf
      refine gx_vR (v := (some (.int r10))) (rest := []) C hH hS 0 (by decide) rfl rfl [.int v3] (t_X3_fewestNotHeldBack l G σ v3 r10  hr10) lk_X3_235 ⟨rfl, rfl, Nat.le_of_ble_eq_true rfl, Nat.le_of_ble_eq_true rfl⟩ ⟨Nat.zero_le _, Nat.zero_le _⟩ hl.1 rfl (Nat.le_of_ble_eq_true rfl) dX3_quiet_100 ?_
      refine gx_e0 (st := [.int r10]) ?_ rfl
      refine lv_istore (lv' := [(5, .int r10), (0, .ref (gx_q G 0)), (2, .int v2), (3, .int v3), (4, .int v4)]) hx hb dX3_quiet_103 hl (by decide) rfl (fun ls hl => ?_)
      refine lv_iload hx hb dX3_quiet_105 (lv_at hl 0 rfl) ?_
      refine lv_bipush (v := (-9 : Int32)) hx hb dX3_quiet_107 (by decide) ?_
      refine lv_icmp_ne (tgt := 117) hx hb dX3_quiet_109 (by decide) (fun hc11 => ?_) (fun hc11 => ?_)
      · have hf := gx_neg hc11 hf
        refine lv_aload_n hx hb dX3_quiet_117 rfl (lv_at hl 1 rfl) ?_
        refine lv_iload hx hb dX3_quiet_118 (lv_at hl 0 rfl) ?_
        refine lv_iload_n hx hb dX3_quiet_120 rfl (lv_at hl 2 rfl) ?_
        obtain ⟨r12, hr12, hf⟩ := gx_bnd hf
        refine gx_vR (v := (some (.int r12))) (rest := []) C hH hS 0 (by decide) rfl rfl [.int r10, .int v2] (t_X3_asEffects l G σ r10 v2 r12  hr12) lk_X3_238 ⟨rfl, rfl, Nat.le_of_ble_eq_true rfl, Nat.le_of_ble_eq_true rfl⟩ ⟨Nat.zero_le _, Nat.zero_le _⟩ hl.1 rfl (Nat.le_of_ble_eq_true rfl) dX3_quiet_121 ?_
        refine gx_e0 (st := [.int r12]) ?_ rfl
        cases hf
        exact gx_iretM C hr hlocks hH hS dX3_quiet_124
      · have hf := gx_pos hc11 hf
        refine lv_bipush (v := (-9 : Int32)) hx hb dX3_quiet_112 (by decide) ?_
        refine lv_goto (tgt := 124) hx hb dX3_quiet_114 (by decide) ?_
        cases hf
        exact gx_iretM C hr hlocks hH hS dX3_quiet_124
    · have hf := gx_neg hc9 hf
      refine lv_aload_n hx hb dX3_quiet_66 rfl (lv_at hl 0 rfl) ?_
      refine lv_iload hx hb dX3_quiet_67 (lv_at hl 4 rfl) ?_
      refine lv_aload_n hx hb dX3_quiet_69 rfl (lv_at hl 0 rfl) ?_
      refine gx_get C hH 0 (by decide) rfl fl_X3_27 rfl dX3_quiet_70 ?_
      refine lv_iconst (v := (0 : Int32)) hx hb dX3_quiet_73 (by decide) ?_
      obtain ⟨hb13, hf⟩ := gx_chk hf
      have hl14 := gx_lt12 hb13
      have hn15 := gx_ne9 hb13
      refine gx_aaldR C hH 3 (by decide) 3 rfl rfl hb13 rfl dX3_quiet_74 ?_
      refine lv_iload_n hx hb dX3_quiet_75 rfl (lv_at hl 2 rfl) ?_
      obtain ⟨σ16, hr17, hf⟩ := gx_bnd hf
      refine gx_vM (v := none) (rest := []) C hH hS 0 (by decide) rfl rfl [.int v5, .ref (gx_q G (44 + 1 * (0 : Int32).toNatClampNeg)), .int v3] (t_X3_markHeldBack l G hG σ v5 (0 : Int32) v3 σ16 hl14 hr17) lk_X3_231 ⟨rfl, rfl, Nat.le_of_ble_eq_true rfl, Nat.le_of_ble_eq_true rfl⟩ ⟨Nat.zero_le _, Nat.zero_le _⟩ hl.1 rfl (Nat.le_of_ble_eq_true rfl) dX3_quiet_76 (fun H locs hH hS => ?_)
      refine gx_e0 (st := []) ?_ rfl
      refine lv_aload_n hx hb dX3_quiet_79 rfl (lv_at hl 0 rfl) ?_
      refine lv_iload hx hb dX3_quiet_80 (lv_at hl 4 rfl) ?_
      refine lv_aload_n hx hb dX3_quiet_82 rfl (lv_at hl 0 rfl) ?_
      refine gx_get C hH 0 (by decide) rfl fl_X3_27 rfl dX3_quiet_83 ?_
      refine lv_iconst (v := (1 : Int32)) hx hb dX3_quiet_86 (by decide) ?_
      obtain ⟨hb18, hf⟩ := gx_chk hf
      have hl19 := gx_lt12 hb18
      have hn20 := gx_ne9 hb18
      refine gx_aaldR C hH 3 (by decide) 3 rfl rfl hb18 rfl dX3_quiet_87 ?_
      refine lv_iload_n hx hb dX3_quiet_88 rfl (lv_at hl 2 rfl) ?_
      obtain ⟨σ21, hr22, hf⟩ := gx_bnd hf
      refine gx_vM (v := none) (rest := []) C hH hS 0 (by decide) rfl rfl [.int v5, .ref (gx_q G (44 + 1 * (1 : Int32).toNatClampNeg)), .int v3] (t_X3_markHeldBack l G hG σ16 v5 (1 : Int32) v3 σ21 hl19 hr22) lk_X3_231 ⟨rfl, rfl, Nat.le_of_ble_eq_true rfl, Nat.le_of_ble_eq_true rfl⟩ ⟨Nat.zero_le _, Nat.zero_le _⟩ hl.1 rfl (Nat.le_of_ble_eq_true rfl) dX3_quiet_89 (fun H locs hH hS => ?_)
      refine gx_e0 (st := []) ?_ rfl
      obtain ⟨x23, hx23⟩ : ∃ z : Int32, z = (v5 + (1 : Int32)) := ⟨_, rfl⟩
      have hf := gx_let hf x23 hx23
      refine lv_iinc (v := x23) (lv' := [(5, .int x23), (0, .ref (gx_q G 0)), (2, .int v2), (3, .int v3), (4, .int v4)]) hx hb dX3_quiet_92 hl (k := 4) rfl (by rw [hx23]; rfl) (by decide) rfl (fun ls hl => ?_)
      refine lv_goto (tgt := 59) hx hb dX3_quiet_95 (by decide) ?_
      exact ih σ21 v2 v3 v4 x23  _ hf _ _ ls hH hS (lv_sub hl [1, 2, 3, 4, 0] rfl)
def fL_X3_quiet_26 : Nat → gx_St → Int32 → Int32 → Int32 → Int32 → Option (Int32 × gx_St)
  | 0, _, _, _, _, _ => none
  | N + 1, σ, v1, v2, v3, v4 =>
    if v3 ≤ v4 then ((f_X3_endOfPush σ v1).bind fun r7 =>
    gx_lt (σ 0 7) fun x8 =>
    fL_X3_quiet_59 401 σ v2 v3 r7 x8) else (if (v4 < 0 ∨ 64 ≤ v4.toNatClampNeg) then none else
    gx_lt (gx_w2 σ (7) v4.toNatClampNeg (0 : Int32)) fun σ25 =>
    gx_lt (v4 + (1 : Int32)) fun x26 =>
    fL_X3_quiet_26 N σ25 v1 v2 v3 x26)
set_option maxHeartbeats 4000000 in
set_option maxRecDepth 100000 in
theorem w_X3_quiet_26 {p : Program} {l : Launch} {e : Env} {s : State} {m : MethodId} {args : Array Value} {below : List Frame} {meth : Method} {c : Code} (G : gx_G) (hG : gx_D G 50) (C : gx_C p m c cX3_quiet 6 s args RX3 G) (hr : meth.sig.returnType = (some .int)) (hlocks : meth.locks = false) : ∀ (N : Nat) (σ : gx_St) (v1 v2 v3 v4 : Int32)  (z : (Int32 × gx_St)), fL_X3_quiet_26 N σ v1 v2 v3 v4 = some z → ∀ (H : Heap) (locs : List Loc) (ls : Array Slot), gx_H G 50 (gc_mk G) σ H → va_S (gx_A G) s.heap H locs → lv_has ls 6 [(0, .ref (gx_q G 0)), (1, .int v1), (2, .int v2), (3, .int v3), (4, .int v4)] → W p l e rm_X3_quiet s m args below meth c H locs 0 0 (MQ below (gx_QM G 50 (gc_mk G) (some (.int z.1)) z.2) args s 0 0 (gx_A G)) (F0 m 26 ls []) := by
  have hx := C.1.1
  have hb := C.1.2.1
  intro N
  induction N with
  | zero =>
    intro σ v1 v2 v3 v4  z hf H locs ls hH hS hl
    cases (show (none : Option (Int32 × gx_St)) = some z from hf)
  | succ N ih =>
    intro σ v1 v2 v3 v4  z hf H locs ls hH hS hl
    rw [fL_X3_quiet_26] at hf
    refine lv_iload hx hb dX3_quiet_26 (lv_at hl 4 rfl) ?_
    refine lv_iload_n hx hb dX3_quiet_28 rfl (lv_at hl 3 rfl) ?_
    refine lv_icmp_ge (tgt := 46) hx hb dX3_quiet_29 (by decide) (fun hc6 => ?_) (fun hc6 => ?_)
    · have hf := gx_pos hc6 hf
      refine lv_aload_n hx hb dX3_quiet_46 rfl (lv_at hl 0 rfl) ?_
      refine lv_iload_n hx hb dX3_quiet_47 rfl (lv_at hl 1 rfl) ?_
      obtain ⟨r7, hr7, hf⟩ := gx_bnd hf
      refine gx_vR (v := (some (.int r7))) (rest := []) C hH hS 0 (by decide) rfl rfl [.int v1] (t_X3_endOfPush l G σ v1 r7  hr7) lk_X3_219 ⟨rfl, rfl, Nat.le_of_ble_eq_true rfl, Nat.le_of_ble_eq_true rfl⟩ ⟨Nat.zero_le _, Nat.zero_le _⟩ hl.1 rfl (Nat.le_of_ble_eq_true rfl) dX3_quiet_48 ?_
      refine gx_e0 (st := [.int r7]) ?_ rfl
      refine lv_istore (lv' := [(4, .int r7), (0, .ref (gx_q G 0)), (1, .int v1), (2, .int v2), (3, .int v3)]) hx hb dX3_quiet_51 hl (by decide) rfl (fun ls hl => ?_)
      refine lv_aload_n hx hb dX3_quiet_53 rfl (lv_at hl 1 rfl) ?_
      refine gx_get C hH 0 (by decide) rfl fl_X3_40 rfl dX3_quiet_54 ?_
      refine lv_topi (fun x8 hx8 => ?_)
      have hf := gx_let hf x8 hx8
      refine lv_istore (lv' := [(5, .int x8), (4, .int r7), (0, .ref (gx_q G 0)), (1, .int v1), (2, .int v2), (3, .int v3)]) hx hb dX3_quiet_57 hl (by decide) rfl (fun ls hl => ?_)
      exact w_X3_quiet_59 (l := l) G hG C hr hlocks 401 σ v2 v3 r7 x8  _ hf _ _ ls hH hS (lv_sub hl [2, 4, 5, 1, 0] rfl)
    · have hf := gx_neg hc6 hf
      refine lv_aload_n hx hb dX3_quiet_32 rfl (lv_at hl 0 rfl) ?_
      refine gx_get C hH 0 (by decide) rfl fl_X3_66 rfl dX3_quiet_33 ?_
      refine lv_iload hx hb dX3_quiet_36 (lv_at hl 4 rfl) ?_
      refine lv_iconst (v := (0 : Int32)) hx hb dX3_quiet_38 (by decide) ?_
      obtain ⟨hb24, hf⟩ := gx_chk hf
      refine gx_zast C hG hH hS (7) (by decide) (fun _ => rfl) rfl hb24 dX3_quiet_39 (fun H locs σ25 hσ25 hH hS => ?_)
      have hf := gx_let hf σ25 hσ25
      obtain ⟨x26, hx26⟩ : ∃ z : Int32, z = (v4 + (1 : Int32)) := ⟨_, rfl⟩
      have hf := gx_let hf x26 hx26
      refine lv_iinc (v := x26) (lv' := [(4, .int x26), (0, .ref (gx_q G 0)), (1, .int v1), (2, .int v2), (3, .int v3)]) hx hb dX3_quiet_40 hl (k := 4) rfl (by rw [hx26]; rfl) (by decide) rfl (fun ls hl => ?_)
      refine lv_goto (tgt := 26) hx hb dX3_quiet_43 (by decide) ?_
      exact ih σ25 v1 v2 v3 x26  _ hf _ _ ls hH hS (lv_sub hl [1, 2, 3, 4, 0] rfl)
def f_X3_quiet (σ : gx_St) (a1 : Int32) : Option (Int32 × gx_St) :=
  (f_X3_isWithin a1 (1 : Int32) (400 : Int32)).bind fun r1 =>
  if r1 = 0 then (some ((-2 : Int32), σ)) else (gx_b2 (f_X3_gatherPlaying σ ) fun r4 σ3 =>
  gx_lt ((1 : Int32) <<< (r4 &&& 31)) fun x5 =>
  fL_X3_quiet_26 65 σ3 a1 r4 x5 (0 : Int32))
set_option maxHeartbeats 4000000 in
set_option maxRecDepth 100000 in
theorem t_X3_quiet (l : Launch) (G : gx_G) (hG : gx_D G 50) (σ : gx_St) (a1 : Int32) (r : Int32) (σ' : gx_St)  (hf : f_X3_quiet σ a1 = some (r, σ')) : Met l yX3_quiet (Cond.code yX3_quiet cX3_quiet 6 (some .int) :: wT) rm_X3_quiet (va_Pc [.ref (gx_q G 0), .int a1] (gx_S G 50 (gc_mk G) σ)) (gx_QM G 50 (gc_mk G) (some (.int r)) σ') 0 0 (gx_A G) := by
  refine Met.ofW (cc := cX3_quiet) (maxL := 6) (ret := (some .int)) (by decide) rfl ?_
  intro p e s m args below meth c s₁ B hml hv
  obtain ⟨rfl, hH, hE⟩ := hv
  have C := gx_C.of (G := G) B hml hE
  have hx := C.1.1
  have hb := C.1.2.1
  have hr := B.returns
  have hlocks := B.notSynchronized
  have hS : va_S (gx_A G) s.heap s.heap [] := va_S.rf
  have hl := lv_entry ([.ref (gx_q G 0), .int a1]) (n := 6) (Nat.le_of_ble_eq_true rfl)
  rw [lg_entry_eq]
  generalize (lg_sl ([.ref (gx_q G 0), .int a1]) ++ List.replicate (6 - (lg_sl ([.ref (gx_q G 0), .int a1])).length) Slot.unset).toArray = ls at hl ⊢
  have hl : lv_has ls 6 [(0, .ref (gx_q G 0)), (1, .int a1)] := hl
  unfold f_X3_quiet at hf
  refine lv_iload_n hx hb dX3_quiet_0 rfl (lv_at hl 1 rfl) ?_
  refine lv_iconst (v := (1 : Int32)) hx hb dX3_quiet_1 (by decide) ?_
  refine lv_sipush (v := (400 : Int32)) hx hb dX3_quiet_2 (by decide) ?_
  obtain ⟨r1, hr1, hf⟩ := gx_bnd hf
  refine gx_sR (v := (some (.int r1))) (rest := []) C hH hS [.int a1, .int (1 : Int32), .int (400 : Int32)] (t_X3_isWithin l G σ a1 (1 : Int32) (400 : Int32) r1  hr1) lk_X3_102 ⟨rfl, rfl, Nat.le_of_ble_eq_true rfl, Nat.le_of_ble_eq_true rfl⟩ ⟨Nat.zero_le _, Nat.zero_le _⟩ hl.1 rfl (Nat.le_of_ble_eq_true rfl) dX3_quiet_5 ?_
  refine gx_e0 (st := [.int r1]) ?_ rfl
  refine lv_if_ne (tgt := 14) hx hb dX3_quiet_8 (by decide) (fun hc2 => ?_) (fun hc2 => ?_)
  · have hf := gx_neg hc2 hf
    refine lv_aload_n hx hb dX3_quiet_14 rfl (lv_at hl 0 rfl) ?_
    obtain ⟨r4, σ3, hr4, hf⟩ := gx_bnd2 hf
    refine gx_vM (v := (some (.int r4))) (rest := []) C hH hS 0 (by decide) rfl rfl [] (t_X3_gatherPlaying l G hG σ  r4 σ3  hr4) lk_X3_228 ⟨rfl, rfl, Nat.le_of_ble_eq_true rfl, Nat.le_of_ble_eq_true rfl⟩ ⟨Nat.zero_le _, Nat.zero_le _⟩ hl.1 rfl (Nat.le_of_ble_eq_true rfl) dX3_quiet_15 (fun H locs hH hS => ?_)
    refine gx_e0 (st := [.int r4]) ?_ rfl
    refine lv_istore_n (lv' := [(2, .int r4), (0, .ref (gx_q G 0)), (1, .int a1)]) hx hb dX3_quiet_18 rfl hl (by decide) rfl (fun ls hl => ?_)
    refine lv_iconst (v := (1 : Int32)) hx hb dX3_quiet_19 (by decide) ?_
    refine lv_iload_n hx hb dX3_quiet_20 rfl (lv_at hl 0 rfl) ?_
    refine lv_ishl hx hb dX3_quiet_21 ?_
    refine lv_topi (fun x5 hx5 => ?_)
    have hf := gx_let hf x5 hx5
    refine lv_istore_n (lv' := [(3, .int x5), (2, .int r4), (0, .ref (gx_q G 0)), (1, .int a1)]) hx hb dX3_quiet_22 rfl hl (by decide) rfl (fun ls hl => ?_)
    refine lv_iconst (v := (0 : Int32)) hx hb dX3_quiet_23 (by decide) ?_
    refine lv_istore (lv' := [(4, .int (0 : Int32)), (3, .int x5), (2, .int r4), (0, .ref (gx_q G 0)), (1, .int a1)]) hx hb dX3_quiet_24 hl (by decide) rfl (fun ls hl => ?_)
    exact w_X3_quiet_26 (l := l) G hG C hr hlocks 65 σ3 a1 r4 x5 (0 : Int32)  _ hf _ _ ls hH hS (lv_sub hl [3, 4, 2, 1, 0] rfl)
  · have hf := gx_pos hc2 hf
    refine lv_bipush (v := (-2 : Int32)) hx hb dX3_quiet_11 (by decide) ?_
    cases hf
    exact gx_iretM C hr hlocks hH hS dX3_quiet_13
abbrev rm_X3_howManyLoaded : Room := { frames := 0, cells := 0, slots := 0, locals := 0 }
def fL_X3_howManyLoaded_4 : Nat → gx_St → Int32 → Int32 → Option Int32
  | 0, _, _, _ => none
  | N + 1, σ, v1, v2 =>
    if (6 : Int32) ≤ v2 then (some v1) else (if (v2 < 0 ∨ 6 ≤ v2.toNatClampNeg) then none else
    gx_lt (σ 2 v2.toNatClampNeg) fun e3 =>
    if e3 = -9 then (gx_lt (v2 + (1 : Int32)) fun x6 =>
    fL_X3_howManyLoaded_4 N σ v1 x6) else if 12 ≤ e3.toNatClampNeg then none else (gx_lt (v1 + (1 : Int32)) fun x7 =>
    gx_lt (v2 + (1 : Int32)) fun x8 =>
    fL_X3_howManyLoaded_4 N σ x7 x8))
set_option maxHeartbeats 4000000 in
set_option maxRecDepth 100000 in
theorem w_X3_howManyLoaded_4 {p : Program} {l : Launch} {e : Env} {s : State} {m : MethodId} {args : Array Value} {below : List Frame} {meth : Method} {c : Code} (G : gx_G) (C : gx_C p m c cX3_howManyLoaded 3 s args RX3 G) (hr : meth.sig.returnType = (some .int)) (hlocks : meth.locks = false) (σ : gx_St) (hH : gx_H G 50 (gc_mk G) σ s.heap) : ∀ (N : Nat) (v1 v2 : Int32)  (z : Int32), fL_X3_howManyLoaded_4 N σ v1 v2 = some z → ∀ (ls : Array Slot), lv_has ls 3 [(0, .ref (gx_q G 0)), (1, .int v1), (2, .int v2)] → W p l e rm_X3_howManyLoaded s m args below meth c s.heap [] 0 0 (MQ below (gx_QR (some (.int z))) args s 0 0 (fun _ => False)) (F0 m 4 ls []) := by
  have hx := C.1.1
  have hb := C.1.2.1
  have hS : va_S (gx_A G) s.heap s.heap [] := va_S.rf
  intro N
  induction N with
  | zero =>
    intro v1 v2  z hf ls hl
    cases (show (none : Option Int32) = some z from hf)
  | succ N ih =>
    intro v1 v2  z hf ls hl
    rw [fL_X3_howManyLoaded_4] at hf
    refine lv_iload_n hx hb dX3_howManyLoaded_4 rfl (lv_at hl 2 rfl) ?_
    refine lv_bipush (v := (6 : Int32)) hx hb dX3_howManyLoaded_5 (by decide) ?_
    refine lv_icmp_ge (tgt := 28) hx hb dX3_howManyLoaded_7 (by decide) (fun hc1 => ?_) (fun hc1 => ?_)
    · have hf := gx_pos hc1 hf
      refine lv_iload_n hx hb dX3_howManyLoaded_28 rfl (lv_at hl 1 rfl) ?_
      obtain rfl := Option.some.inj hf
      exact gx_iretR C hr hlocks dX3_howManyLoaded_29
    · have hf := gx_neg hc1 hf
      refine lv_aload_n hx hb dX3_howManyLoaded_10 rfl (lv_at hl 0 rfl) ?_
      refine gx_get C hH 0 (by decide) rfl fl_X3_19 rfl dX3_howManyLoaded_11 ?_
      refine lv_iload_n hx hb dX3_howManyLoaded_14 rfl (lv_at hl 2 rfl) ?_
      obtain ⟨hb2, hf⟩ := gx_chk hf
      obtain ⟨e3, he3⟩ : ∃ z : Int32, z = (σ 2 v2.toNatClampNeg) := ⟨_, rfl⟩
      have hf := gx_let hf e3 he3
      by_cases hn4 : e3 = -9
      · have hf := gx_pos hn4 hf
        refine gx_aaldN C hH 2 (by decide) 2 rfl rfl hb2 (gx_rf_n (he3.symm.trans hn4)) dX3_howManyLoaded_15 ?_
        refine lv_ifnullN (tgt := 22) hx hb dX3_howManyLoaded_16 (by decide) ?_
        obtain ⟨x6, hx6⟩ : ∃ z : Int32, z = (v2 + (1 : Int32)) := ⟨_, rfl⟩
        have hf := gx_let hf x6 hx6
        refine lv_iinc (v := x6) (lv' := [(2, .int x6), (0, .ref (gx_q G 0)), (1, .int v1)]) hx hb dX3_howManyLoaded_22 hl (k := 2) rfl (by rw [hx6]; rfl) (by decide) rfl (fun ls hl => ?_)
        refine lv_goto (tgt := 4) hx hb dX3_howManyLoaded_25 (by decide) ?_
        exact ih v1 x6  _ hf ls (lv_sub hl [1, 2, 0] rfl)
      · have hf := gx_neg hn4 hf
        obtain ⟨hl5, hf⟩ := gx_chk hf
        have hl5 := Nat.not_le.mp hl5
        refine gx_aaldR C hH 2 (by decide) 2 rfl rfl hb2 (gx_rfe he3 hn4) dX3_howManyLoaded_15 ?_
        refine lv_ifnull hx hb dX3_howManyLoaded_16 ?_
        obtain ⟨x7, hx7⟩ : ∃ z : Int32, z = (v1 + (1 : Int32)) := ⟨_, rfl⟩
        have hf := gx_let hf x7 hx7
        refine lv_iinc (v := x7) (lv' := [(1, .int x7), (0, .ref (gx_q G 0)), (2, .int v2)]) hx hb dX3_howManyLoaded_19 hl (k := 1) rfl (by rw [hx7]; rfl) (by decide) rfl (fun ls hl => ?_)
        obtain ⟨x8, hx8⟩ : ∃ z : Int32, z = (v2 + (1 : Int32)) := ⟨_, rfl⟩
        have hf := gx_let hf x8 hx8
        refine lv_iinc (v := x8) (lv' := [(2, .int x8), (1, .int x7), (0, .ref (gx_q G 0))]) hx hb dX3_howManyLoaded_22 hl (k := 2) rfl (by rw [hx8]; rfl) (by decide) rfl (fun ls hl => ?_)
        refine lv_goto (tgt := 4) hx hb dX3_howManyLoaded_25 (by decide) ?_
        exact ih x7 x8  _ hf ls (lv_sub hl [2, 1, 0] rfl)
def f_X3_howManyLoaded (σ : gx_St) : Option Int32 :=
  fL_X3_howManyLoaded_4 7 σ (0 : Int32) (0 : Int32)
set_option maxHeartbeats 4000000 in
set_option maxRecDepth 100000 in
theorem t_X3_howManyLoaded (l : Launch) (G : gx_G) (σ : gx_St) (r : Int32)  (hf : f_X3_howManyLoaded σ = some r) : Met l yX3_howManyLoaded (Cond.code yX3_howManyLoaded cX3_howManyLoaded 3 (some .int) :: wT) rm_X3_howManyLoaded (va_Pc [.ref (gx_q G 0)] (gx_S G 50 (gc_mk G) σ)) (gx_QR (some (.int r))) 0 0 (fun _ => False) := by
  refine Met.ofW (cc := cX3_howManyLoaded) (maxL := 3) (ret := (some .int)) (by decide) rfl ?_
  intro p e s m args below meth c s₁ B hml hv
  obtain ⟨rfl, hH, hE⟩ := hv
  have C := gx_C.of (G := G) B hml hE
  have hx := C.1.1
  have hb := C.1.2.1
  have hr := B.returns
  have hlocks := B.notSynchronized
  have hS : va_S (gx_A G) s.heap s.heap [] := va_S.rf
  have hl := lv_entry ([.ref (gx_q G 0)]) (n := 3) (Nat.le_of_ble_eq_true rfl)
  rw [lg_entry_eq]
  generalize (lg_sl ([.ref (gx_q G 0)]) ++ List.replicate (3 - (lg_sl ([.ref (gx_q G 0)])).length) Slot.unset).toArray = ls at hl ⊢
  have hl : lv_has ls 3 [(0, .ref (gx_q G 0))] := hl
  unfold f_X3_howManyLoaded at hf
  refine lv_iconst (v := (0 : Int32)) hx hb dX3_howManyLoaded_0 (by decide) ?_
  refine lv_istore_n (lv' := [(1, .int (0 : Int32)), (0, .ref (gx_q G 0))]) hx hb dX3_howManyLoaded_1 rfl hl (by decide) rfl (fun ls hl => ?_)
  refine lv_iconst (v := (0 : Int32)) hx hb dX3_howManyLoaded_2 (by decide) ?_
  refine lv_istore_n (lv' := [(2, .int (0 : Int32)), (1, .int (0 : Int32)), (0, .ref (gx_q G 0))]) hx hb dX3_howManyLoaded_3 rfl hl (by decide) rfl (fun ls hl => ?_)
  exact w_X3_howManyLoaded_4 (l := l) G C hr hlocks σ hH 7 (0 : Int32) (0 : Int32)  _ hf ls (lv_sub hl [2, 1, 0] rfl)
abbrev rm_X3_howManyOn : Room := { frames := 2, cells := 0, slots := 0, locals := 45 }
def fL_X3_howManyOn_4 : Nat → gx_St → Int32 → Int32 → Option Int32
  | 0, _, _, _ => none
  | N + 1, σ, v1, v2 =>
    if (6 : Int32) ≤ v2 then (some v1) else (if (v2 < 0 ∨ 6 ≤ v2.toNatClampNeg) then none else
    gx_lt (σ 2 v2.toNatClampNeg) fun e3 =>
    if e3 = -9 then (gx_lt (v2 + (1 : Int32)) fun x6 =>
    fL_X3_howManyOn_4 N σ v1 x6) else if 12 ≤ e3.toNatClampNeg then none else ((f_X2_isOnAt σ e3 (σ (8 + 3 * e3.toNatClampNeg) 8) (σ 0 7)).bind fun r7 =>
    if r7 = 0 then (gx_lt (v2 + (1 : Int32)) fun x9 =>
    fL_X3_howManyOn_4 N σ v1 x9) else (gx_lt (v1 + (1 : Int32)) fun x10 =>
    gx_lt (v2 + (1 : Int32)) fun x11 =>
    fL_X3_howManyOn_4 N σ x10 x11)))
set_option maxHeartbeats 4000000 in
set_option maxRecDepth 100000 in
theorem w_X3_howManyOn_4 {p : Program} {l : Launch} {e : Env} {s : State} {m : MethodId} {args : Array Value} {below : List Frame} {meth : Method} {c : Code} (G : gx_G) (C : gx_C p m c cX3_howManyOn 4 s args RX3 G) (hr : meth.sig.returnType = (some .int)) (hlocks : meth.locks = false) (σ : gx_St) (hH : gx_H G 50 (gc_mk G) σ s.heap) : ∀ (N : Nat) (v1 v2 : Int32)  (z : Int32), fL_X3_howManyOn_4 N σ v1 v2 = some z → ∀ (ls : Array Slot), lv_has ls 4 [(0, .ref (gx_q G 0)), (1, .int v1), (2, .int v2)] → W p l e rm_X3_howManyOn s m args below meth c s.heap [] 0 0 (MQ below (gx_QR (some (.int z))) args s 0 0 (fun _ => False)) (F0 m 4 ls []) := by
  have hx := C.1.1
  have hb := C.1.2.1
  have hS : va_S (gx_A G) s.heap s.heap [] := va_S.rf
  intro N
  induction N with
  | zero =>
    intro v1 v2  z hf ls hl
    cases (show (none : Option Int32) = some z from hf)
  | succ N ih =>
    intro v1 v2  z hf ls hl
    rw [fL_X3_howManyOn_4] at hf
    refine lv_iload_n hx hb dX3_howManyOn_4 rfl (lv_at hl 2 rfl) ?_
    refine lv_bipush (v := (6 : Int32)) hx hb dX3_howManyOn_5 (by decide) ?_
    refine lv_icmp_ge (tgt := 45) hx hb dX3_howManyOn_7 (by decide) (fun hc1 => ?_) (fun hc1 => ?_)
    · have hf := gx_pos hc1 hf
      refine lv_iload_n hx hb dX3_howManyOn_45 rfl (lv_at hl 1 rfl) ?_
      obtain rfl := Option.some.inj hf
      exact gx_iretR C hr hlocks dX3_howManyOn_46
    · have hf := gx_neg hc1 hf
      refine lv_aload_n hx hb dX3_howManyOn_10 rfl (lv_at hl 0 rfl) ?_
      refine gx_get C hH 0 (by decide) rfl fl_X3_19 rfl dX3_howManyOn_11 ?_
      refine lv_iload_n hx hb dX3_howManyOn_14 rfl (lv_at hl 2 rfl) ?_
      obtain ⟨hb2, hf⟩ := gx_chk hf
      obtain ⟨e3, he3⟩ : ∃ z : Int32, z = (σ 2 v2.toNatClampNeg) := ⟨_, rfl⟩
      have hf := gx_let hf e3 he3
      by_cases hn4 : e3 = -9
      · have hf := gx_pos hn4 hf
        refine gx_aaldN C hH 2 (by decide) 2 rfl rfl hb2 (gx_rf_n (he3.symm.trans hn4)) dX3_howManyOn_15 ?_
        refine lv_astore_nN (lv' := [(3, .null), (0, .ref (gx_q G 0)), (1, .int v1), (2, .int v2)]) hx hb dX3_howManyOn_16 rfl hl (by decide) rfl (fun ls hl => ?_)
        refine lv_aload_nN hx hb dX3_howManyOn_17 rfl (lv_at hl 0 rfl) ?_
        refine lv_ifnullN (tgt := 39) hx hb dX3_howManyOn_18 (by decide) ?_
        obtain ⟨x6, hx6⟩ : ∃ z : Int32, z = (v2 + (1 : Int32)) := ⟨_, rfl⟩
        have hf := gx_let hf x6 hx6
        refine lv_iinc (v := x6) (lv' := [(2, .int x6), (3, .null), (0, .ref (gx_q G 0)), (1, .int v1)]) hx hb dX3_howManyOn_39 hl (k := 3) rfl (by rw [hx6]; rfl) (by decide) rfl (fun ls hl => ?_)
        refine lv_goto (tgt := 4) hx hb dX3_howManyOn_42 (by decide) ?_
        exact ih v1 x6  _ hf ls (lv_sub hl [2, 3, 0] rfl)
      · have hf := gx_neg hn4 hf
        obtain ⟨hl5, hf⟩ := gx_chk hf
        have hl5 := Nat.not_le.mp hl5
        refine gx_aaldR C hH 2 (by decide) 2 rfl rfl hb2 (gx_rfe he3 hn4) dX3_howManyOn_15 ?_
        refine lv_astore_n (lv' := [(3, .ref (gx_q G (8 + 3 * e3.toNatClampNeg))), (0, .ref (gx_q G 0)), (1, .int v1), (2, .int v2)]) hx hb dX3_howManyOn_16 rfl hl (by decide) rfl (fun ls hl => ?_)
        refine lv_aload_n hx hb dX3_howManyOn_17 rfl (lv_at hl 0 rfl) ?_
        refine lv_ifnull hx hb dX3_howManyOn_18 ?_
        refine lv_aload_n hx hb dX3_howManyOn_21 rfl (lv_at hl 0 rfl) ?_
        refine lv_aload_n hx hb dX3_howManyOn_22 rfl (lv_at hl 0 rfl) ?_
        refine gx_get C hH (8 + 3 * e3.toNatClampNeg) (gc_ke hl5) (gc_e _ hl5) fl_X3_138 rfl dX3_howManyOn_23 ?_
        refine lv_aload_n hx hb dX3_howManyOn_26 rfl (lv_at hl 1 rfl) ?_
        refine gx_get C hH 0 (by decide) rfl fl_X3_40 rfl dX3_howManyOn_27 ?_
        obtain ⟨r7, hr7, hf⟩ := gx_bnd hf
        refine gx_vR (v := (some (.int r7))) (rest := []) C hH hS (8 + 3 * e3.toNatClampNeg) (gc_ke hl5) (gc_e _ hl5) rfl [.int (σ (8 + 3 * e3.toNatClampNeg) 8), .int (σ 0 7)] (t_X2_isOnAt l G σ e3 (σ (8 + 3 * e3.toNatClampNeg) 8) (σ 0 7) r7 hl5 hr7) lk_X3_144 ⟨rfl, rfl, Nat.le_of_ble_eq_true rfl, Nat.le_of_ble_eq_true rfl⟩ ⟨Nat.zero_le _, Nat.zero_le _⟩ hl.1 rfl (Nat.le_of_ble_eq_true rfl) dX3_howManyOn_30 ?_
        refine gx_e0 (st := [.int r7]) ?_ rfl
        refine lv_if_eq (tgt := 39) hx hb dX3_howManyOn_33 (by decide) (fun hc8 => ?_) (fun hc8 => ?_)
        · have hf := gx_pos hc8 hf
          obtain ⟨x9, hx9⟩ : ∃ z : Int32, z = (v2 + (1 : Int32)) := ⟨_, rfl⟩
          have hf := gx_let hf x9 hx9
          refine lv_iinc (v := x9) (lv' := [(2, .int x9), (3, .ref (gx_q G (8 + 3 * e3.toNatClampNeg))), (0, .ref (gx_q G 0)), (1, .int v1)]) hx hb dX3_howManyOn_39 hl (k := 3) rfl (by rw [hx9]; rfl) (by decide) rfl (fun ls hl => ?_)
          refine lv_goto (tgt := 4) hx hb dX3_howManyOn_42 (by decide) ?_
          exact ih v1 x9  _ hf ls (lv_sub hl [2, 3, 0] rfl)
        · have hf := gx_neg hc8 hf
          obtain ⟨x10, hx10⟩ : ∃ z : Int32, z = (v1 + (1 : Int32)) := ⟨_, rfl⟩
          have hf := gx_let hf x10 hx10
          refine lv_iinc (v := x10) (lv' := [(1, .int x10), (3, .ref (gx_q G (8 + 3 * e3.toNatClampNeg))), (0, .ref (gx_q G 0)), (2, .int v2)]) hx hb dX3_howManyOn_36 hl (k := 2) rfl (by rw [hx10]; rfl) (by decide) rfl (fun ls hl => ?_)
          obtain ⟨x11, hx11⟩ : ∃ z : Int32, z = (v2 + (1 : Int32)) := ⟨_, rfl⟩
          have hf := gx_let hf x11 hx11
          refine lv_iinc (v := x11) (lv' := [(2, .int x11), (1, .int x10), (3, .ref (gx_q G (8 + 3 * e3.toNatClampNeg))), (0, .ref (gx_q G 0))]) hx hb dX3_howManyOn_39 hl (k := 3) rfl (by rw [hx11]; rfl) (by decide) rfl (fun ls hl => ?_)
          refine lv_goto (tgt := 4) hx hb dX3_howManyOn_42 (by decide) ?_
          exact ih x10 x11  _ hf ls (lv_sub hl [3, 1, 0] rfl)
def f_X3_howManyOn (σ : gx_St) : Option Int32 :=
  fL_X3_howManyOn_4 7 σ (0 : Int32) (0 : Int32)
set_option maxHeartbeats 4000000 in
set_option maxRecDepth 100000 in
theorem t_X3_howManyOn (l : Launch) (G : gx_G) (σ : gx_St) (r : Int32)  (hf : f_X3_howManyOn σ = some r) : Met l yX3_howManyOn (Cond.code yX3_howManyOn cX3_howManyOn 4 (some .int) :: wT) rm_X3_howManyOn (va_Pc [.ref (gx_q G 0)] (gx_S G 50 (gc_mk G) σ)) (gx_QR (some (.int r))) 0 0 (fun _ => False) := by
  refine Met.ofW (cc := cX3_howManyOn) (maxL := 4) (ret := (some .int)) (by decide) rfl ?_
  intro p e s m args below meth c s₁ B hml hv
  obtain ⟨rfl, hH, hE⟩ := hv
  have C := gx_C.of (G := G) B hml hE
  have hx := C.1.1
  have hb := C.1.2.1
  have hr := B.returns
  have hlocks := B.notSynchronized
  have hS : va_S (gx_A G) s.heap s.heap [] := va_S.rf
  have hl := lv_entry ([.ref (gx_q G 0)]) (n := 4) (Nat.le_of_ble_eq_true rfl)
  rw [lg_entry_eq]
  generalize (lg_sl ([.ref (gx_q G 0)]) ++ List.replicate (4 - (lg_sl ([.ref (gx_q G 0)])).length) Slot.unset).toArray = ls at hl ⊢
  have hl : lv_has ls 4 [(0, .ref (gx_q G 0))] := hl
  unfold f_X3_howManyOn at hf
  refine lv_iconst (v := (0 : Int32)) hx hb dX3_howManyOn_0 (by decide) ?_
  refine lv_istore_n (lv' := [(1, .int (0 : Int32)), (0, .ref (gx_q G 0))]) hx hb dX3_howManyOn_1 rfl hl (by decide) rfl (fun ls hl => ?_)
  refine lv_iconst (v := (0 : Int32)) hx hb dX3_howManyOn_2 (by decide) ?_
  refine lv_istore_n (lv' := [(2, .int (0 : Int32)), (1, .int (0 : Int32)), (0, .ref (gx_q G 0))]) hx hb dX3_howManyOn_3 rfl hl (by decide) rfl (fun ls hl => ?_)
  exact w_X3_howManyOn_4 (l := l) G C hr hlocks σ hH 7 (0 : Int32) (0 : Int32)  _ hf ls (lv_sub hl [2, 1, 0] rfl)
abbrev rm_X3_howManyHeld : Room := { frames := 0, cells := 0, slots := 0, locals := 0 }
def fL_X3_howManyHeld_4 : Nat → gx_St → Int32 → Int32 → Option Int32
  | 0, _, _, _ => none
  | N + 1, σ, v1, v2 =>
    if (4 : Int32) ≤ v2 then (some v1) else (if (v2 < 0 ∨ 4 ≤ v2.toNatClampNeg) then none else
    if (σ (46 + 1 * v2.toNatClampNeg) 0) = 0 then (gx_lt (v2 + (1 : Int32)) fun x6 =>
    fL_X3_howManyHeld_4 N σ v1 x6) else (gx_lt (v1 + (1 : Int32)) fun x7 =>
    gx_lt (v2 + (1 : Int32)) fun x8 =>
    fL_X3_howManyHeld_4 N σ x7 x8))
set_option maxHeartbeats 4000000 in
set_option maxRecDepth 100000 in
theorem w_X3_howManyHeld_4 {p : Program} {l : Launch} {e : Env} {s : State} {m : MethodId} {args : Array Value} {below : List Frame} {meth : Method} {c : Code} (G : gx_G) (C : gx_C p m c cX3_howManyHeld 3 s args RX3 G) (hr : meth.sig.returnType = (some .int)) (hlocks : meth.locks = false) (σ : gx_St) (hH : gx_H G 50 (gc_mk G) σ s.heap) : ∀ (N : Nat) (v1 v2 : Int32)  (z : Int32), fL_X3_howManyHeld_4 N σ v1 v2 = some z → ∀ (ls : Array Slot), lv_has ls 3 [(0, .ref (gx_q G 0)), (1, .int v1), (2, .int v2)] → W p l e rm_X3_howManyHeld s m args below meth c s.heap [] 0 0 (MQ below (gx_QR (some (.int z))) args s 0 0 (fun _ => False)) (F0 m 4 ls []) := by
  have hx := C.1.1
  have hb := C.1.2.1
  have hS : va_S (gx_A G) s.heap s.heap [] := va_S.rf
  intro N
  induction N with
  | zero =>
    intro v1 v2  z hf ls hl
    cases (show (none : Option Int32) = some z from hf)
  | succ N ih =>
    intro v1 v2  z hf ls hl
    rw [fL_X3_howManyHeld_4] at hf
    refine lv_iload_n hx hb dX3_howManyHeld_4 rfl (lv_at hl 2 rfl) ?_
    refine lv_iconst (v := (4 : Int32)) hx hb dX3_howManyHeld_5 (by decide) ?_
    refine lv_icmp_ge (tgt := 30) hx hb dX3_howManyHeld_6 (by decide) (fun hc1 => ?_) (fun hc1 => ?_)
    · have hf := gx_pos hc1 hf
      refine lv_iload_n hx hb dX3_howManyHeld_30 rfl (lv_at hl 1 rfl) ?_
      obtain rfl := Option.some.inj hf
      exact gx_iretR C hr hlocks dX3_howManyHeld_31
    · have hf := gx_neg hc1 hf
      refine lv_aload_n hx hb dX3_howManyHeld_9 rfl (lv_at hl 0 rfl) ?_
      refine gx_get C hH 0 (by decide) rfl fl_X3_36 rfl dX3_howManyHeld_10 ?_
      refine lv_iload_n hx hb dX3_howManyHeld_13 rfl (lv_at hl 2 rfl) ?_
      obtain ⟨hb2, hf⟩ := gx_chk hf
      have hl3 := gx_lt12 hb2
      have hn4 := gx_ne9 hb2
      refine gx_aaldR C hH 4 (by decide) 4 rfl rfl hb2 rfl dX3_howManyHeld_14 ?_
      refine gx_get C hH (46 + 1 * v2.toNatClampNeg) (gc_ku hl3) (gc_u _ hl3) fl_X3_157 rfl dX3_howManyHeld_15 ?_
      refine lv_if_eq (tgt := 24) hx hb dX3_howManyHeld_18 (by decide) (fun hc5 => ?_) (fun hc5 => ?_)
      · have hf := gx_pos hc5 hf
        obtain ⟨x6, hx6⟩ : ∃ z : Int32, z = (v2 + (1 : Int32)) := ⟨_, rfl⟩
        have hf := gx_let hf x6 hx6
        refine lv_iinc (v := x6) (lv' := [(2, .int x6), (0, .ref (gx_q G 0)), (1, .int v1)]) hx hb dX3_howManyHeld_24 hl (k := 2) rfl (by rw [hx6]; rfl) (by decide) rfl (fun ls hl => ?_)
        refine lv_goto (tgt := 4) hx hb dX3_howManyHeld_27 (by decide) ?_
        exact ih v1 x6  _ hf ls (lv_sub hl [1, 2, 0] rfl)
      · have hf := gx_neg hc5 hf
        obtain ⟨x7, hx7⟩ : ∃ z : Int32, z = (v1 + (1 : Int32)) := ⟨_, rfl⟩
        have hf := gx_let hf x7 hx7
        refine lv_iinc (v := x7) (lv' := [(1, .int x7), (0, .ref (gx_q G 0)), (2, .int v2)]) hx hb dX3_howManyHeld_21 hl (k := 1) rfl (by rw [hx7]; rfl) (by decide) rfl (fun ls hl => ?_)
        obtain ⟨x8, hx8⟩ : ∃ z : Int32, z = (v2 + (1 : Int32)) := ⟨_, rfl⟩
        have hf := gx_let hf x8 hx8
        refine lv_iinc (v := x8) (lv' := [(2, .int x8), (1, .int x7), (0, .ref (gx_q G 0))]) hx hb dX3_howManyHeld_24 hl (k := 2) rfl (by rw [hx8]; rfl) (by decide) rfl (fun ls hl => ?_)
        refine lv_goto (tgt := 4) hx hb dX3_howManyHeld_27 (by decide) ?_
        exact ih x7 x8  _ hf ls (lv_sub hl [2, 1, 0] rfl)
def f_X3_howManyHeld (σ : gx_St) : Option Int32 :=
  fL_X3_howManyHeld_4 5 σ (0 : Int32) (0 : Int32)
set_option maxHeartbeats 4000000 in
set_option maxRecDepth 100000 in
theorem t_X3_howManyHeld (l : Launch) (G : gx_G) (σ : gx_St) (r : Int32)  (hf : f_X3_howManyHeld σ = some r) : Met l yX3_howManyHeld (Cond.code yX3_howManyHeld cX3_howManyHeld 3 (some .int) :: wT) rm_X3_howManyHeld (va_Pc [.ref (gx_q G 0)] (gx_S G 50 (gc_mk G) σ)) (gx_QR (some (.int r))) 0 0 (fun _ => False) := by
  refine Met.ofW (cc := cX3_howManyHeld) (maxL := 3) (ret := (some .int)) (by decide) rfl ?_
  intro p e s m args below meth c s₁ B hml hv
  obtain ⟨rfl, hH, hE⟩ := hv
  have C := gx_C.of (G := G) B hml hE
  have hx := C.1.1
  have hb := C.1.2.1
  have hr := B.returns
  have hlocks := B.notSynchronized
  have hS : va_S (gx_A G) s.heap s.heap [] := va_S.rf
  have hl := lv_entry ([.ref (gx_q G 0)]) (n := 3) (Nat.le_of_ble_eq_true rfl)
  rw [lg_entry_eq]
  generalize (lg_sl ([.ref (gx_q G 0)]) ++ List.replicate (3 - (lg_sl ([.ref (gx_q G 0)])).length) Slot.unset).toArray = ls at hl ⊢
  have hl : lv_has ls 3 [(0, .ref (gx_q G 0))] := hl
  unfold f_X3_howManyHeld at hf
  refine lv_iconst (v := (0 : Int32)) hx hb dX3_howManyHeld_0 (by decide) ?_
  refine lv_istore_n (lv' := [(1, .int (0 : Int32)), (0, .ref (gx_q G 0))]) hx hb dX3_howManyHeld_1 rfl hl (by decide) rfl (fun ls hl => ?_)
  refine lv_iconst (v := (0 : Int32)) hx hb dX3_howManyHeld_2 (by decide) ?_
  refine lv_istore_n (lv' := [(2, .int (0 : Int32)), (1, .int (0 : Int32)), (0, .ref (gx_q G 0))]) hx hb dX3_howManyHeld_3 rfl hl (by decide) rfl (fun ls hl => ?_)
  exact w_X3_howManyHeld_4 (l := l) G C hr hlocks σ hH 5 (0 : Int32) (0 : Int32)  _ hf ls (lv_sub hl [2, 1, 0] rfl)
abbrev rm_X3_many : Room := { frames := 3, cells := 0, slots := 0, locals := 68 }
def f_X3_many (σ : gx_St) (a1 : Int32) : Option Int32 :=
  if a1 = (0 : Int32) then (some (σ 0 1)) else if a1 = (1 : Int32) then ((f_X3_howManyLoaded σ ).bind fun r3 =>
  some r3) else if a1 = (2 : Int32) then ((f_X3_howManyPlay σ ).bind fun r5 =>
  some r5) else if a1 = (3 : Int32) then ((f_X3_howManyOn σ ).bind fun r7 =>
  some r7) else if a1 = (4 : Int32) then (some (σ 0 3)) else if a1 = (5 : Int32) then ((f_X3_howManyHeld σ ).bind fun r10 =>
  some r10) else if a1 = (6 : Int32) then (some (σ 0 7)) else if a1 = (7 : Int32) then (if (σ 0 10) = 0 then (some (0 : Int32)) else (some (1 : Int32))) else if a1 = (8 : Int32) then (some (σ 0 8)) else if a1 = (9 : Int32) then (some (σ 0 11)) else if a1 = (10 : Int32) then (some (σ 0 12)) else (some (-2 : Int32))
set_option maxHeartbeats 4000000 in
set_option maxRecDepth 100000 in
theorem t_X3_many (l : Launch) (G : gx_G) (σ : gx_St) (a1 : Int32) (r : Int32)  (hf : f_X3_many σ a1 = some r) : Met l yX3_many (Cond.code yX3_many cX3_many 2 (some .int) :: wT) rm_X3_many (va_Pc [.ref (gx_q G 0), .int a1] (gx_S G 50 (gc_mk G) σ)) (gx_QR (some (.int r))) 0 0 (fun _ => False) := by
  refine Met.ofW (cc := cX3_many) (maxL := 2) (ret := (some .int)) (by decide) rfl ?_
  intro p e s m args below meth c s₁ B hml hv
  obtain ⟨rfl, hH, hE⟩ := hv
  have C := gx_C.of (G := G) B hml hE
  have hx := C.1.1
  have hb := C.1.2.1
  have hr := B.returns
  have hlocks := B.notSynchronized
  have hS : va_S (gx_A G) s.heap s.heap [] := va_S.rf
  have hl := lv_entry ([.ref (gx_q G 0), .int a1]) (n := 2) (Nat.le_of_ble_eq_true rfl)
  rw [lg_entry_eq]
  generalize (lg_sl ([.ref (gx_q G 0), .int a1]) ++ List.replicate (2 - (lg_sl ([.ref (gx_q G 0), .int a1])).length) Slot.unset).toArray = ls at hl ⊢
  have hl : lv_has ls 2 [(0, .ref (gx_q G 0)), (1, .int a1)] := hl
  unfold f_X3_many at hf
  refine lv_iload_n hx hb dX3_many_0 rfl (lv_at hl 1 rfl) ?_
  by_cases hc1 : a1 = (0 : Int32)
  · have hf := gx_pos hc1 hf
    refine lv_tableIn (tgt := 60) hx hb dX3_many_1 (by rw [hc1]; decide) (by rw [hc1]; decide) (by rw [hc1]; rfl) (by decide) ?_
    refine lv_aload_n hx hb dX3_many_60 rfl (lv_at hl 0 rfl) ?_
    refine gx_get C hH 0 (by decide) rfl fl_X3_15 rfl dX3_many_61 ?_
    obtain rfl := Option.some.inj hf
    exact gx_iretR C hr hlocks dX3_many_64
  · have hf := gx_neg hc1 hf
    by_cases hc2 : a1 = (1 : Int32)
    · have hf := gx_pos hc2 hf
      refine lv_tableIn (tgt := 65) hx hb dX3_many_1 (by rw [hc2]; decide) (by rw [hc2]; decide) (by rw [hc2]; rfl) (by decide) ?_
      refine lv_aload_n hx hb dX3_many_65 rfl (lv_at hl 0 rfl) ?_
      obtain ⟨r3, hr3, hf⟩ := gx_bnd hf
      refine gx_vR (v := (some (.int r3))) (rest := []) C hH hS 0 (by decide) rfl rfl [] (t_X3_howManyLoaded l G σ  r3  hr3) lk_X3_241 ⟨rfl, rfl, Nat.le_of_ble_eq_true rfl, Nat.le_of_ble_eq_true rfl⟩ ⟨Nat.zero_le _, Nat.zero_le _⟩ hl.1 rfl (Nat.le_of_ble_eq_true rfl) dX3_many_66 ?_
      refine gx_e0 (st := [.int r3]) ?_ rfl
      obtain rfl := Option.some.inj hf
      exact gx_iretR C hr hlocks dX3_many_69
    · have hf := gx_neg hc2 hf
      by_cases hc4 : a1 = (2 : Int32)
      · have hf := gx_pos hc4 hf
        refine lv_tableIn (tgt := 70) hx hb dX3_many_1 (by rw [hc4]; decide) (by rw [hc4]; decide) (by rw [hc4]; rfl) (by decide) ?_
        refine lv_aload_n hx hb dX3_many_70 rfl (lv_at hl 0 rfl) ?_
        obtain ⟨r5, hr5, hf⟩ := gx_bnd hf
        refine gx_vR (v := (some (.int r5))) (rest := []) C hH hS 0 (by decide) rfl rfl [] (t_X3_howManyPlay l G σ  r5  hr5) lk_X3_186 ⟨rfl, rfl, Nat.le_of_ble_eq_true rfl, Nat.le_of_ble_eq_true rfl⟩ ⟨Nat.zero_le _, Nat.zero_le _⟩ hl.1 rfl (Nat.le_of_ble_eq_true rfl) dX3_many_71 ?_
        refine gx_e0 (st := [.int r5]) ?_ rfl
        obtain rfl := Option.some.inj hf
        exact gx_iretR C hr hlocks dX3_many_74
      · have hf := gx_neg hc4 hf
        by_cases hc6 : a1 = (3 : Int32)
        · have hf := gx_pos hc6 hf
          refine lv_tableIn (tgt := 75) hx hb dX3_many_1 (by rw [hc6]; decide) (by rw [hc6]; decide) (by rw [hc6]; rfl) (by decide) ?_
          refine lv_aload_n hx hb dX3_many_75 rfl (lv_at hl 0 rfl) ?_
          obtain ⟨r7, hr7, hf⟩ := gx_bnd hf
          refine gx_vR (v := (some (.int r7))) (rest := []) C hH hS 0 (by decide) rfl rfl [] (t_X3_howManyOn l G σ  r7  hr7) lk_X3_244 ⟨rfl, rfl, Nat.le_of_ble_eq_true rfl, Nat.le_of_ble_eq_true rfl⟩ ⟨Nat.zero_le _, Nat.zero_le _⟩ hl.1 rfl (Nat.le_of_ble_eq_true rfl) dX3_many_76 ?_
          refine gx_e0 (st := [.int r7]) ?_ rfl
          obtain rfl := Option.some.inj hf
          exact gx_iretR C hr hlocks dX3_many_79
        · have hf := gx_neg hc6 hf
          by_cases hc8 : a1 = (4 : Int32)
          · have hf := gx_pos hc8 hf
            refine lv_tableIn (tgt := 80) hx hb dX3_many_1 (by rw [hc8]; decide) (by rw [hc8]; decide) (by rw [hc8]; rfl) (by decide) ?_
            refine lv_aload_n hx hb dX3_many_80 rfl (lv_at hl 0 rfl) ?_
            refine gx_get C hH 0 (by decide) rfl fl_X3_22 rfl dX3_many_81 ?_
            obtain rfl := Option.some.inj hf
            exact gx_iretR C hr hlocks dX3_many_84
          · have hf := gx_neg hc8 hf
            by_cases hc9 : a1 = (5 : Int32)
            · have hf := gx_pos hc9 hf
              refine lv_tableIn (tgt := 85) hx hb dX3_many_1 (by rw [hc9]; decide) (by rw [hc9]; decide) (by rw [hc9]; rfl) (by decide) ?_
              refine lv_aload_n hx hb dX3_many_85 rfl (lv_at hl 0 rfl) ?_
              obtain ⟨r10, hr10, hf⟩ := gx_bnd hf
              refine gx_vR (v := (some (.int r10))) (rest := []) C hH hS 0 (by decide) rfl rfl [] (t_X3_howManyHeld l G σ  r10  hr10) lk_X3_247 ⟨rfl, rfl, Nat.le_of_ble_eq_true rfl, Nat.le_of_ble_eq_true rfl⟩ ⟨Nat.zero_le _, Nat.zero_le _⟩ hl.1 rfl (Nat.le_of_ble_eq_true rfl) dX3_many_86 ?_
              refine gx_e0 (st := [.int r10]) ?_ rfl
              obtain rfl := Option.some.inj hf
              exact gx_iretR C hr hlocks dX3_many_89
            · have hf := gx_neg hc9 hf
              by_cases hc11 : a1 = (6 : Int32)
              · have hf := gx_pos hc11 hf
                refine lv_tableIn (tgt := 90) hx hb dX3_many_1 (by rw [hc11]; decide) (by rw [hc11]; decide) (by rw [hc11]; rfl) (by decide) ?_
                refine lv_aload_n hx hb dX3_many_90 rfl (lv_at hl 0 rfl) ?_
                refine gx_get C hH 0 (by decide) rfl fl_X3_40 rfl dX3_many_91 ?_
                obtain rfl := Option.some.inj hf
                exact gx_iretR C hr hlocks dX3_many_94
              · have hf := gx_neg hc11 hf
                by_cases hc12 : a1 = (7 : Int32)
                · have hf := gx_pos hc12 hf
                  refine lv_tableIn (tgt := 95) hx hb dX3_many_1 (by rw [hc12]; decide) (by rw [hc12]; decide) (by rw [hc12]; rfl) (by decide) ?_
                  refine lv_aload_n hx hb dX3_many_95 rfl (lv_at hl 0 rfl) ?_
                  refine gx_get C hH 0 (by decide) rfl fl_X3_49 rfl dX3_many_96 ?_
                  refine lv_if_eq (tgt := 106) hx hb dX3_many_99 (by decide) (fun hc13 => ?_) (fun hc13 => ?_)
                  · have hf := gx_pos hc13 hf
                    refine lv_iconst (v := (0 : Int32)) hx hb dX3_many_106 (by decide) ?_
                    obtain rfl := Option.some.inj hf
                    exact gx_iretR C hr hlocks dX3_many_107
                  · have hf := gx_neg hc13 hf
                    refine lv_iconst (v := (1 : Int32)) hx hb dX3_many_102 (by decide) ?_
                    refine lv_goto (tgt := 107) hx hb dX3_many_103 (by decide) ?_
                    obtain rfl := Option.some.inj hf
                    exact gx_iretR C hr hlocks dX3_many_107
                · have hf := gx_neg hc12 hf
                  by_cases hc14 : a1 = (8 : Int32)
                  · have hf := gx_pos hc14 hf
                    refine lv_tableIn (tgt := 108) hx hb dX3_many_1 (by rw [hc14]; decide) (by rw [hc14]; decide) (by rw [hc14]; rfl) (by decide) ?_
                    refine lv_aload_n hx hb dX3_many_108 rfl (lv_at hl 0 rfl) ?_
                    refine gx_get C hH 0 (by decide) rfl fl_X3_43 rfl dX3_many_109 ?_
                    obtain rfl := Option.some.inj hf
                    exact gx_iretR C hr hlocks dX3_many_112
                  · have hf := gx_neg hc14 hf
                    by_cases hc15 : a1 = (9 : Int32)
                    · have hf := gx_pos hc15 hf
                      refine lv_tableIn (tgt := 113) hx hb dX3_many_1 (by rw [hc15]; decide) (by rw [hc15]; decide) (by rw [hc15]; rfl) (by decide) ?_
                      refine lv_aload_n hx hb dX3_many_113 rfl (lv_at hl 0 rfl) ?_
                      refine gx_get C hH 0 (by decide) rfl fl_X3_53 rfl dX3_many_114 ?_
                      obtain rfl := Option.some.inj hf
                      exact gx_iretR C hr hlocks dX3_many_117
                    · have hf := gx_neg hc15 hf
                      by_cases hc16 : a1 = (10 : Int32)
                      · have hf := gx_pos hc16 hf
                        refine lv_tableIn (tgt := 118) hx hb dX3_many_1 (by rw [hc16]; decide) (by rw [hc16]; decide) (by rw [hc16]; rfl) (by decide) ?_
                        refine lv_aload_n hx hb dX3_many_118 rfl (lv_at hl 0 rfl) ?_
                        refine gx_get C hH 0 (by decide) rfl fl_X3_56 rfl dX3_many_119 ?_
                        obtain rfl := Option.some.inj hf
                        exact gx_iretR C hr hlocks dX3_many_122
                      · have hf := gx_neg hc16 hf
                        refine lv_tableOut (tgt := 123) hx hb dX3_many_1 (by have q0 := lv_neT hc1 (a := 0) rfl; have q1 := lv_neT hc2 (a := 1) rfl; have q2 := lv_neT hc4 (a := 2) rfl; have q3 := lv_neT hc6 (a := 3) rfl; have q4 := lv_neT hc8 (a := 4) rfl; have q5 := lv_neT hc9 (a := 5) rfl; have q6 := lv_neT hc11 (a := 6) rfl; have q7 := lv_neT hc12 (a := 7) rfl; have q8 := lv_neT hc14 (a := 8) rfl; have q9 := lv_neT hc15 (a := 9) rfl; have q10 := lv_neT hc16 (a := 10) rfl; omega) (by decide) ?_
                        refine lv_bipush (v := (-2 : Int32)) hx hb dX3_many_123 (by decide) ?_
                        obtain rfl := Option.some.inj hf
                        exact gx_iretR C hr hlocks dX3_many_125
