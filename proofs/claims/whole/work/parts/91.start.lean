/-! the start: what the tables and the statics give -/
theorem le_mem : ∀ i, i < 5 → ∀ j, j < gx_tl i → Cond.eq (.elem (.static "PushStick" (gx_tn i) "[I") (.int (Int32.ofNat j))) (.int (gx_tv i j)) ∈ flatC (Jvm.Cond.and given_1 narrow_1) := by decide +kernel
theorem le_len : ∀ i, i < 5 → Cond.eq (.length (.static "PushStick" (gx_tn i) "[I")) (.int (Int32.ofNat (gx_tl i))) ∈ flatC (Jvm.Cond.and given_1 narrow_1) := by decide +kernel
theorem le_arr : ∀ i, i < 5 → Cond.arrayOf (.static "PushStick" (gx_tn i) "[I") .int ∈ flatC (Jvm.Cond.and given_1 narrow_1) := by decide +kernel
theorem le_lay : ∀ i, i < 5 → Cond.laysStatic "PushStick" (gx_tn i) "[I" ∈ lw_tbl := by
  intro i hi
  rcases (show i = 0 ∨ i = 1 ∨ i = 2 ∨ i = 3 ∨ i = 4 by omega) with rfl | rfl | rfl | rfl | rfl
  · exact (List.mem_append_right _ (List.mem_append_left _ (List.mem_of_getElem? (i := 164) rfl)))
  · exact (List.mem_append_right _ (List.mem_append_left _ (List.mem_of_getElem? (i := 166) rfl)))
  · exact (List.mem_append_right _ (List.mem_append_left _ (List.mem_of_getElem? (i := 188) rfl)))
  · exact (List.mem_append_right _ (List.mem_append_left _ (List.mem_of_getElem? (i := 190) rfl)))
  · exact (List.mem_append_right _ (List.mem_append_left _ (List.mem_of_getElem? (i := 175) rfl)))
theorem le_T {s : State} {b : Nat} (hts : ∀ w ∈ lw_tbl, w.before #[Value.ref b] s = true) (hgv : (Jvm.Cond.and given_1 narrow_1).before #[Value.ref b] s = true) : ∃ tb : Nat → Nat, ∀ A : Nat → Prop, (∀ a : Nat, a < s.heap.size → ¬ A a) → ∀ i, i < 5 → va_Z "PushStick" (gx_tn i) "[I" (.ref (tb i)) A s s.heap ∧ va_T .int (tb i) (gx_tl i) (fun j => .int (gx_tv i j)) A s s.heap := by
  have hs := flat_of_before _ hgv
  have key : ∀ i, ∃ t : Nat, i < 5 → ∀ A : Nat → Prop, (∀ a : Nat, a < s.heap.size → ¬ A a) → va_Z "PushStick" (gx_tn i) "[I" (.ref t) A s s.heap ∧ va_T .int t (gx_tl i) (fun j => .int (gx_tv i j)) A s s.heap := by
    intro i
    by_cases hi : i < 5
    · have hN : gx_tl i < 2 ^ 31 := by
        rcases (show i = 0 ∨ i = 1 ∨ i = 2 ∨ i = 3 ∨ i = 4 by omega) with rfl | rfl | rfl | rfl | rfl <;> decide
      obtain ⟨t, ht, -⟩ := va_Tof (A := fun _ => False) hN (hs _ (le_arr i hi)) (va_eqt (hs _ (le_len i hi))) (f := fun j => .int (gx_tv i j)) (fun j hj => va_eqt (hs _ (le_mem i hi j hj))) (fun _ _ h => h)
      refine ⟨t, fun _ A hA => ?_⟩
      obtain ⟨t2, ht2, h2⟩ := va_Tof (A := A) hN (hs _ (le_arr i hi)) (va_eqt (hs _ (le_len i hi))) (f := fun j => .int (gx_tv i j)) (fun j hj => va_eqt (hs _ (le_mem i hi j hj))) hA
      cases ht.symm.trans ht2
      exact ⟨va_Zref (hts _ (le_lay i hi)) (hts _ (List.mem_append_right _ (List.mem_append_left _ (List.mem_of_getElem? (i := 1) rfl)))) ht hA, h2⟩
    · exact ⟨0, fun h => absurd h hi⟩
  exact ⟨fun i => Classical.choose (key i), fun A hA i hi => Classical.choose_spec (key i) hi A hA⟩
theorem le_N {s : State} {b : Nat} (hts : ∀ w ∈ lw_tbl, w.before #[Value.ref b] s = true) : gx_N s := ⟨va_Nw.of rfl (hts _ (List.mem_append_right _ (List.mem_append_right _ (List.mem_append_left _ (List.mem_of_getElem? (i := 110) rfl))))), va_Nw.of rfl (hts _ (List.mem_append_right _ (List.mem_append_right _ (List.mem_append_left _ (List.mem_of_getElem? (i := 113) rfl))))), va_Nw.of rfl (hts _ (List.mem_append_right _ (List.mem_append_right _ (List.mem_append_left _ (List.mem_of_getElem? (i := 124) rfl))))), va_Nw.of rfl (hts _ (List.mem_append_right _ (List.mem_append_left _ (List.mem_of_getElem? (i := 174) rfl))))⟩
theorem le_Y {s : State} {b : Nat} (hts : ∀ w ∈ lw_tbl, w.before #[Value.ref b] s = true) : ye_N s := ⟨va_AO.of (hts _ (List.mem_append_right _ (List.mem_append_left _ (List.mem_of_getElem? (i := 17) rfl)))), va_AO.of (hts _ (List.mem_append_right _ (List.mem_append_left _ (List.mem_of_getElem? (i := 19) rfl)))), va_AO.of (hts _ (List.mem_append_right _ (List.mem_append_left _ (List.mem_of_getElem? (i := 21) rfl)))), va_Nw.of rfl (hts _ (List.mem_append_right _ (List.mem_append_left _ (List.mem_of_getElem? (i := 91) rfl))))⟩
theorem le_YX : gy_X ye_N := ⟨fun s U hW h => ⟨h.1.moved hW.alike, h.2.1.moved hW.alike, h.2.2.1.moved hW.alike, h.2.2.2.warmM hW⟩, fun u U e h => ⟨va_AO.moved (by rw [e]; exact Vm.Alike.refl _) h.1, va_AO.moved (by rw [e]; exact Vm.Alike.refl _) h.2.1, va_AO.moved (by rw [e]; exact Vm.Alike.refl _) h.2.2.1, h.2.2.2.same rfl e⟩⟩
theorem le_ai {s : State} {b : Nat} {ty : FieldType} (h : (Cond.arrayClass ty).before #[Value.ref b] s = true) (hRA : ∀ cA, s.vm.findClass ("[" ++ ty.toString) = some cA → va_RA s cA ty) : ∃ cA : ClassId, ArrOfT s cA ty ∧ va_RA s cA ty := by
  obtain ⟨cA, k, comp, h1, h2, h3⟩ := Cond.arrayClass_spec h
  exact ⟨cA, fun n z => ⟨fun k h => (by cases h), k, h2, comp, h3⟩, hRA cA h1⟩
theorem le_ao {s : State} {b : Nat} {Cn : String} (h : (Cond.arrayOver (.object Cn)).before #[Value.ref b] s = true) : ∃ cA : ClassId, ArrOfT s cA (.object Cn) ∧ va_RA s cA (.object Cn) := by
  obtain ⟨comp, c, k, h1, h2, h3, h4, h5⟩ := Cond.arrayOver_spec h
  exact ⟨c, fun n z => ⟨fun k h => (by cases h), k, h3, comp, h4⟩, k, comp, h3, h4, h1, h5⟩
theorem le_K {s : State} {b : Nat} (hts : ∀ w ∈ lw_tbl, w.before #[Value.ref b] s = true) : ∃ (D : va_G) (ids : Nat → ClassId), ∀ (q : Nat → Nat) (A : Nat → Prop) (tb : Nat → Nat), gx_K (D, ids, q, A, tb) s := by
  have hT : ∀ w ∈ wT, w.before #[Value.ref b] s = true := fun w h => hts w (wT_tbl w h)
  obtain ⟨c0, i0, h0⟩ := u_known (C := RX0) (T := TX0) (N := 3) (n := 3) hT iw_X0 (hT _ kw_70)
  obtain ⟨c1, i1, h1⟩ := u_known (C := RX1) (T := TX1) (N := 2) (n := 2) hT iw_X1 (hT _ kw_90)
  obtain ⟨c2, i2, h2⟩ := u_known (C := RX2) (T := TX2) (N := 10) (n := 10) hT iw_X2 (hT _ kw_22)
  obtain ⟨c3, i3, h3⟩ := u_known (C := RX3) (T := TX3) (N := 16) (n := 16) hT iw_X3 (hT _ kw_9)
  obtain ⟨c4, i4, h4⟩ := u_known (C := RX4) (T := TX4) (N := 21) (n := 21) hT iw_X4 (hT _ kw_475)
  obtain ⟨d0, e0⟩ := le_ai (hT _ kw_68) (fun _ h => h)
  obtain ⟨d1, e1⟩ := le_ai (hT _ kw_69) (fun _ h => h)
  obtain ⟨d2, e2⟩ := le_ao (hts _ (List.mem_append_right _ (List.mem_append_left _ (List.mem_of_getElem? (i := 17) rfl))))
  obtain ⟨d3, e3⟩ := le_ao (hts _ (List.mem_append_right _ (List.mem_append_left _ (List.mem_of_getElem? (i := 19) rfl))))
  obtain ⟨d4, e4⟩ := le_ao (hts _ (List.mem_append_right _ (List.mem_append_left _ (List.mem_of_getElem? (i := 21) rfl))))
  refine ⟨(fun k => match k with
    | 0 => c0
    | 1 => c1
    | 2 => c2
    | 3 => c3
    | _ => c4, fun k => match k with
    | 0 => i0
    | 1 => i1
    | 2 => i2
    | 3 => i3
    | _ => i4), (fun k => match k with
    | 0 => d0
    | 1 => d1
    | 2 => d2
    | 3 => d3
    | _ => d4), fun q A tb => ⟨fun k w hw => ?_, fun k w hw => ?_⟩⟩
  · match k, hw with
    | 0, hw => cases hw; exact h0
    | 1, hw => cases hw; exact h1
    | 2, hw => cases hw; exact h2
    | 3, hw => cases hw; exact h3
    | 4, hw => cases hw; exact h4
    | k + 5, hw => cases hw
  · match k, hw with
    | 0, hw => cases hw; exact e0
    | 1, hw => cases hw; exact e1
    | 2, hw => cases hw; exact e2
    | 3, hw => cases hw; exact e3
    | 4, hw => cases hw; exact e4
    | k + 5, hw => cases hw
set_option maxHeartbeats 4000000 in
set_option maxRecDepth 100000 in
theorem law_loop {p : Program} {l : Launch} {e : Env} {s : State} {m : MethodId} {below : List Frame} {meth : Method} {c : Code} {b L : Nat} {xs : Nat → Int32} {G : gx_G} (hL : L ≤ 3072) (hb : c.code = code) (hr : meth.sig.returnType = ret) (hlocks : meth.locks = false) (Cc : gx_C p m c code 4 s #[Value.ref b] R_law (gz_G G s.heap.size 50)) (Cm : gx_C p m c code 4 s #[Value.ref b] R_law (gz_G G (s.heap.size + 50) 13)) (hX : va_X b L xs s s.heap) (hbl : b < s.heap.size) : ∀ (N i : Nat), L < i + 6 * N → i ≤ 3100 → ∀ (σ τ : gx_St), zz_R σ τ → ∀ (H : Heap) (locs : List Loc), gz_L G s σ τ H locs → ∀ (ls : Array Slot), lv_has ls 4 [(0, .ref b), (1, .ref s.heap.size), (2, .ref (s.heap.size + 50)), (3, .int (nI i))] → W p l e room_1 s m #[Value.ref b] below meth c H locs 63 799 (lw_Z below #[Value.ref b] s) (F0 m 18 ls []) := by
  have hx := Cc.1.1
  intro N
  induction N with
  | zero =>
    intro i hN hi31 σ τ hR H locs hG ls hl
    refine lv_iload_n hx hb dL_law_18 rfl (lv_at hl 3 rfl) ?_
    refine lv_aload_n hx hb dL_law_19 rfl (lv_at hl 0 rfl) ?_
    refine gz_slen hx hb hX hbl hG dL_law_20 ?_
    refine lv_bipush (v := (6 : Int32)) hx hb dL_law_21 (by decide) ?_
    refine lv_isub hx hb dL_law_23 ?_
    refine lv_icmp_gt (tgt := 910) hx hb dL_law_24 (by decide) (fun hc => ?_) (fun hc => ?_)
    · refine lv_iconst (v := (1 : Int32)) hx hb dL_law_910 (by decide) ?_
      refine va_forget hG.2.2.2.2 ?_
      refine W.widen (k := 600000) (n := 7302250) (Nat.le_of_ble_eq_true rfl) (Nat.le_of_ble_eq_true rfl) ?_
      exact lw_ret hx hb hr hlocks dL_law_911
    · refine absurd ?_ hc
      rw [Int32.lt_iff_toInt_lt, nI_toInt (by omega), show (6 : Int32) = nI 6 from rfl, pk_sub_toInt (by omega) (by omega)]
      omega
  | succ N ih =>
    intro i hN hi31 σ τ hR H locs hG ls hl
    refine lv_iload_n hx hb dL_law_18 rfl (lv_at hl 3 rfl) ?_
    refine lv_aload_n hx hb dL_law_19 rfl (lv_at hl 0 rfl) ?_
    refine gz_slen hx hb hX hbl hG dL_law_20 ?_
    refine lv_bipush (v := (6 : Int32)) hx hb dL_law_21 (by decide) ?_
    refine lv_isub hx hb dL_law_23 ?_
    refine lv_icmp_gt (tgt := 910) hx hb dL_law_24 (by decide) (fun hc => ?_) (fun hc => ?_)
    · refine lv_iconst (v := (1 : Int32)) hx hb dL_law_910 (by decide) ?_
      refine va_forget hG.2.2.2.2 ?_
      refine W.widen (k := 600000) (n := 7302250) (Nat.le_of_ble_eq_true rfl) (Nat.le_of_ble_eq_true rfl) ?_
      exact lw_ret hx hb hr hlocks dL_law_911
    · have hi : i + 6 ≤ L := by
        rw [Int32.lt_iff_toInt_lt, nI_toInt (by omega), show (6 : Int32) = nI 6 from rfl, pk_sub_toInt (by omega) (by omega)] at hc
        omega
      have KK : ∀ (σ τ : gx_St), zz_R σ τ → ∀ (H : Heap) (locs : List Loc), gz_L G s σ τ H locs → W p l e room_1 s m #[Value.ref b] below meth c H locs 63 799 (lw_Z below #[Value.ref b] s) (F0 m 904 ls []) := by
        intro σ τ hR H locs hG
        refine lv_iinc (v := nI (i + 6)) (lv' := [(3, .int (nI (i + 6))), (0, .ref b), (1, .ref s.heap.size), (2, .ref (s.heap.size + 50))]) hx hb dL_law_904 hl (k := 3) rfl (nI_add i 6) (by decide) rfl (fun ls hl => ?_)
        refine lv_goto (tgt := 18) hx hb dL_law_907 (by decide) ?_
        exact ih (i + 6) (by omega) (by omega) σ τ hR H locs hG ls (lv_sub hl [1, 2, 3, 0] rfl)
      refine lv_aload_n hx hb dL_law_27 rfl (lv_at hl 0 rfl) ?_
      refine lv_iload_n hx hb dL_law_28 rfl (lv_at hl 3 rfl) ?_
      refine gz_sld hx hb hX hbl hG i rfl (by omega) (by omega) dL_law_29 ?_
      refine lv_bipush (v := (31 : Int32)) hx hb dL_law_30 (by decide) ?_
      refine lv_iand hx hb dL_law_32 ?_
      obtain ⟨j, hj, ej⟩ := pk_andE (xs i) (m := 31) 5 (by decide)
      rw [ej]
      rcases (show j = 0 ∨ j = 1 ∨ j = 2 ∨ j = 3 ∨ j = 4 ∨ j = 5 ∨ j = 6 ∨ j = 7 ∨ j = 8 ∨ j = 9 ∨ j = 10 ∨ j = 11 ∨ j = 12 ∨ j = 13 ∨ j = 14 ∨ j = 15 ∨ j = 16 ∨ j = 17 ∨ j = 18 ∨ j = 19 ∨ j = 20 ∨ j = 21 ∨ j = 22 ∨ j = 23 ∨ j = 24 ∨ j = 25 ∨ j = 26 ∨ j = 27 ∨ 28 ≤ j by omega) with rfl | rfl | rfl | rfl | rfl | rfl | rfl | rfl | rfl | rfl | rfl | rfl | rfl | rfl | rfl | rfl | rfl | rfl | rfl | rfl | rfl | rfl | rfl | rfl | rfl | rfl | rfl | rfl | hj2
      · refine lv_tableIn (tgt := 160) hx hb dL_law_33 (by decide) (by decide) rfl (by decide) ?_
        exact lc_0 hL hb hr hlocks Cc Cm hX hbl hi hR hG hl KK
      · refine lv_tableIn (tgt := 223) hx hb dL_law_33 (by decide) (by decide) rfl (by decide) ?_
        exact lc_1 hL hb hr hlocks Cc Cm hX hbl hi hR hG hl KK
      · refine lv_tableIn (tgt := 266) hx hb dL_law_33 (by decide) (by decide) rfl (by decide) ?_
        exact lc_2 hL hb hr hlocks Cc Cm hX hbl hi hR hG hl KK
      · refine lv_tableIn (tgt := 279) hx hb dL_law_33 (by decide) (by decide) rfl (by decide) ?_
        exact lc_3 hL hb hr hlocks Cc Cm hX hbl hi hR hG hl KK
      · refine lv_tableIn (tgt := 312) hx hb dL_law_33 (by decide) (by decide) rfl (by decide) ?_
        exact lc_4 hL hb hr hlocks Cc Cm hX hbl hi hR hG hl KK
      · refine lv_tableIn (tgt := 345) hx hb dL_law_33 (by decide) (by decide) rfl (by decide) ?_
        exact lc_5 hL hb hr hlocks Cc Cm hX hbl hi hR hG hl KK
      · refine lv_tableIn (tgt := 378) hx hb dL_law_33 (by decide) (by decide) rfl (by decide) ?_
        exact lc_6 hL hb hr hlocks Cc Cm hX hbl hi hR hG hl KK
      · refine lv_tableIn (tgt := 401) hx hb dL_law_33 (by decide) (by decide) rfl (by decide) ?_
        exact lc_7 hL hb hr hlocks Cc Cm hX hbl hi hR hG hl KK
      · refine lv_tableIn (tgt := 424) hx hb dL_law_33 (by decide) (by decide) rfl (by decide) ?_
        exact lc_8 hL hb hr hlocks Cc Cm hX hbl hi hR hG hl KK
      · refine lv_tableIn (tgt := 447) hx hb dL_law_33 (by decide) (by decide) rfl (by decide) ?_
        exact lc_9 hL hb hr hlocks Cc Cm hX hbl hi hR hG hl KK
      · refine lv_tableIn (tgt := 470) hx hb dL_law_33 (by decide) (by decide) rfl (by decide) ?_
        exact lc_10 hL hb hr hlocks Cc Cm hX hbl hi hR hG hl KK
      · refine lv_tableIn (tgt := 493) hx hb dL_law_33 (by decide) (by decide) rfl (by decide) ?_
        exact lc_11 hL hb hr hlocks Cc Cm hX hbl hi hR hG hl KK
      · refine lv_tableIn (tgt := 516) hx hb dL_law_33 (by decide) (by decide) rfl (by decide) ?_
        exact lc_12 hL hb hr hlocks Cc Cm hX hbl hi hR hG hl KK
      · refine lv_tableIn (tgt := 539) hx hb dL_law_33 (by decide) (by decide) rfl (by decide) ?_
        exact lc_13 hL hb hr hlocks Cc Cm hX hbl hi hR hG hl KK
      · refine lv_tableIn (tgt := 562) hx hb dL_law_33 (by decide) (by decide) rfl (by decide) ?_
        exact lc_14 hL hb hr hlocks Cc Cm hX hbl hi hR hG hl KK
      · refine lv_tableIn (tgt := 585) hx hb dL_law_33 (by decide) (by decide) rfl (by decide) ?_
        exact lc_15 hL hb hr hlocks Cc Cm hX hbl hi hR hG hl KK
      · refine lv_tableIn (tgt := 598) hx hb dL_law_33 (by decide) (by decide) rfl (by decide) ?_
        exact lc_16 hL hb hr hlocks Cc Cm hX hbl hi hR hG hl KK
      · refine lv_tableIn (tgt := 621) hx hb dL_law_33 (by decide) (by decide) rfl (by decide) ?_
        exact lc_17 hL hb hr hlocks Cc Cm hX hbl hi hR hG hl KK
      · refine lv_tableIn (tgt := 644) hx hb dL_law_33 (by decide) (by decide) rfl (by decide) ?_
        exact lc_18 hL hb hr hlocks Cc Cm hX hbl hi hR hG hl KK
      · refine lv_tableIn (tgt := 677) hx hb dL_law_33 (by decide) (by decide) rfl (by decide) ?_
        exact lc_19 hL hb hr hlocks Cc Cm hX hbl hi hR hG hl KK
      · refine lv_tableIn (tgt := 700) hx hb dL_law_33 (by decide) (by decide) rfl (by decide) ?_
        exact lc_20 hL hb hr hlocks Cc Cm hX hbl hi hR hG hl KK
      · refine lv_tableIn (tgt := 733) hx hb dL_law_33 (by decide) (by decide) rfl (by decide) ?_
        exact lc_21 hL hb hr hlocks Cc Cm hX hbl hi hR hG hl KK
      · refine lv_tableIn (tgt := 756) hx hb dL_law_33 (by decide) (by decide) rfl (by decide) ?_
        exact lc_22 hL hb hr hlocks Cc Cm hX hbl hi hR hG hl KK
      · refine lv_tableIn (tgt := 779) hx hb dL_law_33 (by decide) (by decide) rfl (by decide) ?_
        exact lc_23 hL hb hr hlocks Cc Cm hX hbl hi hR hG hl KK
      · refine lv_tableIn (tgt := 792) hx hb dL_law_33 (by decide) (by decide) rfl (by decide) ?_
        exact lc_24 hL hb hr hlocks Cc Cm hX hbl hi hR hG hl KK
      · refine lv_tableIn (tgt := 835) hx hb dL_law_33 (by decide) (by decide) rfl (by decide) ?_
        exact lc_25 hL hb hr hlocks Cc Cm hX hbl hi hR hG hl KK
      · refine lv_tableIn (tgt := 858) hx hb dL_law_33 (by decide) (by decide) rfl (by decide) ?_
        exact lc_26 hL hb hr hlocks Cc Cm hX hbl hi hR hG hl KK
      · refine lv_tableIn (tgt := 881) hx hb dL_law_33 (by decide) (by decide) rfl (by decide) ?_
        exact lc_27 hL hb hr hlocks Cc Cm hX hbl hi hR hG hl KK
      · refine lv_tableOut (tgt := 904) hx hb dL_law_33 (by rw [nI_toInt (by omega)]; omega) (by decide) ?_
        exact KK σ τ hR H locs hG
set_option maxHeartbeats 4000000 in
set_option maxRecDepth 100000 in
/-- THE LAW, from its entry -/
theorem whole_start {p : Program} {e : Env} {s : State} {m : MethodId} {below : List Frame} {meth : Method} {c : Code} (l : Launch) (hflags : l.flags = flags0) {b L : Nat} {xs : Nat → Int32} (hL : L ≤ 3072) (C0 : lw_At p s m meth c b L xs) : W p l e room_1 s m #[Value.ref b] below meth c s.heap [] 0 0 (lw_Z below #[Value.ref b] s) (entryFrame m ([Value.ref b] : List Value).toArray 4) := by
  obtain ⟨hx, hb, hret, hml, hown, hts, hX, hbl, hlocks, hgv⟩ := id C0
  obtain ⟨D, ids, hK⟩ := le_K hts
  obtain ⟨tb, hT⟩ := le_T hts hgv
  have hT9 : ∀ w ∈ wT, w.before #[Value.ref b] s = true := fun w h => hts w (wT_tbl w h)
  obtain ⟨G, hGe⟩ : ∃ G : gx_G, G = (D, ids, fun k => k, fun _ => False, tb) := ⟨_, rfl⟩
  have hKG : gx_K G s := by rw [hGe]; exact hK _ _ _
  have hE : ∀ a n, s.heap.size ≤ a → gx_E (gz_G G a n) s := by
    intro a n ha
    subst hGe
    exact ⟨hK _ _ _, fun i hi => hT _ (fun q hq z => by have z1 := z.1; omega) i hi, le_N hts⟩
  have C : gy_C p m c code 4 s #[Value.ref b] R_law G := ⟨⟨hx, hb, hml, hown, hT9⟩, hKG⟩
  have Cc : gx_C p m c code 4 s #[Value.ref b] R_law (gz_G G s.heap.size 50) := ⟨⟨hx, hb, hml, hown, hT9⟩, hE _ _ (Nat.le_refl _)⟩
  have Cm : gx_C p m c code 4 s #[Value.ref b] R_law (gz_G G (s.heap.size + 50) 13) := ⟨⟨hx, hb, hml, hown, hT9⟩, hE _ _ (Nat.le_add_right _ _)⟩
  have hA : ∀ q, s.heap.size ≤ q → (fun q => s.heap.size ≤ q) q := fun _ h => h
  have hS : va_S (fun q => s.heap.size ≤ q) s.heap s.heap [] := va_S.rf
  have hH : gy_H G s.heap.size 0 (fun _ => .inr (0, [])) s.heap := ⟨fun k hk => absurd hk (Nat.not_lt_zero k), rfl⟩
  have hl := lv_entry ([.ref b]) (n := 4) (Nat.le_of_ble_eq_true rfl)
  rw [lg_entry_eq]
  generalize (lg_sl ([.ref b]) ++ List.replicate (4 - (lg_sl ([.ref b])).length) Slot.unset).toArray = ls at hl ⊢
  have hl : lv_has ls 4 [(0, .ref b)] := hl
  refine gy_new (ci := 3) (fs := yb_X3) C hA hH hS rfl iw_X3 tyX3_ok kw_8 kw_9 kw_1 (fun j hj => by rcases (show j = 0 ∨ j = 1 ∨ j = 2 ∨ j = 3 ∨ j = 4 ∨ j = 5 ∨ j = 6 ∨ j = 7 ∨ j = 8 ∨ j = 9 ∨ j = 10 ∨ j = 11 ∨ j = 12 ∨ j = 13 ∨ j = 14 ∨ j = 15 by omega) with rfl | rfl | rfl | rfl | rfl | rfl | rfl | rfl | rfl | rfl | rfl | rfl | rfl | rfl | rfl | rfl <;> rfl) (Nat.le_of_ble_eq_true rfl) (Nat.le_of_ble_eq_true rfl) dL_law_0 (fun H hH hS => ?_)
  refine lv_dup hx hb dL_law_3 rfl ?_
  refine gy_init hA hH hS (va_runI (As := []) (rest := [.ref (s.heap.size + 0)]) C.1 (t_X3_init l G (s.heap.size + 0)) (cwI 0 C.1.2.2.2.2 (gx_C.good kw_12) rfl rfl rfl (C.1.2.2.2.2 _ kw_1) (C.1.2.2.2.2 _ kw_10) (C.1.2.2.2.2 _ kw_11) rfl (by decide +kernel) ⟨Nat.le_of_ble_eq_true rfl, Nat.le_of_ble_eq_true rfl⟩) ⟨gy_blind le_YX _, fun U hU hW => ⟨rfl, gy_pre le_YX C (le_Y hts) hH hU hW (if_pos rfl)⟩⟩ rfl rfl hl.1 rfl (lv_room (Nat.le_of_ble_eq_true rfl)) dL_law_4 ⟨Nat.le_of_ble_eq_true rfl, Nat.le_of_ble_eq_true rfl⟩) (fun H locs hH hS => ?_)
  have hH : gy_H G s.heap.size 50 (ye_X3 G s.heap.size 12 2 4) H := hH.as (fun k hk => if_neg (Nat.not_lt_zero k))
  refine lv_astore_n (lv' := [(1, .ref s.heap.size), (0, .ref b)]) hx hb dL_law_7 rfl hl (by decide) rfl (fun ls hl => ?_)
  refine gy_new (ci := 4) (fs := yb_X4) C hA hH hS rfl iw_X4 tyX4_ok kw_474 kw_475 kw_5 (fun j hj => by rcases (show j = 0 ∨ j = 1 ∨ j = 2 ∨ j = 3 ∨ j = 4 ∨ j = 5 ∨ j = 6 ∨ j = 7 ∨ j = 8 ∨ j = 9 ∨ j = 10 ∨ j = 11 ∨ j = 12 ∨ j = 13 ∨ j = 14 ∨ j = 15 ∨ j = 16 ∨ j = 17 ∨ j = 18 ∨ j = 19 ∨ j = 20 by omega) with rfl | rfl | rfl | rfl | rfl | rfl | rfl | rfl | rfl | rfl | rfl | rfl | rfl | rfl | rfl | rfl | rfl | rfl | rfl | rfl | rfl <;> rfl) (Nat.le_of_ble_eq_true rfl) (Nat.le_of_ble_eq_true rfl) dL_law_8 (fun H hH hS => ?_)
  refine lv_dup hx hb dL_law_11 rfl ?_
  refine gy_init hA hH hS (va_runI (As := []) (rest := [.ref (s.heap.size + 50)]) C.1 (t_X4_init l G (s.heap.size + 50)) (cwI 0 C.1.2.2.2.2 (gx_C.good kw_478) rfl rfl rfl (C.1.2.2.2.2 _ kw_5) (C.1.2.2.2.2 _ kw_476) (C.1.2.2.2.2 _ kw_477) rfl (by decide +kernel) ⟨Nat.le_of_ble_eq_true rfl, Nat.le_of_ble_eq_true rfl⟩) ⟨gy_blind gy_X0 _, fun U hU hW => ⟨rfl, gy_pre gy_X0 C trivial hH hU hW (if_pos rfl)⟩⟩ rfl rfl hl.1 rfl (lv_room (Nat.le_of_ble_eq_true rfl)) dL_law_12 ⟨Nat.le_of_ble_eq_true rfl, Nat.le_of_ble_eq_true rfl⟩) (fun H locs hH hS => ?_)
  have g1 : gx_H (gz_G G s.heap.size 50) 50 (gc_mk (gz_G G s.heap.size 50)) gz_c0 H := gz_cc (fun k hk => by
    have h9 := hH.1 k (by omega)
    dsimp only at h9
    rw [show (if k < 50 then va_up (ye_X3 G s.heap.size 12 2 4) 50 _ k else _) = ye_X3 G s.heap.size 12 2 4 k by rw [if_pos hk]; exact if_neg (by omega)] at h9
    exact h9)
  have g2 : gx_H (gz_G G (s.heap.size + 50) 13) 13 (gm_mk (gz_G G (s.heap.size + 50) 13)) gz_m0 H := gz_m ⟨fun k hk => by
    have h9 := hH.1 (50 + k) (by omega)
    dsimp only at h9
    rw [show (if 50 + k < 50 then _ else ye_X4 G (s.heap.size + 50) 6 4 (50 + k - 50)) = ye_X4 G (s.heap.size + 50) 6 4 k by rw [if_neg (by omega), Nat.add_sub_cancel_left], ← Nat.add_assoc] at h9
    exact h9, by rw [hH.2]⟩
  have hG : gz_L G s gz_c0 gz_m0 H locs := ⟨g1, g2, fun q hq => hS.2.1 q hq (by omega), by rw [hH.2]; omega, hS.2.2⟩
  refine lv_astore_n (lv' := [(2, .ref (s.heap.size + 50)), (1, .ref s.heap.size), (0, .ref b)]) hx hb dL_law_15 rfl hl (by decide) rfl (fun ls hl => ?_)
  refine lv_iconst (v := (0 : Int32)) hx hb dL_law_16 (by decide) ?_
  refine lv_istore_n (lv' := [(3, .int (0 : Int32)), (2, .ref (s.heap.size + 50)), (1, .ref s.heap.size), (0, .ref b)]) hx hb dL_law_17 rfl hl (by decide) rfl (fun ls hl => ?_)
  exact law_loop hL hb hret hlocks Cc Cm hX hbl (L + 1) 0 (by omega) (by omega) _ _ zz_0 _ _ hG ls (lv_sub hl [3, 2, 1, 0] rfl)
