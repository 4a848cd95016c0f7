/-! the two worlds as the constructors leave them; a call of the law on one of them leaves the other as it is -/
def gz_G (G : gx_G) (a n : Nat) : gx_G := (G.1, G.2.1, fun k => a + k, fun q => a ≤ q ∧ q < a + n, G.2.2.2.2)
theorem gz_D (G : gx_G) (a n : Nat) : gx_D (gz_G G a n) n := ⟨fun i j _ _ h => by have h : a + i = a + j := h; omega, fun k hk => ⟨Nat.le_add_right a k, by show a + k < a + n; omega⟩⟩
theorem gz_arr {cA : ClassId} {N : Nat} {f g : Nat → Value} (h : ∀ j, j < N → f j = g j) : arrV cA N f = arrV cA N g := by
  unfold arrV
  congr 1
  congr 1
  funext j
  exact h j.val j.isLt
theorem gz_arrq {cA : ClassId} {N : Nat} {f g : Nat → Option Nat} (h : ∀ j, j < N → f j = g j) : vp_cell cA (N, gx_refs f) = vp_cell cA (N, gx_refs g) := by
  rw [vp_cell_q, vp_cell_q]
  exact gz_arr (fun j hj => by rw [h j hj])
def gz_m0 : gx_St := fun k => match k with
  | 0 => fun j => match j with
    | 12 => 4
    | 19 => 100
    | 20 => 250
    | _ => 0
  | 10 => ye_f 6
  | 11 => ye_f 4
  | _ => fun _ => 0
def gz_c8 (k : Nat) : Nat → Int32 := if k < 44 then (if k % 3 = 2 then (fun j => match j with
    | 0 => nI ((k - 8) / 3)
    | 7 => -9
    | 8 => -9
    | _ => 0) else fun _ => 0) else if k < 46 then (fun j => match j with
    | 0 => 6 + nI (k - 44)
    | _ => 0) else fun _ => 0
def gz_c0 : gx_St := fun k => match k with
  | 0 => fun j => match j with
    | 3 => 4
    | 11 => 100
    | 12 => 250
    | _ => 0
  | 1 => fun _ => 0
  | 2 => fun _ => -9
  | 3 => fun _ => 0
  | 4 => fun _ => 0
  | 5 => fun _ => -9
  | 6 => fun _ => 0
  | 7 => fun _ => 0
  | k + 8 => gz_c8 (k + 8)
theorem gz_m {G : gx_G} {a : Nat} {H : Heap} (h : gy_H G a 13 (ye_X4 G a 6 4) H) : gx_H (gz_G G a 13) 13 (gm_mk (gz_G G a 13)) gz_m0 H := by
  intro k hk
  have h1 := h.1 k hk
  have e : ye_X4 G a 6 4 k = gm_mk (gz_G G a 13) k (gz_m0 k) := by
    rcases (show k = 0 ∨ k = 1 ∨ k = 2 ∨ k = 3 ∨ k = 4 ∨ k = 5 ∨ k = 6 ∨ k = 7 ∨ k = 8 ∨ k = 9 ∨ k = 10 ∨ k = 11 ∨ k = 12 by omega) with rfl | rfl | rfl | rfl | rfl | rfl | rfl | rfl | rfl | rfl | rfl | rfl | rfl <;> rfl
  rw [e] at h1
  exact h1
theorem gz_cc {G : gx_G} {a : Nat} {H : Heap} (h : ∀ k, k < 50 → va_at G.1 vwCl (a + k, ye_X3 G a 12 2 4 k) H) : gx_H (gz_G G a 50) 50 (gc_mk (gz_G G a 50)) gz_c0 H := by
  intro k hk
  have h1 := h k hk
  by_cases h8 : k < 8
  · rw [ye_8 h8] at h1
    rcases (show k = 0 ∨ k = 1 ∨ k = 2 ∨ k = 3 ∨ k = 4 ∨ k = 5 ∨ k = 6 ∨ k = 7 by omega) with rfl | rfl | rfl | rfl | rfl | rfl | rfl | rfl
    · exact h1
    · refine Eq.trans h1 (congrArg some (gz_arrq (fun j hj => ?_)))
      show (if j < 12 then some (a + (8 + 3 * j)) else none) = _
      rw [if_pos hj]
      rfl
    · exact h1
    · refine Eq.trans h1 (congrArg some (gz_arrq (fun j hj => ?_)))
      show (if j < 2 then some (a + (44 + 1 * j)) else none) = _
      rw [if_pos hj]
      rfl
    · refine Eq.trans h1 (congrArg some (gz_arrq (fun j hj => ?_)))
      show (if j < 4 then some (a + (46 + 1 * j)) else none) = _
      rw [if_pos hj]
      rfl
    · exact h1
    · exact h1
    · exact h1
  · rw [ye_9 (by omega)] at h1
    have e : ye_hi G a k = gc_mk (gz_G G a 50) k (gz_c0 k) := by
      rw [gc_8 _ _ _ (by omega)]
      obtain ⟨j, rfl⟩ : ∃ j, k = j + 8 := ⟨k - 8, by omega⟩
      show ye_hi G a (j + 8) = gc_hi _ (j + 8) (gz_c8 (j + 8))
      unfold ye_hi gc_hi gz_c8
      by_cases c1 : j + 8 < 44
      · rw [if_pos c1, if_pos c1, if_pos c1]
        by_cases c2 : (j + 8) % 3 = 2
        · rw [if_pos c2, if_pos c2, if_pos c2]
          rfl
        · rw [if_neg c2, if_neg c2, if_neg c2]
          rfl
      · rw [if_neg c1, if_neg c1, if_neg c1]
        by_cases c2 : j + 8 < 46
        · rw [if_pos c2, if_pos c2, if_pos c2]
          rfl
        · rw [if_neg c2, if_neg c2, if_neg c2]
    rw [e] at h1
    exact h1
/-- the law's heap: the two worlds side by side, nothing old written -/
def gz_L (G : gx_G) (s : State) (σ τ : gx_St) (H : Heap) (locs : List Loc) : Prop := gx_H (gz_G G s.heap.size 50) 50 (gc_mk (gz_G G s.heap.size 50)) σ H ∧ gx_H (gz_G G (s.heap.size + 50) 13) 13 (gm_mk (gz_G G (s.heap.size + 50) 13)) τ H ∧ (∀ q, q < s.heap.size → H[q]? = s.heap[q]?) ∧ s.heap.size + 63 ≤ H.size ∧ ∀ q ∈ locs, s.heap.size ≤ q.base
theorem gz_keep {G : gx_G} {a n : Nat} {mk : gx_Mk} {σ : gx_St} {H H1 : Heap} (h : gx_H (gz_G G a n) n mk σ H) (hq : ∀ q, a ≤ q → q < a + n → H1[q]? = H[q]?) : gx_H (gz_G G a n) n mk σ H1 := fun k hk => (h k hk).kept (hq (a + k) (Nat.le_add_right a k) (by omega))
section GZ
variable {p : Program} {l : Launch} {e : Env} {R : Room} {s : State} {m : MethodId} {args : Array Value} {below : List Frame} {meth : Method} {c : Code} {H : Heap} {locs : List Loc} {cells slots : Nat} {Q : State → Prop}
variable {cc : ByteArray} {nL pc : Nat} {ls : Array Slot} {rest st : List Value} {own : String} {G : gx_G} {σ τ σ' : gx_St}
variable {y : MethodName} {cM : ByteArray} {nM idx : Nat} {ret : Option FieldType} {rm : Room} {r : Int32}
theorem gz_pre {G : gx_G} {n : Nat} {mk : gx_Mk} {σ : gx_St} {U : State} (E : gx_E G s) (hH : gx_H G n mk σ H) (h0 : ∀ q, q < s.heap.size → H[q]? = s.heap[q]?) (hU : U.heap = H) (hW : s.WarmedH U.vm) : gx_S G n mk σ U := by
  subst hU
  exact ⟨hH, E.1.moved hW.alike, (E.2.1.moved hW.alike).kept (fun a h1 _ => h0 a h1), E.2.2.warm hW⟩
theorem gz_goM {G : gx_G} {n : Nat} {mk : gx_Mk} {v : Option Value} {ar : Array Value} (hr : va_Run p l e R s m args below meth c H locs cells slots 0 0 (F0 m pc ls st) rest (gx_QM G n mk v σ' ar) (gx_A G))
    (kk : ∀ (H1 : Heap) (L : List Loc), gx_H G n mk σ' H1 → H.size ≤ H1.size → (∀ q, q < H.size → ¬ gx_A G q → H1[q]? = H[q]?) → (∀ q ∈ L, gx_A G q.base) → W p l e R s m args below meth c H1 (locs ++ L) cells slots Q (F0 m (pc + 3) ls (v.toList ++ rest))) : W p l e R s m args below meth c H locs cells slots Q (F0 m pc ls st) := by
  intro T hT X
  obtain ⟨v', st₀, t, T', L, h0, X', hL, e1, e2, ⟨hv, hh, hz, hk⟩, go⟩ := hr T hT X
  cases hv
  rw [h0] at hz hk
  obtain ⟨t2, a1, b1⟩ := kk T'.heap L (by rw [e1]; exact hh) (by rw [e1]; exact hz) (fun q h1 h2 => by rw [e1]; exact hk q h1 h2) hL T' rfl X'
  exact ⟨t2, go t2 a1, b1⟩
theorem gz_cM (C : gx_C p m c cc nL s args own (gz_G G s.heap.size 50)) (hL : gz_L G s σ τ H locs) (hy : y.cls = "PushStick") (As : List Value) (hM : Met l y (Cond.code y cM nM ret :: wT) rm (va_Pc (.ref (gx_q (gz_G G s.heap.size 50) 0) :: As) (gx_S (gz_G G s.heap.size 50) 50 (gc_mk (gz_G G s.heap.size 50)) σ)) (gx_QM (gz_G G s.heap.size 50) 50 (gc_mk (gz_G G s.heap.size 50)) (some (.int r)) σ') 0 0 (gx_A (gz_G G s.heap.size 50)))
    (L : gx_LV own idx y cM nM ret As.length) (hR : gx_rooms R rm nM) (hcs : cells ≤ R.cells ∧ slots ≤ R.slots) (hsz : ls.size = nL) (hst : st = As.reverse ++ .ref s.heap.size :: rest) (hroom : (rest.map fun v => v.category).sum ≤ 8) (hdg : decode cc pc = .ok (.invokevirtual idx, 3))
    (kk : ∀ (H1 : Heap) (locs1 : List Loc), gz_L G s σ' τ H1 locs1 → W p l e R s m args below meth c H1 locs1 cells slots Q (F0 m (pc + 3) ls (.int r :: rest))) : W p l e R s m args below meth c H locs cells slots Q (F0 m pc ls st) := by
  obtain ⟨h1, h2, h3, h4, h5⟩ := id hL
  refine gz_goM (va_runV (As := As) (rest := rest) C.1 hM (gx_cwV C L hR) ⟨gx_blind _, by rw [hy]; exact gx_recv (k0 := 0) C h1 (by decide) rfl rfl, fun U hU hW => ⟨rfl, gz_pre C.2 h1 h3 hU hW⟩⟩ rfl rfl hsz hst (lv_room hroom) hdg hcs) (fun H1 LL g1 g2 g3 g4 => kk H1 (locs ++ LL) ⟨g1, gz_keep h2 (fun q q1 q2 => g3 q (by omega) (fun z => absurd z.2 (by omega))), fun q hq => (g3 q (by omega) (fun z => absurd z.1 (by omega))).trans (h3 q hq), by omega, fun q hq => ?_⟩)
  rcases List.mem_append.mp hq with h | h
  · exact h5 q h
  · exact (g4 q h).1
theorem gz_cR (C : gx_C p m c cc nL s args own (gz_G G s.heap.size 50)) (hL : gz_L G s σ τ H locs) (hy : y.cls = "PushStick") (As : List Value) (hM : Met l y (Cond.code y cM nM ret :: wT) rm (va_Pc (.ref (gx_q (gz_G G s.heap.size 50) 0) :: As) (gx_S (gz_G G s.heap.size 50) 50 (gc_mk (gz_G G s.heap.size 50)) σ)) (gx_QR (some (.int r))) 0 0 (fun _ => False))
    (L : gx_LV own idx y cM nM ret As.length) (hR : gx_rooms R rm nM) (hcs : cells ≤ R.cells ∧ slots ≤ R.slots) (hsz : ls.size = nL) (hst : st = As.reverse ++ .ref s.heap.size :: rest) (hroom : (rest.map fun v => v.category).sum ≤ 8) (hdg : decode cc pc = .ok (.invokevirtual idx, 3))
    (kk : W p l e R s m args below meth c H locs cells slots Q (F0 m (pc + 3) ls (.int r :: rest))) : W p l e R s m args below meth c H locs cells slots Q (F0 m pc ls st) := by
  obtain ⟨h1, h2, h3, h4, h5⟩ := id hL
  exact gx_goR (va_runV (As := As) (rest := rest) C.1 hM (gx_cwV C L hR) ⟨gx_blind _, by rw [hy]; exact gx_recv (k0 := 0) C h1 (by decide) rfl rfl, fun U hU hW => ⟨rfl, gz_pre C.2 h1 h3 hU hW⟩⟩ rfl rfl hsz hst (lv_room hroom) hdg hcs) kk
theorem gz_mM (C : gx_C p m c cc nL s args own (gz_G G (s.heap.size + 50) 13)) (hL : gz_L G s σ τ H locs) (hy : y.cls = "PushStickModel") (As : List Value) (hM : Met l y (Cond.code y cM nM ret :: wT) rm (va_Pc (.ref (gx_q (gz_G G (s.heap.size + 50) 13) 0) :: As) (gx_S (gz_G G (s.heap.size + 50) 13) 13 (gm_mk (gz_G G (s.heap.size + 50) 13)) τ)) (gx_QM (gz_G G (s.heap.size + 50) 13) 13 (gm_mk (gz_G G (s.heap.size + 50) 13)) (some (.int r)) σ') 0 0 (gx_A (gz_G G (s.heap.size + 50) 13)))
    (L : gx_LV own idx y cM nM ret As.length) (hR : gx_rooms R rm nM) (hcs : cells ≤ R.cells ∧ slots ≤ R.slots) (hsz : ls.size = nL) (hst : st = As.reverse ++ .ref (s.heap.size + 50) :: rest) (hroom : (rest.map fun v => v.category).sum ≤ 8) (hdg : decode cc pc = .ok (.invokevirtual idx, 3))
    (kk : ∀ (H1 : Heap) (locs1 : List Loc), gz_L G s σ σ' H1 locs1 → W p l e R s m args below meth c H1 locs1 cells slots Q (F0 m (pc + 3) ls (.int r :: rest))) : W p l e R s m args below meth c H locs cells slots Q (F0 m pc ls st) := by
  obtain ⟨h1, h2, h3, h4, h5⟩ := id hL
  refine gz_goM (va_runV (As := As) (rest := rest) C.1 hM (gx_cwV C L hR) ⟨gx_blind _, by rw [hy]; exact gx_recv (k0 := 0) C h2 (by decide) rfl rfl, fun U hU hW => ⟨rfl, gz_pre C.2 h2 h3 hU hW⟩⟩ rfl rfl hsz hst (lv_room hroom) hdg hcs) (fun H1 LL g1 g2 g3 g4 => kk H1 (locs ++ LL) ⟨gz_keep h1 (fun q q1 q2 => g3 q (by omega) (fun z => absurd z.1 (by omega))), g1, fun q hq => (g3 q (by omega) (fun z => absurd z.1 (by omega))).trans (h3 q hq), by omega, fun q hq => ?_⟩)
  rcases List.mem_append.mp hq with h | h
  · exact h5 q h
  · exact Nat.le_trans (Nat.le_add_right _ _) (g4 q h).1
theorem gz_mR (C : gx_C p m c cc nL s args own (gz_G G (s.heap.size + 50) 13)) (hL : gz_L G s σ τ H locs) (hy : y.cls = "PushStickModel") (As : List Value) (hM : Met l y (Cond.code y cM nM ret :: wT) rm (va_Pc (.ref (gx_q (gz_G G (s.heap.size + 50) 13) 0) :: As) (gx_S (gz_G G (s.heap.size + 50) 13) 13 (gm_mk (gz_G G (s.heap.size + 50) 13)) τ)) (gx_QR (some (.int r))) 0 0 (fun _ => False))
    (L : gx_LV own idx y cM nM ret As.length) (hR : gx_rooms R rm nM) (hcs : cells ≤ R.cells ∧ slots ≤ R.slots) (hsz : ls.size = nL) (hst : st = As.reverse ++ .ref (s.heap.size + 50) :: rest) (hroom : (rest.map fun v => v.category).sum ≤ 8) (hdg : decode cc pc = .ok (.invokevirtual idx, 3))
    (kk : W p l e R s m args below meth c H locs cells slots Q (F0 m (pc + 3) ls (.int r :: rest))) : W p l e R s m args below meth c H locs cells slots Q (F0 m pc ls st) := by
  obtain ⟨h1, h2, h3, h4, h5⟩ := id hL
  exact gx_goR (va_runV (As := As) (rest := rest) C.1 hM (gx_cwV C L hR) ⟨gx_blind _, by rw [hy]; exact gx_recv (k0 := 0) C h2 (by decide) rfl rfl, fun U hU hW => ⟨rfl, gz_pre C.2 h2 h3 hU hW⟩⟩ rfl rfl hsz hst (lv_room hroom) hdg hcs) kk
/-- the script's cells -/
theorem gz_sld (hexec : p.tables.exec = Jvm.exec) (hb : c.code = cc) {b L : Nat} {xs : Nat → Int32} (hX : va_X b L xs s s.heap) (hbl : b < s.heap.size) (hL : gz_L G s σ τ H locs) {i : Int32} (j : Nat) (hij : i = nI j) (hj : j < L) (hL31 : L < 2 ^ 31) (hdg : decode cc pc = .ok (.iaload, 1))
    (kk : W p l e R s m args below meth c H locs cells slots Q (F0 m (pc + 1) ls (.int (xs j) :: rest))) : W p l e R s m args below meth c H locs cells slots Q (F0 m pc ls (.int i :: .ref b :: rest)) := by
  obtain ⟨scr, h1, h2, h3, h4, h5⟩ := hX
  subst hij
  have hc : (nI j).toNatClampNeg = j := nI_clamp (by omega)
  exact W.iald (v := .int (xs j)) hexec hb (by rw [hL.2.2.1 b hbl]; exact h1) h2 h3 (by rw [h4]; exact nI_in hj hL31) (by rw [hc]; exact h5 j hj) rfl rfl hdg kk
theorem gz_slen (hexec : p.tables.exec = Jvm.exec) (hb : c.code = cc) {b L : Nat} {xs : Nat → Int32} (hX : va_X b L xs s s.heap) (hbl : b < s.heap.size) (hL : gz_L G s σ τ H locs) (hdg : decode cc pc = .ok (.arraylength, 1))
    (kk : W p l e R s m args below meth c H locs cells slots Q (F0 m (pc + 1) ls (.int (nI L) :: rest))) : W p l e R s m args below meth c H locs cells slots Q (F0 m pc ls (.ref b :: rest)) := by
  obtain ⟨scr, h1, h2, h3, h4, h5⟩ := hX
  exact W.alen (n := Int32.ofNat L) hexec hb (by rw [hL.2.2.1 b hbl]; exact h1) h2 (by rw [h4] <;> rfl) rfl rfl hdg kk
end GZ
