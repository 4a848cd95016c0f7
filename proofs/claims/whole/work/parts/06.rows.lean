section GX2
variable {p : Program} {l : Launch} {e : Env} {R : Room} {s : State} {m : MethodId} {args : Array Value} {below : List Frame} {meth : Method} {c : Code} {H : Heap} {locs : List Loc} {cells slots : Nat} {Q : State → Prop}
variable {cc : ByteArray} {nL pc : Nat} {ls : Array Slot} {rest st : List Value} {own : String} {G : gx_G} {n : Nat} {mk : gx_Mk} {σ : gx_St}
theorem gx_put (C : gx_C p m c cc nL s args own G) (hG : gx_D G n) (hH : gx_H G n mk σ H) (hS : va_S (gx_A G) s.heap H locs) (k0 : Nat) (hk0 : k0 < n) {ci idx j : Nat} {fs : List Value} {ft : FieldType} {x : Int32} (hm : mk k0 (σ k0) = .inr (ci, fs)) (L : gx_FL own idx ci j) (L2 : gx_FW ci j ft) (hm2 : mk k0 (upd (σ k0) j x) = .inr (ci, fs.set j (.int x))) (hn : narrow ft (.int x) = .int x) (hfit : fits ft (.int x) = true) (hlen : j < fs.length) (hdg : decode cc pc = .ok (.putfield idx, 3))
    (kk : ∀ (H1 : Heap) (locs1 : List Loc) (σ1 : gx_St), σ1 = gx_w2 σ k0 j x → gx_H G n mk σ1 H1 → va_S (gx_A G) s.heap H1 locs1 → W p l e R s m args below meth c H1 locs1 cells slots Q (F0 m (pc + 3) ls rest)) : W p l e R s m args below meth c H locs cells slots Q (F0 m pc ls (.int x :: .ref (gx_q G k0) :: rest)) := by
  obtain ⟨Cn, T, N, ty, hc, hin, hj, hlk, hty, hnm⟩ := L
  obtain ⟨Cn2, T2, N2, hc2, hfin, hd⟩ := L2
  have hcc := Option.some.inj (hc.symm.trans hc2)
  cases hcc
  have hts := C.1.2.2.2.2
  have hK := C.2.1
  have hap := va_apart (own := own) hts hin ty hty hnm hK hc
  have h0 := hH k0 hk0
  rw [hm] at h0
  obtain ⟨r, h1, cell, q1, q2, q3, q4⟩ := h0
  have hr : r = (Cn, T, N) := Option.some.inj (h1.symm.trans hc)
  subst hr
  obtain ⟨hSl, hfc, kC, hkC, hkind⟩ := hK.1 ci _ hc
  obtain ⟨cf, kf, fi, f, hi, hsl⟩ := hSl j hj
  have hlay := hts _ (hin _ (u_in_lay hj))
  unfold u_lay at hlay
  rw [if_neg (by rw [hfin]; decide)] at hlay
  have hst := (u_facts hfc hkC (u_lays hts hin hj) hi).1
  have h6 := u_store hfc hkC hkind hlay hi hd hn hfit
  refine W.putK C.1.1 C.1.2.1 (f := f) ⟨C.1.2.2.2.1, hts _ hlk, ⟨_, _, _, hi⟩, hst⟩ (by rw [q2]; exact h6) q1 q3 (by rw [hsl]; exact k2_hasslot (q4 j hj)) rfl rfl hdg fun H' e1 e2 e3 => ?_
  rw [hsl] at e1 ⊢
  exact kk H' _ _ rfl (gx_set hG hH k0 hk0 (by rw [hm2]; exact ⟨_, hc, t_OB.to (V := updV (vp_V fs) j (.int x)) ⟨_, e1, q2, q3, t_set q4 hap hj _⟩ (fun j' _ => vp_updV_set hlen _ j')⟩) e3) (hS.put e2 e3 (hG.2 k0 hk0))
theorem gx_iald (C : gx_C p m c cc nL s args own G) (hH : gx_H G n mk σ H) (k0 : Nat) (hk0 : k0 < n) {N : Nat} (hm : mk k0 (σ k0) = .inl (G.2.1 0, N, .inl (σ k0))) {i : Int32} (hin : ¬ (i < 0 ∨ N ≤ i.toNatClampNeg)) (hdg : decode cc pc = .ok (.iaload, 1))
    (kk : W p l e R s m args below meth c H locs cells slots Q (F0 m (pc + 1) ls (.int (σ k0 i.toNatClampNeg) :: rest))) : W p l e R s m args below meth c H locs cells slots Q (F0 m pc ls (.int i :: .ref (gx_q G k0) :: rest)) := by
  have h0 := hH k0 hk0
  rw [hm] at h0
  exact va_iald C.1.1 C.1.2.1 C.2.1 (gx_one h0) 0 0 rfl rfl hin hdg kk
theorem gx_zald (C : gx_C p m c cc nL s args own G) (hH : gx_H G n mk σ H) (k0 : Nat) (hk0 : k0 < n) {N : Nat} (hm : mk k0 (σ k0) = .inl (G.2.1 1, N, .inl (σ k0))) {i : Int32} (hin : ¬ (i < 0 ∨ N ≤ i.toNatClampNeg)) (hdg : decode cc pc = .ok (.baload, 1))
    (kk : W p l e R s m args below meth c H locs cells slots Q (F0 m (pc + 1) ls (.int (σ k0 i.toNatClampNeg) :: rest))) : W p l e R s m args below meth c H locs cells slots Q (F0 m pc ls (.int i :: .ref (gx_q G k0) :: rest)) := by
  have h0 := hH k0 hk0
  rw [hm] at h0
  exact va_zald C.1.1 C.1.2.1 C.2.1 (gx_one h0) 0 1 rfl rfl hin hdg kk
theorem gx_updV (f : Nat → Int32) (j : Nat) (x : Int32) : (fun i => Value.int (upd f j x i)) = updV (fun i => Value.int (f i)) j (.int x) := by
  funext i
  by_cases h : i = j
  · subst h; simp [updV, upd]
  · simp [updV, upd, h]
theorem gx_iast (C : gx_C p m c cc nL s args own G) (hG : gx_D G n) (hH : gx_H G n mk σ H) (hS : va_S (gx_A G) s.heap H locs) (k0 : Nat) (hk0 : k0 < n) {N : Nat} (hm : ∀ r, mk k0 r = .inl (G.2.1 0, N, .inl r)) {i x : Int32} (hin : ¬ (i < 0 ∨ N ≤ i.toNatClampNeg)) (hdg : decode cc pc = .ok (.iastore, 1))
    (kk : ∀ (H1 : Heap) (locs1 : List Loc) (σ1 : gx_St), σ1 = gx_w2 σ k0 i.toNatClampNeg x → gx_H G n mk σ1 H1 → va_S (gx_A G) s.heap H1 locs1 → W p l e R s m args below meth c H1 locs1 cells slots Q (F0 m (pc + 1) ls rest)) : W p l e R s m args below meth c H locs cells slots Q (F0 m pc ls (.int x :: .int i :: .ref (gx_q G k0) :: rest)) := by
  have h0 := hH k0 hk0
  rw [hm] at h0
  have h0 : H[gx_q G k0]? = some (vp_cell (G.2.1 0) (N, .inl (σ k0))) := h0
  refine W.iast C.1.1 C.1.2.1 h0 ((C.2.1.2 0 _ rfl).1 N (fun j => .int (σ k0 j))) (fun q => by cases q) (by show ¬ (i < 0 ∨ (arrV _ _ _).slots.size ≤ _); rw [arrV_size]; exact hin) rfl rfl hdg fun H1 e z oq => ?_
  refine kk H1 _ _ rfl (gx_set hG hH k0 hk0 ?_ oq) (hS.put z oq (hG.2 k0 hk0))
  rw [hm]
  show H1[gx_q G k0]? = some (vp_cell _ _)
  rw [e, vp_cell_i, vp_cell_i, arrV_store, gx_updV]
theorem gx_zast (C : gx_C p m c cc nL s args own G) (hG : gx_D G n) (hH : gx_H G n mk σ H) (hS : va_S (gx_A G) s.heap H locs) (k0 : Nat) (hk0 : k0 < n) {N : Nat} (hm : ∀ r, mk k0 r = .inl (G.2.1 1, N, .inl r)) {i x : Int32} (hn : narrow .boolean (.int x) = .int x) (hin : ¬ (i < 0 ∨ N ≤ i.toNatClampNeg)) (hdg : decode cc pc = .ok (.bastore, 1))
    (kk : ∀ (H1 : Heap) (locs1 : List Loc) (σ1 : gx_St), σ1 = gx_w2 σ k0 i.toNatClampNeg x → gx_H G n mk σ1 H1 → va_S (gx_A G) s.heap H1 locs1 → W p l e R s m args below meth c H1 locs1 cells slots Q (F0 m (pc + 1) ls rest)) : W p l e R s m args below meth c H locs cells slots Q (F0 m pc ls (.int x :: .int i :: .ref (gx_q G k0) :: rest)) := by
  have h0 := hH k0 hk0
  rw [hm] at h0
  have h0 : H[gx_q G k0]? = some (vp_cell (G.2.1 1) (N, .inl (σ k0))) := h0
  refine W.zast C.1.1 C.1.2.1 h0 ((C.2.1.2 1 _ rfl).1 N (fun j => .int (σ k0 j))) (fun q => by cases q) (by show ¬ (i < 0 ∨ (arrV _ _ _).slots.size ≤ _); rw [arrV_size]; exact hin) rfl rfl hdg fun H1 e z oq => ?_
  refine kk H1 _ _ rfl (gx_set hG hH k0 hk0 ?_ oq) (hS.put z oq (hG.2 k0 hk0))
  rw [hm]
  show H1[gx_q G k0]? = some (vp_cell _ _)
  rw [e, hn, vp_cell_i, vp_cell_i, arrV_store, gx_updV]
theorem gx_aaldR (C : gx_C p m c cc nL s args own G) (hH : gx_H G n mk σ H) (k0 : Nat) (hk0 : k0 < n) (t0 : Nat) {cA : ClassId} {Cn : String} {N a : Nat} {f : Nat → Option Nat} (ht : (gx_ty G)[t0]? = some (cA, .object Cn)) (hm : mk k0 (σ k0) = .inl (cA, N, .inr (.inr (.inr (.inr f))))) {i : Int32} (hin : ¬ (i < 0 ∨ N ≤ i.toNatClampNeg)) (hv : f i.toNatClampNeg = some a) (hdg : decode cc pc = .ok (.aaload, 1))
    (kk : W p l e R s m args below meth c H locs cells slots Q (F0 m (pc + 1) ls (.ref a :: rest))) : W p l e R s m args below meth c H locs cells slots Q (F0 m pc ls (.int i :: .ref (gx_q G k0) :: rest)) := by
  have h0 := hH k0 hk0
  rw [hm] at h0
  exact va_aldq C.1.1 C.1.2.1 C.2.1 (gx_one h0) 0 t0 rfl ht hin hdg (by rw [hv]; exact kk)
theorem gx_aaldN (C : gx_C p m c cc nL s args own G) (hH : gx_H G n mk σ H) (k0 : Nat) (hk0 : k0 < n) (t0 : Nat) {cA : ClassId} {Cn : String} {N : Nat} {f : Nat → Option Nat} (ht : (gx_ty G)[t0]? = some (cA, .object Cn)) (hm : mk k0 (σ k0) = .inl (cA, N, .inr (.inr (.inr (.inr f))))) {i : Int32} (hin : ¬ (i < 0 ∨ N ≤ i.toNatClampNeg)) (hv : f i.toNatClampNeg = none) (hdg : decode cc pc = .ok (.aaload, 1))
    (kk : W p l e R s m args below meth c H locs cells slots Q (F0 m (pc + 1) ls (.null :: rest))) : W p l e R s m args below meth c H locs cells slots Q (F0 m pc ls (.int i :: .ref (gx_q G k0) :: rest)) := by
  have h0 := hH k0 hk0
  rw [hm] at h0
  exact va_aldq C.1.1 C.1.2.1 C.2.1 (gx_one h0) 0 t0 rfl ht hin hdg (by rw [hv]; exact kk)
theorem gx_updQ (G : gx_G) (b w : Nat) (f : Nat → Int32) (j : Nat) (x : Int32) : (fun i => va_rf (gx_rf G b w (upd f j x i))) = updV (fun i => va_rf (gx_rf G b w (f i))) j (va_rf (gx_rf G b w x)) := by
  funext i
  by_cases h : i = j
  · subst h; simp [updV, upd]
  · simp [updV, upd, h]
theorem gx_aast (C : gx_C p m c cc nL s args own G) (hG : gx_D G n) (hH : gx_H G n mk σ H) (hS : va_S (gx_A G) s.heap H locs) (k0 : Nat) (hk0 : k0 < n) (t0 ci : Nat) {cA : ClassId} {r : vw_C} {N b w : Nat} (ht : (gx_ty G)[t0]? = some (cA, .object r.1)) (hc : vwCl[ci]? = some r) (hm : ∀ r, mk k0 r = .inl (cA, N, .inr (.inr (.inr (.inr (fun j => gx_rf G b w (r j))))))) {i x : Int32} {vs : List Value} (hx : ¬ x = -9) (hkv : b + w * x.toNatClampNeg < n) (hmv : mk (b + w * x.toNatClampNeg) (σ (b + w * x.toNatClampNeg)) = .inr (ci, vs)) (hin : ¬ (i < 0 ∨ N ≤ i.toNatClampNeg)) (hdg : decode cc pc = .ok (.aastore, 1))
    (kk : ∀ (H1 : Heap) (locs1 : List Loc) (σ1 : gx_St), σ1 = gx_w2 σ k0 i.toNatClampNeg x → gx_H G n mk σ1 H1 → va_S (gx_A G) s.heap H1 locs1 → W p l e R s m args below meth c H1 locs1 cells slots Q (F0 m (pc + 1) ls rest)) : W p l e R s m args below meth c H locs cells slots Q (F0 m pc ls (.ref (gx_q G (b + w * x.toNatClampNeg)) :: .int i :: .ref (gx_q G k0) :: rest)) := by
  have h0 := hH k0 hk0
  rw [hm] at h0
  have h0 : H[gx_q G k0]? = some (vp_cell cA (N, .inr (.inr (.inr (.inr (fun j => gx_rf G b w (σ k0 j))))))) := h0
  have hv := hH _ hkv
  rw [hmv] at hv
  obtain ⟨r', hr', cellV, g1, g2, g3, -⟩ := hv
  have hcls := (C.2.1.1 ci r hc).2
  obtain ⟨kA, comp, k1, k2, k3, -⟩ := (C.2.1.2 t0 _ ht).2
  have hcomp : comp = G.1.1 ci := Option.some.inj (k3.symm.trans hcls.1)
  subst hcomp
  obtain ⟨kC, hkC, -⟩ := hcls.2
  refine W.aast C.1.1 C.1.2.1 h0 (fun q h => by cases h) (fun h => by cases h) k1 k2 rfl hkC ⟨fun q => hin (Or.inl q), by show _ < (arrV _ _ _).slots.size; rw [arrV_size]; exact gx_lt12 hin⟩ g1 (fun q h => by rw [g3] at h; cases h) (by rw [g2]; exact hkC) (by rw [g2]; exact va_assign hcls) rfl rfl hdg fun H1 e z oq => ?_
  refine kk H1 _ _ rfl (gx_set hG hH k0 hk0 ?_ oq) (hS.put z oq (hG.2 k0 hk0))
  rw [hm]
  show H1[gx_q G k0]? = some (vp_cell _ _)
  rw [e, vp_cell_q, vp_cell_q, arrV_store, gx_updQ, gx_rf_s hx]
  rfl
theorem gx_aastN (C : gx_C p m c cc nL s args own G) (hG : gx_D G n) (hH : gx_H G n mk σ H) (hS : va_S (gx_A G) s.heap H locs) (k0 : Nat) (hk0 : k0 < n) (t0 : Nat) {cA : ClassId} {Cn : String} {N b w : Nat} (ht : (gx_ty G)[t0]? = some (cA, .object Cn)) (hm : ∀ r, mk k0 r = .inl (cA, N, .inr (.inr (.inr (.inr (fun j => gx_rf G b w (r j))))))) {i : Int32} (hin : ¬ (i < 0 ∨ N ≤ i.toNatClampNeg)) (hdg : decode cc pc = .ok (.aastore, 1))
    (kk : ∀ (H1 : Heap) (locs1 : List Loc) (σ1 : gx_St), σ1 = gx_w2 σ k0 i.toNatClampNeg (-9) → gx_H G n mk σ1 H1 → va_S (gx_A G) s.heap H1 locs1 → W p l e R s m args below meth c H1 locs1 cells slots Q (F0 m (pc + 1) ls rest)) : W p l e R s m args below meth c H locs cells slots Q (F0 m pc ls (.null :: .int i :: .ref (gx_q G k0) :: rest)) := by
  have h0 := hH k0 hk0
  rw [hm] at h0
  have h0 : H[gx_q G k0]? = some (vp_cell cA (N, .inr (.inr (.inr (.inr (fun j => gx_rf G b w (σ k0 j))))))) := h0
  refine va_WaastN (C := Cn) C.1.1 C.1.2.1 h0 ((C.2.1.2 t0 _ ht).1 N (fun j => va_rf (gx_rf G b w (σ k0 j)))) (fun h => by cases h) (by show ¬ (i < 0 ∨ (arrV _ _ _).slots.size ≤ _); rw [arrV_size]; exact hin) rfl rfl hdg fun H1 e z oq => ?_
  refine kk H1 _ _ rfl (gx_set hG hH k0 hk0 ?_ oq) (hS.put z oq (hG.2 k0 hk0))
  rw [hm]
  show H1[gx_q G k0]? = some (vp_cell _ _)
  rw [e, vp_cell_q, vp_cell_q, arrV_store, gx_updQ]
  rfl
/-- static tables -/
theorem gx_gets (C : gx_C p m c cc nL s args own G) (hS : va_S (gx_A G) s.heap H locs) (i : Nat) (hi : i < 5) {idx : Nat} (hl : Cond.fieldLink own idx "PushStick" (gx_tn i) "[I" ∈ wT) (hdg : decode cc pc = .ok (.getstatic idx, 3))
    (kk : W p l e R s m args below meth c H locs cells slots Q (F0 m (pc + 3) ls (.ref (G.2.2.2.2 i) :: rest))) : W p l e R s m args below meth c H locs cells slots Q (F0 m pc ls rest) :=
  va_gets C.1.1 C.1.2.1 (C.2.2.1 i hi).1 hS C.1.2.2.2.1 (C.1.2.2.2.2 _ hl) (fun _ h => h) hdg kk
theorem gx_getsN (C : gx_C p m c cc nL s args RX2 G) (hS : va_S (gx_A G) s.heap H locs) (hdg : decode cc pc = .ok (.getstatic 43, 3))
    (kk : W p l e R s m args below meth c H locs cells slots Q (F0 m (pc + 3) ls (.ref (G.2.2.2.2 4) :: rest))) : W p l e R s m args below meth c H locs cells slots Q (F0 m pc ls rest) :=
  va_getsN C.1.1 C.1.2.1 (C.2.2.1 4 (by decide)).1 hS C.1.2.2.2.1 (va_Nw.use rfl C.2.2.2.2.2.2) (fun _ h => h) hdg kk
theorem gx_tald (C : gx_C p m c cc nL s args own G) (hS : va_S (gx_A G) s.heap H locs) (t : Nat) (hi : t < 5) {i : Int32} {N : Nat} (hN : gx_tl t = N) (hin : ¬ (i < 0 ∨ N ≤ i.toNatClampNeg)) (hdg : decode cc pc = .ok (.iaload, 1))
    (kk : W p l e R s m args below meth c H locs cells slots Q (F0 m (pc + 1) ls (.int (gx_tv t i.toNatClampNeg) :: rest))) : W p l e R s m args below meth c H locs cells slots Q (F0 m pc ls (.int i :: .ref (G.2.2.2.2 t) :: rest)) := by
  subst hN
  exact va_ti C.1.1 C.1.2.1 (C.2.2.1 t hi).2 hS hin rfl hdg kk
/-- calls -/
theorem gx_goR {v : Option Value} {a : Array Value} (hr : va_Run p l e R s m args below meth c H locs cells slots 0 0 (F0 m pc ls st) rest (gx_QR v a) (fun _ => False)) (kk : W p l e R s m args below meth c H locs cells slots Q (F0 m (pc + 3) ls (v.toList ++ rest))) : W p l e R s m args below meth c H locs cells slots Q (F0 m pc ls st) := by
  intro T hT X
  obtain ⟨v', st₀, t, T', L, h0, X', hL, e1, e2, ⟨hv, hh⟩, go⟩ := hr T hT X
  cases hv
  obtain ⟨t2, a1, b1⟩ := kk T' (by rw [e1, hh, h0]) (Stand.forget X' (fun q h => (hL q h).elim))
  exact ⟨t2, go t2 a1, b1⟩
theorem gx_goM {v : Option Value} {σ' : gx_St} {a : Array Value} (hr : va_Run p l e R s m args below meth c H locs cells slots 0 0 (F0 m pc ls st) rest (gx_QM G n mk v σ' a) (gx_A G)) (hS : va_S (gx_A G) s.heap H locs) (kk : ∀ (H1 : Heap) (locs1 : List Loc), gx_H G n mk σ' H1 → va_S (gx_A G) s.heap H1 locs1 → W p l e R s m args below meth c H1 locs1 cells slots Q (F0 m (pc + 3) ls (v.toList ++ rest))) : W p l e R s m args below meth c H locs cells slots Q (F0 m pc ls st) := by
  intro T hT X
  obtain ⟨v', st₀, t, T', L, h0, X', hL, e1, e2, ⟨hv, hh, hz, hk⟩, go⟩ := hr T hT X
  cases hv
  rw [h0] at hz hk
  obtain ⟨t2, a1, b1⟩ := kk T'.heap (locs ++ L) (by rw [e1]; exact hh)
    ⟨Nat.le_trans hS.1 (by rw [e1]; exact hz), fun q h1 h2 => by rw [e1, hk q (Nat.lt_of_lt_of_le h1 hS.1) h2]; exact hS.2.1 q h1 h2, fun q hq => by
      rcases List.mem_append.mp hq with h | h
      · exact hS.2.2 q h
      · exact hL q h⟩ T' rfl X'
  exact ⟨t2, go t2 a1, b1⟩
variable {y : MethodName} {cM : ByteArray} {nM idx : Nat} {ret : Option FieldType} {rm : Room} {v : Option Value} {σ' : gx_St}
theorem gx_cwV (C : gx_C p m c cc nL s args own G) {k : Nat} (L : gx_LV own idx y cM nM ret k) (hR : gx_rooms R rm nM) : CallW R s args own y.cls idx y cM nM ret (Cond.code y cM nM ret :: wT) rm 0 0 k :=
  ⟨callB_of k C.1.2.2.2.2 (gx_C.good L.1.2.2.2.2) rfl hR.1 hR.2.1 (C.1.2.2.2.2 _ L.1.2.2.2.1) (C.1.2.2.2.2 _ L.1.1) L.2 hR.2.2, C.1.2.2.2.2 _ L.1.2.1, C.1.2.2.2.2 _ L.1.2.2.1⟩
theorem gx_cwS (C : gx_C p m c cc nL s args own G) {k : Nat} (L : gx_LS own idx y cM nM ret k) (hR : gx_rooms R rm nM) : CallB R s args own idx y cM nM ret (Cond.code y cM nM ret :: wT) rm 0 0 k ∧ (Cond.static y).before args s = true :=
  ⟨callB_of k C.1.2.2.2.2 (gx_C.good L.1.2.2.2) rfl hR.1 hR.2.1 (C.1.2.2.2.2 _ L.1.2.2.1) (C.1.2.2.2.2 _ L.1.1) L.2 hR.2.2, C.1.2.2.2.2 _ L.1.2.1⟩
theorem gx_recv (C : gx_C p m c cc nL s args own G) (hH : gx_H G n mk σ H) {k0 : Nat} (hk0 : k0 < n) {ci : Nat} {fs : List Value} {q : vw_C} (hm : mk k0 (σ k0) = .inr (ci, fs)) (hc : vwCl[ci]? = some q) : ∃ cell : Cell, H[gx_q G k0]? = some cell ∧ cell.vm.isStatics = false ∧ s.vm.findClass q.1 = some cell.cls := by
  have h0 := hH k0 hk0
  rw [hm] at h0
  exact va_recv (q0 := 0) C.2.1 (gx_one h0) hc rfl
theorem gx_vR (C : gx_C p m c cc nL s args own G) (hH : gx_H G n mk σ H) (hS : va_S (gx_A G) s.heap H locs) (k0 : Nat) (hk0 : k0 < n) {ci : Nat} {fs : List Value} {T : u_T} {N : Nat} (hm : mk k0 (σ k0) = .inr (ci, fs)) (hc : vwCl[ci]? = some (y.cls, T, N)) (As : List Value)
    (hM : Met l y (Cond.code y cM nM ret :: wT) rm (va_Pc (.ref (gx_q G k0) :: As) (gx_S G n mk σ)) (gx_QR v) 0 0 (fun _ => False)) (L : gx_LV own idx y cM nM ret As.length) (hR : gx_rooms R rm nM) (hcs : cells ≤ R.cells ∧ slots ≤ R.slots) (hsz : ls.size = nL) (hst : st = As.reverse ++ .ref (gx_q G k0) :: rest) (hroom : (rest.map fun v => v.category).sum ≤ 8) (hdg : decode cc pc = .ok (.invokevirtual idx, 3))
    (kk : W p l e R s m args below meth c H locs cells slots Q (F0 m (pc + 3) ls (v.toList ++ rest))) : W p l e R s m args below meth c H locs cells slots Q (F0 m pc ls st) :=
  gx_goR (va_runV (As := As) (rest := rest) C.1 hM (gx_cwV C L hR) ⟨gx_blind _, gx_recv C hH hk0 hm hc, fun U hU hW => ⟨rfl, gx_pre C.2 hH hS hU hW⟩⟩ rfl rfl hsz hst (lv_room hroom) hdg hcs) kk
theorem gx_vM (C : gx_C p m c cc nL s args own G) (hH : gx_H G n mk σ H) (hS : va_S (gx_A G) s.heap H locs) (k0 : Nat) (hk0 : k0 < n) {ci : Nat} {fs : List Value} {T : u_T} {N : Nat} (hm : mk k0 (σ k0) = .inr (ci, fs)) (hc : vwCl[ci]? = some (y.cls, T, N)) (As : List Value)
    (hM : Met l y (Cond.code y cM nM ret :: wT) rm (va_Pc (.ref (gx_q G k0) :: As) (gx_S G n mk σ)) (gx_QM G n mk v σ') 0 0 (gx_A G)) (L : gx_LV own idx y cM nM ret As.length) (hR : gx_rooms R rm nM) (hcs : cells ≤ R.cells ∧ slots ≤ R.slots) (hsz : ls.size = nL) (hst : st = As.reverse ++ .ref (gx_q G k0) :: rest) (hroom : (rest.map fun v => v.category).sum ≤ 8) (hdg : decode cc pc = .ok (.invokevirtual idx, 3))
    (kk : ∀ (H1 : Heap) (locs1 : List Loc), gx_H G n mk σ' H1 → va_S (gx_A G) s.heap H1 locs1 → W p l e R s m args below meth c H1 locs1 cells slots Q (F0 m (pc + 3) ls (v.toList ++ rest))) : W p l e R s m args below meth c H locs cells slots Q (F0 m pc ls st) :=
  gx_goM (va_runV (As := As) (rest := rest) C.1 hM (gx_cwV C L hR) ⟨gx_blind _, gx_recv C hH hk0 hm hc, fun U hU hW => ⟨rfl, gx_pre C.2 hH hS hU hW⟩⟩ rfl rfl hsz hst (lv_room hroom) hdg hcs) hS kk
theorem gx_sR (C : gx_C p m c cc nL s args own G) (hH : gx_H G n mk σ H) (hS : va_S (gx_A G) s.heap H locs) (As : List Value)
    (hM : Met l y (Cond.code y cM nM ret :: wT) rm (va_Pc As (gx_S G n mk σ)) (gx_QR v) 0 0 (fun _ => False)) (L : gx_LS own idx y cM nM ret As.length) (hR : gx_rooms R rm nM) (hcs : cells ≤ R.cells ∧ slots ≤ R.slots) (hsz : ls.size = nL) (hst : st = As.reverse ++ rest) (hroom : (rest.map fun v => v.category).sum ≤ 8) (hdg : decode cc pc = .ok (.invokestatic idx, 3))
    (kk : W p l e R s m args below meth c H locs cells slots Q (F0 m (pc + 3) ls (v.toList ++ rest))) : W p l e R s m args below meth c H locs cells slots Q (F0 m pc ls st) :=
  gx_goR (va_runS (As := As) (rest := rest) C.1 hM (gx_cwS C L hR) ⟨gx_blind _, fun U hU hW => ⟨rfl, gx_pre C.2 hH hS hU hW⟩⟩ rfl rfl hsz hst (lv_room hroom) hdg hcs) kk
theorem gx_nR (C : gx_C p m c cc nL s args own G) (hH : gx_H G n mk σ H) (hS : va_S (gx_A G) s.heap H locs) (As : List Value)
    (hM : Met l y (Cond.code y cM nM ret :: wT) rm (va_Pc As (gx_S G n mk σ)) (gx_QR v) 0 0 (fun _ => False)) {host : String} (hnw : va_Nw (.methodLinkNest own idx y host) s) (L : gx_LN y cM nM ret As.length) (hR : gx_rooms R rm nM) (hcs : cells ≤ R.cells ∧ slots ≤ R.slots) (hsz : ls.size = nL) (hst : st = As.reverse ++ rest) (hroom : (rest.map fun v => v.category).sum ≤ 8) (hdg : decode cc pc = .ok (.invokestatic idx, 3))
    (kk : W p l e R s m args below meth c H locs cells slots Q (F0 m (pc + 3) ls (v.toList ++ rest))) : W p l e R s m args below meth c H locs cells slots Q (F0 m pc ls st) :=
  gx_goR (va_runSN (As := As) (rest := rest) C.1 hM ⟨va_cnB As.length C.1.2.2.2.2 (gx_C.good L.1.2.2) rfl hR.1 hR.2.1 hnw (C.1.2.2.2.2 _ L.1.2.1) L.2 hR.2.2, C.1.2.2.2.2 _ L.1.1, trivial⟩ ⟨gx_blind _, fun U hU hW => ⟨rfl, gx_pre C.2 hH hS hU hW⟩⟩ rfl rfl hsz hst (lv_room hroom) hdg hcs) kk
/-- ends -/
theorem gx_iretR {x : Int32} (C : gx_C p m c cc nL s args own G) (hr : meth.sig.returnType = some .int) (hlocks : meth.locks = false) (hdg : decode cc pc = .ok (.ireturn, 1)) : W p l e R s m args below meth c s.heap [] 0 0 (MQ below (gx_QR (some (.int x))) args s 0 0 (fun _ => False)) (F0 m pc ls [.int x]) :=
  W.iret C.1.1 C.1.2.1 hr (fun t ht _ => ⟨rfl, ht⟩) (fun q h => by cases h) hdg hlocks
theorem gx_zretR {x : Int32} (C : gx_C p m c cc nL s args own G) (hr : meth.sig.returnType = some .boolean) (hlocks : meth.locks = false) (hx : x = 0 ∨ x = 1) (hdg : decode cc pc = .ok (.ireturn, 1)) : W p l e R s m args below meth c s.heap [] 0 0 (MQ below (gx_QR (some (.int x))) args s 0 0 (fun _ => False)) (F0 m pc ls [.int x]) :=
  W.zret C.1.1 C.1.2.1 hr (by rcases hx with h | h <;> rw [h] <;> rfl) (fun t ht _ => ⟨rfl, ht⟩) (fun q h => by cases h) hdg hlocks
theorem gx_aretR {v : Value} {rt : FieldType} (C : gx_C p m c cc nL s args own G) (hr : meth.sig.returnType = some rt) (hrt : (∃ n, rt = .object n) ∨ ∃ t, rt = .array t) (hlocks : meth.locks = false) (hv : v = .null ∨ ∃ a, v = .ref a) (hdg : decode cc pc = .ok (.areturn, 1)) : W p l e R s m args below meth c s.heap [] 0 0 (MQ below (gx_QR (some v)) args s 0 0 (fun _ => False)) (F0 m pc ls [v]) :=
  W.aret C.1.1 C.1.2.1 hr hrt hv (fun t ht _ => ⟨rfl, ht⟩) (fun q h => by cases h) hdg hlocks
theorem gx_iretM {x : Int32} (C : gx_C p m c cc nL s args own G) (hr : meth.sig.returnType = some .int) (hlocks : meth.locks = false) (hH : gx_H G n mk σ H) (hS : va_S (gx_A G) s.heap H locs) (hdg : decode cc pc = .ok (.ireturn, 1)) : W p l e R s m args below meth c H locs 0 0 (MQ below (gx_QM G n mk (some (.int x)) σ) args s 0 0 (gx_A G)) (F0 m pc ls [.int x]) :=
  W.iret C.1.1 C.1.2.1 hr (fun t ht _ => ⟨rfl, by rw [ht]; exact hH, hS.F ht⟩) hS.2.2 hdg hlocks
theorem gx_vretM (C : gx_C p m c cc nL s args own G) (hr : meth.sig.returnType = none) (hlocks : meth.locks = false) (hH : gx_H G n mk σ H) (hS : va_S (gx_A G) s.heap H locs) (hdg : decode cc pc = .ok (.return_, 1)) : W p l e R s m args below meth c H locs 0 0 (MQ below (gx_QM G n mk none σ) args s 0 0 (gx_A G)) (F0 m pc ls []) :=
  W.vret C.1.1 C.1.2.1 hr (fun t ht _ => ⟨rfl, by rw [ht]; exact hH, hS.F ht⟩) hS.2.2 hdg hlocks
end GX2
/-! the reference's world: cell 0 the object, then its twelve arrays; the class's: cell 0 the object, its seven arrays, twelve EFFECTs (object, numbers, beats), two AXES, four BUTTONS -/
def gm_fs (G : gx_G) (r : Nat → Int32) : List Value := [.int (r 0), .int (r 1), .ref (gx_q G 1), .ref (gx_q G 2), .int (r 4), .ref (gx_q G 3), .ref (gx_q G 4), .ref (gx_q G 5), .ref (gx_q G 6), .ref (gx_q G 7), .ref (gx_q G 8), .ref (gx_q G 9), .int (r 12), .ref (gx_q G 10), .ref (gx_q G 11), .ref (gx_q G 12), .int (r 16), .int (r 17), .int (r 18), .int (r 19), .int (r 20)]
def gm_len (k : Nat) : Nat := match k with
  | 1 => 2
  | 2 => 2
  | 8 => 144
  | 10 => 6
  | 11 => 4
  | 12 => 48
  | _ => 12
def gm_mk (G : gx_G) : gx_Mk := fun k r => match k with
  | 0 => .inr (4, gm_fs G r)
  | k + 1 => .inl (G.2.1 0, gm_len (k + 1), .inl r)
def gc_fs (G : gx_G) (r : Nat → Int32) : List Value := [.ref (gx_q G 1), .int (r 1), .ref (gx_q G 2), .int (r 3), .ref (gx_q G 3), .int (r 5), .ref (gx_q G 4), .int (r 7), .int (r 8), .int (r 9), .int (r 10), .int (r 11), .int (r 12), .ref (gx_q G 5), .ref (gx_q G 6), .ref (gx_q G 7)]
def gc_ef (G : gx_G) (k : Nat) (r : Nat → Int32) : List Value := [.int (r 0), .int (r 1), .int (r 2), .int (r 3), .int (r 4), .int (r 5), .ref (gx_q G (k + 1)), .int (r 7), .int (r 8), .ref (gx_q G (k + 2))]
abbrev gx_refs (f : Nat → Option Nat) : (Nat → Int32) ⊕ (Nat → Int64) ⊕ (Nat → UInt32) ⊕ (Nat → UInt64) ⊕ (Nat → Option Nat) := .inr (.inr (.inr (.inr f)))
def gc_hi (G : gx_G) (k : Nat) (r : Nat → Int32) : va_E :=
  if k < 44 then (if k % 3 = 2 then .inr (2, gc_ef G k r) else if k % 3 = 0 then .inl (G.2.1 0, 12, .inl r) else .inl (G.2.1 0, 4, .inl r))
  else if k < 46 then .inr (0, [.int (r 0), .int (r 1), .int (r 2)]) else .inr (1, [.int (r 0), .int (r 1)])
def gc_mk (G : gx_G) : gx_Mk := fun k r => match k with
  | 0 => .inr (3, gc_fs G r)
  | 1 => .inl (G.2.1 2, 12, gx_refs (fun j => some (gx_q G (8 + 3 * j))))
  | 2 => .inl (G.2.1 2, 6, gx_refs (fun j => gx_rf G 8 3 (r j)))
  | 3 => .inl (G.2.1 3, 2, gx_refs (fun j => some (gx_q G (44 + 1 * j))))
  | 4 => .inl (G.2.1 4, 4, gx_refs (fun j => some (gx_q G (46 + 1 * j))))
  | 5 => .inl (G.2.1 2, 6, gx_refs (fun j => gx_rf G 8 3 (r j)))
  | 6 => .inl (G.2.1 0, 64, .inl r)
  | 7 => .inl (G.2.1 1, 64, .inl r)
  | k + 8 => gc_hi G (k + 8) r
theorem gc_8 (G : gx_G) (k : Nat) (r : Nat → Int32) (h : 8 ≤ k) : gc_mk G k r = gc_hi G k r := by
  obtain ⟨j, rfl⟩ : ∃ j, k = j + 8 := ⟨k - 8, by omega⟩
  rfl
theorem gc_e {G : gx_G} {i : Nat} (r : Nat → Int32) (h : i < 12) : gc_mk G (8 + 3 * i) r = .inr (2, gc_ef G (8 + 3 * i) r) := by
  rw [gc_8 _ _ _ (by omega), gc_hi, if_pos (by omega), if_pos (by omega)]
theorem gc_n {G : gx_G} {i : Nat} (r : Nat → Int32) (h : i < 12) : gc_mk G (8 + 3 * i + 1) r = .inl (G.2.1 0, 12, .inl r) := by
  rw [gc_8 _ _ _ (by omega), gc_hi, if_pos (by omega), if_neg (by omega), if_pos (by omega)]
theorem gc_b {G : gx_G} {i : Nat} (r : Nat → Int32) (h : i < 12) : gc_mk G (8 + 3 * i + 2) r = .inl (G.2.1 0, 4, .inl r) := by
  rw [gc_8 _ _ _ (by omega), gc_hi, if_pos (by omega), if_neg (by omega), if_neg (by omega)]
theorem gc_a {G : gx_G} {i : Nat} (r : Nat → Int32) (h : i < 2) : gc_mk G (44 + 1 * i) r = .inr (0, [.int (r 0), .int (r 1), .int (r 2)]) := by
  rw [gc_8 _ _ _ (by omega), gc_hi, if_neg (by omega), if_pos (by omega)]
theorem gc_u {G : gx_G} {i : Nat} (r : Nat → Int32) (h : i < 4) : gc_mk G (46 + 1 * i) r = .inr (1, [.int (r 0), .int (r 1)]) := by
  rw [gc_8 _ _ _ (by omega), gc_hi, if_neg (by omega), if_neg (by omega)]
theorem gc_ke {i : Nat} (h : i < 12) : 8 + 3 * i < 50 := by omega
theorem gc_kn {i : Nat} (h : i < 12) : 8 + 3 * i + 1 < 50 := by omega
theorem gc_kb {i : Nat} (h : i < 12) : 8 + 3 * i + 2 < 50 := by omega
theorem gc_ka {i : Nat} (h : i < 2) : 44 + 1 * i < 50 := by omega
theorem gc_ku {i : Nat} (h : i < 4) : 46 + 1 * i < 50 := by omega
theorem gx_rfe {G : gx_G} {b w : Nat} {x z : Int32} (e : z = x) (h : ¬ z = -9) : gx_rf G b w x = some (gx_q G (b + w * z.toNatClampNeg)) := by subst e; exact if_neg h
def gx_b2 {α β γ : Type} (o : Option (α × β)) (k : α → β → Option γ) : Option γ := o.bind (fun z => k z.1 z.2)
theorem gx_bnd2 {α β γ : Type} {o : Option (α × β)} {k : α → β → Option γ} {r : γ} (hf : gx_b2 o k = some r) : ∃ x y, o = some (x, y) ∧ k x y = some r := by
  cases o with
  | none => cases hf
  | some x => exact ⟨x.1, x.2, rfl, hf⟩
section GX3
variable {p : Program} {l : Launch} {e : Env} {R : Room} {s : State} {m : MethodId} {args : Array Value} {below : List Frame} {meth : Method} {c : Code} {H : Heap} {locs : List Loc} {cells slots : Nat} {Q : State → Prop}
variable {cc : ByteArray} {nL pc : Nat} {ls : Array Slot} {rest st : List Value} {own : String} {G : gx_G} {n : Nat} {mk : gx_Mk} {σ : gx_St}
theorem gx_ialdL (C : gx_C p m c cc nL s args own G) (hH : gx_H G n mk σ H) (k0 : Nat) (hk0 : k0 < n) {N : Nat} (hm : mk k0 (σ k0) = .inl (G.2.1 0, N, .inl (σ k0))) {i : Int32} (j : Nat) (hj : (decide (¬ i < 0) && decide (i.toNatClampNeg = j) && decide (j < N)) = true) (hdg : decode cc pc = .ok (.iaload, 1))
    (kk : W p l e R s m args below meth c H locs cells slots Q (F0 m (pc + 1) ls (.int (σ k0 j) :: rest))) : W p l e R s m args below meth c H locs cells slots Q (F0 m pc ls (.int i :: .ref (gx_q G k0) :: rest)) := by
  simp only [Bool.and_eq_true, decide_eq_true_eq] at hj
  obtain ⟨⟨h1, h2⟩, h3⟩ := hj
  refine gx_iald C hH k0 hk0 hm (fun q => q.elim h1 (fun z => by omega)) hdg ?_
  rw [h2]
  exact kk
theorem gx_aretO {x : Int32} {b w a : Nat} {Cn : String} (C : gx_C p m c cc nL s args own G) (hr : meth.sig.returnType = some (.object Cn)) (hlocks : meth.locks = false) (h : gx_rf G b w x = some a) (hdg : decode cc pc = .ok (.areturn, 1)) : W p l e R s m args below meth c s.heap [] 0 0 (MQ below (gx_QR (some (va_rf (gx_rf G b w x)))) args s 0 0 (fun _ => False)) (F0 m pc ls [.ref a]) := by
  rw [h]
  exact gx_aretR C hr (Or.inl ⟨_, rfl⟩) hlocks (Or.inr ⟨_, rfl⟩) hdg
theorem gx_aretL {x : Int32} {b w : Nat} {Cn : String} (C : gx_C p m c cc nL s args own G) (hr : meth.sig.returnType = some (.object Cn)) (hlocks : meth.locks = false) (h : gx_rf G b w x = none) (hdg : decode cc pc = .ok (.areturn, 1)) : W p l e R s m args below meth c s.heap [] 0 0 (MQ below (gx_QR (some (va_rf (gx_rf G b w x)))) args s 0 0 (fun _ => False)) (F0 m pc ls [.null]) := by
  rw [h]
  exact gx_aretR C hr (Or.inl ⟨_, rfl⟩) hlocks (Or.inl rfl) hdg
theorem gx_stR {o : Option Nat} {a : Nat} (h : o = some a) (k : W p l e R s m args below meth c H locs cells slots Q (F0 m pc ls (.ref a :: rest))) : W p l e R s m args below meth c H locs cells slots Q (F0 m pc ls (va_rf o :: rest)) := by rw [h]; exact k
theorem gx_stN {o : Option Nat} (h : o = none) (k : W p l e R s m args below meth c H locs cells slots Q (F0 m pc ls (.null :: rest))) : W p l e R s m args below meth c H locs cells slots Q (F0 m pc ls (va_rf o :: rest)) := by rw [h]; exact k
theorem gx_e0 (k : W p l e R s m args below meth c H locs cells slots Q (F0 m pc ls st)) (h : st = rest) : W p l e R s m args below meth c H locs cells slots Q (F0 m pc ls rest) := h ▸ k
/-- locals: a reference kept under an optional number -/
theorem gx_lvO {l1 l2 : List (Nat × Value)} (h : lv_has ls nL l1) (e : l1 = l2) : lv_has ls nL l2 := e ▸ h
end GX3
