/-! objects in the making: a block of cells from an address on, the last ones of the heap -/
def gy_H (G : gx_G) (a n : Nat) (E : Nat → va_E) (H : Heap) : Prop := (∀ k, k < n → va_at G.1 vwCl (a + k, E k) H) ∧ H.size = a + n
theorem gy_H.as {G : gx_G} {a n : Nat} {E E' : Nat → va_E} {H : Heap} (h : gy_H G a n E H) (e : ∀ k, k < n → E k = E' k) : gy_H G a n E' H := ⟨fun k hk => by rw [← e k hk]; exact h.1 k hk, h.2⟩
def gy_Q (G : gx_G) (a n : Nat) (E : Nat → va_E) : Array Value → State → Outcome → State → Prop := fun _ st o t => o = .returned none ∧ gy_H G a n E t.heap ∧ va_F (fun q => a ≤ q) st t
def gy_S (G : gx_G) (a n : Nat) (E : Nat → va_E) (X : State → Prop) (U : State) : Prop := gy_H G a n E U.heap ∧ gx_K G U ∧ X U
/-- what carries over to a callee's state, and is blind to frames -/
def gy_X (X : State → Prop) : Prop := (∀ s U : State, s.WarmedH U.vm → X s → X U) ∧ ∀ u U : State, u.vm = U.vm → X u → X U
theorem gy_X0 : gy_X (fun _ => True) := ⟨fun _ _ _ h => h, fun _ _ _ h => h⟩
theorem gy_blind {G : gx_G} {a n : Nat} {E : Nat → va_E} {X : State → Prop} (hX : gy_X X) (av : List Value) : FrameBlind (va_Pc av (gy_S G a n E X)) := fun a' U g mk' h => ⟨h.1, h.2.1, va_K.moved (u := U) (U := U.calling g mk' a') (Vm.Alike.refl U.vm) h.2.2.1, hX.2 U (U.calling g mk' a') rfl h.2.2.2⟩
def gy_FW (own : String) (ci j : Nat) (ft : FieldType) (nm : String) : Prop := ∃ (Cn : String) (T : u_T) (N : Nat), vwCl[ci]? = some (Cn, T, N) ∧ parseFieldDescriptor (T j).2.2.1 = some ft ∧ ((T j).2.2.2 = false ∨ ((T j).2.2.2 = true ∧ nm = "<init>" ∧ (T j).1 = own))
def gy_C (p : Program) (m : MethodId) (c : Code) (cc : ByteArray) (nL : Nat) (s : State) (args : Array Value) (own : String) (G : gx_G) : Prop := CallFix p m c cc nL s args wT own ∧ gx_K G s
theorem gy_C.of {p : Program} {l : Launch} {y : MethodName} {cc : ByteArray} {nL : Nat} {ret : Option FieldType} {rm : Room} {e : Env} {s s₁ : State} {m : MethodId} {args : Array Value} {below : List Frame} {meth : Method} {c : Code} {G : gx_G} (B : BodyLoose p l y (headSpec (Cond.code y cc nL ret :: wT) rm) cc nL ret e s m args below meth c s₁) (hml : c.maxLocals = nL) (K : gx_K G s) : gy_C p m c cc nL s args y.cls G :=
  ⟨⟨B.exec, B.bytes, hml, findClass_of_methodNamed B.named, fun w hw => atoms_spec (ws := Cond.code y cc nL ret :: wT) B.pre w (List.mem_cons_of_mem _ hw)⟩, K⟩
section GY
variable {p : Program} {l : Launch} {e : Env} {R : Room} {s : State} {m : MethodId} {args : Array Value} {below : List Frame} {meth : Method} {c : Code} {H : Heap} {locs : List Loc} {cells slots : Nat} {Q : State → Prop}
variable {cc : ByteArray} {nL pc : Nat} {ls : Array Slot} {rest st : List Value} {own : String} {G : gx_G} {a n : Nat} {E : Nat → va_E} {A : Nat → Prop}
theorem gy_set (hH : gy_H G a n E H) {H1 : Heap} (k0 : Nat) {x : va_E} (h1 : va_at G.1 vwCl (a + k0, x) H1) (z : H1.size = H.size) (oq : ∀ q : Nat, q ≠ a + k0 → H1[q]? = H[q]?) : gy_H G a n (va_up E k0 x) H1 := by
  refine ⟨fun k hk => ?_, by rw [z]; exact hH.2⟩
  by_cases e : k = k0
  · subst e
    rw [show va_up E k x k = x from if_pos rfl]
    exact h1
  · rw [show va_up E k0 x k = E k from if_neg e]
    exact (hH.1 k hk).kept (oq _ (by show a + k ≠ a + k0; omega))
theorem gy_push (hH : gy_H G a n E H) {H1 : Heap} {x : va_E} (h1 : va_at G.1 vwCl (a + n, x) H1) (z : H1.size = a + n + 1) (o1 : ∀ q : Nat, q < a + n → H1[q]? = H[q]?) : gy_H G a (n + 1) (va_up E n x) H1 := by
  refine ⟨fun k hk => ?_, by rw [z]; omega⟩
  by_cases e : k = n
  · subst e
    rw [show va_up E k x k = x from if_pos rfl]
    exact h1
  · rw [show va_up E n x k = E k from if_neg e]
    exact (hH.1 k (by omega)).kept (o1 _ (by show a + k < a + n; omega))
theorem gy_Spush (hA : ∀ q, a ≤ q → A q) (hH : gy_H G a n E H) (hS : va_S A s.heap H locs) {H1 : Heap} (z : H1.size = a + n + 1) (o1 : ∀ q : Nat, q < a + n → H1[q]? = H[q]?) : va_S A s.heap H1 locs := by
  have h2 := hH.2
  have h3 := hS.1
  exact ⟨by omega, fun q h1 h4 => (o1 q (by omega)).trans (hS.2.1 q h1 h4), hS.2.2⟩
theorem gy_put (C : gy_C p m c cc nL s args own G) (hA : ∀ q, a ≤ q → A q) (hH : gy_H G a n E H) (hS : va_S A s.heap H locs) (k0 : Nat) (hk0 : k0 < n) {ci idx j : Nat} {fs : List Value} {ft : FieldType} {v : Value} {nm : String} (he : E k0 = .inr (ci, fs)) (L : gx_FL own idx ci j) (L2 : gy_FW own ci j ft nm) (hnm : nm = "<init>" → meth.name = "<init>") (hn : narrow ft v = v) (hfit : fits ft v = true) (hlen : j < fs.length) (hdg : decode cc pc = .ok (.putfield idx, 3))
    (kk : ∀ (H1 : Heap) (locs1 : List Loc), gy_H G a n (va_up E k0 (.inr (ci, fs.set j v))) H1 → va_S A s.heap H1 locs1 → W p l e R s m args below meth c H1 locs1 cells slots Q (F0 m (pc + 3) ls rest)) : W p l e R s m args below meth c H locs cells slots Q (F0 m pc ls (v :: .ref (a + k0) :: rest)) := by
  obtain ⟨Cn, T, N, ty, hc, hin, hj, hlk, hty, hap0⟩ := L
  obtain ⟨Cn2, T2, N2, hc2, hd, hfin⟩ := L2
  have hcc := Option.some.inj (hc.symm.trans hc2)
  cases hcc
  have hts := C.1.2.2.2.2
  have hK := C.2
  have hap := va_apart (own := own) hts hin ty hty hap0 hK hc
  have h0 := hH.1 k0 hk0
  rw [he] at h0
  obtain ⟨r, h1, cell, q1, q2, q3, q4⟩ := h0
  have hr : r = (Cn, T, N) := Option.some.inj (h1.symm.trans hc)
  subst hr
  obtain ⟨hSl, hfc, kC, hkC, hkind⟩ := hK.1 ci _ hc
  obtain ⟨cf, kf, fi, f, hi, hsl⟩ := hSl j hj
  have hlay := hts _ (hin _ (u_in_lay hj))
  have hst := (u_facts hfc hkC (u_lays hts hin hj) hi).1
  have fin : ∀ H' : Heap, H'[a + k0]? = some (cell.setSlot f.slot v) → H'.size = H.size → (∀ q, q ≠ a + k0 → H'[q]? = H[q]?) → W p l e R s m args below meth c H' (locs ++ [⟨a + k0, f.slot⟩]) cells slots Q (F0 m (pc + 3) ls rest) := by
    intro H' e1 e2 e3
    rw [hsl] at e1 ⊢
    exact kk H' _ (gy_set hH k0 ⟨_, hc, t_OB.to (V := updV (vp_V fs) j v) ⟨_, e1, q2, q3, t_set q4 hap hj _⟩ (fun j' _ => vp_updV_set hlen _ j')⟩ e2 e3) (hS.put e2 e3 (hA _ (Nat.le_add_right a k0)))
  rcases hfin with hf | ⟨hf, hin1, hdecl⟩
  · unfold u_lay at hlay
    rw [if_neg (by rw [hf]; decide)] at hlay
    have h6 := u_store hfc hkC hkind hlay hi hd hn hfit
    exact W.putK C.1.1 C.1.2.1 (f := f) ⟨C.1.2.2.2.1, hts _ hlk, ⟨_, _, _, hi⟩, hst⟩ (by rw [q2]; exact h6) q1 q3 (by rw [hsl]; exact k2_hasslot (q4 j hj)) rfl rfl hdg fin
  · unfold u_lay at hlay
    rw [if_pos hf] at hlay
    have hcf : m.cls = cf := by
      obtain ⟨_, _, c', _, _, _, -, -, hf', -, -, -, hown2, -⟩ := Cond.laysFinal_spec hlay
      have e1 : c' = cf := by have := hi.symm.trans hf'; simp at this; exact this.1.symm
      rw [hdecl] at hown2
      rw [← e1]; exact Option.some.inj (C.1.2.2.2.1.symm.trans hown2)
    have h6 := u_fits hfc hkC hkind (Or.inr hlay) hi hd hn hfit
    exact W.putFinK C.1.1 C.1.2.1 C.1.2.2.2.1 (hts _ hlk) hi hst hcf (hnm hin1) (by rw [q2]; exact h6) q1 q3 (by rw [hsl]; exact k2_hasslot (q4 j hj)) rfl rfl hdg fin
theorem gy_get (C : gy_C p m c cc nL s args own G) (hH : gy_H G a n E H) (k0 : Nat) (hk0 : k0 < n) {ci idx j : Nat} {fs : List Value} (he : E k0 = .inr (ci, fs)) (L : gx_FL own idx ci j) {v : Value} (hv : fs[j]? = some v) (hdg : decode cc pc = .ok (.getfield idx, 3))
    (kk : W p l e R s m args below meth c H locs cells slots Q (F0 m (pc + 3) ls (v :: rest))) : W p l e R s m args below meth c H locs cells slots Q (F0 m pc ls (.ref (a + k0) :: rest)) := by
  obtain ⟨Cn, T, N, ty, hc, hin, hj, hl, -, -⟩ := L
  have h0 := hH.1 k0 hk0
  rw [he] at h0
  exact va_get C.1.1 C.1.2.1 C.1.2.2.2.2 hin C.1.2.2.2.1 C.2 (gx_one h0) 0 rfl hc j hj (C.1.2.2.2.2 _ hl) (fun _ h => h) hv hdg kk
theorem gy_newa (C : gy_C p m c cc nL s args own G) (hA : ∀ q, a ≤ q → A q) (hH : gy_H G a n E H) (hS : va_S A s.heap H locs) {atype : ArrayType} {ty : FieldType} (harr : Cond.arrayClass (newarray.typeOf atype) ∈ wT) (hty : newarray.typeOf atype = ty) (t0 : Nat) {cA : ClassId} (ht : (gx_ty G)[t0]? = some (cA, ty)) (hRA : va_RA s cA ty → s.vm.findClass ("[" ++ ty.toString) = some cA) {x : Int32} {N : Nat} {a0 : vp_A} (ha0 : vp_cell cA a0 = arrV cA N (fun _ => defaultValue ty)) (hx : ¬ x < 0) (hN : x.toNatClampNeg = N) (hbytes : N * componentBytes ty ≤ 536870912) (hcells : cells + 1 ≤ R.cells) (hslots : slots + N ≤ R.slots) (hdg : decode cc pc = .ok (.newarray atype, 2))
    (kk : ∀ H1 : Heap, gy_H G a (n + 1) (va_up E n (.inl (cA, a0))) H1 → va_S A s.heap H1 locs → W p l e R s m args below meth c H1 locs (cells + 1) (slots + N) Q (F0 m (pc + 2) ls (.ref (a + n) :: rest))) : W p l e R s m args below meth c H locs cells slots Q (F0 m pc ls (.int x :: rest)) := by
  subst hty
  have hh := hH.2
  refine va_newaK C.1.1 C.1.2.1 (C.1.2.2.2.2 _ harr) rfl hdg rfl hx hN hbytes hcells hslots hh fun H1 cA' e1 z1 o1 hAr hNm => ?_
  have hcA : cA' = cA := Option.some.inj (hNm.symm.trans (hRA (C.2.2 t0 _ ht).2))
  subst hcA
  exact kk H1 (gy_push hH (show H1[a + n]? = some (vp_cell _ _) by rw [ha0]; exact e1) z1 o1) (gy_Spush hA hH hS z1 o1)
theorem gy_newq (C : gy_C p m c cc nL s args own G) (hA : ∀ q, a ≤ q → A q) (hH : gy_H G a n E H) (hS : va_S A s.heap H locs) {idx : Nat} {Cn : String} (hclink : Cond.classLink own idx Cn ∈ wT) (hover : va_AO Cn s) (t0 : Nat) {cA : ClassId} (ht : (gx_ty G)[t0]? = some (cA, .object Cn)) {x : Int32} {N : Nat} (hx : ¬ x < 0) (hN : x.toNatClampNeg = N) (hbytes : N * 4 ≤ 536870912) (hcells : cells + 1 ≤ R.cells) (hslots : slots + N ≤ R.slots) (hdg : decode cc pc = .ok (.anewarray idx, 3))
    (kk : ∀ H1 : Heap, gy_H G a (n + 1) (va_up E n (.inl (cA, N, gx_refs (fun _ => none)))) H1 → va_S A s.heap H1 locs → W p l e R s m args below meth c H1 locs (cells + 1) (slots + N) Q (F0 m (pc + 3) ls (.ref (a + n) :: rest))) : W p l e R s m args below meth c H locs cells slots Q (F0 m pc ls (.int x :: rest)) := by
  subst hN
  have hh := hH.2
  refine W.anew C.1.1 C.1.2.1 C.1.2.2.2.1 (C.1.2.2.2.2 _ hclink) (va_AO.use hover) rfl hdg rfl hx hbytes hcells hslots fun cA' kA comp f1 f2 f3 f4 => ?_
  obtain ⟨kA2, comp2, g1, g2, g3, g4⟩ := (C.2.2 t0 _ ht).2
  have hcA : cA' = cA := Option.some.inj (f1.symm.trans g4)
  subst hcA
  generalize hH1 : H.push ({ cls := cA', slots := Array.replicate x.toNatClampNeg .null, vm := .none } : Cell) = H1
  have z1 : H1.size = a + n + 1 := by rw [← hH1, Array.size_push, hh]
  have e1 : H1[a + n]? = some (arrV cA' x.toNatClampNeg (fun _ => .null)) := by rw [← hH1, ← hh, Array.getElem?_push_size, ← arrV_new]
  have o1 : ∀ q : Nat, q < a + n → H1[q]? = H[q]? := fun q hq => by rw [← hH1, Array.getElem?_push, if_neg (by omega)]
  rw [hh]
  exact kk H1 (gy_push hH (show H1[a + n]? = some (vp_cell _ _) by rw [vp_cell_q]; exact e1) z1 o1) (gy_Spush hA hH hS z1 o1)
theorem gy_new (C : gy_C p m c cc nL s args own G) (hA : ∀ q, a ≤ q → A q) (hH : gy_H G a n E H) (hS : va_S A s.heap H locs) {idx ci : Nat} {Cn : String} {T : u_T} {N : Nat} {ty : Nat → FieldType} (hc : vwCl[ci]? = some (Cn, T, N)) (hin : ∀ w ∈ u_ws Cn T N, w ∈ wT) (hty : ∀ k, k < N → parseFieldDescriptor (T k).2.2.1 = some (ty k)) (hclink : Cond.classLink own idx Cn ∈ wT) (hinst : Cond.instantiable Cn N ∈ wT) (hini : Cond.initialized Cn ∈ wT) {fs : List Value} (hfs : ∀ j, j < N → defaultValue (ty j) = vp_V fs j) (hcells : cells + 1 ≤ R.cells) (hslots : slots + N ≤ R.slots) (hdg : decode cc pc = .ok (.new idx, 3))
    (kk : ∀ H1 : Heap, gy_H G a (n + 1) (va_up E n (.inr (ci, fs))) H1 → va_S A s.heap H1 locs → W p l e R s m args below meth c H1 locs (cells + 1) (slots + N) Q (F0 m (pc + 3) ls (.ref (a + n) :: rest))) : W p l e R s m args below meth c H locs cells slots Q (F0 m pc ls rest) := by
  have hts := C.1.2.2.2.2
  have hKn := C.2.1 ci _ hc
  refine W.newcK C.1.1 C.1.2.1 C.1.2.2.2.1 (hts _ hclink) (hts _ hinst) (hts _ hini) rfl hdg hcells hslots hKn.2.1 hH.2 fun H1 kC hkC e1 z1 o1 => ?_
  exact kk H1 (gy_push hH ⟨_, hc, (u_born ty hts hin hKn hkC e1 hty).to hfs⟩ z1 o1) (gy_Spush hA hH hS z1 o1)
theorem gy_aast (C : gy_C p m c cc nL s args own G) (hA : ∀ q, a ≤ q → A q) (hH : gy_H G a n E H) (hS : va_S A s.heap H locs) (k0 kv : Nat) (hk0 : k0 < n) (hkv : kv < n) (t0 ci : Nat) {cA : ClassId} {r : vw_C} {N : Nat} {f : Nat → Option Nat} {vs : List Value} (ht : (gx_ty G)[t0]? = some (cA, .object r.1)) (hc : vwCl[ci]? = some r) (he : E k0 = .inl (cA, N, gx_refs f)) (hv : E kv = .inr (ci, vs)) {i : Int32} (hin : ¬ (i < 0 ∨ N ≤ i.toNatClampNeg)) (hdg : decode cc pc = .ok (.aastore, 1))
    (kk : ∀ (H1 : Heap) (locs1 : List Loc), gy_H G a n (va_up E k0 (.inl (cA, N, gx_refs (va_up f i.toNatClampNeg (some (a + kv)))))) H1 → va_S A s.heap H1 locs1 → W p l e R s m args below meth c H1 locs1 cells slots Q (F0 m (pc + 1) ls rest)) : W p l e R s m args below meth c H locs cells slots Q (F0 m pc ls (.ref (a + kv) :: .int i :: .ref (a + k0) :: rest)) := by
  have h0 := hH.1 k0 hk0
  rw [he] at h0
  have h0 : H[a + k0]? = some (vp_cell cA (N, gx_refs f)) := h0
  have hv := hv ▸ hH.1 _ hkv
  obtain ⟨r', hr', cellV, g1, g2, g3, -⟩ := hv
  have hcls := (C.2.1 ci r hc).2
  obtain ⟨kA, comp, k1, k2, k3, -⟩ := (C.2.2 t0 _ ht).2
  have hcomp : comp = G.1.1 ci := Option.some.inj (k3.symm.trans hcls.1)
  subst hcomp
  obtain ⟨kC, hkC, -⟩ := hcls.2
  refine W.aast C.1.1 C.1.2.1 h0 (fun q h => by cases h) (fun h => by cases h) k1 k2 rfl hkC ⟨fun q => hin (Or.inl q), by show _ < (arrV _ _ _).slots.size; rw [arrV_size]; exact gx_lt12 hin⟩ g1 (fun q h => by rw [g3] at h; cases h) (by rw [g2]; exact hkC) (by rw [g2]; exact va_assign hcls) rfl rfl hdg fun H1 e z oq => ?_
  refine kk H1 _ (gy_set hH k0 ?_ z oq) (hS.put z oq (hA _ (Nat.le_add_right a k0)))
  show H1[a + k0]? = some (vp_cell _ _)
  rw [e, vp_cell_q, vp_cell_q, arrV_store]
  congr 2
  funext q
  by_cases hq : q = i.toNatClampNeg
  · subst hq
    simp [updV, va_up, va_rf]
  · simp [updV, va_up, hq]
theorem gy_iast (C : gy_C p m c cc nL s args own G) (hA : ∀ q, a ≤ q → A q) (hH : gy_H G a n E H) (hS : va_S A s.heap H locs) (k0 : Nat) (hk0 : k0 < n) {N : Nat} {f : Nat → Int32} (he : E k0 = .inl (G.2.1 0, N, .inl f)) {i x : Int32} (hin : ¬ (i < 0 ∨ N ≤ i.toNatClampNeg)) (hdg : decode cc pc = .ok (.iastore, 1))
    (kk : ∀ (H1 : Heap) (locs1 : List Loc), gy_H G a n (va_up E k0 (.inl (G.2.1 0, N, .inl (upd f i.toNatClampNeg x)))) H1 → va_S A s.heap H1 locs1 → W p l e R s m args below meth c H1 locs1 cells slots Q (F0 m (pc + 1) ls rest)) : W p l e R s m args below meth c H locs cells slots Q (F0 m pc ls (.int x :: .int i :: .ref (a + k0) :: rest)) := by
  have h0 := hH.1 k0 hk0
  rw [he] at h0
  have h0 : H[a + k0]? = some (vp_cell (G.2.1 0) (N, .inl f)) := h0
  refine W.iast C.1.1 C.1.2.1 h0 ((C.2.2 0 _ rfl).1 N (fun j => .int (f j))) (fun q => by cases q) (by show ¬ (i < 0 ∨ (arrV _ _ _).slots.size ≤ _); rw [arrV_size]; exact hin) rfl rfl hdg fun H1 e z oq => ?_
  refine kk H1 _ (gy_set hH k0 ?_ z oq) (hS.put z oq (hA _ (Nat.le_add_right a k0)))
  show H1[a + k0]? = some (vp_cell _ _)
  rw [e, vp_cell_i, vp_cell_i, arrV_store, gx_updV]
/-- a constructor called on the last cell of the block -/
theorem gy_init (hA : ∀ q, a ≤ q → A q) (hH : gy_H G a (n + 1) E H) (hS : va_S A s.heap H locs) {k mc ms : Nat} {E1 : Nat → va_E} {ar : Array Value} (hr : va_Run p l e R s m args below meth c H locs cells slots mc ms (F0 m pc ls st) rest (gy_Q G (a + n) k E1 ar) (fun q => a + n ≤ q))
    (kk : ∀ (H1 : Heap) (locs1 : List Loc), gy_H G a (n + k) (fun j => if j < n then E j else E1 (j - n)) H1 → va_S A s.heap H1 locs1 → W p l e R s m args below meth c H1 locs1 (cells + mc) (slots + ms) Q (F0 m (pc + 3) ls rest)) : W p l e R s m args below meth c H locs cells slots Q (F0 m pc ls st) := by
  intro T hT X
  obtain ⟨v', st₀, t, T', L, h0, X', hL, e1, e2, ⟨hv, hh, hz, hk⟩, go⟩ := hr T hT X
  cases hv
  rw [h0] at hz hk
  have hs0 := hH.2
  have hs1 := hS.1
  obtain ⟨t2, a1, b1⟩ := kk T'.heap (locs ++ L) ⟨fun j hj => by
      by_cases hjn : j < n
      · show va_at G.1 vwCl (a + j, if j < n then E j else E1 (j - n)) _
        rw [if_pos hjn, e1]
        exact (hH.1 j (by omega)).kept (hk (a + j) (by omega) (by show ¬ (a + n ≤ a + j); omega))
      · show va_at G.1 vwCl (a + j, if j < n then E j else E1 (j - n)) _
        rw [if_neg hjn, e1]
        have h9 := hh.1 (j - n) (by omega)
        rw [show a + n + (j - n) = a + j by omega] at h9
        exact h9, by rw [e1, hh.2]; omega⟩
    ⟨by rw [e1]; omega, fun q h1 h2 => by rw [e1, hk q (by omega) (fun h3 => h2 (hA q (by omega)))]; exact hS.2.1 q h1 h2, fun q hq => by
      rcases List.mem_append.mp hq with h | h
      · exact hS.2.2 q h
      · exact hA _ (Nat.le_trans (Nat.le_add_right a n) (hL q h))⟩ T' rfl X'
  exact ⟨t2, go t2 a1, b1⟩
theorem gy_pre {X : State → Prop} (hX : gy_X X) (C : gy_C p m c cc nL s args own G) (hXs : X s) (hH : gy_H G a (n + 1) E H) {U : State} (hU : U.heap = H) (hW : s.WarmedH U.vm) {E0 : Nat → va_E} (e0 : E n = E0 0) : gy_S G (a + n) 1 E0 X U := by
  subst hU
  refine ⟨⟨fun k hk => ?_, by rw [hH.2]; omega⟩, C.2.moved hW.alike, hX.1 s U hW hXs⟩
  have h0 : k = 0 := by omega
  subst h0
  rw [← e0]
  exact hH.1 n (by omega)
theorem gy_ret (C : gy_C p m c cc nL s args own G) (hr : meth.sig.returnType = none) (hlocks : meth.locks = false) (hH : gy_H G a n E H) (hS : va_S (fun q => a ≤ q) s.heap H locs) (hdg : decode cc pc = .ok (.return_, 1)) : W p l e R s m args below meth c H locs cells slots (MQ below (gy_Q G a n E) args s cells slots (fun q => a ≤ q)) (F0 m pc ls []) :=
  W.vret C.1.1 C.1.2.1 hr (fun t ht _ => ⟨rfl, by rw [ht]; exact hH, hS.F ht⟩) hS.2.2 hdg hlocks
end GY
