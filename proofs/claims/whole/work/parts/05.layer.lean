/-! My layer: a side's world is a function from cell numbers to rows of ints; every method is told by a partial function over it. -/
/-- D, the array classes (int, boolean, Effect, Axis, Button), the cells' addresses, what may change, the static tables' addresses -/
abbrev gx_G : Type := va_G × (Nat → ClassId) × (Nat → Nat) × (Nat → Prop) × (Nat → Nat)
abbrev gx_q (G : gx_G) (k : Nat) : Nat := G.2.2.1 k
abbrev gx_A (G : gx_G) : Nat → Prop := G.2.2.2.1
abbrev gx_St : Type := Nat → Nat → Int32
abbrev gx_Mk : Type := Nat → (Nat → Int32) → va_E
def gx_ty (G : gx_G) : List (ClassId × FieldType) := [(G.2.1 0, .int), (G.2.1 1, .boolean), (G.2.1 2, .object RX2), (G.2.1 3, .object RX0), (G.2.1 4, .object RX1)]
abbrev gx_K (G : gx_G) (U : State) : Prop := va_K G.1 vwCl (gx_ty G) U
def gx_H (G : gx_G) (n : Nat) (mk : gx_Mk) (σ : gx_St) (H : Heap) : Prop := ∀ k, k < n → va_at G.1 vwCl (gx_q G k, mk k (σ k)) H
def gx_D (G : gx_G) (n : Nat) : Prop := (∀ i j, i < n → j < n → gx_q G i = gx_q G j → i = j) ∧ ∀ k, k < n → gx_A G (gx_q G k)
def gx_w2 (σ : gx_St) (k j : Nat) (v : Int32) : gx_St := fun k' => if k' = k then upd (σ k) j v else σ k'
def gx_tn (i : Nat) : String := match i with
  | 0 => "SHAPE_LEAST"
  | 1 => "SHAPE_MOST"
  | 2 => "NUMBER_LEAST"
  | 3 => "NUMBER_MOST"
  | _ => "NUMBER_AT_FIRST"
def gx_tl (i : Nat) : Nat := match i with
  | 0 => 28
  | 1 => 28
  | _ => 12
def gx_t0 : List Int32 := [-1000, 0, 0, 0, 0, -1000, 2, 0, 0, -1000, 2, 0, -1000, -1000, 0, 0, -100, -1000, 0, 0, -100, 0, 0, 0, 1, -1000, 0, 0]
def gx_t1 : List Int32 := [1000, 0, 0, 0, 1000, 1000, 2000, 1999, 1000, 1000, 2000, 1999, 1000, 1000, 0, 0, 100, 1000, 1000, 1000, 100, 0, 9999, 1000, 1000, 1000, 1, 1000]
def gx_t2 : List Int32 := [1, 0, 0, 0, 0, 0, -100, -100, 0, 0, 0, 0]
def gx_t3 : List Int32 := [60000, 5000, 5000, 100, 5000, 100, 100, 100, 100, 9, 3, 5000]
def gx_t4 : List Int32 := [-9, 0, 0, 0, 0, 0, 100, 0, 100, 0, -9, 0]
def gx_tv (i j : Nat) : Int32 := match i with
  | 0 => gx_t0.getD j 0
  | 1 => gx_t1.getD j 0
  | 2 => gx_t2.getD j 0
  | 3 => gx_t3.getD j 0
  | _ => gx_t4.getD j 0
def gx_T (G : gx_G) (U : State) (H : Heap) : Prop := ∀ i, i < 5 → va_Z "PushStick" (gx_tn i) "[I" (.ref (G.2.2.2.2 i)) (gx_A G) U H ∧ va_T .int (G.2.2.2.2 i) (gx_tl i) (fun j => .int (gx_tv i j)) (gx_A G) U H
def gx_N (U : State) : Prop := va_Nw (.methodLinkNest "PushStick$Effect" 100 ⟨"PushStick", "quotient", "(II)I"⟩ "PushStick") U ∧ va_Nw (.methodLinkNest "PushStick$Effect" 106 ⟨"PushStick", "noFarther", "(II)I"⟩ "PushStick") U ∧ va_Nw (.methodLinkNest "PushStick$Effect" 94 ⟨"PushStick", "remainder", "(II)I"⟩ "PushStick") U ∧ va_Nw (.fieldLinkNest "PushStick$Effect" 43 "PushStick" "NUMBER_AT_FIRST" "[I" "PushStick") U
def gx_E (G : gx_G) (s : State) : Prop := gx_K G s ∧ gx_T G s s.heap ∧ gx_N s
def gx_S (G : gx_G) (n : Nat) (mk : gx_Mk) (σ : gx_St) (U : State) : Prop := gx_H G n mk σ U.heap ∧ gx_E G U
theorem gx_T.kept {G : gx_G} {U : State} {H H1 : Heap} (h : gx_T G U H) (hq : ∀ a : Nat, a < H.size → ¬ gx_A G a → H1[a]? = H[a]?) : gx_T G U H1 := fun i hi => ⟨(h i hi).1.kept hq, (h i hi).2.kept hq⟩
theorem gx_T.moved {G : gx_G} {u U : State} {H : Heap} (hvm : u.vm.Alike U.vm) (h : gx_T G u H) : gx_T G U H := fun i hi => ⟨(h i hi).1.moved hvm, (h i hi).2.moved hvm⟩
theorem gx_N.warm {s U : State} (hW : s.WarmedH U.vm) (h : gx_N s) : gx_N U := ⟨h.1.warmM hW, h.2.1.warmM hW, h.2.2.1.warmM hW, h.2.2.2.warmF hW⟩
theorem gx_N.same {u U : State} (e : u.vm = U.vm) (h : gx_N u) : gx_N U := ⟨h.1.same rfl e, h.2.1.same rfl e, h.2.2.1.same rfl e, h.2.2.2.same rfl e⟩
theorem gx_pre {G : gx_G} {n : Nat} {mk : gx_Mk} {σ : gx_St} {s U : State} {H : Heap} {locs : List Loc} (E : gx_E G s) (hH : gx_H G n mk σ H) (hS : va_S (gx_A G) s.heap H locs) (hU : U.heap = H) (hW : s.WarmedH U.vm) : gx_S G n mk σ U := by
  subst hU
  exact ⟨hH, E.1.moved hW.alike, (E.2.1.moved hW.alike).kept (fun a h1 h2 => hS.2.1 a h1 h2), E.2.2.warm hW⟩
theorem gx_blind {G : gx_G} {n : Nat} {mk : gx_Mk} {σ : gx_St} (av : List Value) : FrameBlind (va_Pc av (gx_S G n mk σ)) := fun a U g mk' h => ⟨h.1, h.2.1, va_K.moved (u := U) (U := U.calling g mk' a) (Vm.Alike.refl U.vm) h.2.2.1, gx_T.moved (u := U) (U := U.calling g mk' a) (Vm.Alike.refl U.vm) h.2.2.2.1, gx_N.same (u := U) (U := U.calling g mk' a) rfl h.2.2.2.2⟩
/-- ends: nothing is written; or the side's world becomes another -/
def gx_QR (v : Option Value) : Array Value → State → Outcome → State → Prop := fun _ st o t => o = .returned v ∧ t.heap = st.heap
def gx_QM (G : gx_G) (n : Nat) (mk : gx_Mk) (v : Option Value) (σ : gx_St) : Array Value → State → Outcome → State → Prop := fun _ st o t => o = .returned v ∧ gx_H G n mk σ t.heap ∧ va_F (gx_A G) st t
/-- partial functions -/
def gx_lt {α β : Type} (e : α) (k : α → β) : β := k e
theorem gx_pos {α : Type} {c : Prop} [Decidable c] {a b : Option α} {r : α} (h : c) (hf : (if c then a else b) = some r) : a = some r := by rw [if_pos h] at hf; exact hf
theorem gx_neg {α : Type} {c : Prop} [Decidable c] {a b : Option α} {r : α} (h : ¬ c) (hf : (if c then a else b) = some r) : b = some r := by rw [if_neg h] at hf; exact hf
theorem gx_chk {α : Type} {c : Prop} [Decidable c] {b : Option α} {r : α} (hf : (if c then none else b) = some r) : ¬ c ∧ b = some r := by
  by_cases h : c
  · rw [if_pos h] at hf; cases hf
  · rw [if_neg h] at hf; exact ⟨h, hf⟩
theorem gx_bnd {α β : Type} {o : Option α} {k : α → Option β} {r : β} (hf : o.bind k = some r) : ∃ x, o = some x ∧ k x = some r := by
  cases o with
  | none => cases hf
  | some x => exact ⟨x, rfl, hf⟩
theorem gx_let {α β : Type} {e : α} {k : α → Option β} {r : β} (hf : gx_lt e k = some r) : ∀ x, x = e → k x = some r := fun x h => by subst h; exact hf
theorem gx_lt12 {x : Int32} {n : Nat} (h : ¬ (x < 0 ∨ n ≤ x.toNatClampNeg)) : x.toNatClampNeg < n := Nat.not_le.mp fun q => h (Or.inr q)
theorem gx_ne9 {x : Int32} {n : Nat} (h : ¬ (x < 0 ∨ n ≤ x.toNatClampNeg)) : ¬ x = -9 := fun e => h (Or.inl (by rw [e]; decide))
/-- references to a side's objects, told by a number; NONE is null -/
def gx_rf (G : gx_G) (b w : Nat) (x : Int32) : Option Nat := if x = -9 then none else some (gx_q G (b + w * x.toNatClampNeg))
theorem gx_rf_s {G : gx_G} {b w : Nat} {x : Int32} (h : ¬ x = -9) : gx_rf G b w x = some (gx_q G (b + w * x.toNatClampNeg)) := if_neg h
theorem gx_rf_n {G : gx_G} {b w : Nat} {x : Int32} (h : x = -9) : gx_rf G b w x = none := if_pos h
theorem gx_lr {ls : Array Slot} {i a : Nat} {o : Option Nat} (h : ls[i]? = some (.val (va_rf o))) (e : o = some a) : ls[i]? = some (.val (.ref a)) := by rw [e] at h; exact h
theorem gx_ln {ls : Array Slot} {i : Nat} {o : Option Nat} (h : ls[i]? = some (.val (va_rf o))) (e : o = none) : ls[i]? = some (.val .null) := by rw [e] at h; exact h
/-- links -/
def gx_LV (own : String) (idx : Nat) (y : MethodName) (cc : ByteArray) (nL : Nat) (ret : Option FieldType) (n : Nat) : Prop := (Cond.methodLink own idx y ∈ wT ∧ Cond.instanceMethod y ∈ wT ∧ Cond.selects y.cls y y ∈ wT ∧ Cond.initialized y.cls ∈ wT ∧ Cond.code y cc nL ret ∈ wT) ∧ y.cls ≠ "java/lang/invoke/MethodHandle" ∧ y.cls ≠ "java/lang/invoke/VarHandle" ∧ (parseMethodDescriptor y.desc).map (fun d => d.parameters.length) = some n
def gx_LS (own : String) (idx : Nat) (y : MethodName) (cc : ByteArray) (nL : Nat) (ret : Option FieldType) (n : Nat) : Prop := (Cond.methodLink own idx y ∈ wT ∧ Cond.static y ∈ wT ∧ Cond.initialized y.cls ∈ wT ∧ Cond.code y cc nL ret ∈ wT) ∧ y.cls ≠ "java/lang/invoke/MethodHandle" ∧ y.cls ≠ "java/lang/invoke/VarHandle" ∧ (parseMethodDescriptor y.desc).map (fun d => d.parameters.length) = some n
def gx_LN (y : MethodName) (cc : ByteArray) (nL : Nat) (ret : Option FieldType) (n : Nat) : Prop := (Cond.static y ∈ wT ∧ Cond.initialized y.cls ∈ wT ∧ Cond.code y cc nL ret ∈ wT) ∧ y.cls ≠ "java/lang/invoke/MethodHandle" ∧ y.cls ≠ "java/lang/invoke/VarHandle" ∧ (parseMethodDescriptor y.desc).map (fun d => d.parameters.length) = some n
def gx_FL (own : String) (idx ci j : Nat) : Prop := ∃ (Cn : String) (T : u_T) (N : Nat) (ty : Nat → FieldType), vwCl[ci]? = some (Cn, T, N) ∧ (∀ w ∈ u_ws Cn T N, w ∈ wT) ∧ j < N ∧ Cond.fieldLink own idx (T j).1 (T j).2.1 (T j).2.2.1 ∈ wT ∧ (∀ k, k < N → parseFieldDescriptor (T k).2.2.1 = some (ty k)) ∧ (∀ a, a < N → ∀ b, b < N → a ≠ b → (T a).2.1 ≠ (T b).2.1)
def gx_FW (ci j : Nat) (ft : FieldType) : Prop := ∃ (Cn : String) (T : u_T) (N : Nat), vwCl[ci]? = some (Cn, T, N) ∧ (T j).2.2.2 = false ∧ parseFieldDescriptor (T j).2.2.1 = some ft
abbrev gx_rooms (R rm : Room) (nL : Nat) : Prop := rm.cells = 0 ∧ rm.slots = 0 ∧ rm.frames + 1 ≤ R.frames ∧ 8 + (nL + 11) + rm.locals ≤ R.locals
/-- a method's body: what stays -/
def gx_C (p : Program) (m : MethodId) (c : Code) (cc : ByteArray) (nL : Nat) (s : State) (args : Array Value) (own : String) (G : gx_G) : Prop := CallFix p m c cc nL s args wT own ∧ gx_E G s
theorem gx_C.of {p : Program} {l : Launch} {y : MethodName} {cc : ByteArray} {nL : Nat} {ret : Option FieldType} {rm : Room} {e : Env} {s s₁ : State} {m : MethodId} {args : Array Value} {below : List Frame} {meth : Method} {c : Code} {G : gx_G} (B : BodyLoose p l y (headSpec (Cond.code y cc nL ret :: wT) rm) cc nL ret e s m args below meth c s₁) (hml : c.maxLocals = nL) (E : gx_E G s) : gx_C p m c cc nL s args y.cls G :=
  ⟨⟨B.exec, B.bytes, hml, findClass_of_methodNamed B.named, fun w hw => atoms_spec (ws := Cond.code y cc nL ret :: wT) B.pre w (List.mem_cons_of_mem _ hw)⟩, E⟩
theorem gx_C.good {cs : Cond} (h : cs ∈ wT) : GoodIn wT (cs :: wT) := fun w hw => (List.mem_cons.mp hw).elim (fun e => by rw [e]; exact wT_good _ h) (wT_good w)
section GX
variable {p : Program} {l : Launch} {e : Env} {R : Room} {s : State} {m : MethodId} {args : Array Value} {below : List Frame} {meth : Method} {c : Code} {H : Heap} {locs : List Loc} {cells slots : Nat} {Q : State → Prop}
variable {cc : ByteArray} {nL pc : Nat} {ls : Array Slot} {rest st : List Value} {own : String} {G : gx_G} {n : Nat} {mk : gx_Mk} {σ : gx_St}
theorem gx_get (C : gx_C p m c cc nL s args own G) (hH : gx_H G n mk σ H) (k0 : Nat) (hk0 : k0 < n) {ci idx j : Nat} {fs : List Value} (hm : mk k0 (σ k0) = .inr (ci, fs)) (L : gx_FL own idx ci j) {v : Value} (hv : fs[j]? = some v) (hdg : decode cc pc = .ok (.getfield idx, 3))
    (kk : W p l e R s m args below meth c H locs cells slots Q (F0 m (pc + 3) ls (v :: rest))) : W p l e R s m args below meth c H locs cells slots Q (F0 m pc ls (.ref (gx_q G k0) :: rest)) := by
  obtain ⟨Cn, T, N, ty, hc, hin, hj, hl, -, -⟩ := L
  have h0 := hH k0 hk0
  rw [hm] at h0
  exact va_get (ws := [(gx_q G k0, .inr (ci, fs))]) C.1.1 C.1.2.1 C.1.2.2.2.2 hin C.1.2.2.2.1 C.2.1 (fun k q hq => by
    have hz : k < 1 := (List.getElem?_eq_some_iff.mp hq).1
    rw [show k = 0 by omega] at hq
    cases hq
    exact h0) 0 rfl hc j hj (C.1.2.2.2.2 _ hl) (fun _ h => h) hv hdg kk
/-- a cell is written: the world behind it -/
theorem gx_set (hG : gx_D G n) (hH : gx_H G n mk σ H) {H1 : Heap} (k0 : Nat) (hk0 : k0 < n) {j : Nat} {x : Int32} (h1 : va_at G.1 vwCl (gx_q G k0, mk k0 (upd (σ k0) j x)) H1) (oq : ∀ q : Nat, q ≠ gx_q G k0 → H1[q]? = H[q]?) : gx_H G n mk (gx_w2 σ k0 j x) H1 := by
  intro k hk
  by_cases e : k = k0
  · subst e
    show va_at G.1 vwCl (gx_q G k, mk k (gx_w2 σ k j x k)) H1
    rw [show gx_w2 σ k j x k = upd (σ k) j x from if_pos rfl]
    exact h1
  · show va_at G.1 vwCl (gx_q G k, mk k (gx_w2 σ k0 j x k)) H1
    rw [show gx_w2 σ k0 j x k = σ k from if_neg e]
    exact (hH k hk).kept (oq _ (fun z => e (hG.1 k k0 hk hk0 z)))
theorem gx_one {D : va_G} {cl : List vw_C} {a : Nat} {x : va_E} {H : Heap} (h : va_at D cl (a, x) H) : va_P D cl [(a, x)] H := fun k q hq => by
  have hz : k < 1 := (List.getElem?_eq_some_iff.mp hq).1
  rw [show k = 0 by omega] at hq
  cases hq
  exact h
theorem gx_dn {A : Nat → Prop} {a : Nat} {x : va_E} (h : A a) : va_D A [(a, x)] := ⟨fun i j p q hi hj _ => by
  have h1 : i < 1 := (List.getElem?_eq_some_iff.mp hi).1
  have h2 : j < 1 := (List.getElem?_eq_some_iff.mp hj).1
  omega, fun k q hq => by
  have hz : k < 1 := (List.getElem?_eq_some_iff.mp hq).1
  rw [show k = 0 by omega] at hq
  cases hq
  exact h⟩
end GX
