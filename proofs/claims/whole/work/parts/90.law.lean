/-! THE CLAIM OUT OF ONE WALK OF THE LAW'S BODY. Your part is whole_start (and what it stands on); all else here is the same for every law, but numbers. -/
def R_law : String := "PushStickLaw"
def lw_P (b : Addr) (xs : List Int32) (args : Array Value) (s : State) : Prop := args = #[.ref b] ∧ s.IntsAt b xs ∧ xs.length ≤ 3072 ∧ (Jvm.Cond.and given_1 narrow_1).before args s = true
def lw_Q (_ : Array Value) (s : State) (o : Outcome) (t : State) : Prop := o = .returned (some (.int 1)) ∧ Framed s o t [] 600000 7302250
def lw_Z (below : List Frame) (a : Array Value) (s : State) : State → Prop := fun t => ∃ o, t.status = .running ∧ Ended t below o ∧ lw_Q a s o t
/-- the law's own end, with 1 on the stack, nothing written that was there before, its room as the claim has it -/
theorem lw_ret {p : Program} {l : Launch} {e : Env} {s : State} {m : MethodId} {below : List Frame} {meth : Method} {c : Code} {b : Nat} (hx : p.tables.exec = Jvm.exec) (hb : c.code = code) (hr : meth.sig.returnType = ret) (hlocks : meth.locks = false) {pc : Nat} {H : Heap} {ls : Array Slot} (hdg : decode code pc = .ok (.ireturn, 1)) : W p l e room_1 s m #[Value.ref b] below meth c H [] 600000 7302250 (lw_Z below #[Value.ref b] s) (F0 m pc ls [.int 1]) := by
  intro T hT X
  obtain ⟨fs, hret, hrun, hended, hW, hframe⟩ := X.leave (v := some (.int 1)) (hlocks := hlocks) (fun h => by rw [hr] at h; cases h)
  have hmeth' : T.vm.method? m = some meth := X.method'
  refine ⟨T.setFrames fs, ?_, .returned (some (.int 1)), hrun, hended, rfl, ⟨_, rfl⟩, hW, hframe⟩
  jvm_step X.here [X.here.top, hx, hb, hdg, hmeth', hr, ret, narrow_b1]
  (try refine ⟨rfl, ?_⟩); (try refine ⟨rfl, ?_⟩)
  first | (intro acts; rw [hret _ acts rfl rfl rfl]) | rw [hret _ _ rfl rfl rfl]
  exact Steps.refl _
/-- what holds at the law's entry: the machine, the code, the tables' words (any of lw_tbl by 'hts w (by decide +kernel)'), the script of L ints xs at the cell b, what the Statement gives of the start (any of its parts by flat_of_before) -/
def lw_At (p : Program) (s : State) (m : MethodId) (meth : Method) (c : Code) (b L : Nat) (xs : Nat → Int32) : Prop :=
  p.tables.exec = Jvm.exec ∧ c.code = code ∧ meth.sig.returnType = ret ∧ c.maxLocals = 4 ∧ s.vm.findClass R_law = some m.cls ∧ (∀ w ∈ lw_tbl, w.before #[Value.ref b] s = true) ∧ va_X b L xs s s.heap ∧ b < s.heap.size ∧ meth.locks = false ∧ (Jvm.Cond.and given_1 narrow_1).before #[Value.ref b] s = true

set_option maxHeartbeats 4000000 in
set_option maxRecDepth 100000 in
theorem lc_0 {p : Program} {l : Launch} {e : Env} {s : State} {m : MethodId} {below : List Frame} {meth : Method} {c : Code} {b L : Nat} {xs : Nat → Int32} {G : gx_G} (hL : L ≤ 3072) (hb : c.code = code) (hr : meth.sig.returnType = ret) (hlocks : meth.locks = false) (Cc : gx_C p m c code 4 s #[Value.ref b] R_law (gz_G G s.heap.size 50)) (Cm : gx_C p m c code 4 s #[Value.ref b] R_law (gz_G G (s.heap.size + 50) 13)) (hX : va_X b L xs s s.heap) (hbl : b < s.heap.size) {i : Nat} (hi : i + 6 ≤ L) {σ τ : gx_St} (hR : zz_R σ τ) {H : Heap} {locs : List Loc} (hG : gz_L G s σ τ H locs) {ls : Array Slot} (hl : lv_has ls 4 [(0, .ref b), (1, .ref s.heap.size), (2, .ref (s.heap.size + 50)), (3, .int (nI i))]) (kk : ∀ (σ τ : gx_St), zz_R σ τ → ∀ (H : Heap) (locs : List Loc), gz_L G s σ τ H locs → W p l e room_1 s m #[Value.ref b] below meth c H locs 63 799 (lw_Z below #[Value.ref b] s) (F0 m 904 ls [])) : W p l e room_1 s m #[Value.ref b] below meth c H locs 63 799 (lw_Z below #[Value.ref b] s) (F0 m 160 ls []) := by
  have hx := Cc.1.1
  obtain ⟨r, c', m', f1, f2, hR⟩ := zz_effect hR (xs (i + 1)) (xs (i + 2)) (xs (i + 3)) (xs (i + 4)) (xs (i + 5))
  refine lv_aload_n hx hb dL_law_160 rfl (lv_at hl 1 rfl) ?_
  refine lv_aload_n hx hb dL_law_161 rfl (lv_at hl 0 rfl) ?_
  refine lv_iload_n hx hb dL_law_162 rfl (lv_at hl 3 rfl) ?_
  refine lv_iconst (v := (1 : Int32)) hx hb dL_law_163 (by decide) ?_
  refine lv_iadd hx hb dL_law_164 ?_
  refine gz_sld hx hb hX hbl hG (i + 1) (nI_add i 1) (by omega) (by omega) dL_law_165 ?_
  refine lv_aload_n hx hb dL_law_166 rfl (lv_at hl 0 rfl) ?_
  refine lv_iload_n hx hb dL_law_167 rfl (lv_at hl 3 rfl) ?_
  refine lv_iconst (v := (2 : Int32)) hx hb dL_law_168 (by decide) ?_
  refine lv_iadd hx hb dL_law_169 ?_
  refine gz_sld hx hb hX hbl hG (i + 2) (nI_add i 2) (by omega) (by omega) dL_law_170 ?_
  refine lv_aload_n hx hb dL_law_171 rfl (lv_at hl 0 rfl) ?_
  refine lv_iload_n hx hb dL_law_172 rfl (lv_at hl 3 rfl) ?_
  refine lv_iconst (v := (3 : Int32)) hx hb dL_law_173 (by decide) ?_
  refine lv_iadd hx hb dL_law_174 ?_
  refine gz_sld hx hb hX hbl hG (i + 3) (nI_add i 3) (by omega) (by omega) dL_law_175 ?_
  refine lv_aload_n hx hb dL_law_176 rfl (lv_at hl 0 rfl) ?_
  refine lv_iload_n hx hb dL_law_177 rfl (lv_at hl 3 rfl) ?_
  refine lv_iconst (v := (4 : Int32)) hx hb dL_law_178 (by decide) ?_
  refine lv_iadd hx hb dL_law_179 ?_
  refine gz_sld hx hb hX hbl hG (i + 4) (nI_add i 4) (by omega) (by omega) dL_law_180 ?_
  refine lv_aload_n hx hb dL_law_181 rfl (lv_at hl 0 rfl) ?_
  refine lv_iload_n hx hb dL_law_182 rfl (lv_at hl 3 rfl) ?_
  refine lv_iconst (v := (5 : Int32)) hx hb dL_law_183 (by decide) ?_
  refine lv_iadd hx hb dL_law_184 ?_
  refine gz_sld hx hb hX hbl hG (i + 5) (nI_add i 5) (by omega) (by omega) dL_law_185 ?_
  refine gz_cM (rest := []) Cc hG rfl [.int (xs (i + 1)), .int (xs (i + 2)), .int (xs (i + 3)), .int (xs (i + 4)), .int (xs (i + 5))] (t_X3_effect l (gz_G G s.heap.size 50) (gz_D G s.heap.size 50) σ (xs (i + 1)) (xs (i + 2)) (xs (i + 3)) (xs (i + 4)) (xs (i + 5)) r c' f1) lk_L_13 ⟨rfl, rfl, Nat.le_of_ble_eq_true rfl, Nat.le_of_ble_eq_true rfl⟩ ⟨Nat.le_of_ble_eq_true rfl, Nat.le_of_ble_eq_true rfl⟩ hl.1 rfl (Nat.le_of_ble_eq_true rfl) dL_law_186 (fun H locs hG => ?_)
  refine lv_aload_n hx hb dL_law_189 rfl (lv_at hl 2 rfl) ?_
  refine lv_aload_n hx hb dL_law_190 rfl (lv_at hl 0 rfl) ?_
  refine lv_iload_n hx hb dL_law_191 rfl (lv_at hl 3 rfl) ?_
  refine lv_iconst (v := (1 : Int32)) hx hb dL_law_192 (by decide) ?_
  refine lv_iadd hx hb dL_law_193 ?_
  refine gz_sld hx hb hX hbl hG (i + 1) (nI_add i 1) (by omega) (by omega) dL_law_194 ?_
  refine lv_aload_n hx hb dL_law_195 rfl (lv_at hl 0 rfl) ?_
  refine lv_iload_n hx hb dL_law_196 rfl (lv_at hl 3 rfl) ?_
  refine lv_iconst (v := (2 : Int32)) hx hb dL_law_197 (by decide) ?_
  refine lv_iadd hx hb dL_law_198 ?_
  refine gz_sld hx hb hX hbl hG (i + 2) (nI_add i 2) (by omega) (by omega) dL_law_199 ?_
  refine lv_aload_n hx hb dL_law_200 rfl (lv_at hl 0 rfl) ?_
  refine lv_iload_n hx hb dL_law_201 rfl (lv_at hl 3 rfl) ?_
  refine lv_iconst (v := (3 : Int32)) hx hb dL_law_202 (by decide) ?_
  refine lv_iadd hx hb dL_law_203 ?_
  refine gz_sld hx hb hX hbl hG (i + 3) (nI_add i 3) (by omega) (by omega) dL_law_204 ?_
  refine lv_aload_n hx hb dL_law_205 rfl (lv_at hl 0 rfl) ?_
  refine lv_iload_n hx hb dL_law_206 rfl (lv_at hl 3 rfl) ?_
  refine lv_iconst (v := (4 : Int32)) hx hb dL_law_207 (by decide) ?_
  refine lv_iadd hx hb dL_law_208 ?_
  refine gz_sld hx hb hX hbl hG (i + 4) (nI_add i 4) (by omega) (by omega) dL_law_209 ?_
  refine lv_aload_n hx hb dL_law_210 rfl (lv_at hl 0 rfl) ?_
  refine lv_iload_n hx hb dL_law_211 rfl (lv_at hl 3 rfl) ?_
  refine lv_iconst (v := (5 : Int32)) hx hb dL_law_212 (by decide) ?_
  refine lv_iadd hx hb dL_law_213 ?_
  refine gz_sld hx hb hX hbl hG (i + 5) (nI_add i 5) (by omega) (by omega) dL_law_214 ?_
  refine gz_mM (rest := [.int r]) Cm hG rfl [.int (xs (i + 1)), .int (xs (i + 2)), .int (xs (i + 3)), .int (xs (i + 4)), .int (xs (i + 5))] (t_X4_effect l (gz_G G (s.heap.size + 50) 13) (gz_D G (s.heap.size + 50) 13) τ (xs (i + 1)) (xs (i + 2)) (xs (i + 3)) (xs (i + 4)) (xs (i + 5)) r m' f2) lk_L_17 ⟨rfl, rfl, Nat.le_of_ble_eq_true rfl, Nat.le_of_ble_eq_true rfl⟩ ⟨Nat.le_of_ble_eq_true rfl, Nat.le_of_ble_eq_true rfl⟩ hl.1 rfl (Nat.le_of_ble_eq_true rfl) dL_law_215 (fun H locs hG => ?_)
  refine lv_icmp_eq (tgt := 904) hx hb dL_law_218 (by decide) (fun _ => ?_) (fun hc => absurd rfl hc)
  exact kk c' m' hR _ _ hG
set_option maxHeartbeats 4000000 in
set_option maxRecDepth 100000 in
theorem lc_1 {p : Program} {l : Launch} {e : Env} {s : State} {m : MethodId} {below : List Frame} {meth : Method} {c : Code} {b L : Nat} {xs : Nat → Int32} {G : gx_G} (hL : L ≤ 3072) (hb : c.code = code) (hr : meth.sig.returnType = ret) (hlocks : meth.locks = false) (Cc : gx_C p m c code 4 s #[Value.ref b] R_law (gz_G G s.heap.size 50)) (Cm : gx_C p m c code 4 s #[Value.ref b] R_law (gz_G G (s.heap.size + 50) 13)) (hX : va_X b L xs s s.heap) (hbl : b < s.heap.size) {i : Nat} (hi : i + 6 ≤ L) {σ τ : gx_St} (hR : zz_R σ τ) {H : Heap} {locs : List Loc} (hG : gz_L G s σ τ H locs) {ls : Array Slot} (hl : lv_has ls 4 [(0, .ref b), (1, .ref s.heap.size), (2, .ref (s.heap.size + 50)), (3, .int (nI i))]) (kk : ∀ (σ τ : gx_St), zz_R σ τ → ∀ (H : Heap) (locs : List Loc), gz_L G s σ τ H locs → W p l e room_1 s m #[Value.ref b] below meth c H locs 63 799 (lw_Z below #[Value.ref b] s) (F0 m 904 ls [])) : W p l e room_1 s m #[Value.ref b] below meth c H locs 63 799 (lw_Z below #[Value.ref b] s) (F0 m 223 ls []) := by
  have hx := Cc.1.1
  obtain ⟨r, c', m', f1, f2, hR⟩ := zz_set hR (xs (i + 1)) (xs (i + 2)) (xs (i + 3))
  refine lv_aload_n hx hb dL_law_223 rfl (lv_at hl 1 rfl) ?_
  refine lv_aload_n hx hb dL_law_224 rfl (lv_at hl 0 rfl) ?_
  refine lv_iload_n hx hb dL_law_225 rfl (lv_at hl 3 rfl) ?_
  refine lv_iconst (v := (1 : Int32)) hx hb dL_law_226 (by decide) ?_
  refine lv_iadd hx hb dL_law_227 ?_
  refine gz_sld hx hb hX hbl hG (i + 1) (nI_add i 1) (by omega) (by omega) dL_law_228 ?_
  refine lv_aload_n hx hb dL_law_229 rfl (lv_at hl 0 rfl) ?_
  refine lv_iload_n hx hb dL_law_230 rfl (lv_at hl 3 rfl) ?_
  refine lv_iconst (v := (2 : Int32)) hx hb dL_law_231 (by decide) ?_
  refine lv_iadd hx hb dL_law_232 ?_
  refine gz_sld hx hb hX hbl hG (i + 2) (nI_add i 2) (by omega) (by omega) dL_law_233 ?_
  refine lv_aload_n hx hb dL_law_234 rfl (lv_at hl 0 rfl) ?_
  refine lv_iload_n hx hb dL_law_235 rfl (lv_at hl 3 rfl) ?_
  refine lv_iconst (v := (3 : Int32)) hx hb dL_law_236 (by decide) ?_
  refine lv_iadd hx hb dL_law_237 ?_
  refine gz_sld hx hb hX hbl hG (i + 3) (nI_add i 3) (by omega) (by omega) dL_law_238 ?_
  refine gz_cM (rest := []) Cc hG rfl [.int (xs (i + 1)), .int (xs (i + 2)), .int (xs (i + 3))] (t_X3_set l (gz_G G s.heap.size 50) (gz_D G s.heap.size 50) σ (xs (i + 1)) (xs (i + 2)) (xs (i + 3)) r c' f1) lk_L_18 ⟨rfl, rfl, Nat.le_of_ble_eq_true rfl, Nat.le_of_ble_eq_true rfl⟩ ⟨Nat.le_of_ble_eq_true rfl, Nat.le_of_ble_eq_true rfl⟩ hl.1 rfl (Nat.le_of_ble_eq_true rfl) dL_law_239 (fun H locs hG => ?_)
  refine lv_aload_n hx hb dL_law_242 rfl (lv_at hl 2 rfl) ?_
  refine lv_aload_n hx hb dL_law_243 rfl (lv_at hl 0 rfl) ?_
  refine lv_iload_n hx hb dL_law_244 rfl (lv_at hl 3 rfl) ?_
  refine lv_iconst (v := (1 : Int32)) hx hb dL_law_245 (by decide) ?_
  refine lv_iadd hx hb dL_law_246 ?_
  refine gz_sld hx hb hX hbl hG (i + 1) (nI_add i 1) (by omega) (by omega) dL_law_247 ?_
  refine lv_aload_n hx hb dL_law_248 rfl (lv_at hl 0 rfl) ?_
  refine lv_iload_n hx hb dL_law_249 rfl (lv_at hl 3 rfl) ?_
  refine lv_iconst (v := (2 : Int32)) hx hb dL_law_250 (by decide) ?_
  refine lv_iadd hx hb dL_law_251 ?_
  refine gz_sld hx hb hX hbl hG (i + 2) (nI_add i 2) (by omega) (by omega) dL_law_252 ?_
  refine lv_aload_n hx hb dL_law_253 rfl (lv_at hl 0 rfl) ?_
  refine lv_iload_n hx hb dL_law_254 rfl (lv_at hl 3 rfl) ?_
  refine lv_iconst (v := (3 : Int32)) hx hb dL_law_255 (by decide) ?_
  refine lv_iadd hx hb dL_law_256 ?_
  refine gz_sld hx hb hX hbl hG (i + 3) (nI_add i 3) (by omega) (by omega) dL_law_257 ?_
  refine gz_mM (rest := [.int r]) Cm hG rfl [.int (xs (i + 1)), .int (xs (i + 2)), .int (xs (i + 3))] (t_X4_set l (gz_G G (s.heap.size + 50) 13) (gz_D G (s.heap.size + 50) 13) τ (xs (i + 1)) (xs (i + 2)) (xs (i + 3)) r m' f2) lk_L_22 ⟨rfl, rfl, Nat.le_of_ble_eq_true rfl, Nat.le_of_ble_eq_true rfl⟩ ⟨Nat.le_of_ble_eq_true rfl, Nat.le_of_ble_eq_true rfl⟩ hl.1 rfl (Nat.le_of_ble_eq_true rfl) dL_law_258 (fun H locs hG => ?_)
  refine lv_icmp_eq (tgt := 904) hx hb dL_law_261 (by decide) (fun _ => ?_) (fun hc => absurd rfl hc)
  exact kk c' m' hR _ _ hG
set_option maxHeartbeats 4000000 in
set_option maxRecDepth 100000 in
theorem lc_2 {p : Program} {l : Launch} {e : Env} {s : State} {m : MethodId} {below : List Frame} {meth : Method} {c : Code} {b L : Nat} {xs : Nat → Int32} {G : gx_G} (hL : L ≤ 3072) (hb : c.code = code) (hr : meth.sig.returnType = ret) (hlocks : meth.locks = false) (Cc : gx_C p m c code 4 s #[Value.ref b] R_law (gz_G G s.heap.size 50)) (Cm : gx_C p m c code 4 s #[Value.ref b] R_law (gz_G G (s.heap.size + 50) 13)) (hX : va_X b L xs s s.heap) (hbl : b < s.heap.size) {i : Nat} (hi : i + 6 ≤ L) {σ τ : gx_St} (hR : zz_R σ τ) {H : Heap} {locs : List Loc} (hG : gz_L G s σ τ H locs) {ls : Array Slot} (hl : lv_has ls 4 [(0, .ref b), (1, .ref s.heap.size), (2, .ref (s.heap.size + 50)), (3, .int (nI i))]) (kk : ∀ (σ τ : gx_St), zz_R σ τ → ∀ (H : Heap) (locs : List Loc), gz_L G s σ τ H locs → W p l e room_1 s m #[Value.ref b] below meth c H locs 63 799 (lw_Z below #[Value.ref b] s) (F0 m 904 ls [])) : W p l e room_1 s m #[Value.ref b] below meth c H locs 63 799 (lw_Z below #[Value.ref b] s) (F0 m 266 ls []) := by
  have hx := Cc.1.1
  obtain ⟨r, c', m', f1, f2, hR⟩ := zz_drop hR
  refine lv_aload_n hx hb dL_law_266 rfl (lv_at hl 1 rfl) ?_
  refine gz_cM (rest := []) Cc hG rfl [] (t_X3_drop l (gz_G G s.heap.size 50) (gz_D G s.heap.size 50) σ r c' f1) lk_L_23 ⟨rfl, rfl, Nat.le_of_ble_eq_true rfl, Nat.le_of_ble_eq_true rfl⟩ ⟨Nat.le_of_ble_eq_true rfl, Nat.le_of_ble_eq_true rfl⟩ hl.1 rfl (Nat.le_of_ble_eq_true rfl) dL_law_267 (fun H locs hG => ?_)
  refine lv_aload_n hx hb dL_law_270 rfl (lv_at hl 2 rfl) ?_
  refine gz_mM (rest := [.int r]) Cm hG rfl [] (t_X4_drop l (gz_G G (s.heap.size + 50) 13) (gz_D G (s.heap.size + 50) 13) τ r m' f2) lk_L_27 ⟨rfl, rfl, Nat.le_of_ble_eq_true rfl, Nat.le_of_ble_eq_true rfl⟩ ⟨Nat.le_of_ble_eq_true rfl, Nat.le_of_ble_eq_true rfl⟩ hl.1 rfl (Nat.le_of_ble_eq_true rfl) dL_law_271 (fun H locs hG => ?_)
  refine lv_icmp_eq (tgt := 904) hx hb dL_law_274 (by decide) (fun _ => ?_) (fun hc => absurd rfl hc)
  exact kk c' m' hR _ _ hG
set_option maxHeartbeats 4000000 in
set_option maxRecDepth 100000 in
theorem lc_3 {p : Program} {l : Launch} {e : Env} {s : State} {m : MethodId} {below : List Frame} {meth : Method} {c : Code} {b L : Nat} {xs : Nat → Int32} {G : gx_G} (hL : L ≤ 3072) (hb : c.code = code) (hr : meth.sig.returnType = ret) (hlocks : meth.locks = false) (Cc : gx_C p m c code 4 s #[Value.ref b] R_law (gz_G G s.heap.size 50)) (Cm : gx_C p m c code 4 s #[Value.ref b] R_law (gz_G G (s.heap.size + 50) 13)) (hX : va_X b L xs s s.heap) (hbl : b < s.heap.size) {i : Nat} (hi : i + 6 ≤ L) {σ τ : gx_St} (hR : zz_R σ τ) {H : Heap} {locs : List Loc} (hG : gz_L G s σ τ H locs) {ls : Array Slot} (hl : lv_has ls 4 [(0, .ref b), (1, .ref s.heap.size), (2, .ref (s.heap.size + 50)), (3, .int (nI i))]) (kk : ∀ (σ τ : gx_St), zz_R σ τ → ∀ (H : Heap) (locs : List Loc), gz_L G s σ τ H locs → W p l e room_1 s m #[Value.ref b] below meth c H locs 63 799 (lw_Z below #[Value.ref b] s) (F0 m 904 ls [])) : W p l e room_1 s m #[Value.ref b] below meth c H locs 63 799 (lw_Z below #[Value.ref b] s) (F0 m 279 ls []) := by
  have hx := Cc.1.1
  obtain ⟨r, c', m', f1, f2, hR⟩ := zz_hand hR (xs (i + 1)) (xs (i + 2))
  refine lv_aload_n hx hb dL_law_279 rfl (lv_at hl 1 rfl) ?_
  refine lv_aload_n hx hb dL_law_280 rfl (lv_at hl 0 rfl) ?_
  refine lv_iload_n hx hb dL_law_281 rfl (lv_at hl 3 rfl) ?_
  refine lv_iconst (v := (1 : Int32)) hx hb dL_law_282 (by decide) ?_
  refine lv_iadd hx hb dL_law_283 ?_
  refine gz_sld hx hb hX hbl hG (i + 1) (nI_add i 1) (by omega) (by omega) dL_law_284 ?_
  refine lv_aload_n hx hb dL_law_285 rfl (lv_at hl 0 rfl) ?_
  refine lv_iload_n hx hb dL_law_286 rfl (lv_at hl 3 rfl) ?_
  refine lv_iconst (v := (2 : Int32)) hx hb dL_law_287 (by decide) ?_
  refine lv_iadd hx hb dL_law_288 ?_
  refine gz_sld hx hb hX hbl hG (i + 2) (nI_add i 2) (by omega) (by omega) dL_law_289 ?_
  refine gz_cM (rest := []) Cc hG rfl [.int (xs (i + 1)), .int (xs (i + 2))] (t_X3_hand l (gz_G G s.heap.size 50) (gz_D G s.heap.size 50) σ (xs (i + 1)) (xs (i + 2)) r c' f1) lk_L_28 ⟨rfl, rfl, Nat.le_of_ble_eq_true rfl, Nat.le_of_ble_eq_true rfl⟩ ⟨Nat.le_of_ble_eq_true rfl, Nat.le_of_ble_eq_true rfl⟩ hl.1 rfl (Nat.le_of_ble_eq_true rfl) dL_law_290 (fun H locs hG => ?_)
  refine lv_aload_n hx hb dL_law_293 rfl (lv_at hl 2 rfl) ?_
  refine lv_aload_n hx hb dL_law_294 rfl (lv_at hl 0 rfl) ?_
  refine lv_iload_n hx hb dL_law_295 rfl (lv_at hl 3 rfl) ?_
  refine lv_iconst (v := (1 : Int32)) hx hb dL_law_296 (by decide) ?_
  refine lv_iadd hx hb dL_law_297 ?_
  refine gz_sld hx hb hX hbl hG (i + 1) (nI_add i 1) (by omega) (by omega) dL_law_298 ?_
  refine lv_aload_n hx hb dL_law_299 rfl (lv_at hl 0 rfl) ?_
  refine lv_iload_n hx hb dL_law_300 rfl (lv_at hl 3 rfl) ?_
  refine lv_iconst (v := (2 : Int32)) hx hb dL_law_301 (by decide) ?_
  refine lv_iadd hx hb dL_law_302 ?_
  refine gz_sld hx hb hX hbl hG (i + 2) (nI_add i 2) (by omega) (by omega) dL_law_303 ?_
  refine gz_mM (rest := [.int r]) Cm hG rfl [.int (xs (i + 1)), .int (xs (i + 2))] (t_X4_hand l (gz_G G (s.heap.size + 50) 13) (gz_D G (s.heap.size + 50) 13) τ (xs (i + 1)) (xs (i + 2)) r m' f2) lk_L_32 ⟨rfl, rfl, Nat.le_of_ble_eq_true rfl, Nat.le_of_ble_eq_true rfl⟩ ⟨Nat.le_of_ble_eq_true rfl, Nat.le_of_ble_eq_true rfl⟩ hl.1 rfl (Nat.le_of_ble_eq_true rfl) dL_law_304 (fun H locs hG => ?_)
  refine lv_icmp_eq (tgt := 904) hx hb dL_law_307 (by decide) (fun _ => ?_) (fun hc => absurd rfl hc)
  exact kk c' m' hR _ _ hG
set_option maxHeartbeats 4000000 in
set_option maxRecDepth 100000 in
theorem lc_4 {p : Program} {l : Launch} {e : Env} {s : State} {m : MethodId} {below : List Frame} {meth : Method} {c : Code} {b L : Nat} {xs : Nat → Int32} {G : gx_G} (hL : L ≤ 3072) (hb : c.code = code) (hr : meth.sig.returnType = ret) (hlocks : meth.locks = false) (Cc : gx_C p m c code 4 s #[Value.ref b] R_law (gz_G G s.heap.size 50)) (Cm : gx_C p m c code 4 s #[Value.ref b] R_law (gz_G G (s.heap.size + 50) 13)) (hX : va_X b L xs s s.heap) (hbl : b < s.heap.size) {i : Nat} (hi : i + 6 ≤ L) {σ τ : gx_St} (hR : zz_R σ τ) {H : Heap} {locs : List Loc} (hG : gz_L G s σ τ H locs) {ls : Array Slot} (hl : lv_has ls 4 [(0, .ref b), (1, .ref s.heap.size), (2, .ref (s.heap.size + 50)), (3, .int (nI i))]) (kk : ∀ (σ τ : gx_St), zz_R σ τ → ∀ (H : Heap) (locs : List Loc), gz_L G s σ τ H locs → W p l e room_1 s m #[Value.ref b] below meth c H locs 63 799 (lw_Z below #[Value.ref b] s) (F0 m 904 ls [])) : W p l e room_1 s m #[Value.ref b] below meth c H locs 63 799 (lw_Z below #[Value.ref b] s) (F0 m 312 ls []) := by
  have hx := Cc.1.1
  obtain ⟨r, f1, f2⟩ := zz_ofAxis hR (xs (i + 1)) (xs (i + 2))
  refine lv_aload_n hx hb dL_law_312 rfl (lv_at hl 1 rfl) ?_
  refine lv_aload_n hx hb dL_law_313 rfl (lv_at hl 0 rfl) ?_
  refine lv_iload_n hx hb dL_law_314 rfl (lv_at hl 3 rfl) ?_
  refine lv_iconst (v := (1 : Int32)) hx hb dL_law_315 (by decide) ?_
  refine lv_iadd hx hb dL_law_316 ?_
  refine gz_sld hx hb hX hbl hG (i + 1) (nI_add i 1) (by omega) (by omega) dL_law_317 ?_
  refine lv_aload_n hx hb dL_law_318 rfl (lv_at hl 0 rfl) ?_
  refine lv_iload_n hx hb dL_law_319 rfl (lv_at hl 3 rfl) ?_
  refine lv_iconst (v := (2 : Int32)) hx hb dL_law_320 (by decide) ?_
  refine lv_iadd hx hb dL_law_321 ?_
  refine gz_sld hx hb hX hbl hG (i + 2) (nI_add i 2) (by omega) (by omega) dL_law_322 ?_
  refine gz_cR (rest := []) Cc hG rfl [.int (xs (i + 1)), .int (xs (i + 2))] (t_X3_ofAxis l (gz_G G s.heap.size 50) σ (xs (i + 1)) (xs (i + 2)) r f1) lk_L_33 ⟨rfl, rfl, Nat.le_of_ble_eq_true rfl, Nat.le_of_ble_eq_true rfl⟩ ⟨Nat.le_of_ble_eq_true rfl, Nat.le_of_ble_eq_true rfl⟩ hl.1 rfl (Nat.le_of_ble_eq_true rfl) dL_law_323 ?_
  refine lv_aload_n hx hb dL_law_326 rfl (lv_at hl 2 rfl) ?_
  refine lv_aload_n hx hb dL_law_327 rfl (lv_at hl 0 rfl) ?_
  refine lv_iload_n hx hb dL_law_328 rfl (lv_at hl 3 rfl) ?_
  refine lv_iconst (v := (1 : Int32)) hx hb dL_law_329 (by decide) ?_
  refine lv_iadd hx hb dL_law_330 ?_
  refine gz_sld hx hb hX hbl hG (i + 1) (nI_add i 1) (by omega) (by omega) dL_law_331 ?_
  refine lv_aload_n hx hb dL_law_332 rfl (lv_at hl 0 rfl) ?_
  refine lv_iload_n hx hb dL_law_333 rfl (lv_at hl 3 rfl) ?_
  refine lv_iconst (v := (2 : Int32)) hx hb dL_law_334 (by decide) ?_
  refine lv_iadd hx hb dL_law_335 ?_
  refine gz_sld hx hb hX hbl hG (i + 2) (nI_add i 2) (by omega) (by omega) dL_law_336 ?_
  refine gz_mR (rest := [.int r]) Cm hG rfl [.int (xs (i + 1)), .int (xs (i + 2))] (t_X4_ofAxis l (gz_G G (s.heap.size + 50) 13) τ (xs (i + 1)) (xs (i + 2)) r f2) lk_L_36 ⟨rfl, rfl, Nat.le_of_ble_eq_true rfl, Nat.le_of_ble_eq_true rfl⟩ ⟨Nat.le_of_ble_eq_true rfl, Nat.le_of_ble_eq_true rfl⟩ hl.1 rfl (Nat.le_of_ble_eq_true rfl) dL_law_337 ?_
  refine lv_icmp_eq (tgt := 904) hx hb dL_law_340 (by decide) (fun _ => ?_) (fun hc => absurd rfl hc)
  exact kk σ τ hR _ _ hG
set_option maxHeartbeats 4000000 in
set_option maxRecDepth 100000 in
theorem lc_5 {p : Program} {l : Launch} {e : Env} {s : State} {m : MethodId} {below : List Frame} {meth : Method} {c : Code} {b L : Nat} {xs : Nat → Int32} {G : gx_G} (hL : L ≤ 3072) (hb : c.code = code) (hr : meth.sig.returnType = ret) (hlocks : meth.locks = false) (Cc : gx_C p m c code 4 s #[Value.ref b] R_law (gz_G G s.heap.size 50)) (Cm : gx_C p m c code 4 s #[Value.ref b] R_law (gz_G G (s.heap.size + 50) 13)) (hX : va_X b L xs s s.heap) (hbl : b < s.heap.size) {i : Nat} (hi : i + 6 ≤ L) {σ τ : gx_St} (hR : zz_R σ τ) {H : Heap} {locs : List Loc} (hG : gz_L G s σ τ H locs) {ls : Array Slot} (hl : lv_has ls 4 [(0, .ref b), (1, .ref s.heap.size), (2, .ref (s.heap.size + 50)), (3, .int (nI i))]) (kk : ∀ (σ τ : gx_St), zz_R σ τ → ∀ (H : Heap) (locs : List Loc), gz_L G s σ τ H locs → W p l e room_1 s m #[Value.ref b] below meth c H locs 63 799 (lw_Z below #[Value.ref b] s) (F0 m 904 ls [])) : W p l e room_1 s m #[Value.ref b] below meth c H locs 63 799 (lw_Z below #[Value.ref b] s) (F0 m 345 ls []) := by
  have hx := Cc.1.1
  obtain ⟨r, f1, f2⟩ := zz_ofEffect hR (xs (i + 1)) (xs (i + 2))
  refine lv_aload_n hx hb dL_law_345 rfl (lv_at hl 1 rfl) ?_
  refine lv_aload_n hx hb dL_law_346 rfl (lv_at hl 0 rfl) ?_
  refine lv_iload_n hx hb dL_law_347 rfl (lv_at hl 3 rfl) ?_
  refine lv_iconst (v := (1 : Int32)) hx hb dL_law_348 (by decide) ?_
  refine lv_iadd hx hb dL_law_349 ?_
  refine gz_sld hx hb hX hbl hG (i + 1) (nI_add i 1) (by omega) (by omega) dL_law_350 ?_
  refine lv_aload_n hx hb dL_law_351 rfl (lv_at hl 0 rfl) ?_
  refine lv_iload_n hx hb dL_law_352 rfl (lv_at hl 3 rfl) ?_
  refine lv_iconst (v := (2 : Int32)) hx hb dL_law_353 (by decide) ?_
  refine lv_iadd hx hb dL_law_354 ?_
  refine gz_sld hx hb hX hbl hG (i + 2) (nI_add i 2) (by omega) (by omega) dL_law_355 ?_
  refine gz_cR (rest := []) Cc hG rfl [.int (xs (i + 1)), .int (xs (i + 2))] (t_X3_ofEffect l (gz_G G s.heap.size 50) σ (xs (i + 1)) (xs (i + 2)) r f1) lk_L_37 ⟨rfl, rfl, Nat.le_of_ble_eq_true rfl, Nat.le_of_ble_eq_true rfl⟩ ⟨Nat.le_of_ble_eq_true rfl, Nat.le_of_ble_eq_true rfl⟩ hl.1 rfl (Nat.le_of_ble_eq_true rfl) dL_law_356 ?_
  refine lv_aload_n hx hb dL_law_359 rfl (lv_at hl 2 rfl) ?_
  refine lv_aload_n hx hb dL_law_360 rfl (lv_at hl 0 rfl) ?_
  refine lv_iload_n hx hb dL_law_361 rfl (lv_at hl 3 rfl) ?_
  refine lv_iconst (v := (1 : Int32)) hx hb dL_law_362 (by decide) ?_
  refine lv_iadd hx hb dL_law_363 ?_
  refine gz_sld hx hb hX hbl hG (i + 1) (nI_add i 1) (by omega) (by omega) dL_law_364 ?_
  refine lv_aload_n hx hb dL_law_365 rfl (lv_at hl 0 rfl) ?_
  refine lv_iload_n hx hb dL_law_366 rfl (lv_at hl 3 rfl) ?_
  refine lv_iconst (v := (2 : Int32)) hx hb dL_law_367 (by decide) ?_
  refine lv_iadd hx hb dL_law_368 ?_
  refine gz_sld hx hb hX hbl hG (i + 2) (nI_add i 2) (by omega) (by omega) dL_law_369 ?_
  refine gz_mR (rest := [.int r]) Cm hG rfl [.int (xs (i + 1)), .int (xs (i + 2))] (t_X4_ofEffect l (gz_G G (s.heap.size + 50) 13) τ (xs (i + 1)) (xs (i + 2)) r f2) lk_L_40 ⟨rfl, rfl, Nat.le_of_ble_eq_true rfl, Nat.le_of_ble_eq_true rfl⟩ ⟨Nat.le_of_ble_eq_true rfl, Nat.le_of_ble_eq_true rfl⟩ hl.1 rfl (Nat.le_of_ble_eq_true rfl) dL_law_370 ?_
  refine lv_icmp_eq (tgt := 904) hx hb dL_law_373 (by decide) (fun _ => ?_) (fun hc => absurd rfl hc)
  exact kk σ τ hR _ _ hG
set_option maxHeartbeats 4000000 in
set_option maxRecDepth 100000 in
theorem lc_6 {p : Program} {l : Launch} {e : Env} {s : State} {m : MethodId} {below : List Frame} {meth : Method} {c : Code} {b L : Nat} {xs : Nat → Int32} {G : gx_G} (hL : L ≤ 3072) (hb : c.code = code) (hr : meth.sig.returnType = ret) (hlocks : meth.locks = false) (Cc : gx_C p m c code 4 s #[Value.ref b] R_law (gz_G G s.heap.size 50)) (Cm : gx_C p m c code 4 s #[Value.ref b] R_law (gz_G G (s.heap.size + 50) 13)) (hX : va_X b L xs s s.heap) (hbl : b < s.heap.size) {i : Nat} (hi : i + 6 ≤ L) {σ τ : gx_St} (hR : zz_R σ τ) {H : Heap} {locs : List Loc} (hG : gz_L G s σ τ H locs) {ls : Array Slot} (hl : lv_has ls 4 [(0, .ref b), (1, .ref s.heap.size), (2, .ref (s.heap.size + 50)), (3, .int (nI i))]) (kk : ∀ (σ τ : gx_St), zz_R σ τ → ∀ (H : Heap) (locs : List Loc), gz_L G s σ τ H locs → W p l e room_1 s m #[Value.ref b] below meth c H locs 63 799 (lw_Z below #[Value.ref b] s) (F0 m 904 ls [])) : W p l e room_1 s m #[Value.ref b] below meth c H locs 63 799 (lw_Z below #[Value.ref b] s) (F0 m 378 ls []) := by
  have hx := Cc.1.1
  obtain ⟨r, c', m', f1, f2, hR⟩ := zz_slots hR (xs (i + 1))
  refine lv_aload_n hx hb dL_law_378 rfl (lv_at hl 1 rfl) ?_
  refine lv_aload_n hx hb dL_law_379 rfl (lv_at hl 0 rfl) ?_
  refine lv_iload_n hx hb dL_law_380 rfl (lv_at hl 3 rfl) ?_
  refine lv_iconst (v := (1 : Int32)) hx hb dL_law_381 (by decide) ?_
  refine lv_iadd hx hb dL_law_382 ?_
  refine gz_sld hx hb hX hbl hG (i + 1) (nI_add i 1) (by omega) (by omega) dL_law_383 ?_
  refine gz_cM (rest := []) Cc hG rfl [.int (xs (i + 1))] (t_X3_slots l (gz_G G s.heap.size 50) (gz_D G s.heap.size 50) σ (xs (i + 1)) r c' f1) lk_L_41 ⟨rfl, rfl, Nat.le_of_ble_eq_true rfl, Nat.le_of_ble_eq_true rfl⟩ ⟨Nat.le_of_ble_eq_true rfl, Nat.le_of_ble_eq_true rfl⟩ hl.1 rfl (Nat.le_of_ble_eq_true rfl) dL_law_384 (fun H locs hG => ?_)
  refine lv_aload_n hx hb dL_law_387 rfl (lv_at hl 2 rfl) ?_
  refine lv_aload_n hx hb dL_law_388 rfl (lv_at hl 0 rfl) ?_
  refine lv_iload_n hx hb dL_law_389 rfl (lv_at hl 3 rfl) ?_
  refine lv_iconst (v := (1 : Int32)) hx hb dL_law_390 (by decide) ?_
  refine lv_iadd hx hb dL_law_391 ?_
  refine gz_sld hx hb hX hbl hG (i + 1) (nI_add i 1) (by omega) (by omega) dL_law_392 ?_
  refine gz_mM (rest := [.int r]) Cm hG rfl [.int (xs (i + 1))] (t_X4_slots l (gz_G G (s.heap.size + 50) 13) (gz_D G (s.heap.size + 50) 13) τ (xs (i + 1)) r m' f2) lk_L_45 ⟨rfl, rfl, Nat.le_of_ble_eq_true rfl, Nat.le_of_ble_eq_true rfl⟩ ⟨Nat.le_of_ble_eq_true rfl, Nat.le_of_ble_eq_true rfl⟩ hl.1 rfl (Nat.le_of_ble_eq_true rfl) dL_law_393 (fun H locs hG => ?_)
  refine lv_icmp_eq (tgt := 904) hx hb dL_law_396 (by decide) (fun _ => ?_) (fun hc => absurd rfl hc)
  exact kk c' m' hR _ _ hG
set_option maxHeartbeats 4000000 in
set_option maxRecDepth 100000 in
theorem lc_7 {p : Program} {l : Launch} {e : Env} {s : State} {m : MethodId} {below : List Frame} {meth : Method} {c : Code} {b L : Nat} {xs : Nat → Int32} {G : gx_G} (hL : L ≤ 3072) (hb : c.code = code) (hr : meth.sig.returnType = ret) (hlocks : meth.locks = false) (Cc : gx_C p m c code 4 s #[Value.ref b] R_law (gz_G G s.heap.size 50)) (Cm : gx_C p m c code 4 s #[Value.ref b] R_law (gz_G G (s.heap.size + 50) 13)) (hX : va_X b L xs s s.heap) (hbl : b < s.heap.size) {i : Nat} (hi : i + 6 ≤ L) {σ τ : gx_St} (hR : zz_R σ τ) {H : Heap} {locs : List Loc} (hG : gz_L G s σ τ H locs) {ls : Array Slot} (hl : lv_has ls 4 [(0, .ref b), (1, .ref s.heap.size), (2, .ref (s.heap.size + 50)), (3, .int (nI i))]) (kk : ∀ (σ τ : gx_St), zz_R σ τ → ∀ (H : Heap) (locs : List Loc), gz_L G s σ τ H locs → W p l e room_1 s m #[Value.ref b] below meth c H locs 63 799 (lw_Z below #[Value.ref b] s) (F0 m 904 ls [])) : W p l e room_1 s m #[Value.ref b] below meth c H locs 63 799 (lw_Z below #[Value.ref b] s) (F0 m 401 ls []) := by
  have hx := Cc.1.1
  obtain ⟨r, f1, f2⟩ := zz_slot hR (xs (i + 1))
  refine lv_aload_n hx hb dL_law_401 rfl (lv_at hl 1 rfl) ?_
  refine lv_aload_n hx hb dL_law_402 rfl (lv_at hl 0 rfl) ?_
  refine lv_iload_n hx hb dL_law_403 rfl (lv_at hl 3 rfl) ?_
  refine lv_iconst (v := (1 : Int32)) hx hb dL_law_404 (by decide) ?_
  refine lv_iadd hx hb dL_law_405 ?_
  refine gz_sld hx hb hX hbl hG (i + 1) (nI_add i 1) (by omega) (by omega) dL_law_406 ?_
  refine gz_cR (rest := []) Cc hG rfl [.int (xs (i + 1))] (t_X3_slot l (gz_G G s.heap.size 50) σ (xs (i + 1)) r f1) lk_L_46 ⟨rfl, rfl, Nat.le_of_ble_eq_true rfl, Nat.le_of_ble_eq_true rfl⟩ ⟨Nat.le_of_ble_eq_true rfl, Nat.le_of_ble_eq_true rfl⟩ hl.1 rfl (Nat.le_of_ble_eq_true rfl) dL_law_407 ?_
  refine lv_aload_n hx hb dL_law_410 rfl (lv_at hl 2 rfl) ?_
  refine lv_aload_n hx hb dL_law_411 rfl (lv_at hl 0 rfl) ?_
  refine lv_iload_n hx hb dL_law_412 rfl (lv_at hl 3 rfl) ?_
  refine lv_iconst (v := (1 : Int32)) hx hb dL_law_413 (by decide) ?_
  refine lv_iadd hx hb dL_law_414 ?_
  refine gz_sld hx hb hX hbl hG (i + 1) (nI_add i 1) (by omega) (by omega) dL_law_415 ?_
  refine gz_mR (rest := [.int r]) Cm hG rfl [.int (xs (i + 1))] (t_X4_slot l (gz_G G (s.heap.size + 50) 13) τ (xs (i + 1)) r f2) lk_L_49 ⟨rfl, rfl, Nat.le_of_ble_eq_true rfl, Nat.le_of_ble_eq_true rfl⟩ ⟨Nat.le_of_ble_eq_true rfl, Nat.le_of_ble_eq_true rfl⟩ hl.1 rfl (Nat.le_of_ble_eq_true rfl) dL_law_416 ?_
  refine lv_icmp_eq (tgt := 904) hx hb dL_law_419 (by decide) (fun _ => ?_) (fun hc => absurd rfl hc)
  exact kk σ τ hR _ _ hG
set_option maxHeartbeats 4000000 in
set_option maxRecDepth 100000 in
theorem lc_8 {p : Program} {l : Launch} {e : Env} {s : State} {m : MethodId} {below : List Frame} {meth : Method} {c : Code} {b L : Nat} {xs : Nat → Int32} {G : gx_G} (hL : L ≤ 3072) (hb : c.code = code) (hr : meth.sig.returnType = ret) (hlocks : meth.locks = false) (Cc : gx_C p m c code 4 s #[Value.ref b] R_law (gz_G G s.heap.size 50)) (Cm : gx_C p m c code 4 s #[Value.ref b] R_law (gz_G G (s.heap.size + 50) 13)) (hX : va_X b L xs s s.heap) (hbl : b < s.heap.size) {i : Nat} (hi : i + 6 ≤ L) {σ τ : gx_St} (hR : zz_R σ τ) {H : Heap} {locs : List Loc} (hG : gz_L G s σ τ H locs) {ls : Array Slot} (hl : lv_has ls 4 [(0, .ref b), (1, .ref s.heap.size), (2, .ref (s.heap.size + 50)), (3, .int (nI i))]) (kk : ∀ (σ τ : gx_St), zz_R σ τ → ∀ (H : Heap) (locs : List Loc), gz_L G s σ τ H locs → W p l e room_1 s m #[Value.ref b] below meth c H locs 63 799 (lw_Z below #[Value.ref b] s) (F0 m 904 ls [])) : W p l e room_1 s m #[Value.ref b] below meth c H locs 63 799 (lw_Z below #[Value.ref b] s) (F0 m 424 ls []) := by
  have hx := Cc.1.1
  obtain ⟨r, c', m', f1, f2, hR⟩ := zz_load hR (xs (i + 1))
  refine lv_aload_n hx hb dL_law_424 rfl (lv_at hl 1 rfl) ?_
  refine lv_aload_n hx hb dL_law_425 rfl (lv_at hl 0 rfl) ?_
  refine lv_iload_n hx hb dL_law_426 rfl (lv_at hl 3 rfl) ?_
  refine lv_iconst (v := (1 : Int32)) hx hb dL_law_427 (by decide) ?_
  refine lv_iadd hx hb dL_law_428 ?_
  refine gz_sld hx hb hX hbl hG (i + 1) (nI_add i 1) (by omega) (by omega) dL_law_429 ?_
  refine gz_cM (rest := []) Cc hG rfl [.int (xs (i + 1))] (t_X3_load l (gz_G G s.heap.size 50) (gz_D G s.heap.size 50) σ (xs (i + 1)) r c' f1) lk_L_50 ⟨rfl, rfl, Nat.le_of_ble_eq_true rfl, Nat.le_of_ble_eq_true rfl⟩ ⟨Nat.le_of_ble_eq_true rfl, Nat.le_of_ble_eq_true rfl⟩ hl.1 rfl (Nat.le_of_ble_eq_true rfl) dL_law_430 (fun H locs hG => ?_)
  refine lv_aload_n hx hb dL_law_433 rfl (lv_at hl 2 rfl) ?_
  refine lv_aload_n hx hb dL_law_434 rfl (lv_at hl 0 rfl) ?_
  refine lv_iload_n hx hb dL_law_435 rfl (lv_at hl 3 rfl) ?_
  refine lv_iconst (v := (1 : Int32)) hx hb dL_law_436 (by decide) ?_
  refine lv_iadd hx hb dL_law_437 ?_
  refine gz_sld hx hb hX hbl hG (i + 1) (nI_add i 1) (by omega) (by omega) dL_law_438 ?_
  refine gz_mM (rest := [.int r]) Cm hG rfl [.int (xs (i + 1))] (t_X4_load l (gz_G G (s.heap.size + 50) 13) (gz_D G (s.heap.size + 50) 13) τ (xs (i + 1)) r m' f2) lk_L_53 ⟨rfl, rfl, Nat.le_of_ble_eq_true rfl, Nat.le_of_ble_eq_true rfl⟩ ⟨Nat.le_of_ble_eq_true rfl, Nat.le_of_ble_eq_true rfl⟩ hl.1 rfl (Nat.le_of_ble_eq_true rfl) dL_law_439 (fun H locs hG => ?_)
  refine lv_icmp_eq (tgt := 904) hx hb dL_law_442 (by decide) (fun _ => ?_) (fun hc => absurd rfl hc)
  exact kk c' m' hR _ _ hG
set_option maxHeartbeats 4000000 in
set_option maxRecDepth 100000 in
theorem lc_9 {p : Program} {l : Launch} {e : Env} {s : State} {m : MethodId} {below : List Frame} {meth : Method} {c : Code} {b L : Nat} {xs : Nat → Int32} {G : gx_G} (hL : L ≤ 3072) (hb : c.code = code) (hr : meth.sig.returnType = ret) (hlocks : meth.locks = false) (Cc : gx_C p m c code 4 s #[Value.ref b] R_law (gz_G G s.heap.size 50)) (Cm : gx_C p m c code 4 s #[Value.ref b] R_law (gz_G G (s.heap.size + 50) 13)) (hX : va_X b L xs s s.heap) (hbl : b < s.heap.size) {i : Nat} (hi : i + 6 ≤ L) {σ τ : gx_St} (hR : zz_R σ τ) {H : Heap} {locs : List Loc} (hG : gz_L G s σ τ H locs) {ls : Array Slot} (hl : lv_has ls 4 [(0, .ref b), (1, .ref s.heap.size), (2, .ref (s.heap.size + 50)), (3, .int (nI i))]) (kk : ∀ (σ τ : gx_St), zz_R σ τ → ∀ (H : Heap) (locs : List Loc), gz_L G s σ τ H locs → W p l e room_1 s m #[Value.ref b] below meth c H locs 63 799 (lw_Z below #[Value.ref b] s) (F0 m 904 ls [])) : W p l e room_1 s m #[Value.ref b] below meth c H locs 63 799 (lw_Z below #[Value.ref b] s) (F0 m 447 ls []) := by
  have hx := Cc.1.1
  obtain ⟨r, c', m', f1, f2, hR⟩ := zz_unload hR (xs (i + 1))
  refine lv_aload_n hx hb dL_law_447 rfl (lv_at hl 1 rfl) ?_
  refine lv_aload_n hx hb dL_law_448 rfl (lv_at hl 0 rfl) ?_
  refine lv_iload_n hx hb dL_law_449 rfl (lv_at hl 3 rfl) ?_
  refine lv_iconst (v := (1 : Int32)) hx hb dL_law_450 (by decide) ?_
  refine lv_iadd hx hb dL_law_451 ?_
  refine gz_sld hx hb hX hbl hG (i + 1) (nI_add i 1) (by omega) (by omega) dL_law_452 ?_
  refine gz_cM (rest := []) Cc hG rfl [.int (xs (i + 1))] (t_X3_unload l (gz_G G s.heap.size 50) (gz_D G s.heap.size 50) σ (xs (i + 1)) r c' f1) lk_L_54 ⟨rfl, rfl, Nat.le_of_ble_eq_true rfl, Nat.le_of_ble_eq_true rfl⟩ ⟨Nat.le_of_ble_eq_true rfl, Nat.le_of_ble_eq_true rfl⟩ hl.1 rfl (Nat.le_of_ble_eq_true rfl) dL_law_453 (fun H locs hG => ?_)
  refine lv_aload_n hx hb dL_law_456 rfl (lv_at hl 2 rfl) ?_
  refine lv_aload_n hx hb dL_law_457 rfl (lv_at hl 0 rfl) ?_
  refine lv_iload_n hx hb dL_law_458 rfl (lv_at hl 3 rfl) ?_
  refine lv_iconst (v := (1 : Int32)) hx hb dL_law_459 (by decide) ?_
  refine lv_iadd hx hb dL_law_460 ?_
  refine gz_sld hx hb hX hbl hG (i + 1) (nI_add i 1) (by omega) (by omega) dL_law_461 ?_
  refine gz_mM (rest := [.int r]) Cm hG rfl [.int (xs (i + 1))] (t_X4_unload l (gz_G G (s.heap.size + 50) 13) (gz_D G (s.heap.size + 50) 13) τ (xs (i + 1)) r m' f2) lk_L_57 ⟨rfl, rfl, Nat.le_of_ble_eq_true rfl, Nat.le_of_ble_eq_true rfl⟩ ⟨Nat.le_of_ble_eq_true rfl, Nat.le_of_ble_eq_true rfl⟩ hl.1 rfl (Nat.le_of_ble_eq_true rfl) dL_law_462 (fun H locs hG => ?_)
  refine lv_icmp_eq (tgt := 904) hx hb dL_law_465 (by decide) (fun _ => ?_) (fun hc => absurd rfl hc)
  exact kk c' m' hR _ _ hG
set_option maxHeartbeats 4000000 in
set_option maxRecDepth 100000 in
theorem lc_10 {p : Program} {l : Launch} {e : Env} {s : State} {m : MethodId} {below : List Frame} {meth : Method} {c : Code} {b L : Nat} {xs : Nat → Int32} {G : gx_G} (hL : L ≤ 3072) (hb : c.code = code) (hr : meth.sig.returnType = ret) (hlocks : meth.locks = false) (Cc : gx_C p m c code 4 s #[Value.ref b] R_law (gz_G G s.heap.size 50)) (Cm : gx_C p m c code 4 s #[Value.ref b] R_law (gz_G G (s.heap.size + 50) 13)) (hX : va_X b L xs s s.heap) (hbl : b < s.heap.size) {i : Nat} (hi : i + 6 ≤ L) {σ τ : gx_St} (hR : zz_R σ τ) {H : Heap} {locs : List Loc} (hG : gz_L G s σ τ H locs) {ls : Array Slot} (hl : lv_has ls 4 [(0, .ref b), (1, .ref s.heap.size), (2, .ref (s.heap.size + 50)), (3, .int (nI i))]) (kk : ∀ (σ τ : gx_St), zz_R σ τ → ∀ (H : Heap) (locs : List Loc), gz_L G s σ τ H locs → W p l e room_1 s m #[Value.ref b] below meth c H locs 63 799 (lw_Z below #[Value.ref b] s) (F0 m 904 ls [])) : W p l e room_1 s m #[Value.ref b] below meth c H locs 63 799 (lw_Z below #[Value.ref b] s) (F0 m 470 ls []) := by
  have hx := Cc.1.1
  obtain ⟨r, c', m', f1, f2, hR⟩ := zz_play hR (xs (i + 1))
  refine lv_aload_n hx hb dL_law_470 rfl (lv_at hl 1 rfl) ?_
  refine lv_aload_n hx hb dL_law_471 rfl (lv_at hl 0 rfl) ?_
  refine lv_iload_n hx hb dL_law_472 rfl (lv_at hl 3 rfl) ?_
  refine lv_iconst (v := (1 : Int32)) hx hb dL_law_473 (by decide) ?_
  refine lv_iadd hx hb dL_law_474 ?_
  refine gz_sld hx hb hX hbl hG (i + 1) (nI_add i 1) (by omega) (by omega) dL_law_475 ?_
  refine gz_cM (rest := []) Cc hG rfl [.int (xs (i + 1))] (t_X3_play l (gz_G G s.heap.size 50) (gz_D G s.heap.size 50) σ (xs (i + 1)) r c' f1) lk_L_58 ⟨rfl, rfl, Nat.le_of_ble_eq_true rfl, Nat.le_of_ble_eq_true rfl⟩ ⟨Nat.le_of_ble_eq_true rfl, Nat.le_of_ble_eq_true rfl⟩ hl.1 rfl (Nat.le_of_ble_eq_true rfl) dL_law_476 (fun H locs hG => ?_)
  refine lv_aload_n hx hb dL_law_479 rfl (lv_at hl 2 rfl) ?_
  refine lv_aload_n hx hb dL_law_480 rfl (lv_at hl 0 rfl) ?_
  refine lv_iload_n hx hb dL_law_481 rfl (lv_at hl 3 rfl) ?_
  refine lv_iconst (v := (1 : Int32)) hx hb dL_law_482 (by decide) ?_
  refine lv_iadd hx hb dL_law_483 ?_
  refine gz_sld hx hb hX hbl hG (i + 1) (nI_add i 1) (by omega) (by omega) dL_law_484 ?_
  refine gz_mM (rest := [.int r]) Cm hG rfl [.int (xs (i + 1))] (t_X4_play l (gz_G G (s.heap.size + 50) 13) (gz_D G (s.heap.size + 50) 13) τ (xs (i + 1)) r m' f2) lk_L_61 ⟨rfl, rfl, Nat.le_of_ble_eq_true rfl, Nat.le_of_ble_eq_true rfl⟩ ⟨Nat.le_of_ble_eq_true rfl, Nat.le_of_ble_eq_true rfl⟩ hl.1 rfl (Nat.le_of_ble_eq_true rfl) dL_law_485 (fun H locs hG => ?_)
  refine lv_icmp_eq (tgt := 904) hx hb dL_law_488 (by decide) (fun _ => ?_) (fun hc => absurd rfl hc)
  exact kk c' m' hR _ _ hG
set_option maxHeartbeats 4000000 in
set_option maxRecDepth 100000 in
theorem lc_11 {p : Program} {l : Launch} {e : Env} {s : State} {m : MethodId} {below : List Frame} {meth : Method} {c : Code} {b L : Nat} {xs : Nat → Int32} {G : gx_G} (hL : L ≤ 3072) (hb : c.code = code) (hr : meth.sig.returnType = ret) (hlocks : meth.locks = false) (Cc : gx_C p m c code 4 s #[Value.ref b] R_law (gz_G G s.heap.size 50)) (Cm : gx_C p m c code 4 s #[Value.ref b] R_law (gz_G G (s.heap.size + 50) 13)) (hX : va_X b L xs s s.heap) (hbl : b < s.heap.size) {i : Nat} (hi : i + 6 ≤ L) {σ τ : gx_St} (hR : zz_R σ τ) {H : Heap} {locs : List Loc} (hG : gz_L G s σ τ H locs) {ls : Array Slot} (hl : lv_has ls 4 [(0, .ref b), (1, .ref s.heap.size), (2, .ref (s.heap.size + 50)), (3, .int (nI i))]) (kk : ∀ (σ τ : gx_St), zz_R σ τ → ∀ (H : Heap) (locs : List Loc), gz_L G s σ τ H locs → W p l e room_1 s m #[Value.ref b] below meth c H locs 63 799 (lw_Z below #[Value.ref b] s) (F0 m 904 ls [])) : W p l e room_1 s m #[Value.ref b] below meth c H locs 63 799 (lw_Z below #[Value.ref b] s) (F0 m 493 ls []) := by
  have hx := Cc.1.1
  obtain ⟨r, c', m', f1, f2, hR⟩ := zz_stop hR (xs (i + 1))
  refine lv_aload_n hx hb dL_law_493 rfl (lv_at hl 1 rfl) ?_
  refine lv_aload_n hx hb dL_law_494 rfl (lv_at hl 0 rfl) ?_
  refine lv_iload_n hx hb dL_law_495 rfl (lv_at hl 3 rfl) ?_
  refine lv_iconst (v := (1 : Int32)) hx hb dL_law_496 (by decide) ?_
  refine lv_iadd hx hb dL_law_497 ?_
  refine gz_sld hx hb hX hbl hG (i + 1) (nI_add i 1) (by omega) (by omega) dL_law_498 ?_
  refine gz_cM (rest := []) Cc hG rfl [.int (xs (i + 1))] (t_X3_stop l (gz_G G s.heap.size 50) (gz_D G s.heap.size 50) σ (xs (i + 1)) r c' f1) lk_L_62 ⟨rfl, rfl, Nat.le_of_ble_eq_true rfl, Nat.le_of_ble_eq_true rfl⟩ ⟨Nat.le_of_ble_eq_true rfl, Nat.le_of_ble_eq_true rfl⟩ hl.1 rfl (Nat.le_of_ble_eq_true rfl) dL_law_499 (fun H locs hG => ?_)
  refine lv_aload_n hx hb dL_law_502 rfl (lv_at hl 2 rfl) ?_
  refine lv_aload_n hx hb dL_law_503 rfl (lv_at hl 0 rfl) ?_
  refine lv_iload_n hx hb dL_law_504 rfl (lv_at hl 3 rfl) ?_
  refine lv_iconst (v := (1 : Int32)) hx hb dL_law_505 (by decide) ?_
  refine lv_iadd hx hb dL_law_506 ?_
  refine gz_sld hx hb hX hbl hG (i + 1) (nI_add i 1) (by omega) (by omega) dL_law_507 ?_
  refine gz_mM (rest := [.int r]) Cm hG rfl [.int (xs (i + 1))] (t_X4_stop l (gz_G G (s.heap.size + 50) 13) (gz_D G (s.heap.size + 50) 13) τ (xs (i + 1)) r m' f2) lk_L_65 ⟨rfl, rfl, Nat.le_of_ble_eq_true rfl, Nat.le_of_ble_eq_true rfl⟩ ⟨Nat.le_of_ble_eq_true rfl, Nat.le_of_ble_eq_true rfl⟩ hl.1 rfl (Nat.le_of_ble_eq_true rfl) dL_law_508 (fun H locs hG => ?_)
  refine lv_icmp_eq (tgt := 904) hx hb dL_law_511 (by decide) (fun _ => ?_) (fun hc => absurd rfl hc)
  exact kk c' m' hR _ _ hG
set_option maxHeartbeats 4000000 in
set_option maxRecDepth 100000 in
theorem lc_12 {p : Program} {l : Launch} {e : Env} {s : State} {m : MethodId} {below : List Frame} {meth : Method} {c : Code} {b L : Nat} {xs : Nat → Int32} {G : gx_G} (hL : L ≤ 3072) (hb : c.code = code) (hr : meth.sig.returnType = ret) (hlocks : meth.locks = false) (Cc : gx_C p m c code 4 s #[Value.ref b] R_law (gz_G G s.heap.size 50)) (Cm : gx_C p m c code 4 s #[Value.ref b] R_law (gz_G G (s.heap.size + 50) 13)) (hX : va_X b L xs s s.heap) (hbl : b < s.heap.size) {i : Nat} (hi : i + 6 ≤ L) {σ τ : gx_St} (hR : zz_R σ τ) {H : Heap} {locs : List Loc} (hG : gz_L G s σ τ H locs) {ls : Array Slot} (hl : lv_has ls 4 [(0, .ref b), (1, .ref s.heap.size), (2, .ref (s.heap.size + 50)), (3, .int (nI i))]) (kk : ∀ (σ τ : gx_St), zz_R σ τ → ∀ (H : Heap) (locs : List Loc), gz_L G s σ τ H locs → W p l e room_1 s m #[Value.ref b] below meth c H locs 63 799 (lw_Z below #[Value.ref b] s) (F0 m 904 ls [])) : W p l e room_1 s m #[Value.ref b] below meth c H locs 63 799 (lw_Z below #[Value.ref b] s) (F0 m 516 ls []) := by
  have hx := Cc.1.1
  obtain ⟨r, c', m', f1, f2, hR⟩ := zz_press hR (xs (i + 1))
  refine lv_aload_n hx hb dL_law_516 rfl (lv_at hl 1 rfl) ?_
  refine lv_aload_n hx hb dL_law_517 rfl (lv_at hl 0 rfl) ?_
  refine lv_iload_n hx hb dL_law_518 rfl (lv_at hl 3 rfl) ?_
  refine lv_iconst (v := (1 : Int32)) hx hb dL_law_519 (by decide) ?_
  refine lv_iadd hx hb dL_law_520 ?_
  refine gz_sld hx hb hX hbl hG (i + 1) (nI_add i 1) (by omega) (by omega) dL_law_521 ?_
  refine gz_cM (rest := []) Cc hG rfl [.int (xs (i + 1))] (t_X3_press l (gz_G G s.heap.size 50) (gz_D G s.heap.size 50) σ (xs (i + 1)) r c' f1) lk_L_66 ⟨rfl, rfl, Nat.le_of_ble_eq_true rfl, Nat.le_of_ble_eq_true rfl⟩ ⟨Nat.le_of_ble_eq_true rfl, Nat.le_of_ble_eq_true rfl⟩ hl.1 rfl (Nat.le_of_ble_eq_true rfl) dL_law_522 (fun H locs hG => ?_)
  refine lv_aload_n hx hb dL_law_525 rfl (lv_at hl 2 rfl) ?_
  refine lv_aload_n hx hb dL_law_526 rfl (lv_at hl 0 rfl) ?_
  refine lv_iload_n hx hb dL_law_527 rfl (lv_at hl 3 rfl) ?_
  refine lv_iconst (v := (1 : Int32)) hx hb dL_law_528 (by decide) ?_
  refine lv_iadd hx hb dL_law_529 ?_
  refine gz_sld hx hb hX hbl hG (i + 1) (nI_add i 1) (by omega) (by omega) dL_law_530 ?_
  refine gz_mM (rest := [.int r]) Cm hG rfl [.int (xs (i + 1))] (t_X4_press l (gz_G G (s.heap.size + 50) 13) (gz_D G (s.heap.size + 50) 13) τ (xs (i + 1)) r m' f2) lk_L_69 ⟨rfl, rfl, Nat.le_of_ble_eq_true rfl, Nat.le_of_ble_eq_true rfl⟩ ⟨Nat.le_of_ble_eq_true rfl, Nat.le_of_ble_eq_true rfl⟩ hl.1 rfl (Nat.le_of_ble_eq_true rfl) dL_law_531 (fun H locs hG => ?_)
  refine lv_icmp_eq (tgt := 904) hx hb dL_law_534 (by decide) (fun _ => ?_) (fun hc => absurd rfl hc)
  exact kk c' m' hR _ _ hG
set_option maxHeartbeats 4000000 in
set_option maxRecDepth 100000 in
theorem lc_13 {p : Program} {l : Launch} {e : Env} {s : State} {m : MethodId} {below : List Frame} {meth : Method} {c : Code} {b L : Nat} {xs : Nat → Int32} {G : gx_G} (hL : L ≤ 3072) (hb : c.code = code) (hr : meth.sig.returnType = ret) (hlocks : meth.locks = false) (Cc : gx_C p m c code 4 s #[Value.ref b] R_law (gz_G G s.heap.size 50)) (Cm : gx_C p m c code 4 s #[Value.ref b] R_law (gz_G G (s.heap.size + 50) 13)) (hX : va_X b L xs s s.heap) (hbl : b < s.heap.size) {i : Nat} (hi : i + 6 ≤ L) {σ τ : gx_St} (hR : zz_R σ τ) {H : Heap} {locs : List Loc} (hG : gz_L G s σ τ H locs) {ls : Array Slot} (hl : lv_has ls 4 [(0, .ref b), (1, .ref s.heap.size), (2, .ref (s.heap.size + 50)), (3, .int (nI i))]) (kk : ∀ (σ τ : gx_St), zz_R σ τ → ∀ (H : Heap) (locs : List Loc), gz_L G s σ τ H locs → W p l e room_1 s m #[Value.ref b] below meth c H locs 63 799 (lw_Z below #[Value.ref b] s) (F0 m 904 ls [])) : W p l e room_1 s m #[Value.ref b] below meth c H locs 63 799 (lw_Z below #[Value.ref b] s) (F0 m 539 ls []) := by
  have hx := Cc.1.1
  obtain ⟨r, c', m', f1, f2, hR⟩ := zz_free hR (xs (i + 1))
  refine lv_aload_n hx hb dL_law_539 rfl (lv_at hl 1 rfl) ?_
  refine lv_aload_n hx hb dL_law_540 rfl (lv_at hl 0 rfl) ?_
  refine lv_iload_n hx hb dL_law_541 rfl (lv_at hl 3 rfl) ?_
  refine lv_iconst (v := (1 : Int32)) hx hb dL_law_542 (by decide) ?_
  refine lv_iadd hx hb dL_law_543 ?_
  refine gz_sld hx hb hX hbl hG (i + 1) (nI_add i 1) (by omega) (by omega) dL_law_544 ?_
  refine gz_cM (rest := []) Cc hG rfl [.int (xs (i + 1))] (t_X3_free l (gz_G G s.heap.size 50) (gz_D G s.heap.size 50) σ (xs (i + 1)) r c' f1) lk_L_70 ⟨rfl, rfl, Nat.le_of_ble_eq_true rfl, Nat.le_of_ble_eq_true rfl⟩ ⟨Nat.le_of_ble_eq_true rfl, Nat.le_of_ble_eq_true rfl⟩ hl.1 rfl (Nat.le_of_ble_eq_true rfl) dL_law_545 (fun H locs hG => ?_)
  refine lv_aload_n hx hb dL_law_548 rfl (lv_at hl 2 rfl) ?_
  refine lv_aload_n hx hb dL_law_549 rfl (lv_at hl 0 rfl) ?_
  refine lv_iload_n hx hb dL_law_550 rfl (lv_at hl 3 rfl) ?_
  refine lv_iconst (v := (1 : Int32)) hx hb dL_law_551 (by decide) ?_
  refine lv_iadd hx hb dL_law_552 ?_
  refine gz_sld hx hb hX hbl hG (i + 1) (nI_add i 1) (by omega) (by omega) dL_law_553 ?_
  refine gz_mM (rest := [.int r]) Cm hG rfl [.int (xs (i + 1))] (t_X4_free l (gz_G G (s.heap.size + 50) 13) (gz_D G (s.heap.size + 50) 13) τ (xs (i + 1)) r m' f2) lk_L_73 ⟨rfl, rfl, Nat.le_of_ble_eq_true rfl, Nat.le_of_ble_eq_true rfl⟩ ⟨Nat.le_of_ble_eq_true rfl, Nat.le_of_ble_eq_true rfl⟩ hl.1 rfl (Nat.le_of_ble_eq_true rfl) dL_law_554 (fun H locs hG => ?_)
  refine lv_icmp_eq (tgt := 904) hx hb dL_law_557 (by decide) (fun _ => ?_) (fun hc => absurd rfl hc)
  exact kk c' m' hR _ _ hG
set_option maxHeartbeats 4000000 in
set_option maxRecDepth 100000 in
theorem lc_14 {p : Program} {l : Launch} {e : Env} {s : State} {m : MethodId} {below : List Frame} {meth : Method} {c : Code} {b L : Nat} {xs : Nat → Int32} {G : gx_G} (hL : L ≤ 3072) (hb : c.code = code) (hr : meth.sig.returnType = ret) (hlocks : meth.locks = false) (Cc : gx_C p m c code 4 s #[Value.ref b] R_law (gz_G G s.heap.size 50)) (Cm : gx_C p m c code 4 s #[Value.ref b] R_law (gz_G G (s.heap.size + 50) 13)) (hX : va_X b L xs s s.heap) (hbl : b < s.heap.size) {i : Nat} (hi : i + 6 ≤ L) {σ τ : gx_St} (hR : zz_R σ τ) {H : Heap} {locs : List Loc} (hG : gz_L G s σ τ H locs) {ls : Array Slot} (hl : lv_has ls 4 [(0, .ref b), (1, .ref s.heap.size), (2, .ref (s.heap.size + 50)), (3, .int (nI i))]) (kk : ∀ (σ τ : gx_St), zz_R σ τ → ∀ (H : Heap) (locs : List Loc), gz_L G s σ τ H locs → W p l e room_1 s m #[Value.ref b] below meth c H locs 63 799 (lw_Z below #[Value.ref b] s) (F0 m 904 ls [])) : W p l e room_1 s m #[Value.ref b] below meth c H locs 63 799 (lw_Z below #[Value.ref b] s) (F0 m 562 ls []) := by
  have hx := Cc.1.1
  obtain ⟨r, c', m', f1, f2, hR⟩ := zz_pass hR (xs (i + 1))
  refine lv_aload_n hx hb dL_law_562 rfl (lv_at hl 1 rfl) ?_
  refine lv_aload_n hx hb dL_law_563 rfl (lv_at hl 0 rfl) ?_
  refine lv_iload_n hx hb dL_law_564 rfl (lv_at hl 3 rfl) ?_
  refine lv_iconst (v := (1 : Int32)) hx hb dL_law_565 (by decide) ?_
  refine lv_iadd hx hb dL_law_566 ?_
  refine gz_sld hx hb hX hbl hG (i + 1) (nI_add i 1) (by omega) (by omega) dL_law_567 ?_
  refine gz_cM (rest := []) Cc hG rfl [.int (xs (i + 1))] (t_X3_pass l (gz_G G s.heap.size 50) (gz_D G s.heap.size 50) σ (xs (i + 1)) r c' f1) lk_L_74 ⟨rfl, rfl, Nat.le_of_ble_eq_true rfl, Nat.le_of_ble_eq_true rfl⟩ ⟨Nat.le_of_ble_eq_true rfl, Nat.le_of_ble_eq_true rfl⟩ hl.1 rfl (Nat.le_of_ble_eq_true rfl) dL_law_568 (fun H locs hG => ?_)
  refine lv_aload_n hx hb dL_law_571 rfl (lv_at hl 2 rfl) ?_
  refine lv_aload_n hx hb dL_law_572 rfl (lv_at hl 0 rfl) ?_
  refine lv_iload_n hx hb dL_law_573 rfl (lv_at hl 3 rfl) ?_
  refine lv_iconst (v := (1 : Int32)) hx hb dL_law_574 (by decide) ?_
  refine lv_iadd hx hb dL_law_575 ?_
  refine gz_sld hx hb hX hbl hG (i + 1) (nI_add i 1) (by omega) (by omega) dL_law_576 ?_
  refine gz_mM (rest := [.int r]) Cm hG rfl [.int (xs (i + 1))] (t_X4_pass l (gz_G G (s.heap.size + 50) 13) (gz_D G (s.heap.size + 50) 13) τ (xs (i + 1)) r m' f2) lk_L_77 ⟨rfl, rfl, Nat.le_of_ble_eq_true rfl, Nat.le_of_ble_eq_true rfl⟩ ⟨Nat.le_of_ble_eq_true rfl, Nat.le_of_ble_eq_true rfl⟩ hl.1 rfl (Nat.le_of_ble_eq_true rfl) dL_law_577 (fun H locs hG => ?_)
  refine lv_icmp_eq (tgt := 904) hx hb dL_law_580 (by decide) (fun _ => ?_) (fun hc => absurd rfl hc)
  exact kk c' m' hR _ _ hG
set_option maxHeartbeats 4000000 in
set_option maxRecDepth 100000 in
theorem lc_15 {p : Program} {l : Launch} {e : Env} {s : State} {m : MethodId} {below : List Frame} {meth : Method} {c : Code} {b L : Nat} {xs : Nat → Int32} {G : gx_G} (hL : L ≤ 3072) (hb : c.code = code) (hr : meth.sig.returnType = ret) (hlocks : meth.locks = false) (Cc : gx_C p m c code 4 s #[Value.ref b] R_law (gz_G G s.heap.size 50)) (Cm : gx_C p m c code 4 s #[Value.ref b] R_law (gz_G G (s.heap.size + 50) 13)) (hX : va_X b L xs s s.heap) (hbl : b < s.heap.size) {i : Nat} (hi : i + 6 ≤ L) {σ τ : gx_St} (hR : zz_R σ τ) {H : Heap} {locs : List Loc} (hG : gz_L G s σ τ H locs) {ls : Array Slot} (hl : lv_has ls 4 [(0, .ref b), (1, .ref s.heap.size), (2, .ref (s.heap.size + 50)), (3, .int (nI i))]) (kk : ∀ (σ τ : gx_St), zz_R σ τ → ∀ (H : Heap) (locs : List Loc), gz_L G s σ τ H locs → W p l e room_1 s m #[Value.ref b] below meth c H locs 63 799 (lw_Z below #[Value.ref b] s) (F0 m 904 ls [])) : W p l e room_1 s m #[Value.ref b] below meth c H locs 63 799 (lw_Z below #[Value.ref b] s) (F0 m 585 ls []) := by
  have hx := Cc.1.1
  obtain ⟨r, c', m', f1, f2, hR⟩ := zz_hello hR
  refine lv_aload_n hx hb dL_law_585 rfl (lv_at hl 1 rfl) ?_
  refine gz_cM (rest := []) Cc hG rfl [] (t_X3_hello l (gz_G G s.heap.size 50) (gz_D G s.heap.size 50) σ r c' f1) lk_L_78 ⟨rfl, rfl, Nat.le_of_ble_eq_true rfl, Nat.le_of_ble_eq_true rfl⟩ ⟨Nat.le_of_ble_eq_true rfl, Nat.le_of_ble_eq_true rfl⟩ hl.1 rfl (Nat.le_of_ble_eq_true rfl) dL_law_586 (fun H locs hG => ?_)
  refine lv_aload_n hx hb dL_law_589 rfl (lv_at hl 2 rfl) ?_
  refine gz_mM (rest := [.int r]) Cm hG rfl [] (t_X4_hello l (gz_G G (s.heap.size + 50) 13) (gz_D G (s.heap.size + 50) 13) τ r m' f2) lk_L_81 ⟨rfl, rfl, Nat.le_of_ble_eq_true rfl, Nat.le_of_ble_eq_true rfl⟩ ⟨Nat.le_of_ble_eq_true rfl, Nat.le_of_ble_eq_true rfl⟩ hl.1 rfl (Nat.le_of_ble_eq_true rfl) dL_law_590 (fun H locs hG => ?_)
  refine lv_icmp_eq (tgt := 904) hx hb dL_law_593 (by decide) (fun _ => ?_) (fun hc => absurd rfl hc)
  exact kk c' m' hR _ _ hG
set_option maxHeartbeats 4000000 in
set_option maxRecDepth 100000 in
theorem lc_16 {p : Program} {l : Launch} {e : Env} {s : State} {m : MethodId} {below : List Frame} {meth : Method} {c : Code} {b L : Nat} {xs : Nat → Int32} {G : gx_G} (hL : L ≤ 3072) (hb : c.code = code) (hr : meth.sig.returnType = ret) (hlocks : meth.locks = false) (Cc : gx_C p m c code 4 s #[Value.ref b] R_law (gz_G G s.heap.size 50)) (Cm : gx_C p m c code 4 s #[Value.ref b] R_law (gz_G G (s.heap.size + 50) 13)) (hX : va_X b L xs s s.heap) (hbl : b < s.heap.size) {i : Nat} (hi : i + 6 ≤ L) {σ τ : gx_St} (hR : zz_R σ τ) {H : Heap} {locs : List Loc} (hG : gz_L G s σ τ H locs) {ls : Array Slot} (hl : lv_has ls 4 [(0, .ref b), (1, .ref s.heap.size), (2, .ref (s.heap.size + 50)), (3, .int (nI i))]) (kk : ∀ (σ τ : gx_St), zz_R σ τ → ∀ (H : Heap) (locs : List Loc), gz_L G s σ τ H locs → W p l e room_1 s m #[Value.ref b] below meth c H locs 63 799 (lw_Z below #[Value.ref b] s) (F0 m 904 ls [])) : W p l e room_1 s m #[Value.ref b] below meth c H locs 63 799 (lw_Z below #[Value.ref b] s) (F0 m 598 ls []) := by
  have hx := Cc.1.1
  obtain ⟨r, c', m', f1, f2, hR⟩ := zz_watch hR (xs (i + 1))
  refine lv_aload_n hx hb dL_law_598 rfl (lv_at hl 1 rfl) ?_
  refine lv_aload_n hx hb dL_law_599 rfl (lv_at hl 0 rfl) ?_
  refine lv_iload_n hx hb dL_law_600 rfl (lv_at hl 3 rfl) ?_
  refine lv_iconst (v := (1 : Int32)) hx hb dL_law_601 (by decide) ?_
  refine lv_iadd hx hb dL_law_602 ?_
  refine gz_sld hx hb hX hbl hG (i + 1) (nI_add i 1) (by omega) (by omega) dL_law_603 ?_
  refine gz_cM (rest := []) Cc hG rfl [.int (xs (i + 1))] (t_X3_watch l (gz_G G s.heap.size 50) (gz_D G s.heap.size 50) σ (xs (i + 1)) r c' f1) lk_L_82 ⟨rfl, rfl, Nat.le_of_ble_eq_true rfl, Nat.le_of_ble_eq_true rfl⟩ ⟨Nat.le_of_ble_eq_true rfl, Nat.le_of_ble_eq_true rfl⟩ hl.1 rfl (Nat.le_of_ble_eq_true rfl) dL_law_604 (fun H locs hG => ?_)
  refine lv_aload_n hx hb dL_law_607 rfl (lv_at hl 2 rfl) ?_
  refine lv_aload_n hx hb dL_law_608 rfl (lv_at hl 0 rfl) ?_
  refine lv_iload_n hx hb dL_law_609 rfl (lv_at hl 3 rfl) ?_
  refine lv_iconst (v := (1 : Int32)) hx hb dL_law_610 (by decide) ?_
  refine lv_iadd hx hb dL_law_611 ?_
  refine gz_sld hx hb hX hbl hG (i + 1) (nI_add i 1) (by omega) (by omega) dL_law_612 ?_
  refine gz_mM (rest := [.int r]) Cm hG rfl [.int (xs (i + 1))] (t_X4_watch l (gz_G G (s.heap.size + 50) 13) (gz_D G (s.heap.size + 50) 13) τ (xs (i + 1)) r m' f2) lk_L_85 ⟨rfl, rfl, Nat.le_of_ble_eq_true rfl, Nat.le_of_ble_eq_true rfl⟩ ⟨Nat.le_of_ble_eq_true rfl, Nat.le_of_ble_eq_true rfl⟩ hl.1 rfl (Nat.le_of_ble_eq_true rfl) dL_law_613 (fun H locs hG => ?_)
  refine lv_icmp_eq (tgt := 904) hx hb dL_law_616 (by decide) (fun _ => ?_) (fun hc => absurd rfl hc)
  exact kk c' m' hR _ _ hG
set_option maxHeartbeats 4000000 in
set_option maxRecDepth 100000 in
theorem lc_17 {p : Program} {l : Launch} {e : Env} {s : State} {m : MethodId} {below : List Frame} {meth : Method} {c : Code} {b L : Nat} {xs : Nat → Int32} {G : gx_G} (hL : L ≤ 3072) (hb : c.code = code) (hr : meth.sig.returnType = ret) (hlocks : meth.locks = false) (Cc : gx_C p m c code 4 s #[Value.ref b] R_law (gz_G G s.heap.size 50)) (Cm : gx_C p m c code 4 s #[Value.ref b] R_law (gz_G G (s.heap.size + 50) 13)) (hX : va_X b L xs s s.heap) (hbl : b < s.heap.size) {i : Nat} (hi : i + 6 ≤ L) {σ τ : gx_St} (hR : zz_R σ τ) {H : Heap} {locs : List Loc} (hG : gz_L G s σ τ H locs) {ls : Array Slot} (hl : lv_has ls 4 [(0, .ref b), (1, .ref s.heap.size), (2, .ref (s.heap.size + 50)), (3, .int (nI i))]) (kk : ∀ (σ τ : gx_St), zz_R σ τ → ∀ (H : Heap) (locs : List Loc), gz_L G s σ τ H locs → W p l e room_1 s m #[Value.ref b] below meth c H locs 63 799 (lw_Z below #[Value.ref b] s) (F0 m 904 ls [])) : W p l e room_1 s m #[Value.ref b] below meth c H locs 63 799 (lw_Z below #[Value.ref b] s) (F0 m 621 ls []) := by
  have hx := Cc.1.1
  obtain ⟨r, c', m', f1, f2, hR⟩ := zz_master hR (xs (i + 1))
  refine lv_aload_n hx hb dL_law_621 rfl (lv_at hl 1 rfl) ?_
  refine lv_aload_n hx hb dL_law_622 rfl (lv_at hl 0 rfl) ?_
  refine lv_iload_n hx hb dL_law_623 rfl (lv_at hl 3 rfl) ?_
  refine lv_iconst (v := (1 : Int32)) hx hb dL_law_624 (by decide) ?_
  refine lv_iadd hx hb dL_law_625 ?_
  refine gz_sld hx hb hX hbl hG (i + 1) (nI_add i 1) (by omega) (by omega) dL_law_626 ?_
  refine gz_cM (rest := []) Cc hG rfl [.int (xs (i + 1))] (t_X3_master l (gz_G G s.heap.size 50) (gz_D G s.heap.size 50) σ (xs (i + 1)) r c' f1) lk_L_86 ⟨rfl, rfl, Nat.le_of_ble_eq_true rfl, Nat.le_of_ble_eq_true rfl⟩ ⟨Nat.le_of_ble_eq_true rfl, Nat.le_of_ble_eq_true rfl⟩ hl.1 rfl (Nat.le_of_ble_eq_true rfl) dL_law_627 (fun H locs hG => ?_)
  refine lv_aload_n hx hb dL_law_630 rfl (lv_at hl 2 rfl) ?_
  refine lv_aload_n hx hb dL_law_631 rfl (lv_at hl 0 rfl) ?_
  refine lv_iload_n hx hb dL_law_632 rfl (lv_at hl 3 rfl) ?_
  refine lv_iconst (v := (1 : Int32)) hx hb dL_law_633 (by decide) ?_
  refine lv_iadd hx hb dL_law_634 ?_
  refine gz_sld hx hb hX hbl hG (i + 1) (nI_add i 1) (by omega) (by omega) dL_law_635 ?_
  refine gz_mM (rest := [.int r]) Cm hG rfl [.int (xs (i + 1))] (t_X4_master l (gz_G G (s.heap.size + 50) 13) (gz_D G (s.heap.size + 50) 13) τ (xs (i + 1)) r m' f2) lk_L_89 ⟨rfl, rfl, Nat.le_of_ble_eq_true rfl, Nat.le_of_ble_eq_true rfl⟩ ⟨Nat.le_of_ble_eq_true rfl, Nat.le_of_ble_eq_true rfl⟩ hl.1 rfl (Nat.le_of_ble_eq_true rfl) dL_law_636 (fun H locs hG => ?_)
  refine lv_icmp_eq (tgt := 904) hx hb dL_law_639 (by decide) (fun _ => ?_) (fun hc => absurd rfl hc)
  exact kk c' m' hR _ _ hG
set_option maxHeartbeats 4000000 in
set_option maxRecDepth 100000 in
theorem lc_18 {p : Program} {l : Launch} {e : Env} {s : State} {m : MethodId} {below : List Frame} {meth : Method} {c : Code} {b L : Nat} {xs : Nat → Int32} {G : gx_G} (hL : L ≤ 3072) (hb : c.code = code) (hr : meth.sig.returnType = ret) (hlocks : meth.locks = false) (Cc : gx_C p m c code 4 s #[Value.ref b] R_law (gz_G G s.heap.size 50)) (Cm : gx_C p m c code 4 s #[Value.ref b] R_law (gz_G G (s.heap.size + 50) 13)) (hX : va_X b L xs s s.heap) (hbl : b < s.heap.size) {i : Nat} (hi : i + 6 ≤ L) {σ τ : gx_St} (hR : zz_R σ τ) {H : Heap} {locs : List Loc} (hG : gz_L G s σ τ H locs) {ls : Array Slot} (hl : lv_has ls 4 [(0, .ref b), (1, .ref s.heap.size), (2, .ref (s.heap.size + 50)), (3, .int (nI i))]) (kk : ∀ (σ τ : gx_St), zz_R σ τ → ∀ (H : Heap) (locs : List Loc), gz_L G s σ τ H locs → W p l e room_1 s m #[Value.ref b] below meth c H locs 63 799 (lw_Z below #[Value.ref b] s) (F0 m 904 ls [])) : W p l e room_1 s m #[Value.ref b] below meth c H locs 63 799 (lw_Z below #[Value.ref b] s) (F0 m 644 ls []) := by
  have hx := Cc.1.1
  obtain ⟨r, f1, f2⟩ := zz_part hR (xs (i + 1)) (xs (i + 2))
  refine lv_aload_n hx hb dL_law_644 rfl (lv_at hl 1 rfl) ?_
  refine lv_aload_n hx hb dL_law_645 rfl (lv_at hl 0 rfl) ?_
  refine lv_iload_n hx hb dL_law_646 rfl (lv_at hl 3 rfl) ?_
  refine lv_iconst (v := (1 : Int32)) hx hb dL_law_647 (by decide) ?_
  refine lv_iadd hx hb dL_law_648 ?_
  refine gz_sld hx hb hX hbl hG (i + 1) (nI_add i 1) (by omega) (by omega) dL_law_649 ?_
  refine lv_aload_n hx hb dL_law_650 rfl (lv_at hl 0 rfl) ?_
  refine lv_iload_n hx hb dL_law_651 rfl (lv_at hl 3 rfl) ?_
  refine lv_iconst (v := (2 : Int32)) hx hb dL_law_652 (by decide) ?_
  refine lv_iadd hx hb dL_law_653 ?_
  refine gz_sld hx hb hX hbl hG (i + 2) (nI_add i 2) (by omega) (by omega) dL_law_654 ?_
  refine gz_cR (rest := []) Cc hG rfl [.int (xs (i + 1)), .int (xs (i + 2))] (t_X3_part l (gz_G G s.heap.size 50) σ (xs (i + 1)) (xs (i + 2)) r f1) lk_L_90 ⟨rfl, rfl, Nat.le_of_ble_eq_true rfl, Nat.le_of_ble_eq_true rfl⟩ ⟨Nat.le_of_ble_eq_true rfl, Nat.le_of_ble_eq_true rfl⟩ hl.1 rfl (Nat.le_of_ble_eq_true rfl) dL_law_655 ?_
  refine lv_aload_n hx hb dL_law_658 rfl (lv_at hl 2 rfl) ?_
  refine lv_aload_n hx hb dL_law_659 rfl (lv_at hl 0 rfl) ?_
  refine lv_iload_n hx hb dL_law_660 rfl (lv_at hl 3 rfl) ?_
  refine lv_iconst (v := (1 : Int32)) hx hb dL_law_661 (by decide) ?_
  refine lv_iadd hx hb dL_law_662 ?_
  refine gz_sld hx hb hX hbl hG (i + 1) (nI_add i 1) (by omega) (by omega) dL_law_663 ?_
  refine lv_aload_n hx hb dL_law_664 rfl (lv_at hl 0 rfl) ?_
  refine lv_iload_n hx hb dL_law_665 rfl (lv_at hl 3 rfl) ?_
  refine lv_iconst (v := (2 : Int32)) hx hb dL_law_666 (by decide) ?_
  refine lv_iadd hx hb dL_law_667 ?_
  refine gz_sld hx hb hX hbl hG (i + 2) (nI_add i 2) (by omega) (by omega) dL_law_668 ?_
  refine gz_mR (rest := [.int r]) Cm hG rfl [.int (xs (i + 1)), .int (xs (i + 2))] (t_X4_part l (gz_G G (s.heap.size + 50) 13) τ (xs (i + 1)) (xs (i + 2)) r f2) lk_L_93 ⟨rfl, rfl, Nat.le_of_ble_eq_true rfl, Nat.le_of_ble_eq_true rfl⟩ ⟨Nat.le_of_ble_eq_true rfl, Nat.le_of_ble_eq_true rfl⟩ hl.1 rfl (Nat.le_of_ble_eq_true rfl) dL_law_669 ?_
  refine lv_icmp_eq (tgt := 904) hx hb dL_law_672 (by decide) (fun _ => ?_) (fun hc => absurd rfl hc)
  exact kk σ τ hR _ _ hG
set_option maxHeartbeats 4000000 in
set_option maxRecDepth 100000 in
theorem lc_19 {p : Program} {l : Launch} {e : Env} {s : State} {m : MethodId} {below : List Frame} {meth : Method} {c : Code} {b L : Nat} {xs : Nat → Int32} {G : gx_G} (hL : L ≤ 3072) (hb : c.code = code) (hr : meth.sig.returnType = ret) (hlocks : meth.locks = false) (Cc : gx_C p m c code 4 s #[Value.ref b] R_law (gz_G G s.heap.size 50)) (Cm : gx_C p m c code 4 s #[Value.ref b] R_law (gz_G G (s.heap.size + 50) 13)) (hX : va_X b L xs s s.heap) (hbl : b < s.heap.size) {i : Nat} (hi : i + 6 ≤ L) {σ τ : gx_St} (hR : zz_R σ τ) {H : Heap} {locs : List Loc} (hG : gz_L G s σ τ H locs) {ls : Array Slot} (hl : lv_has ls 4 [(0, .ref b), (1, .ref s.heap.size), (2, .ref (s.heap.size + 50)), (3, .int (nI i))]) (kk : ∀ (σ τ : gx_St), zz_R σ τ → ∀ (H : Heap) (locs : List Loc), gz_L G s σ τ H locs → W p l e room_1 s m #[Value.ref b] below meth c H locs 63 799 (lw_Z below #[Value.ref b] s) (F0 m 904 ls [])) : W p l e room_1 s m #[Value.ref b] below meth c H locs 63 799 (lw_Z below #[Value.ref b] s) (F0 m 677 ls []) := by
  have hx := Cc.1.1
  obtain ⟨r, f1, f2⟩ := zz_envelope hR (xs (i + 1))
  refine lv_aload_n hx hb dL_law_677 rfl (lv_at hl 1 rfl) ?_
  refine lv_aload_n hx hb dL_law_678 rfl (lv_at hl 0 rfl) ?_
  refine lv_iload_n hx hb dL_law_679 rfl (lv_at hl 3 rfl) ?_
  refine lv_iconst (v := (1 : Int32)) hx hb dL_law_680 (by decide) ?_
  refine lv_iadd hx hb dL_law_681 ?_
  refine gz_sld hx hb hX hbl hG (i + 1) (nI_add i 1) (by omega) (by omega) dL_law_682 ?_
  refine gz_cR (rest := []) Cc hG rfl [.int (xs (i + 1))] (t_X3_envelope l (gz_G G s.heap.size 50) σ (xs (i + 1)) r f1) lk_L_94 ⟨rfl, rfl, Nat.le_of_ble_eq_true rfl, Nat.le_of_ble_eq_true rfl⟩ ⟨Nat.le_of_ble_eq_true rfl, Nat.le_of_ble_eq_true rfl⟩ hl.1 rfl (Nat.le_of_ble_eq_true rfl) dL_law_683 ?_
  refine lv_aload_n hx hb dL_law_686 rfl (lv_at hl 2 rfl) ?_
  refine lv_aload_n hx hb dL_law_687 rfl (lv_at hl 0 rfl) ?_
  refine lv_iload_n hx hb dL_law_688 rfl (lv_at hl 3 rfl) ?_
  refine lv_iconst (v := (1 : Int32)) hx hb dL_law_689 (by decide) ?_
  refine lv_iadd hx hb dL_law_690 ?_
  refine gz_sld hx hb hX hbl hG (i + 1) (nI_add i 1) (by omega) (by omega) dL_law_691 ?_
  refine gz_mR (rest := [.int r]) Cm hG rfl [.int (xs (i + 1))] (t_X4_envelope l (gz_G G (s.heap.size + 50) 13) τ (xs (i + 1)) r f2) lk_L_97 ⟨rfl, rfl, Nat.le_of_ble_eq_true rfl, Nat.le_of_ble_eq_true rfl⟩ ⟨Nat.le_of_ble_eq_true rfl, Nat.le_of_ble_eq_true rfl⟩ hl.1 rfl (Nat.le_of_ble_eq_true rfl) dL_law_692 ?_
  refine lv_icmp_eq (tgt := 904) hx hb dL_law_695 (by decide) (fun _ => ?_) (fun hc => absurd rfl hc)
  exact kk σ τ hR _ _ hG
set_option maxHeartbeats 4000000 in
set_option maxRecDepth 100000 in
theorem lc_20 {p : Program} {l : Launch} {e : Env} {s : State} {m : MethodId} {below : List Frame} {meth : Method} {c : Code} {b L : Nat} {xs : Nat → Int32} {G : gx_G} (hL : L ≤ 3072) (hb : c.code = code) (hr : meth.sig.returnType = ret) (hlocks : meth.locks = false) (Cc : gx_C p m c code 4 s #[Value.ref b] R_law (gz_G G s.heap.size 50)) (Cm : gx_C p m c code 4 s #[Value.ref b] R_law (gz_G G (s.heap.size + 50) 13)) (hX : va_X b L xs s s.heap) (hbl : b < s.heap.size) {i : Nat} (hi : i + 6 ≤ L) {σ τ : gx_St} (hR : zz_R σ τ) {H : Heap} {locs : List Loc} (hG : gz_L G s σ τ H locs) {ls : Array Slot} (hl : lv_has ls 4 [(0, .ref b), (1, .ref s.heap.size), (2, .ref (s.heap.size + 50)), (3, .int (nI i))]) (kk : ∀ (σ τ : gx_St), zz_R σ τ → ∀ (H : Heap) (locs : List Loc), gz_L G s σ τ H locs → W p l e room_1 s m #[Value.ref b] below meth c H locs 63 799 (lw_Z below #[Value.ref b] s) (F0 m 904 ls [])) : W p l e room_1 s m #[Value.ref b] below meth c H locs 63 799 (lw_Z below #[Value.ref b] s) (F0 m 700 ls []) := by
  have hx := Cc.1.1
  obtain ⟨r, f1, f2⟩ := zz_force hR (xs (i + 1)) (xs (i + 2))
  refine lv_aload_n hx hb dL_law_700 rfl (lv_at hl 1 rfl) ?_
  refine lv_aload_n hx hb dL_law_701 rfl (lv_at hl 0 rfl) ?_
  refine lv_iload_n hx hb dL_law_702 rfl (lv_at hl 3 rfl) ?_
  refine lv_iconst (v := (1 : Int32)) hx hb dL_law_703 (by decide) ?_
  refine lv_iadd hx hb dL_law_704 ?_
  refine gz_sld hx hb hX hbl hG (i + 1) (nI_add i 1) (by omega) (by omega) dL_law_705 ?_
  refine lv_aload_n hx hb dL_law_706 rfl (lv_at hl 0 rfl) ?_
  refine lv_iload_n hx hb dL_law_707 rfl (lv_at hl 3 rfl) ?_
  refine lv_iconst (v := (2 : Int32)) hx hb dL_law_708 (by decide) ?_
  refine lv_iadd hx hb dL_law_709 ?_
  refine gz_sld hx hb hX hbl hG (i + 2) (nI_add i 2) (by omega) (by omega) dL_law_710 ?_
  refine gz_cR (rest := []) Cc hG rfl [.int (xs (i + 1)), .int (xs (i + 2))] (t_X3_force l (gz_G G s.heap.size 50) σ (xs (i + 1)) (xs (i + 2)) r f1) lk_L_98 ⟨rfl, rfl, Nat.le_of_ble_eq_true rfl, Nat.le_of_ble_eq_true rfl⟩ ⟨Nat.le_of_ble_eq_true rfl, Nat.le_of_ble_eq_true rfl⟩ hl.1 rfl (Nat.le_of_ble_eq_true rfl) dL_law_711 ?_
  refine lv_aload_n hx hb dL_law_714 rfl (lv_at hl 2 rfl) ?_
  refine lv_aload_n hx hb dL_law_715 rfl (lv_at hl 0 rfl) ?_
  refine lv_iload_n hx hb dL_law_716 rfl (lv_at hl 3 rfl) ?_
  refine lv_iconst (v := (1 : Int32)) hx hb dL_law_717 (by decide) ?_
  refine lv_iadd hx hb dL_law_718 ?_
  refine gz_sld hx hb hX hbl hG (i + 1) (nI_add i 1) (by omega) (by omega) dL_law_719 ?_
  refine lv_aload_n hx hb dL_law_720 rfl (lv_at hl 0 rfl) ?_
  refine lv_iload_n hx hb dL_law_721 rfl (lv_at hl 3 rfl) ?_
  refine lv_iconst (v := (2 : Int32)) hx hb dL_law_722 (by decide) ?_
  refine lv_iadd hx hb dL_law_723 ?_
  refine gz_sld hx hb hX hbl hG (i + 2) (nI_add i 2) (by omega) (by omega) dL_law_724 ?_
  refine gz_mR (rest := [.int r]) Cm hG rfl [.int (xs (i + 1)), .int (xs (i + 2))] (t_X4_force l (gz_G G (s.heap.size + 50) 13) τ (xs (i + 1)) (xs (i + 2)) r f2) lk_L_101 ⟨rfl, rfl, Nat.le_of_ble_eq_true rfl, Nat.le_of_ble_eq_true rfl⟩ ⟨Nat.le_of_ble_eq_true rfl, Nat.le_of_ble_eq_true rfl⟩ hl.1 rfl (Nat.le_of_ble_eq_true rfl) dL_law_725 ?_
  refine lv_icmp_eq (tgt := 904) hx hb dL_law_728 (by decide) (fun _ => ?_) (fun hc => absurd rfl hc)
  exact kk σ τ hR _ _ hG
set_option maxHeartbeats 4000000 in
set_option maxRecDepth 100000 in
theorem lc_21 {p : Program} {l : Launch} {e : Env} {s : State} {m : MethodId} {below : List Frame} {meth : Method} {c : Code} {b L : Nat} {xs : Nat → Int32} {G : gx_G} (hL : L ≤ 3072) (hb : c.code = code) (hr : meth.sig.returnType = ret) (hlocks : meth.locks = false) (Cc : gx_C p m c code 4 s #[Value.ref b] R_law (gz_G G s.heap.size 50)) (Cm : gx_C p m c code 4 s #[Value.ref b] R_law (gz_G G (s.heap.size + 50) 13)) (hX : va_X b L xs s s.heap) (hbl : b < s.heap.size) {i : Nat} (hi : i + 6 ≤ L) {σ τ : gx_St} (hR : zz_R σ τ) {H : Heap} {locs : List Loc} (hG : gz_L G s σ τ H locs) {ls : Array Slot} (hl : lv_has ls 4 [(0, .ref b), (1, .ref s.heap.size), (2, .ref (s.heap.size + 50)), (3, .int (nI i))]) (kk : ∀ (σ τ : gx_St), zz_R σ τ → ∀ (H : Heap) (locs : List Loc), gz_L G s σ τ H locs → W p l e room_1 s m #[Value.ref b] below meth c H locs 63 799 (lw_Z below #[Value.ref b] s) (F0 m 904 ls [])) : W p l e room_1 s m #[Value.ref b] below meth c H locs 63 799 (lw_Z below #[Value.ref b] s) (F0 m 733 ls []) := by
  have hx := Cc.1.1
  obtain ⟨r, c', m', f1, f2, hR⟩ := zz_rate hR (xs (i + 1))
  refine lv_aload_n hx hb dL_law_733 rfl (lv_at hl 1 rfl) ?_
  refine lv_aload_n hx hb dL_law_734 rfl (lv_at hl 0 rfl) ?_
  refine lv_iload_n hx hb dL_law_735 rfl (lv_at hl 3 rfl) ?_
  refine lv_iconst (v := (1 : Int32)) hx hb dL_law_736 (by decide) ?_
  refine lv_iadd hx hb dL_law_737 ?_
  refine gz_sld hx hb hX hbl hG (i + 1) (nI_add i 1) (by omega) (by omega) dL_law_738 ?_
  refine gz_cM (rest := []) Cc hG rfl [.int (xs (i + 1))] (t_X3_rate l (gz_G G s.heap.size 50) (gz_D G s.heap.size 50) σ (xs (i + 1)) r c' f1) lk_L_102 ⟨rfl, rfl, Nat.le_of_ble_eq_true rfl, Nat.le_of_ble_eq_true rfl⟩ ⟨Nat.le_of_ble_eq_true rfl, Nat.le_of_ble_eq_true rfl⟩ hl.1 rfl (Nat.le_of_ble_eq_true rfl) dL_law_739 (fun H locs hG => ?_)
  refine lv_aload_n hx hb dL_law_742 rfl (lv_at hl 2 rfl) ?_
  refine lv_aload_n hx hb dL_law_743 rfl (lv_at hl 0 rfl) ?_
  refine lv_iload_n hx hb dL_law_744 rfl (lv_at hl 3 rfl) ?_
  refine lv_iconst (v := (1 : Int32)) hx hb dL_law_745 (by decide) ?_
  refine lv_iadd hx hb dL_law_746 ?_
  refine gz_sld hx hb hX hbl hG (i + 1) (nI_add i 1) (by omega) (by omega) dL_law_747 ?_
  refine gz_mM (rest := [.int r]) Cm hG rfl [.int (xs (i + 1))] (t_X4_rate l (gz_G G (s.heap.size + 50) 13) (gz_D G (s.heap.size + 50) 13) τ (xs (i + 1)) r m' f2) lk_L_105 ⟨rfl, rfl, Nat.le_of_ble_eq_true rfl, Nat.le_of_ble_eq_true rfl⟩ ⟨Nat.le_of_ble_eq_true rfl, Nat.le_of_ble_eq_true rfl⟩ hl.1 rfl (Nat.le_of_ble_eq_true rfl) dL_law_748 (fun H locs hG => ?_)
  refine lv_icmp_eq (tgt := 904) hx hb dL_law_751 (by decide) (fun _ => ?_) (fun hc => absurd rfl hc)
  exact kk c' m' hR _ _ hG
set_option maxHeartbeats 4000000 in
set_option maxRecDepth 100000 in
theorem lc_22 {p : Program} {l : Launch} {e : Env} {s : State} {m : MethodId} {below : List Frame} {meth : Method} {c : Code} {b L : Nat} {xs : Nat → Int32} {G : gx_G} (hL : L ≤ 3072) (hb : c.code = code) (hr : meth.sig.returnType = ret) (hlocks : meth.locks = false) (Cc : gx_C p m c code 4 s #[Value.ref b] R_law (gz_G G s.heap.size 50)) (Cm : gx_C p m c code 4 s #[Value.ref b] R_law (gz_G G (s.heap.size + 50) 13)) (hX : va_X b L xs s s.heap) (hbl : b < s.heap.size) {i : Nat} (hi : i + 6 ≤ L) {σ τ : gx_St} (hR : zz_R σ τ) {H : Heap} {locs : List Loc} (hG : gz_L G s σ τ H locs) {ls : Array Slot} (hl : lv_has ls 4 [(0, .ref b), (1, .ref s.heap.size), (2, .ref (s.heap.size + 50)), (3, .int (nI i))]) (kk : ∀ (σ τ : gx_St), zz_R σ τ → ∀ (H : Heap) (locs : List Loc), gz_L G s σ τ H locs → W p l e room_1 s m #[Value.ref b] below meth c H locs 63 799 (lw_Z below #[Value.ref b] s) (F0 m 904 ls [])) : W p l e room_1 s m #[Value.ref b] below meth c H locs 63 799 (lw_Z below #[Value.ref b] s) (F0 m 756 ls []) := by
  have hx := Cc.1.1
  obtain ⟨r, f1, f2⟩ := zz_frame hR (xs (i + 1))
  refine lv_aload_n hx hb dL_law_756 rfl (lv_at hl 1 rfl) ?_
  refine lv_aload_n hx hb dL_law_757 rfl (lv_at hl 0 rfl) ?_
  refine lv_iload_n hx hb dL_law_758 rfl (lv_at hl 3 rfl) ?_
  refine lv_iconst (v := (1 : Int32)) hx hb dL_law_759 (by decide) ?_
  refine lv_iadd hx hb dL_law_760 ?_
  refine gz_sld hx hb hX hbl hG (i + 1) (nI_add i 1) (by omega) (by omega) dL_law_761 ?_
  refine gz_cR (rest := []) Cc hG rfl [.int (xs (i + 1))] (t_X3_frame l (gz_G G s.heap.size 50) σ (xs (i + 1)) r f1) lk_L_106 ⟨rfl, rfl, Nat.le_of_ble_eq_true rfl, Nat.le_of_ble_eq_true rfl⟩ ⟨Nat.le_of_ble_eq_true rfl, Nat.le_of_ble_eq_true rfl⟩ hl.1 rfl (Nat.le_of_ble_eq_true rfl) dL_law_762 ?_
  refine lv_aload_n hx hb dL_law_765 rfl (lv_at hl 2 rfl) ?_
  refine lv_aload_n hx hb dL_law_766 rfl (lv_at hl 0 rfl) ?_
  refine lv_iload_n hx hb dL_law_767 rfl (lv_at hl 3 rfl) ?_
  refine lv_iconst (v := (1 : Int32)) hx hb dL_law_768 (by decide) ?_
  refine lv_iadd hx hb dL_law_769 ?_
  refine gz_sld hx hb hX hbl hG (i + 1) (nI_add i 1) (by omega) (by omega) dL_law_770 ?_
  refine gz_mR (rest := [.int r]) Cm hG rfl [.int (xs (i + 1))] (t_X4_frame l (gz_G G (s.heap.size + 50) 13) τ (xs (i + 1)) r f2) lk_L_109 ⟨rfl, rfl, Nat.le_of_ble_eq_true rfl, Nat.le_of_ble_eq_true rfl⟩ ⟨Nat.le_of_ble_eq_true rfl, Nat.le_of_ble_eq_true rfl⟩ hl.1 rfl (Nat.le_of_ble_eq_true rfl) dL_law_771 ?_
  refine lv_icmp_eq (tgt := 904) hx hb dL_law_774 (by decide) (fun _ => ?_) (fun hc => absurd rfl hc)
  exact kk σ τ hR _ _ hG
set_option maxHeartbeats 4000000 in
set_option maxRecDepth 100000 in
theorem lc_23 {p : Program} {l : Launch} {e : Env} {s : State} {m : MethodId} {below : List Frame} {meth : Method} {c : Code} {b L : Nat} {xs : Nat → Int32} {G : gx_G} (hL : L ≤ 3072) (hb : c.code = code) (hr : meth.sig.returnType = ret) (hlocks : meth.locks = false) (Cc : gx_C p m c code 4 s #[Value.ref b] R_law (gz_G G s.heap.size 50)) (Cm : gx_C p m c code 4 s #[Value.ref b] R_law (gz_G G (s.heap.size + 50) 13)) (hX : va_X b L xs s s.heap) (hbl : b < s.heap.size) {i : Nat} (hi : i + 6 ≤ L) {σ τ : gx_St} (hR : zz_R σ τ) {H : Heap} {locs : List Loc} (hG : gz_L G s σ τ H locs) {ls : Array Slot} (hl : lv_has ls 4 [(0, .ref b), (1, .ref s.heap.size), (2, .ref (s.heap.size + 50)), (3, .int (nI i))]) (kk : ∀ (σ τ : gx_St), zz_R σ τ → ∀ (H : Heap) (locs : List Loc), gz_L G s σ τ H locs → W p l e room_1 s m #[Value.ref b] below meth c H locs 63 799 (lw_Z below #[Value.ref b] s) (F0 m 904 ls [])) : W p l e room_1 s m #[Value.ref b] below meth c H locs 63 799 (lw_Z below #[Value.ref b] s) (F0 m 779 ls []) := by
  have hx := Cc.1.1
  obtain ⟨r, f1, f2⟩ := zz_frames hR
  refine lv_aload_n hx hb dL_law_779 rfl (lv_at hl 1 rfl) ?_
  refine gz_cR (rest := []) Cc hG rfl [] (t_X3_frames l (gz_G G s.heap.size 50) σ r f1) lk_L_110 ⟨rfl, rfl, Nat.le_of_ble_eq_true rfl, Nat.le_of_ble_eq_true rfl⟩ ⟨Nat.le_of_ble_eq_true rfl, Nat.le_of_ble_eq_true rfl⟩ hl.1 rfl (Nat.le_of_ble_eq_true rfl) dL_law_780 ?_
  refine lv_aload_n hx hb dL_law_783 rfl (lv_at hl 2 rfl) ?_
  refine gz_mR (rest := [.int r]) Cm hG rfl [] (t_X4_frames l (gz_G G (s.heap.size + 50) 13) τ r f2) lk_L_113 ⟨rfl, rfl, Nat.le_of_ble_eq_true rfl, Nat.le_of_ble_eq_true rfl⟩ ⟨Nat.le_of_ble_eq_true rfl, Nat.le_of_ble_eq_true rfl⟩ hl.1 rfl (Nat.le_of_ble_eq_true rfl) dL_law_784 ?_
  refine lv_icmp_eq (tgt := 904) hx hb dL_law_787 (by decide) (fun _ => ?_) (fun hc => absurd rfl hc)
  exact kk σ τ hR _ _ hG
set_option maxHeartbeats 4000000 in
set_option maxRecDepth 100000 in
theorem lc_24 {p : Program} {l : Launch} {e : Env} {s : State} {m : MethodId} {below : List Frame} {meth : Method} {c : Code} {b L : Nat} {xs : Nat → Int32} {G : gx_G} (hL : L ≤ 3072) (hb : c.code = code) (hr : meth.sig.returnType = ret) (hlocks : meth.locks = false) (Cc : gx_C p m c code 4 s #[Value.ref b] R_law (gz_G G s.heap.size 50)) (Cm : gx_C p m c code 4 s #[Value.ref b] R_law (gz_G G (s.heap.size + 50) 13)) (hX : va_X b L xs s s.heap) (hbl : b < s.heap.size) {i : Nat} (hi : i + 6 ≤ L) {σ τ : gx_St} (hR : zz_R σ τ) {H : Heap} {locs : List Loc} (hG : gz_L G s σ τ H locs) {ls : Array Slot} (hl : lv_has ls 4 [(0, .ref b), (1, .ref s.heap.size), (2, .ref (s.heap.size + 50)), (3, .int (nI i))]) (kk : ∀ (σ τ : gx_St), zz_R σ τ → ∀ (H : Heap) (locs : List Loc), gz_L G s σ τ H locs → W p l e room_1 s m #[Value.ref b] below meth c H locs 63 799 (lw_Z below #[Value.ref b] s) (F0 m 904 ls [])) : W p l e room_1 s m #[Value.ref b] below meth c H locs 63 799 (lw_Z below #[Value.ref b] s) (F0 m 792 ls []) := by
  have hx := Cc.1.1
  obtain ⟨r, f1, f2⟩ := zz_peak hR (xs (i + 1)) (xs (i + 2)) (xs (i + 3))
  refine lv_aload_n hx hb dL_law_792 rfl (lv_at hl 1 rfl) ?_
  refine lv_aload_n hx hb dL_law_793 rfl (lv_at hl 0 rfl) ?_
  refine lv_iload_n hx hb dL_law_794 rfl (lv_at hl 3 rfl) ?_
  refine lv_iconst (v := (1 : Int32)) hx hb dL_law_795 (by decide) ?_
  refine lv_iadd hx hb dL_law_796 ?_
  refine gz_sld hx hb hX hbl hG (i + 1) (nI_add i 1) (by omega) (by omega) dL_law_797 ?_
  refine lv_aload_n hx hb dL_law_798 rfl (lv_at hl 0 rfl) ?_
  refine lv_iload_n hx hb dL_law_799 rfl (lv_at hl 3 rfl) ?_
  refine lv_iconst (v := (2 : Int32)) hx hb dL_law_800 (by decide) ?_
  refine lv_iadd hx hb dL_law_801 ?_
  refine gz_sld hx hb hX hbl hG (i + 2) (nI_add i 2) (by omega) (by omega) dL_law_802 ?_
  refine lv_aload_n hx hb dL_law_803 rfl (lv_at hl 0 rfl) ?_
  refine lv_iload_n hx hb dL_law_804 rfl (lv_at hl 3 rfl) ?_
  refine lv_iconst (v := (3 : Int32)) hx hb dL_law_805 (by decide) ?_
  refine lv_iadd hx hb dL_law_806 ?_
  refine gz_sld hx hb hX hbl hG (i + 3) (nI_add i 3) (by omega) (by omega) dL_law_807 ?_
  refine gz_cR (rest := []) Cc hG rfl [.int (xs (i + 1)), .int (xs (i + 2)), .int (xs (i + 3))] (t_X3_peak l (gz_G G s.heap.size 50) σ (xs (i + 1)) (xs (i + 2)) (xs (i + 3)) r f1) lk_L_114 ⟨rfl, rfl, Nat.le_of_ble_eq_true rfl, Nat.le_of_ble_eq_true rfl⟩ ⟨Nat.le_of_ble_eq_true rfl, Nat.le_of_ble_eq_true rfl⟩ hl.1 rfl (Nat.le_of_ble_eq_true rfl) dL_law_808 ?_
  refine lv_aload_n hx hb dL_law_811 rfl (lv_at hl 2 rfl) ?_
  refine lv_aload_n hx hb dL_law_812 rfl (lv_at hl 0 rfl) ?_
  refine lv_iload_n hx hb dL_law_813 rfl (lv_at hl 3 rfl) ?_
  refine lv_iconst (v := (1 : Int32)) hx hb dL_law_814 (by decide) ?_
  refine lv_iadd hx hb dL_law_815 ?_
  refine gz_sld hx hb hX hbl hG (i + 1) (nI_add i 1) (by omega) (by omega) dL_law_816 ?_
  refine lv_aload_n hx hb dL_law_817 rfl (lv_at hl 0 rfl) ?_
  refine lv_iload_n hx hb dL_law_818 rfl (lv_at hl 3 rfl) ?_
  refine lv_iconst (v := (2 : Int32)) hx hb dL_law_819 (by decide) ?_
  refine lv_iadd hx hb dL_law_820 ?_
  refine gz_sld hx hb hX hbl hG (i + 2) (nI_add i 2) (by omega) (by omega) dL_law_821 ?_
  refine lv_aload_n hx hb dL_law_822 rfl (lv_at hl 0 rfl) ?_
  refine lv_iload_n hx hb dL_law_823 rfl (lv_at hl 3 rfl) ?_
  refine lv_iconst (v := (3 : Int32)) hx hb dL_law_824 (by decide) ?_
  refine lv_iadd hx hb dL_law_825 ?_
  refine gz_sld hx hb hX hbl hG (i + 3) (nI_add i 3) (by omega) (by omega) dL_law_826 ?_
  refine gz_mR (rest := [.int r]) Cm hG rfl [.int (xs (i + 1)), .int (xs (i + 2)), .int (xs (i + 3))] (t_X4_peak l (gz_G G (s.heap.size + 50) 13) τ (xs (i + 1)) (xs (i + 2)) (xs (i + 3)) r f2) lk_L_117 ⟨rfl, rfl, Nat.le_of_ble_eq_true rfl, Nat.le_of_ble_eq_true rfl⟩ ⟨Nat.le_of_ble_eq_true rfl, Nat.le_of_ble_eq_true rfl⟩ hl.1 rfl (Nat.le_of_ble_eq_true rfl) dL_law_827 ?_
  refine lv_icmp_eq (tgt := 904) hx hb dL_law_830 (by decide) (fun _ => ?_) (fun hc => absurd rfl hc)
  exact kk σ τ hR _ _ hG
set_option maxHeartbeats 4000000 in
set_option maxRecDepth 100000 in
theorem lc_25 {p : Program} {l : Launch} {e : Env} {s : State} {m : MethodId} {below : List Frame} {meth : Method} {c : Code} {b L : Nat} {xs : Nat → Int32} {G : gx_G} (hL : L ≤ 3072) (hb : c.code = code) (hr : meth.sig.returnType = ret) (hlocks : meth.locks = false) (Cc : gx_C p m c code 4 s #[Value.ref b] R_law (gz_G G s.heap.size 50)) (Cm : gx_C p m c code 4 s #[Value.ref b] R_law (gz_G G (s.heap.size + 50) 13)) (hX : va_X b L xs s s.heap) (hbl : b < s.heap.size) {i : Nat} (hi : i + 6 ≤ L) {σ τ : gx_St} (hR : zz_R σ τ) {H : Heap} {locs : List Loc} (hG : gz_L G s σ τ H locs) {ls : Array Slot} (hl : lv_has ls 4 [(0, .ref b), (1, .ref s.heap.size), (2, .ref (s.heap.size + 50)), (3, .int (nI i))]) (kk : ∀ (σ τ : gx_St), zz_R σ τ → ∀ (H : Heap) (locs : List Loc), gz_L G s σ τ H locs → W p l e room_1 s m #[Value.ref b] below meth c H locs 63 799 (lw_Z below #[Value.ref b] s) (F0 m 904 ls [])) : W p l e room_1 s m #[Value.ref b] below meth c H locs 63 799 (lw_Z below #[Value.ref b] s) (F0 m 835 ls []) := by
  have hx := Cc.1.1
  obtain ⟨r, f1, f2⟩ := zz_soLong hR (xs (i + 1))
  refine lv_aload_n hx hb dL_law_835 rfl (lv_at hl 1 rfl) ?_
  refine lv_aload_n hx hb dL_law_836 rfl (lv_at hl 0 rfl) ?_
  refine lv_iload_n hx hb dL_law_837 rfl (lv_at hl 3 rfl) ?_
  refine lv_iconst (v := (1 : Int32)) hx hb dL_law_838 (by decide) ?_
  refine lv_iadd hx hb dL_law_839 ?_
  refine gz_sld hx hb hX hbl hG (i + 1) (nI_add i 1) (by omega) (by omega) dL_law_840 ?_
  refine gz_cR (rest := []) Cc hG rfl [.int (xs (i + 1))] (t_X3_soLong l (gz_G G s.heap.size 50) σ (xs (i + 1)) r f1) lk_L_118 ⟨rfl, rfl, Nat.le_of_ble_eq_true rfl, Nat.le_of_ble_eq_true rfl⟩ ⟨Nat.le_of_ble_eq_true rfl, Nat.le_of_ble_eq_true rfl⟩ hl.1 rfl (Nat.le_of_ble_eq_true rfl) dL_law_841 ?_
  refine lv_aload_n hx hb dL_law_844 rfl (lv_at hl 2 rfl) ?_
  refine lv_aload_n hx hb dL_law_845 rfl (lv_at hl 0 rfl) ?_
  refine lv_iload_n hx hb dL_law_846 rfl (lv_at hl 3 rfl) ?_
  refine lv_iconst (v := (1 : Int32)) hx hb dL_law_847 (by decide) ?_
  refine lv_iadd hx hb dL_law_848 ?_
  refine gz_sld hx hb hX hbl hG (i + 1) (nI_add i 1) (by omega) (by omega) dL_law_849 ?_
  refine gz_mR (rest := [.int r]) Cm hG rfl [.int (xs (i + 1))] (t_X4_soLong l (gz_G G (s.heap.size + 50) 13) τ (xs (i + 1)) r f2) lk_L_121 ⟨rfl, rfl, Nat.le_of_ble_eq_true rfl, Nat.le_of_ble_eq_true rfl⟩ ⟨Nat.le_of_ble_eq_true rfl, Nat.le_of_ble_eq_true rfl⟩ hl.1 rfl (Nat.le_of_ble_eq_true rfl) dL_law_850 ?_
  refine lv_icmp_eq (tgt := 904) hx hb dL_law_853 (by decide) (fun _ => ?_) (fun hc => absurd rfl hc)
  exact kk σ τ hR _ _ hG
set_option maxHeartbeats 4000000 in
set_option maxRecDepth 100000 in
theorem lc_26 {p : Program} {l : Launch} {e : Env} {s : State} {m : MethodId} {below : List Frame} {meth : Method} {c : Code} {b L : Nat} {xs : Nat → Int32} {G : gx_G} (hL : L ≤ 3072) (hb : c.code = code) (hr : meth.sig.returnType = ret) (hlocks : meth.locks = false) (Cc : gx_C p m c code 4 s #[Value.ref b] R_law (gz_G G s.heap.size 50)) (Cm : gx_C p m c code 4 s #[Value.ref b] R_law (gz_G G (s.heap.size + 50) 13)) (hX : va_X b L xs s s.heap) (hbl : b < s.heap.size) {i : Nat} (hi : i + 6 ≤ L) {σ τ : gx_St} (hR : zz_R σ τ) {H : Heap} {locs : List Loc} (hG : gz_L G s σ τ H locs) {ls : Array Slot} (hl : lv_has ls 4 [(0, .ref b), (1, .ref s.heap.size), (2, .ref (s.heap.size + 50)), (3, .int (nI i))]) (kk : ∀ (σ τ : gx_St), zz_R σ τ → ∀ (H : Heap) (locs : List Loc), gz_L G s σ τ H locs → W p l e room_1 s m #[Value.ref b] below meth c H locs 63 799 (lw_Z below #[Value.ref b] s) (F0 m 904 ls [])) : W p l e room_1 s m #[Value.ref b] below meth c H locs 63 799 (lw_Z below #[Value.ref b] s) (F0 m 858 ls []) := by
  have hx := Cc.1.1
  obtain ⟨r, c', f1, f2, hR⟩ := zz_quiet hR (xs (i + 1))
  refine lv_aload_n hx hb dL_law_858 rfl (lv_at hl 1 rfl) ?_
  refine lv_aload_n hx hb dL_law_859 rfl (lv_at hl 0 rfl) ?_
  refine lv_iload_n hx hb dL_law_860 rfl (lv_at hl 3 rfl) ?_
  refine lv_iconst (v := (1 : Int32)) hx hb dL_law_861 (by decide) ?_
  refine lv_iadd hx hb dL_law_862 ?_
  refine gz_sld hx hb hX hbl hG (i + 1) (nI_add i 1) (by omega) (by omega) dL_law_863 ?_
  refine gz_cM (rest := []) Cc hG rfl [.int (xs (i + 1))] (t_X3_quiet l (gz_G G s.heap.size 50) (gz_D G s.heap.size 50) σ (xs (i + 1)) r c' f1) lk_L_122 ⟨rfl, rfl, Nat.le_of_ble_eq_true rfl, Nat.le_of_ble_eq_true rfl⟩ ⟨Nat.le_of_ble_eq_true rfl, Nat.le_of_ble_eq_true rfl⟩ hl.1 rfl (Nat.le_of_ble_eq_true rfl) dL_law_864 (fun H locs hG => ?_)
  refine lv_aload_n hx hb dL_law_867 rfl (lv_at hl 2 rfl) ?_
  refine lv_aload_n hx hb dL_law_868 rfl (lv_at hl 0 rfl) ?_
  refine lv_iload_n hx hb dL_law_869 rfl (lv_at hl 3 rfl) ?_
  refine lv_iconst (v := (1 : Int32)) hx hb dL_law_870 (by decide) ?_
  refine lv_iadd hx hb dL_law_871 ?_
  refine gz_sld hx hb hX hbl hG (i + 1) (nI_add i 1) (by omega) (by omega) dL_law_872 ?_
  refine gz_mR (rest := [.int r]) Cm hG rfl [.int (xs (i + 1))] (t_X4_quiet l (gz_G G (s.heap.size + 50) 13) τ (xs (i + 1)) r f2) lk_L_125 ⟨rfl, rfl, Nat.le_of_ble_eq_true rfl, Nat.le_of_ble_eq_true rfl⟩ ⟨Nat.le_of_ble_eq_true rfl, Nat.le_of_ble_eq_true rfl⟩ hl.1 rfl (Nat.le_of_ble_eq_true rfl) dL_law_873 ?_
  refine lv_icmp_eq (tgt := 904) hx hb dL_law_876 (by decide) (fun _ => ?_) (fun hc => absurd rfl hc)
  exact kk c' τ hR _ _ hG
set_option maxHeartbeats 4000000 in
set_option maxRecDepth 100000 in
theorem lc_27 {p : Program} {l : Launch} {e : Env} {s : State} {m : MethodId} {below : List Frame} {meth : Method} {c : Code} {b L : Nat} {xs : Nat → Int32} {G : gx_G} (hL : L ≤ 3072) (hb : c.code = code) (hr : meth.sig.returnType = ret) (hlocks : meth.locks = false) (Cc : gx_C p m c code 4 s #[Value.ref b] R_law (gz_G G s.heap.size 50)) (Cm : gx_C p m c code 4 s #[Value.ref b] R_law (gz_G G (s.heap.size + 50) 13)) (hX : va_X b L xs s s.heap) (hbl : b < s.heap.size) {i : Nat} (hi : i + 6 ≤ L) {σ τ : gx_St} (hR : zz_R σ τ) {H : Heap} {locs : List Loc} (hG : gz_L G s σ τ H locs) {ls : Array Slot} (hl : lv_has ls 4 [(0, .ref b), (1, .ref s.heap.size), (2, .ref (s.heap.size + 50)), (3, .int (nI i))]) (kk : ∀ (σ τ : gx_St), zz_R σ τ → ∀ (H : Heap) (locs : List Loc), gz_L G s σ τ H locs → W p l e room_1 s m #[Value.ref b] below meth c H locs 63 799 (lw_Z below #[Value.ref b] s) (F0 m 904 ls [])) : W p l e room_1 s m #[Value.ref b] below meth c H locs 63 799 (lw_Z below #[Value.ref b] s) (F0 m 881 ls []) := by
  have hx := Cc.1.1
  obtain ⟨r, f1, f2⟩ := zz_many hR (xs (i + 1))
  refine lv_aload_n hx hb dL_law_881 rfl (lv_at hl 1 rfl) ?_
  refine lv_aload_n hx hb dL_law_882 rfl (lv_at hl 0 rfl) ?_
  refine lv_iload_n hx hb dL_law_883 rfl (lv_at hl 3 rfl) ?_
  refine lv_iconst (v := (1 : Int32)) hx hb dL_law_884 (by decide) ?_
  refine lv_iadd hx hb dL_law_885 ?_
  refine gz_sld hx hb hX hbl hG (i + 1) (nI_add i 1) (by omega) (by omega) dL_law_886 ?_
  refine gz_cR (rest := []) Cc hG rfl [.int (xs (i + 1))] (t_X3_many l (gz_G G s.heap.size 50) σ (xs (i + 1)) r f1) lk_L_126 ⟨rfl, rfl, Nat.le_of_ble_eq_true rfl, Nat.le_of_ble_eq_true rfl⟩ ⟨Nat.le_of_ble_eq_true rfl, Nat.le_of_ble_eq_true rfl⟩ hl.1 rfl (Nat.le_of_ble_eq_true rfl) dL_law_887 ?_
  refine lv_aload_n hx hb dL_law_890 rfl (lv_at hl 2 rfl) ?_
  refine lv_aload_n hx hb dL_law_891 rfl (lv_at hl 0 rfl) ?_
  refine lv_iload_n hx hb dL_law_892 rfl (lv_at hl 3 rfl) ?_
  refine lv_iconst (v := (1 : Int32)) hx hb dL_law_893 (by decide) ?_
  refine lv_iadd hx hb dL_law_894 ?_
  refine gz_sld hx hb hX hbl hG (i + 1) (nI_add i 1) (by omega) (by omega) dL_law_895 ?_
  refine gz_mR (rest := [.int r]) Cm hG rfl [.int (xs (i + 1))] (t_X4_many l (gz_G G (s.heap.size + 50) 13) τ (xs (i + 1)) r f2) lk_L_129 ⟨rfl, rfl, Nat.le_of_ble_eq_true rfl, Nat.le_of_ble_eq_true rfl⟩ ⟨Nat.le_of_ble_eq_true rfl, Nat.le_of_ble_eq_true rfl⟩ hl.1 rfl (Nat.le_of_ble_eq_true rfl) dL_law_896 ?_
  refine lv_icmp_eq (tgt := 904) hx hb dL_law_899 (by decide) (fun _ => ?_) (fun hc => absurd rfl hc)
  exact kk σ τ hR _ _ hG
