theorem zc_to {e : Nat} (he : e < 12) : ∀ (r b F : Nat) (σ : gx_St), b + r = 4 → r < F → ∃ σ', fL_X3_takeOut_36 F σ (nI e) (nI b) = some σ' ∧ (∀ i, b ≤ i → i < 4 → σ' (8 + 3 * e + 2) i = 0) ∧ ∀ k i, ¬ (k = 8 + 3 * e + 2 ∧ b ≤ i ∧ i < 4) → σ' k i = σ k i := by
  intro r
  induction r with
  | zero =>
    intro b F σ hb hF
    have hb : b = 4 := by omega
    subst hb
    obtain ⟨F, rfl⟩ : ∃ F', F = F' + 1 := ⟨F - 1, by omega⟩
    refine ⟨σ, ?_, fun i h1 h2 => by omega, fun k i _ => rfl⟩
    rw [fL_X3_takeOut_36]
    simp only [zi_4e, if_true]
  | succ r ih =>
    intro b F σ hb hF
    obtain ⟨F, rfl⟩ : ∃ F', F = F' + 1 := ⟨F - 1, by omega⟩
    have hb4 : b < 4 := by omega
    obtain ⟨σ', q1, q2, q3⟩ := ih (b + 1) F (gx_w2 σ (8 + 3 * e + 2) b 0) (by omega) (by omega)
    refine ⟨σ', ?_, fun i h1 h2 => ?_, fun k i hki => ?_⟩
    · rw [fL_X3_takeOut_36]
      simp only [zi_4 hb4, if_false, zi_cl (show b < 2 ^ 31 by omega), zi_cl (show e < 2 ^ 31 by omega), zi_ck hb4 (by decide), gx_lt, zi_s, q1]
    · rcases Nat.eq_or_lt_of_le h1 with z | z
      · subst z
        rw [q3 _ _ (by omega), zi_we]
      · exact q2 i z h2
    · rw [q3 k i (by omega), zi_w2, if_neg (by omega)]
theorem zm_go {e : Nat} (he : e < 12) : ∀ (r b F : Nat) (σ : gx_St), b + r = 4 → r < F → ∃ σ', fL_X4_goes_30 F σ (nI e) (nI b) = some σ' ∧ (∀ i, b ≤ i → i < 4 → σ' 12 (12 * i + e) = 0) ∧ ∀ k i, ¬ (k = 12 ∧ ∃ b', b ≤ b' ∧ b' < 4 ∧ i = 12 * b' + e) → σ' k i = σ k i := by
  intro r
  induction r with
  | zero =>
    intro b F σ hb hF
    have hb : b = 4 := by omega
    subst hb
    obtain ⟨F, rfl⟩ : ∃ F', F = F' + 1 := ⟨F - 1, by omega⟩
    refine ⟨σ, ?_, fun i h1 h2 => by omega, fun k i _ => rfl⟩
    rw [fL_X4_goes_30]
    simp only [zi_4e, if_true]
  | succ r ih =>
    intro b F σ hb hF
    obtain ⟨F, rfl⟩ : ∃ F', F = F' + 1 := ⟨F - 1, by omega⟩
    have hb4 : b < 4 := by omega
    obtain ⟨σ', q1, q2, q3⟩ := ih (b + 1) F (gx_w2 σ 12 (12 * b + e) 0) (by omega) (by omega)
    have i1 : ((12 : Int32) * nI b + nI e).toNatClampNeg = 12 * b + e := by rw [zi_ix, zi_cl (by omega)]
    have i2 : ((12 : Int32) * nI b + nI e < 0 ∨ 48 ≤ 12 * b + e) = False := by rw [zi_ix]; exact zi_ck (by omega) (by decide)
    refine ⟨σ', ?_, fun i h1 h2 => ?_, fun k i hki => ?_⟩
    · rw [fL_X4_goes_30]
      simp only [zi_4 hb4, if_false, i1, i2, gx_lt, zi_s, q1]
    · rcases Nat.eq_or_lt_of_le h1 with z | z
      · subst z
        rw [q3 _ _ (by rintro ⟨-, b', h3, h4, h5⟩; omega), zi_we]
      · exact q2 i z h2
    · rw [q3 k i (by rintro ⟨h0, b', h3, h4, h5⟩; exact hki ⟨h0, b', by omega, h4, h5⟩), zi_w2, if_neg (by rintro ⟨h0, h5⟩; exact hki ⟨h0, b, Nat.le_refl _, hb4, h5⟩)]
/-- an EFFECT is LOADED no more -/
theorem zR_out {n T K w h M : Nat} {c m : gx_St} (hR : zR n T K w h M c m) {e : Nat} (he : e < n) : ∃ c' m', f_X3_takeOut c (nI e) = some c' ∧ f_X4_goes m (nI e) = some m' ∧ zR n T K w h M c' m' ∧ c' (8 + 3 * e) 7 = -9 ∧ (∀ e', ¬ e' = e → c' (8 + 3 * e') 7 = c (8 + 3 * e') 7) ∧ (∀ k, k < 6 → m' 10 k = if m 10 k = nI e then -9 else m 10 k) ∧ (∀ j, m' 8 j = m 8 j) ∧ ∀ j, c' (8 + 3 * e + 1) j = c (8 + 3 * e + 1) j := by
  obtain ⟨hA, hB, hC, hD, hE⟩ := id hR
  have hn := hA.1.1
  have hK := hA.2.2.1.2.1
  have he12 : e < 12 := by omega
  have hke := zi_cl (k := e) (by omega)
  have hce := zi_ck (k := e) (N := 12) he12 (by decide)
  have hso := zm_slot hB hn hK he12
  obtain ⟨c0, m0, k0c, hc0, hm0⟩ : ∃ c0 m0 : gx_St, ((∀ k, k < 6 → c0 2 k = if m 10 k = nI e then -9 else c 2 k) ∧ (∀ k j, ¬ k = 2 → c0 k j = c k j) ∧ (∀ k, k < 6 → m0 10 k = if m 10 k = nI e then -9 else m 10 k) ∧ ∀ k j, ¬ k = 10 → m0 k j = m k j) ∧ f_X3_takeOut c (nI e) = fL_X3_takeOut_36 5 (gx_w2 (gx_w2 c0 (8 + 3 * e) 7 (-9)) (8 + 3 * e) 8 (-9)) (nI e) 0 ∧ f_X4_goes m (nI e) = fL_X4_goes_30 5 (gx_w2 m0 9 e (-9)) (nI e) 0 := by
    rcases hB.2.2 e he12 with q | ⟨k, q1, q2, q3⟩
    · have nk : ∀ k, k < 6 → ¬ m 10 k = nI e := by
        intro k hk z
        rcases hB.2.1 k hk with z1 | ⟨e', z1, z2, z3⟩
        · exact zi_n9 (show e < 2 ^ 31 by omega) (z.symm.trans z1)
        · have z4 := nI_inj (by omega) (by omega) (z.symm.trans z2)
          subst z4
          exact zi_n9 (show k < 2 ^ 31 by omega) (z3.symm.trans q)
      have m9 : ((-9 : Int32) < 0) = True := eq_true (by decide)
      refine ⟨c, m, ⟨fun k hk => by rw [if_neg (nk k hk)], fun _ _ _ => rfl, fun k hk => by rw [if_neg (nk k hk)], fun _ _ _ => rfl⟩, ?_, ?_⟩
      · simp only [f_X3_takeOut, hke, gx_lt, q, m9, if_true]
      · rw [q] at hso
        simp only [f_X4_goes, hso, Option.bind_some, if_true, hke, hce, if_false, gx_lt]
    · have hk6 : k < 6 := by omega
      have hkk := zi_cl (k := k) (by omega)
      have uk : ∀ k', k' < 6 → (m 10 k' = nI e ↔ k' = k) := by
        intro k' hk'
        refine ⟨fun z => ?_, fun z => by rw [z]; exact q3⟩
        rcases hB.2.1 k' hk' with z1 | ⟨e', z1, z2, z3⟩
        · exact absurd (z.symm.trans z1) (zi_n9 (by omega))
        · have z4 := nI_inj (by omega) (by omega) (z.symm.trans z2)
          subst z4
          exact nI_inj (by omega) (by omega) (z3.symm.trans q2)
      refine ⟨gx_w2 c 2 k (-9), gx_w2 m 10 k (-9), ⟨fun k' hk' => ?_, fun k' j hk' => zi_wk hk', fun k' hk' => ?_, fun k' j hk' => zi_wk hk'⟩, ?_, ?_⟩
      · by_cases z : k' = k
        · rw [if_pos ((uk k' hk').mpr z), z, zi_we]
        · rw [if_neg (fun y => z ((uk k' hk').mp y)), zi_wj z]
      · by_cases z : k' = k
        · rw [if_pos ((uk k' hk').mpr z), z, zi_we]
        · rw [if_neg (fun y => z ((uk k' hk').mp y)), zi_wj z]
      · simp only [f_X3_takeOut, hke, gx_lt, q2, zi_n0 (show k < 2 ^ 31 by omega), if_false, zi_6 hk6, hkk, false_or, zi_nn hk6]
      · rw [q2] at hso
        simp only [f_X4_goes, hso, Option.bind_some, zi_n9 (show k < 2 ^ 31 by omega), if_false, hkk, zi_ck hk6 (by decide), hke, hce, gx_lt]
  obtain ⟨h1, h2, h3, h4⟩ := k0c
  obtain ⟨c', d1, d2, d3⟩ := zc_to he12 4 0 5 (gx_w2 (gx_w2 c0 (8 + 3 * e) 7 (-9)) (8 + 3 * e) 8 (-9)) rfl (by decide)
  obtain ⟨m', g1, g2, g3⟩ := zm_go he12 4 0 5 (gx_w2 m0 9 e (-9)) rfl (by decide)
  have c7 : c' (8 + 3 * e) 7 = -9 := by rw [d3 _ _ (by omega), zi_wj (by decide), zi_we]
  have c8 : c' (8 + 3 * e) 8 = -9 := by rw [d3 _ _ (by omega), zi_we]
  have co : ∀ k j, ¬ k = 2 → ¬ (k = 8 + 3 * e + 2 ∧ j < 4) → ¬ (k = 8 + 3 * e ∧ (j = 7 ∨ j = 8)) → c' k j = c k j := by
    intro k j q1 q2 q3
    rw [d3 _ _ (by omega), zi_w2, if_neg (by omega), zi_w2, if_neg (by omega), h2 _ _ q1]
  have mo : ∀ k j, ¬ k = 10 → ¬ (k = 9 ∧ j = e) → ¬ (k = 12 ∧ ∃ b, b < 4 ∧ j = 12 * b + e) → m' k j = m k j := by
    intro k j q1 q2 q3
    rw [g3 _ _ (by rintro ⟨z1, b', -, z2, z3⟩; exact q3 ⟨z1, b', z2, z3⟩), zi_w2, if_neg q2, h4 _ _ q1]
  have c2 : ∀ k, k < 6 → c' 2 k = if m 10 k = nI e then -9 else c 2 k := by
    intro k hk
    rw [d3 _ _ (by omega), zi_wk (by omega), zi_wk (by omega), h1 k hk]
  have m10 : ∀ k, k < 6 → m' 10 k = if m 10 k = nI e then -9 else m 10 k := by
    intro k hk
    rw [g3 _ _ (by rintro ⟨z1, -⟩; omega), zi_wk (by decide), h3 k hk]
  have c7o : ∀ e', ¬ e' = e → c' (8 + 3 * e') 7 = c (8 + 3 * e') 7 := fun e' he' => co _ _ (by omega) (by omega) (by omega)
  have m9e : m' 9 e = -9 := by rw [g3 _ _ (by rintro ⟨z1, -⟩; omega), zi_we]
  refine ⟨c', m', hc0.trans d1, hm0.trans g1, ⟨?_, ⟨fun k hk => ?_, fun k hk => ?_, fun e' he' => ?_⟩, ⟨fun e' he' => ?_, fun e' he' => ⟨fun j hj => ?_, ?_⟩, fun e' he' => ⟨fun j hj => ?_, ?_⟩, fun e' he' => ?_, fun e' he' => ?_⟩, ⟨fun b hb => ?_, fun b e' hb he' => ?_⟩, ?_⟩, c7, c7o, m10, fun j => mo _ _ (by decide) (by omega) (by rintro ⟨z, -⟩; omega), fun j => co _ _ (by omega) (by omega) (by omega)⟩
  · unfold zA
    have cz : ∀ j, c' 0 j = c 0 j := fun j => co _ _ (by omega) (by omega) (by omega)
    have mz : ∀ j, m' 0 j = m 0 j := fun j => mo _ _ (by omega) (by omega) (by rintro ⟨z, -⟩; omega)
    have m11 : ∀ j, m' 11 j = m 11 j := fun j => mo _ _ (by omega) (by omega) (by rintro ⟨z, -⟩; omega)
    simp only [cz, mz, m11]
    exact hA
  · rw [c2 k hk, m10 k hk, hB.1 k hk]
  · rw [m10 k hk]
    by_cases z : m 10 k = nI e
    · exact Or.inl (if_pos z)
    · rw [if_neg z]
      rcases hB.2.1 k hk with q | ⟨e', q1, q2, q3⟩
      · exact Or.inl q
      · exact Or.inr ⟨e', q1, q2, by rw [c7o e' (fun y => z (by rw [q2, y]))]; exact q3⟩
  · by_cases z : e' = e
    · subst z
      exact Or.inl c7
    · rw [c7o e' z]
      rcases hB.2.2 e' he' with q | ⟨k, q1, q2, q3⟩
      · exact Or.inl q
      · refine Or.inr ⟨k, q1, q2, ?_⟩
        rw [m10 k (by omega), if_neg, q3]
        intro y
        exact z (nI_inj (by omega) (by omega) (q3.symm.trans y))
  · rw [co _ _ (by omega) (by omega) (by omega)]
    exact hC.1 e' he'
  · rw [co _ _ (by omega) (by omega) (by omega), mo _ _ (by omega) (by omega) (by rintro ⟨z, -⟩; omega)]
    exact (hC.2.1 e' he').1 j hj
  · rw [mo 3 _ (by omega) (by omega) (by rintro ⟨z, -⟩; omega), mo 4 _ (by omega) (by omega) (by rintro ⟨z, -⟩; omega), mo 5 _ (by omega) (by omega) (by rintro ⟨z, -⟩; omega), mo 6 _ (by omega) (by omega) (by rintro ⟨z, -⟩; omega), mo 7 _ (by omega) (by omega) (by rintro ⟨z, -⟩; omega)]
    exact (hC.2.1 e' he').2
  · rw [co _ _ (by omega) (by omega) (by omega), mo _ _ (by omega) (by omega) (by rintro ⟨z, -⟩; omega)]
    exact (hC.2.2.1 e' he').1 j hj
  · exact zNu_c (fun j hj => (mo _ _ (by omega) (by omega) (by rintro ⟨z, -⟩; omega)).symm) (hC.2.2.1 e' he').2
  · by_cases z : e' = e
    · subst z
      rw [c8, m9e]
    · rw [co _ _ (by omega) (by omega) (by omega), mo _ _ (by omega) (by omega) (by rintro ⟨z, -⟩; omega)]
      exact hC.2.2.2.1 e' he'
  · by_cases z : e' = e
    · subst z
      exact Or.inl c8
    · rw [co _ 8 (by omega) (by omega) (by omega), c7o e' z]
      exact hC.2.2.2.2 e' he'
  · rw [co _ _ (by omega) (by omega) (by omega), co _ _ (by omega) (by omega) (by omega), mo _ _ (by omega) (by omega) (by rintro ⟨z, -⟩; omega)]
    exact hD.1 b hb
  · by_cases z : e' = e
    · subst z
      rw [d2 b (by omega) hb, g2 b (by omega) hb]
      exact ⟨rfl, 0, by omega, rfl, fun y => absurd y (Nat.lt_irrefl 0)⟩
    · rw [co _ _ (by omega) (by omega) (by omega), mo 12 _ (by omega) (by omega) (by rintro ⟨-, b', z2, z3⟩; omega), mo 11 _ (by omega) (by omega) (by rintro ⟨z, -⟩; omega), c7o e' z]
      exact hD.2 b e' hb he'
  · exact zE_f (fun b j _ => co _ _ (by omega) (by omega) (by omega)) (fun k => mo _ _ (by omega) (by omega) (by rintro ⟨z, -⟩; omega)) (fun k => mo _ _ (by omega) (by omega) (by rintro ⟨z, -⟩; omega)) hE
theorem zz_unload {c m : gx_St} (h : zz_R c m) (a1 : Int32) : ∃ (r : Int32) (c' m' : gx_St), f_X3_unload c a1 = some (r, c') ∧ f_X4_unload m a1 = some (r, m') ∧ zz_R c' m' := by
  obtain ⟨n, T, K, w, h, M, hR⟩ := id h
  obtain ⟨hA, hB, hC, hD, hE⟩ := id hR
  rcases zs_isE hA a1 with ⟨h1, h2⟩ | ⟨e, he, rfl, h1, h2⟩
  · exact ⟨-1, c, m, by simp [f_X3_unload, h1], by simp [f_X4_unload, h2], ‹zz_R c m›⟩
  · have hn := hA.1.1
    have hke := zi_cl (k := e) (by omega)
    have hce := zi_ck (k := e) (N := 12) (by omega) (by decide)
    have hso := zm_slot hB hn hA.2.2.1.2.1 (show e < 12 by omega)
    by_cases q : c (8 + 3 * e) 7 = -9
    · exact ⟨-3, c, m, by simp only [f_X3_unload, h1, Option.bind_some, zi_10, if_false, hke, hce, gx_lt, q, if_true], by simp only [f_X4_unload, h2, Option.bind_some, zi_10, if_false, hso, q, if_true], ‹zz_R c m›⟩
    · obtain ⟨c', m', q1, q2, q3, -⟩ := zR_out hR he
      exact ⟨c (8 + 3 * e) 7, c', m', by simp only [f_X3_unload, h1, Option.bind_some, zi_10, if_false, hke, hce, gx_lt, q, q1], by simp only [f_X4_unload, h2, Option.bind_some, zi_10, if_false, hso, q, q2], n, T, K, w, h, M, q3⟩
theorem zz_drop {c m : gx_St} (h : zz_R c m) : ∃ (r : Int32) (c' m' : gx_St), f_X3_drop c = some (r, c') ∧ f_X4_drop m = some (r, m') ∧ zz_R c' m' := by
  obtain ⟨n, T, K, w, h, M, hR⟩ := id h
  obtain ⟨hA, hB, hC, hD, hE⟩ := id hR
  rcases Nat.eq_zero_or_pos n with z | z
  · subst z
    have q1 : ((1 : Int32) ≤ nI 0) = False := eq_false (by decide)
    have q2 : (nI 0 = 0) = True := eq_true rfl
    exact ⟨-3, c, m, by simp only [f_X3_drop, hA.1.2.1, q1, if_false], by simp only [f_X4_drop, hA.1.2.2, q2, if_true], ‹zz_R c m›⟩
  · obtain ⟨e, rfl⟩ : ∃ e, n = e + 1 := ⟨n - 1, by omega⟩
    have hn := hA.1.1
    have q1 : ((1 : Int32) ≤ nI (e + 1)) = True := eq_true (nI_le (a := 1) (by omega) (by omega))
    have q2 : (nI (e + 1) = 0) = False := eq_false (nI_ne0 (by omega) (by omega))
    have hke := zi_cl (k := e) (by omega)
    have hce := zi_ck (k := e) (N := 12) (by omega) (by decide)
    obtain ⟨c1, m1, g1, g2, ⟨gA, gB, gC, gD, gE⟩, g7, -⟩ := zR_out hR (e := e) (by omega)
    have c1n := gA.1.2.1
    have m1n := gA.1.2.2
    refine ⟨nI e, gx_w2 c1 0 1 (nI e), gx_w2 m1 0 4 (nI e), ?_, ?_, e, T, K, w, h, M, ⟨⟨by omega, zi_we _ _ _ _, zi_we _ _ _ _⟩, gA.2⟩, zF_0 (by omega) (fun _ _ => zi_wk) (fun _ _ => zi_wk) ⟨⟨gB.1, fun k hk => ?_, gB.2.2⟩, ⟨gC.1, fun e' he' => gC.2.1 e' (by omega), fun e' he' => gC.2.2.1 e' (by omega), fun e' he' => gC.2.2.2.1 e' (by omega), gC.2.2.2.2⟩, gD, gE⟩⟩
    · simp only [f_X3_drop, hA.1.2.1, q1, if_true, nI_pred, hke, hce, if_false, g1, Option.bind_some, gx_lt, c1n, zi_we]
    · simp only [f_X4_drop, hA.1.2.2, q2, if_false, nI_pred, g2, Option.bind_some, gx_lt, m1n, zi_we]
    · rcases gB.2.1 k hk with q | ⟨e', q3, q4, q5⟩
      · exact Or.inl q
      · refine Or.inr ⟨e', ?_, q4, q5⟩
        rcases Nat.lt_or_ge e' e with y | y
        · exact y
        · have y : e' = e := by omega
          subst y
          exact absurd (q5.symm.trans g7) (zi_n9 (by omega))
