def zfr (σ c : gx_St) : Prop := ∀ k j, ¬ (j = 8 ∧ ∃ e, e < 12 ∧ k = 8 + 3 * e) → σ k j = c k j
theorem zfr_t {a b c : gx_St} (h1 : zfr a b) (h2 : zfr b c) : zfr a c := fun k j q => (h1 k j q).trans (h2 k j q)
theorem zfr_w {σ : gx_St} {e : Nat} (he : e < 12) (v : Int32) : zfr (gx_w2 σ (8 + 3 * e) 8 v) σ := fun k j q => by
  rw [zi_w2, if_neg]
  rintro ⟨q1, q2⟩
  exact q ⟨q2, e, he, q1⟩
theorem zc_stc {σ c : gx_St} (hf : zfr σ c) {e : Nat} (he : e < 12) (t : Int32) : ∀ (F : Nat) (v b : Int32), fL_X3_startBy_8 F σ (nI e) t v b = fL_X3_startBy_8 F c (nI e) t v b := by
  have hke := zi_cl (k := e) (by omega)
  intro F
  induction F with
  | zero => intro v b; rfl
  | succ F ih =>
    intro v b
    have h1 : ∀ j, σ (8 + 3 * e + 2) j = c (8 + 3 * e + 2) j := fun j => hf _ _ (by rintro ⟨-, e', -, q⟩; omega)
    have h2 : ∀ k, σ (46 + 1 * k) 1 = c (46 + 1 * k) 1 := fun k => hf _ _ (by rintro ⟨q, -⟩; omega)
    have h3 : σ 0 7 = c 0 7 := hf _ _ (by rintro ⟨q, -⟩; omega)
    rw [fL_X3_startBy_8, fL_X3_startBy_8]
    simp only [hke, h1, h2, h3, gx_lt, ih]
theorem zm_stc {σ m : gx_St} (hf : ∀ i j, ¬ i = 9 → σ i j = m i j) (e t : Int32) : ∀ (F : Nat) (v b : Int32), fL_X4_startAt_6 F σ e t v b = fL_X4_startAt_6 F m e t v b := by
  intro F
  induction F with
  | zero => intro v b; rfl
  | succ F ih =>
    intro v b
    have h1 : ∀ j, σ 12 j = m 12 j := fun j => hf _ _ (by omega)
    have h2 : ∀ j, σ 11 j = m 11 j := fun j => hf _ _ (by omega)
    have h3 : σ 0 0 = m 0 0 := hf _ _ (by omega)
    rw [fL_X4_startAt_6, fL_X4_startAt_6]
    simp only [h1, h2, h3, gx_lt, ih]
/-- two SLOTS don't have the same EFFECT -/
theorem zB_u {n K : Nat} {c m : gx_St} (hB : zB n K c m) (hn : n ≤ 12) {e k k' : Nat} (hk : k < 6) (hk' : k' < 6) (he : e < 12) (h1 : m 10 k = nI e) (h2 : m 10 k' = nI e) : k = k' := by
  rcases hB.2.1 k hk with q | ⟨e1, q1, q2, q3⟩
  · exact absurd (h1.symm.trans q) (zi_n9 (by omega))
  · rcases hB.2.1 k' hk' with y | ⟨e2, y1, y2, y3⟩
    · exact absurd (h2.symm.trans y) (zi_n9 (by omega))
    · have z1 := nI_inj (by omega) (by omega) (h1.symm.trans q2)
      have z2 := nI_inj (by omega) (by omega) (h2.symm.trans y2)
      subst z1
      subst z2
      exact nI_inj (by omega) (by omega) (q3.symm.trans y3)
theorem zc_ba {n T K w h M : Nat} {c m : gx_St} (hR : zR n T K w h M c m) {τ : Nat} (hτ : T ≤ τ) (hτ2 : τ ≤ 20000000) : ∀ (r k F : Nat) (σ : gx_St), k + r = 6 → r < F → zfr σ c → (∀ e k', e < n → k ≤ k' → k' < 6 → m 10 k' = nI e → σ (8 + 3 * e) 8 = m 9 e) → ∃ σ', fL_X3_beginAgainUpTo_2 F σ (nI τ) (nI k) = some σ' ∧ zfr σ' σ ∧ (∀ e k', e < n → k ≤ k' → k' < 6 → m 10 k' = nI e → σ' (8 + 3 * e) 8 = zst m e (m 9 e) (nI τ)) ∧ (∀ e, e < 12 → (∀ k', k ≤ k' → k' < 6 → ¬ m 10 k' = nI e) → σ' (8 + 3 * e) 8 = σ (8 + 3 * e) 8) := by
  obtain ⟨hA, hB, hC, hD, hE⟩ := id hR
  have hn := hA.1.1
  intro r
  induction r with
  | zero =>
    intro k F σ hk hF _ _
    have hk : k = 6 := by omega
    subst hk
    obtain ⟨F, rfl⟩ : ∃ F', F = F' + 1 := ⟨F - 1, by omega⟩
    refine ⟨σ, ?_, fun _ _ _ => rfl, fun e k' _ q1 q2 => by omega, fun _ _ _ => rfl⟩
    rw [fL_X3_beginAgainUpTo_2]
    simp only [zi_6e, if_true]
  | succ r ih =>
    intro k F σ hk hF hf hs
    obtain ⟨F, rfl⟩ : ∃ F', F = F' + 1 := ⟨F - 1, by omega⟩
    have hk6 : k < 6 := by omega
    have s2 : ∀ j, σ 2 j = c 2 j := fun j => hf _ _ (by rintro ⟨-, e', -, q⟩; omega)
    rw [fL_X3_beginAgainUpTo_2]
    simp only [zi_6 hk6, if_false, zi_cl (show k < 2 ^ 31 by omega), zi_ck hk6 (by decide), gx_lt, zi_s, s2, hB.1 k hk6]
    rcases hB.2.1 k hk6 with q | ⟨e, q1, q2, -⟩
    · simp only [q, if_true]
      obtain ⟨σ', g1, g2, g3, g4⟩ := ih (k + 1) F σ (by omega) (by omega) hf (fun e k' y0 y1 y2 y3 => hs e k' y0 (by omega) y2 y3)
      refine ⟨σ', g1, g2, fun e k' y0 y1 y2 y3 => ?_, fun e y0 y1 => g4 e y0 (fun k' z1 z2 => y1 k' (by omega) z2)⟩
      rcases Nat.eq_or_lt_of_le y1 with z | z
      · subst z
        exact absurd (y3.symm.trans q) (zi_n9 (by omega))
      · exact g3 e k' y0 z y2 y3
    · have st := (zs_st hR q1 hτ hτ2).1
      have st2 : f_X3_startBy σ (nI e) (nI τ) = some (zst m e (m 9 e) (nI τ)) := by
        rw [← st, f_X3_startBy, f_X3_startBy, zi_cl (show e < 2 ^ 31 by omega), hs e k q1 (Nat.le_refl _) hk6 q2, hC.2.2.2.1 e q1, gx_lt, gx_lt]
        exact zc_stc hf (by omega) _ _ _ _
      simp only [q2, zi_n9 (show e < 2 ^ 31 by omega), if_false, zi_cl (show e < 2 ^ 31 by omega), zi_nn (show e < 12 by omega), st2, Option.bind_some]
      have fw := zfr_w (σ := σ) (show e < 12 by omega) (zst m e (m 9 e) (nI τ))
      obtain ⟨σ', g1, g2, g3, g4⟩ := ih (k + 1) F _ (by omega) (by omega) (zfr_t fw hf) (fun e' k' y0 y1 y2 y3 => by
        have y4 : ¬ e' = e := fun z => by
          subst z
          have := zB_u hB hn hk6 y2 (by omega) q2 y3
          omega
        rw [zi_wk (by omega)]
        exact hs e' k' y0 (by omega) y2 y3)
      refine ⟨σ', g1, zfr_t g2 fw, fun e' k' y0 y1 y2 y3 => ?_, fun e' y0 y1 => ?_⟩
      · rcases Nat.eq_or_lt_of_le y1 with z | z
        · subst z
          have y4 := nI_inj (by omega) (by omega) (y3.symm.trans q2)
          subst y4
          rw [g4 e' (by omega) (fun k' z1 z2 z3 => by
            have := zB_u hB hn hk6 z2 (by omega) q2 z3
            omega), zi_we]
        · exact g3 e' k' y0 z y2 y3
      · rw [g4 e' y0 (fun k' z1 z2 => y1 k' (by omega) z2), zi_wk]
        intro z
        have z1 : e' = e := by omega
        subst z1
        exact y1 k (Nat.le_refl _) hk6 q2
theorem zs_ba {n T K w h M : Nat} {c m : gx_St} (hR : zR n T K w h M c m) {τ : Nat} (hτ : T ≤ τ) (hτ2 : τ ≤ 20000000) : ∃ σ, f_X3_beginAgainUpTo c (nI τ) = some σ ∧ zfr σ c ∧ (∀ e, e < n → σ (8 + 3 * e) 8 = zst m e (m 9 e) (nI τ)) ∧ (∀ e, e < 12 → ¬ e < n → σ (8 + 3 * e) 8 = c (8 + 3 * e) 8) := by
  obtain ⟨hA, hB, hC, hD, hE⟩ := id hR
  have hn := hA.1.1
  have hK := hA.2.2.1.2.1
  obtain ⟨σ, g1, g2, g3, g4⟩ := zc_ba hR hτ hτ2 6 0 7 c rfl (by decide) (fun _ _ _ => rfl) (fun e k' y0 _ _ _ => hC.2.2.2.1 e y0)
  refine ⟨σ, g1, g2, fun e he => ?_, fun e he1 he2 => ?_⟩
  · rcases hB.2.2 e (by omega) with q | ⟨k, q1, q2, q3⟩
    · rw [g4 e (by omega) (fun k' z1 z2 z3 => by
        rcases hB.2.1 k' z2 with y | ⟨e', y1, y2, y3⟩
        · exact zi_n9 (show e < 2 ^ 31 by omega) (z3.symm.trans y)
        · have y4 := nI_inj (by omega) (by omega) (z3.symm.trans y2)
          subst y4
          exact zi_n9 (show k' < 2 ^ 31 by omega) (y3.symm.trans q)), hC.2.2.2.1 e he]
      rcases (zs_st hR he hτ hτ2).2.2.2.2 with y | y
      · exact y.symm
      · exact absurd q y
    · exact g3 e k he (by omega) (by omega) q3
  · refine g4 e he1 (fun k' z1 z2 z3 => ?_)
    rcases hB.2.1 k' z2 with y | ⟨e', y1, y2, y3⟩
    · exact zi_n9 (show e < 2 ^ 31 by omega) (z3.symm.trans y)
    · have y4 := nI_inj (by omega) (by omega) (z3.symm.trans y2)
      omega
theorem zm_ps {n T K w h M : Nat} {c m : gx_St} (hR : zR n T K w h M c m) {τ : Nat} (hτ : T ≤ τ) (hτ2 : τ ≤ 20000000) : ∀ (r k F : Nat) (σ : gx_St), k + r = n → r < F → (∀ i j, ¬ i = 9 → σ i j = m i j) → (∀ e, k ≤ e → σ 9 e = m 9 e) → ∃ σ', fL_X4_pass_60 F σ (nI τ) (nI k) = ((f_X4_manyPlay (gx_w2 σ' 0 0 (nI τ))).bind fun r9 => some (r9, gx_w2 σ' 0 0 (nI τ))) ∧ (∀ i j, ¬ i = 9 → σ' i j = m i j) ∧ (∀ e, k ≤ e → e < n → σ' 9 e = zst m e (m 9 e) (nI τ)) ∧ (∀ e, ¬ (k ≤ e ∧ e < n) → σ' 9 e = σ 9 e) := by
  obtain ⟨hA, hB, hC, hD, hE⟩ := id hR
  have hn := hA.1.1
  intro r
  induction r with
  | zero =>
    intro k F σ hk hF hf hs
    have hk : k = n := by omega
    subst hk
    obtain ⟨F, rfl⟩ : ∃ F', F = F' + 1 := ⟨F - 1, by omega⟩
    refine ⟨σ, ?_, hf, fun e q1 q2 => by omega, fun e _ => rfl⟩
    rw [fL_X4_pass_60]
    have e4 : σ 0 4 = nI k := (hf _ _ (by omega)).trans hA.1.2.2
    simp only [e4, zi_lee, if_true, gx_lt]
  | succ r ih =>
    intro k F σ hk hF hf hs
    obtain ⟨F, rfl⟩ : ∃ F', F = F' + 1 := ⟨F - 1, by omega⟩
    have hkn : k < n := by omega
    have e4 : σ 0 4 = nI n := (hf _ _ (by omega)).trans hA.1.2.2
    have st : f_X4_startAt σ (nI k) (m 9 k) (nI τ) = some (zst m k (m 9 k) (nI τ)) := by
      rw [← (zs_st hR hkn hτ hτ2).2.1, f_X4_startAt, f_X4_startAt]
      exact zm_stc hf _ _ _ _ _
    obtain ⟨σ', g1, g2, g3, g4⟩ := ih (k + 1) F (gx_w2 σ 9 k (zst m k (m 9 k) (nI τ))) (by omega) (by omega) (fun i j q => (zi_wk q).trans (hf i j q)) (fun e he => (zi_wj (by omega)).trans (hs e (by omega)))
    refine ⟨σ', ?_, g2, fun e q1 q2 => ?_, fun e q => ?_⟩
    · rw [fL_X4_pass_60, ← g1]
      simp only [e4, zi_le hkn (show n < 2 ^ 31 by omega), if_false, zi_cl (show k < 2 ^ 31 by omega), zi_ck (show k < 12 by omega) (by decide), hs k (Nat.le_refl _), st, Option.bind_some, gx_lt, zi_s]
    · rcases Nat.eq_or_lt_of_le q1 with z | z
      · subst z
        rw [g4 k (by omega), zi_we]
      · exact g3 e z q2
    · rw [g4 e (by omega), zi_wj (by omega)]
/-- the STARTS change, and the CLOCK goes on -/
theorem zR_st {n T T' K w h M : Nat} {c m c' m' : gx_St} (hR : zR n T K w h M c m) (hTT : T ≤ T') (hc : ∀ i j, ¬ i = 0 → ¬ (j = 8 ∧ ∃ e, e < 12 ∧ i = 8 + 3 * e) → c' i j = c i j) (hm : ∀ i j, ¬ i = 0 → ¬ i = 9 → m' i j = m i j) (h1 : ∀ e, e < n → c' (8 + 3 * e) 8 = m' 9 e) (h2 : ∀ e, e < n → m' 9 e = -9 ∨ ((∃ S, S ≤ T' ∧ m' 9 e = nI S) ∧ ¬ c (8 + 3 * e) 7 = -9)) (h3 : ∀ e, e < 12 → ¬ e < n → c' (8 + 3 * e) 8 = c (8 + 3 * e) 8) : zB n K c' m' ∧ zC n T' c' m' ∧ zD T' c' m' ∧ zE c' m' := by
  obtain ⟨hA, hB, hC, hD, hE⟩ := id hR
  have hn := hA.1.1
  have c7 : ∀ e j, ¬ j = 8 → c' (8 + 3 * e) j = c (8 + 3 * e) j := fun e j q => hc _ _ (by omega) (by rintro ⟨z, -⟩; exact q z)
  have cn : ∀ e j, c' (8 + 3 * e + 1) j = c (8 + 3 * e + 1) j := fun e j => hc _ _ (by omega) (by rintro ⟨-, e', -, z⟩; omega)
  have cb : ∀ e j, c' (8 + 3 * e + 2) j = c (8 + 3 * e + 2) j := fun e j => hc _ _ (by omega) (by rintro ⟨-, e', -, z⟩; omega)
  have c46 : ∀ b j, c' (46 + 1 * b) j = c (46 + 1 * b) j := fun b j => hc _ _ (by omega) (by rintro ⟨-, e', z0, z⟩; omega)
  refine ⟨zB_f hn (fun k => hc _ _ (by omega) (by rintro ⟨-, e', -, z⟩; omega)) (fun e _ => c7 e 7 (by omega)) (fun k => hm _ _ (by omega) (by omega)) hB, ⟨fun e he => ?_, fun e he => ⟨fun j hj => ?_, ?_⟩, fun e he => ⟨fun j hj => ?_, ?_⟩, fun e he => h1 e he, fun e he => ?_⟩, ⟨fun b hb => ?_, fun b e hb he => ?_⟩, zE_f (fun a j ha => hc _ _ (by omega) (by rintro ⟨-, e', z0, z⟩; omega)) (fun k => hm _ _ (by omega) (by omega)) (fun k => hm _ _ (by omega) (by omega)) hE⟩
  · rw [c7 e 0 (by omega)]
    exact hC.1 e he
  · rw [c7 e _ (by omega), hm _ _ (by omega) (by omega)]
    exact (hC.2.1 e he).1 j hj
  · rw [hm 3 _ (by omega) (by omega), hm 4 _ (by omega) (by omega), hm 5 _ (by omega) (by omega), hm 6 _ (by omega) (by omega), hm 7 _ (by omega) (by omega)]
    exact (hC.2.1 e he).2
  · rw [cn, hm _ _ (by omega) (by omega)]
    exact (hC.2.2.1 e he).1 j hj
  · exact zNu_c (fun j hj => (hm 8 _ (by omega) (by omega)).symm) (hC.2.2.1 e he).2
  · rw [c7 e 7 (by omega)]
    rcases Nat.lt_or_ge e n with q | q
    · rw [h1 e q]
      exact h2 e q
    · rw [h3 e he (by omega)]
      rcases hC.2.2.2.2 e he with z | ⟨⟨S, z1, z2⟩, z3⟩
      · exact Or.inl z
      · exact Or.inr ⟨⟨S, by omega, z2⟩, z3⟩
  · rw [c46, c46, hm _ _ (by omega) (by omega)]
    rcases hD.1 b hb with z | ⟨z1, P, z2, z3, z4⟩
    · exact Or.inl z
    · exact Or.inr ⟨z1, P, by omega, z3, z4⟩
  · rw [cb, hm 12 _ (by omega) (by omega), hm 11 _ (by omega) (by omega), c7 e 7 (by omega)]
    exact hD.2 b e hb he
/-- the host is lost: the class -/
theorem zc_lh {n T K w h M : Nat} {c m : gx_St} (hR : zR n T K w h M c m) (s : Nat → Int32) (t : Int32) : ∀ (r k F : Nat) (σ : gx_St), k + r = 6 → r < F → (∀ j, σ 2 j = c 2 j) → (∀ e j, e < 12 → σ (8 + 3 * e + 1) j = c (8 + 3 * e + 1) j) → (∀ e, e < n → σ (8 + 3 * e) 8 = s e) → ∃ σ', fL_X3_loseHostAt_7 F σ t (nI k) = fL_X3_loseHostAt_50 5 σ' 0 ∧ zfr σ' σ ∧ (∀ e k', e < n → k ≤ k' → k' < 6 → m 10 k' = nI e → σ' (8 + 3 * e) 8 = if zp_pl (zn m e) (s e) t = 0 then s e else -9) ∧ (∀ e, e < 12 → (∀ k', k ≤ k' → k' < 6 → ¬ m 10 k' = nI e) → σ' (8 + 3 * e) 8 = σ (8 + 3 * e) 8) := by
  obtain ⟨hA, hB, hC, hD, hE⟩ := id hR
  have hn := hA.1.1
  intro r
  induction r generalizing s with
  | zero =>
    intro k F σ hk hF _ _ _
    have hk : k = 6 := by omega
    subst hk
    obtain ⟨F, rfl⟩ : ∃ F', F = F' + 1 := ⟨F - 1, by omega⟩
    refine ⟨σ, ?_, fun _ _ _ => rfl, fun e k' _ q1 q2 => by omega, fun _ _ _ => rfl⟩
    rw [fL_X3_loseHostAt_7]
    simp only [zi_6e, if_true]
  | succ r ih =>
    intro k F σ hk hF s2 s1 hs
    obtain ⟨F, rfl⟩ : ∃ F', F = F' + 1 := ⟨F - 1, by omega⟩
    have hk6 : k < 6 := by omega
    rw [fL_X3_loseHostAt_7]
    simp only [zi_6 hk6, if_false, zi_cl (show k < 2 ^ 31 by omega), zi_ck hk6 (by decide), gx_lt, zi_s, s2, hB.1 k hk6]
    rcases hB.2.1 k hk6 with q | ⟨e, q1, q2, -⟩
    · simp only [q, if_true]
      obtain ⟨σ', g1, g2, g3, g4⟩ := ih s (k + 1) F σ (by omega) (by omega) s2 s1 hs
      refine ⟨σ', g1, g2, fun e k' y0 y1 y2 y3 => ?_, fun e y0 y1 => g4 e y0 (fun k' z1 z2 => y1 k' (by omega) z2)⟩
      rcases Nat.eq_or_lt_of_le y1 with z | z
      · subst z
        exact absurd (y3.symm.trans q) (zi_n9 (by omega))
      · exact g3 e k' y0 z y2 y3
    · have hpl : f_X2_playsAt σ (nI e) (s e) t = some (zp_pl (zn m e) (s e) t) := by
        rw [zc_pl0 (by omega), zp_plc (v := zn m e) (fun j hj => (s1 e j (by omega)).trans ((hC.2.2.1 e q1).1 j hj))]
      simp only [q2, zi_n9 (show e < 2 ^ 31 by omega), if_false, zi_cl (show e < 2 ^ 31 by omega), zi_nn (show e < 12 by omega), hs e q1, hpl, Option.bind_some]
      by_cases p : zp_pl (zn m e) (s e) t = 0
      · simp only [eq_true p, if_true]
        obtain ⟨σ', g1, g2, g3, g4⟩ := ih s (k + 1) F σ (by omega) (by omega) s2 s1 hs
        refine ⟨σ', g1, g2, fun e' k' y0 y1 y2 y3 => ?_, fun e y0 y1 => g4 e y0 (fun k' z1 z2 => y1 k' (by omega) z2)⟩
        rcases Nat.eq_or_lt_of_le y1 with z | z
        · subst z
          have y4 := nI_inj (by omega) (by omega) (y3.symm.trans q2)
          subst y4
          rw [if_pos p, g4 e' (by omega) (fun k' z1 z2 z3 => by
            have := zB_u hB hn hk6 z2 (by omega) q2 z3
            omega)]
          exact hs e' q1
        · exact g3 e' k' y0 z y2 y3
      · simp only [p, if_false]
        have fw := zfr_w (σ := σ) (show e < 12 by omega) (-9)
        obtain ⟨σ', g1, g2, g3, g4⟩ := ih (fun e' => if e' = e then -9 else s e') (k + 1) F (gx_w2 σ (8 + 3 * e) 8 (-9)) (by omega) (by omega) (fun j => (zi_wk (by omega)).trans (s2 j)) (fun e' j he' => (zi_wk (by omega)).trans (s1 e' j he')) (fun e' he' => by
          by_cases z : e' = e
          · subst z
            rw [zi_we, if_pos rfl]
          · rw [zi_wk (by omega), if_neg z]
            exact hs e' he')
        refine ⟨σ', g1, zfr_t g2 fw, fun e' k' y0 y1 y2 y3 => ?_, fun e' y0 y1 => ?_⟩
        · rcases Nat.eq_or_lt_of_le y1 with z | z
          · subst z
            have y4 := nI_inj (by omega) (by omega) (y3.symm.trans q2)
            subst y4
            rw [if_neg p, g4 e' (by omega) (fun k' z1 z2 z3 => by
              have := zB_u hB hn hk6 z2 (by omega) q2 z3
              omega), zi_we]
          · have y5 := g3 e' k' y0 z y2 y3
            have y6 : ¬ e' = e := fun z => by
              subst z
              have := zB_u hB hn hk6 y2 (by omega) q2 y3
              omega
            rw [if_neg y6] at y5
            exact y5
        · rw [g4 e' y0 (fun k' z1 z2 => y1 k' (by omega) z2), zi_wk]
          intro z
          have z1 : e' = e := by omega
          subst z1
          exact y1 k (Nat.le_refl _) hk6 q2
/-- the host is lost: the reference -/
theorem zm_gl {n T K w h M : Nat} {c m : gx_St} (hR : zR n T K w h M c m) {L : Nat} (hτ : T ≤ L) (hτ2 : L ≤ 20000000) : ∀ (r k F : Nat) (σ : gx_St), k + r = n → r < F → (∀ i j, ¬ i = 9 → σ i j = m i j) → (∀ e, k ≤ e → σ 9 e = m 9 e) → ∃ σ', fL_X4_getsLost_2 F σ (nI (L + 1)) (nI k) = fL_X4_getsLost_66 5 σ' 0 ∧ (∀ i j, ¬ i = 9 → σ' i j = m i j) ∧ (∀ e, k ≤ e → e < n → σ' 9 e = if zp_pl (zn m e) (zst m e (m 9 e) (nI L)) (nI (L + 1)) = 0 then zst m e (m 9 e) (nI L) else -9) ∧ (∀ e, ¬ (k ≤ e ∧ e < n) → σ' 9 e = σ 9 e) := by
  obtain ⟨hA, hB, hC, hD, hE⟩ := id hR
  have hn := hA.1.1
  intro r
  induction r with
  | zero =>
    intro k F σ hk hF hf hs
    have hk : k = n := by omega
    subst hk
    obtain ⟨F, rfl⟩ : ∃ F', F = F' + 1 := ⟨F - 1, by omega⟩
    refine ⟨σ, ?_, hf, fun e q1 q2 => by omega, fun e _ => rfl⟩
    rw [fL_X4_getsLost_2]
    have e4 : σ 0 4 = nI k := (hf _ _ (by omega)).trans hA.1.2.2
    simp only [e4, zi_lee, if_true]
  | succ r ih =>
    intro k F σ hk hF hf hs
    obtain ⟨F, rfl⟩ : ∃ F', F = F' + 1 := ⟨F - 1, by omega⟩
    have hkn : k < n := by omega
    have e4 : σ 0 4 = nI n := (hf _ _ (by omega)).trans hA.1.2.2
    have st : f_X4_startAt σ (nI k) (m 9 k) (nI L) = some (zst m k (m 9 k) (nI L)) := by
      rw [← (zs_st hR hkn hτ hτ2).2.1, f_X4_startAt, f_X4_startAt]
      exact zm_stc hf _ _ _ _ _
    have znc : zn σ k = zn m k := funext fun j => hf _ _ (by omega)
    have key : ∀ x, x = (if zp_pl (zn m k) (zst m k (m 9 k) (nI L)) (nI (L + 1)) = 0 then zst m k (m 9 k) (nI L) else -9) → fL_X4_getsLost_2 (F + 1) σ (nI (L + 1)) (nI k) = fL_X4_getsLost_2 F (gx_w2 σ 9 k x) (nI (L + 1)) (nI (k + 1)) → ∃ σ', fL_X4_getsLost_2 (F + 1) σ (nI (L + 1)) (nI k) = fL_X4_getsLost_66 5 σ' 0 ∧ (∀ i j, ¬ i = 9 → σ' i j = m i j) ∧ (∀ e, k ≤ e → e < n → σ' 9 e = if zp_pl (zn m e) (zst m e (m 9 e) (nI L)) (nI (L + 1)) = 0 then zst m e (m 9 e) (nI L) else -9) ∧ (∀ e, ¬ (k ≤ e ∧ e < n) → σ' 9 e = σ 9 e) := by
      intro x hx hf2
      obtain ⟨σ', g1, g2, g3, g4⟩ := ih (k + 1) F (gx_w2 σ 9 k x) (by omega) (by omega) (fun i j q => (zi_wk q).trans (hf i j q)) (fun e he => (zi_wj (by omega)).trans (hs e (by omega)))
      refine ⟨σ', hf2.trans g1, g2, fun e q1 q2 => ?_, fun e q => ?_⟩
      · rcases Nat.eq_or_lt_of_le q1 with z | z
        · subst z
          rw [g4 k (by omega), zi_we]
          exact hx
        · exact g3 e z q2
      · rw [g4 e (by omega), zi_wj (by omega)]
    by_cases p : zp_pl (zn m k) (zst m k (m 9 k) (nI L)) (nI (L + 1)) = 0
    · refine key _ (if_pos p).symm ?_
      rw [fL_X4_getsLost_2]
      simp only [e4, zi_le hkn (show n < 2 ^ 31 by omega), if_false, zi_cl (show k < 2 ^ 31 by omega), zi_ck (show k < 12 by omega) (by decide), hs k (Nat.le_refl _), nI_pred, st, Option.bind_some, zm_pl (show k < 12 by omega), znc, eq_true p, if_true, gx_lt, zi_s]
    · refine key _ (if_neg p).symm ?_
      rw [fL_X4_getsLost_2]
      simp only [e4, zi_le hkn (show n < 2 ^ 31 by omega), if_false, zi_cl (show k < 2 ^ 31 by omega), zi_ck (show k < 12 by omega) (by decide), hs k (Nat.le_refl _), nI_pred, st, Option.bind_some, zm_pl (show k < 12 by omega), znc, p, gx_lt, zi_s]
/-- all BUTTONS come up -/
theorem zs_up4 {n T K : Nat} (hn : n ≤ 12) : ∀ (r b F : Nat) (c m : gx_St), b + r = 4 → r < F → (zB n K c m ∧ zC n T c m ∧ zD T c m ∧ zE c m) → (∀ j, j < b → m 11 j = -9) → ∃ c' m', fL_X3_loseHostAt_50 F c (nI b) = some c' ∧ fL_X4_getsLost_66 F m (nI b) = some (gx_w2 m' 0 18 1) ∧ (zB n K c' m' ∧ zC n T c' m' ∧ zD T c' m' ∧ zE c' m') ∧ (∀ j, c' 0 j = c 0 j) ∧ (∀ j, m' 0 j = m 0 j) ∧ ∀ j, j < 4 → m' 11 j = -9 := by
  intro r
  induction r with
  | zero =>
    intro b F c m hb hF hh h11
    have hb : b = 4 := by omega
    subst hb
    obtain ⟨F, rfl⟩ : ∃ F', F = F' + 1 := ⟨F - 1, by omega⟩
    refine ⟨c, m, ?_, ?_, hh, fun _ => rfl, fun _ => rfl, h11⟩
    · rw [fL_X3_loseHostAt_50]
      simp only [zi_4e, if_true]
    · rw [fL_X4_getsLost_66]
      simp only [zi_4e, if_true, gx_lt]
  | succ r ih =>
    intro b F c m hb hF hh h11
    obtain ⟨F, rfl⟩ : ∃ F', F = F' + 1 := ⟨F - 1, by omega⟩
    obtain ⟨c1, m1, u1, u2, u3, u4, u5, u6, u7, -⟩ := zs_up hn hh (b := b) (by omega)
    obtain ⟨c', m', g1, g2, g3, g4, g5, g6⟩ := ih (b + 1) F c1 m1 (by omega) (by omega) u3 (fun j hj => by
      by_cases z : j = b
      · subst z; exact u6
      · rw [u7 j z]; exact h11 j (by omega))
    refine ⟨c', m', ?_, ?_, g3, fun j => (g4 j).trans (u4 j), fun j => (g5 j).trans (u5 j), g6⟩
    · rw [fL_X3_loseHostAt_50]
      simp only [zi_4 (show b < 4 by omega), if_false, u1, Option.bind_some, gx_lt, zi_s, g1]
    · rw [fL_X4_getsLost_66]
      simp only [zi_4 (show b < 4 by omega), if_false, u2, Option.bind_some, gx_lt, zi_s, g2]
theorem zz_pass {c m : gx_St} (h : zz_R c m) (a1 : Int32) : ∃ (r : Int32) (c' m' : gx_St), f_X3_pass c a1 = some (r, c') ∧ f_X4_pass m a1 = some (r, m') ∧ zz_R c' m' := by
  by_cases hw : a1 < 1 ∨ 100000 < a1
  · exact ⟨-2, c, m, by simp only [f_X3_pass, zi_w, zi_win0 hw, Option.bind_some, if_true], by simp only [f_X4_pass, zi_win0 hw, Option.bind_some, if_true], h⟩
  · obtain ⟨n, T, K, w, h, M, hR⟩ := id h
    obtain ⟨hA, hB, hC, hD, hE⟩ := id hR
    have hT := hA.2.1
    have hn := hA.1.1
    have hK := hA.2.2.1.2.1
    obtain ⟨N, n1, n2, rfl⟩ := zi_1rng (n := 100000) (by decide) hw
    have e1 : c 0 7 + nI N = nI (T + N) := by rw [hT.2.1, nI_add]
    have e2 : m 0 0 + nI N = nI (T + N) := by rw [hT.2.2, nI_add]
    have ele : (nI (T + N) ≤ (10000000 : Int32)) = (T + N ≤ 10000000) := propext (nI_leI (b := 10000000) (by omega) (by decide))
    by_cases q : T + N ≤ 10000000
    · obtain ⟨Lo, l1, l2, l3, l4, l5⟩ := zs_loss hR
      have lm1 : nI Lo - 1 = nI (Lo - 1) := by
        obtain ⟨x, rfl⟩ : ∃ x, Lo = x + 1 := ⟨Lo - 1, by omega⟩
        exact nI_pred x
      by_cases qL : T + N < Lo
      · have hl := (zs_lost hR (τ := T + N) (by omega)).1 (l4 _ (by omega) qL)
        obtain ⟨σ, g1, g2, g3, g4⟩ := zs_ba hR (τ := T + N) (by omega) (by omega)
        obtain ⟨μ, k1, k2, k3, k4⟩ := zm_ps hR (τ := T + N) (by omega) (by omega) n 0 13 m (by omega) (by omega) (fun _ _ _ => rfl) (fun _ _ => rfl)
        obtain ⟨c', ec⟩ : ∃ x, x = gx_w2 σ 0 7 (nI (T + N)) := ⟨_, rfl⟩
        obtain ⟨m', em⟩ : ∃ x, x = gx_w2 μ 0 0 (nI (T + N)) := ⟨_, rfl⟩
        rw [← em] at k1
        have c0 : ∀ j, ¬ j = 7 → c' 0 j = c 0 j := fun j z => by rw [ec, zi_wj z]; exact g2 _ _ (by rintro ⟨-, e', -, y⟩; omega)
        have c07 : c' 0 7 = nI (T + N) := by rw [ec, zi_we]
        have m0 : ∀ j, ¬ j = 0 → m' 0 j = m 0 j := fun j z => by rw [em, zi_wj z]; exact k2 _ _ (by omega)
        have m00 : m' 0 0 = nI (T + N) := by rw [em, zi_we]
        have hR' : zR n (T + N) K w h M c' m' := by
          refine ⟨?_, zR_st hR (by omega) (fun i j z1 z2 => by rw [ec, zi_wk z1]; exact g2 i j z2) (fun i j z1 z2 => by rw [em, zi_wk z1]; exact k2 i j z2) (fun e he => ?_) (fun e he => ?_) (fun e z1 z2 => by rw [ec, zi_wk (by omega)]; exact g4 e z1 z2)⟩
          · unfold zA
            rw [c07, m00, c0 1 (by omega), c0 3 (by omega), c0 5 (by omega), c0 8 (by omega), c0 9 (by omega), c0 10 (by omega), c0 11 (by omega), c0 12 (by omega), m0 4 (by omega), m0 12 (by omega), m0 16 (by omega), m0 17 (by omega), m0 1 (by omega), m0 18 (by omega), m0 19 (by omega), m0 20 (by omega)]
            obtain ⟨k1', k2', k3', k4', k5', k6', k7', k8', k9'⟩ := hA
            refine ⟨k1', ⟨q, rfl, rfl⟩, k3', k4', ⟨by omega, k5'.2⟩, ⟨by omega, k6'.2⟩, k7', k8', ?_⟩
            rcases k9' with ⟨y1, y2, y3⟩ | ⟨y1, y2, y3⟩
            · refine Or.inl ⟨y1, y2, fun z => ?_⟩
              rcases l4 (T + N) (by omega) qL with z1 | z1 | z1
              · rw [y2] at z1; exact absurd z1 (by decide)
              · omega
              · exact z1
            · refine Or.inr ⟨y1, y2, fun b hb => ?_⟩
              rw [em, zi_wk (by omega), k2 _ _ (by omega)]
              exact y3 b hb
          · rw [ec, zi_wk (by omega), em, zi_wk (by omega), g3 e he, k3 e (by omega) he]
          · rw [em, zi_wk (by omega), k3 e (by omega) he]
            have st := (zs_st hR he (τ := T + N) (by omega) (by omega)).2.2
            rcases st.1 with z | z
            · exact Or.inl z
            · by_cases y : c (8 + 3 * e) 7 = -9
              · exact Or.inl (st.2.1 y)
              · exact Or.inr ⟨z, y⟩
        obtain ⟨r, r1, r2⟩ := zs_hmPlay hR'
        refine ⟨r, c', m', ?_, ?_, n, T + N, K, w, h, M, hR'⟩
        · simp only [f_X3_pass, zi_w, zi_win1 hw, Option.bind_some, zi_10, if_false, gx_lt, e1, ele, eq_true q, if_true, l1, lm1]
          rw [if_neg (nI_nlt (show T + N ≤ Lo - 1 by omega) (by omega)), g1]
          simp only [Option.bind_some, ← ec, r1]
          rw [if_pos (nI_lt qL (by omega))]
        · simp only [f_X4_pass, zi_win1 hw, Option.bind_some, zi_10, if_false, gx_lt, e2, ele, eq_true q, if_true, hl]
          rw [r2] at k1
          exact k1
      · have hq : ¬ zlive T w h m (T + N) ∧ Lo = h + w ∧ m 0 18 = 0 := l5 _ (by omega) (by omega)
        have hl := (zs_lost hR (τ := T + N) (by omega)).2 hq.1
        obtain ⟨L, rfl⟩ : ∃ x, Lo = x + 1 := ⟨Lo - 1, by omega⟩
        rw [Nat.add_sub_cancel] at lm1
        obtain ⟨σ, g1, g2, g3, g4⟩ := zs_ba hR (τ := L) (by omega) (by omega)
        obtain ⟨σ9, e9⟩ : ∃ x, x = gx_w2 (gx_w2 σ 0 7 (nI (T + N))) 0 10 1 := ⟨_, rfl⟩
        have s9 : ∀ i j, ¬ i = 0 → σ9 i j = σ i j := fun i j z => by rw [e9, zi_wk z, zi_wk z]
        obtain ⟨σ', v1, v2, v3, v4⟩ := zc_lh hR (fun e => zst m e (m 9 e) (nI L)) (nI (L + 1)) 6 0 7 σ9 rfl (by decide) (fun j => (s9 _ _ (by omega)).trans (g2 _ _ (by rintro ⟨-, e', -, y⟩; omega))) (fun e j he => (s9 _ _ (by omega)).trans (g2 _ _ (by rintro ⟨-, e', -, y⟩; omega))) (fun e he => (s9 _ _ (by omega)).trans (g3 e he))
        obtain ⟨μ, k1, k2, k3, k4⟩ := zm_gl hR (L := L) (by omega) (by omega) n 0 13 m (by omega) (by omega) (fun _ _ _ => rfl) (fun _ _ => rfl)
        have unl : ∀ e, e < 12 → (c (8 + 3 * e) 7 = -9 ∨ ¬ e < n) → ∀ k', 0 ≤ k' → k' < 6 → ¬ m 10 k' = nI e := fun e he hz k' _ z2 z3 => by
          rcases hB.2.1 k' z2 with y | ⟨e', y1, y2, y3⟩
          · exact zi_n9 (show e < 2 ^ 31 by omega) (z3.symm.trans y)
          · have y4 := nI_inj (by omega) (by omega) (z3.symm.trans y2)
            subst y4
            rcases hz with hz | hz
            · exact zi_n9 (show k' < 2 ^ 31 by omega) (y3.symm.trans hz)
            · exact hz y1
        have hst : ∀ e, e < n → μ 9 e = -9 ∨ ((∃ S, S ≤ T + N ∧ μ 9 e = nI S) ∧ ¬ c (8 + 3 * e) 7 = -9) := fun e he => by
          rw [k3 e (by omega) he]
          split
          · have st := (zs_st hR he (τ := L) (by omega) (by omega)).2.2
            rcases st.1 with z | ⟨S, z1, z2⟩
            · exact Or.inl z
            · by_cases y : c (8 + 3 * e) 7 = -9
              · exact Or.inl (st.2.1 y)
              · exact Or.inr ⟨⟨S, by omega, z2⟩, y⟩
          · exact Or.inl rfl
        have hBE : zB n K σ' μ ∧ zC n (T + N) σ' μ ∧ zD (T + N) σ' μ ∧ zE σ' μ := by
          refine zR_st hR (by omega) (fun i j z1 z2 => ((v2 i j z2).trans (s9 i j z1)).trans (g2 i j z2)) (fun i j z1 z2 => k2 i j z2) (fun e he => ?_) hst (fun e z1 z2 => ?_)
          · rcases hB.2.2 e (by omega) with y | ⟨k, y1, y2, y3⟩
            · rw [v4 e (by omega) (unl e (by omega) (Or.inl y)), s9 _ _ (by omega), g3 e he, k3 e (by omega) he]
              have z := (zs_st hR he (τ := L) (by omega) (by omega)).2.2.2.1 y
              rw [z]
              split <;> rfl
            · rw [v3 e k he (by omega) (by omega) y3, k3 e (by omega) he]
          · rw [v4 e z1 (unl e z1 (Or.inr z2)), s9 _ _ (by omega)]
            exact g4 e z1 z2
        obtain ⟨c', m3, u1, u2, u3, u4, u5, u6⟩ := zs_up4 hn 4 0 5 σ' μ rfl (by decide) hBE (fun j hj => absurd hj (Nat.not_lt_zero j))
        obtain ⟨m', em⟩ : ∃ x, x = gx_w2 (gx_w2 m3 0 18 1) 0 0 (nI (T + N)) := ⟨_, rfl⟩
        have c00 : ∀ j, c' 0 j = σ9 0 j := fun j => (u4 j).trans (v2 _ _ (by rintro ⟨-, e', -, y⟩; omega))
        have c0 : ∀ j, ¬ j = 7 → ¬ j = 10 → c' 0 j = c 0 j := fun j z1 z2 => by rw [c00, e9, zi_wj z2, zi_wj z1]; exact g2 _ _ (by rintro ⟨-, e', -, y⟩; omega)
        have c07 : c' 0 7 = nI (T + N) := by rw [c00, e9, zi_wj (by omega), zi_we]
        have c010 : c' 0 10 = 1 := by rw [c00, e9, zi_we]
        have m0 : ∀ j, ¬ j = 0 → ¬ j = 18 → m' 0 j = m 0 j := fun j z1 z2 => by rw [em, zi_wj z1, zi_wj z2, u5]; exact k2 _ _ (by omega)
        have m00 : m' 0 0 = nI (T + N) := by rw [em, zi_we]
        have m018 : m' 0 18 = 1 := by rw [em, zi_wj (by omega), zi_we]
        have hR' : zR n (T + N) K w h M c' m' := by
          refine ⟨?_, zF_0 hn (fun _ _ _ => rfl) (fun i j z => by rw [em, zi_wk z, zi_wk z]) u3⟩
          unfold zA
          rw [c07, m00, c010, m018, c0 1 (by omega) (by omega), c0 3 (by omega) (by omega), c0 5 (by omega) (by omega), c0 8 (by omega) (by omega), c0 9 (by omega) (by omega), c0 11 (by omega) (by omega), c0 12 (by omega) (by omega), m0 4 (by omega) (by omega), m0 12 (by omega) (by omega), m0 16 (by omega) (by omega), m0 17 (by omega) (by omega), m0 1 (by omega) (by omega), m0 19 (by omega) (by omega), m0 20 (by omega) (by omega)]
          obtain ⟨k1', k2', k3', k4', k5', k6', k7', k8', k9'⟩ := hA
          refine ⟨k1', ⟨q, rfl, rfl⟩, k3', k4', ⟨by omega, k5'.2⟩, ⟨by omega, k6'.2⟩, k7', k8', Or.inr ⟨rfl, rfl, fun b hb => ?_⟩⟩
          rw [em, zi_wk (by omega), zi_wk (by omega)]
          exact u6 b hb
        obtain ⟨r, r1, r2⟩ := zs_hmPlay hR'
        refine ⟨r, c', m', ?_, ?_, n, T + N, K, w, h, M, hR'⟩
        · have lh : f_X3_loseHostAt (gx_w2 σ 0 7 (nI (T + N))) (nI (L + 1)) = some c' := by
            rw [f_X3_loseHostAt, gx_lt, ← e9]
            exact v1.trans u1
          simp only [f_X3_pass, zi_w, zi_win1 hw, Option.bind_some, zi_10, if_false, gx_lt, e1, ele, eq_true q, if_true, l1, lm1]
          rw [if_pos (nI_lt (show L < T + N by omega) (by omega)), g1]
          simp only [Option.bind_some]
          rw [if_neg (nI_nlt (by omega) (by omega)), lh]
          simp only [Option.bind_some, r1]
        · have gl : f_X4_getsLost m (nI (L + 1)) = some (gx_w2 m3 0 18 1) := by
            rw [f_X4_getsLost]
            exact k1.trans u2
          have e17 : m 0 17 + m 0 16 = nI (L + 1) := by rw [hA.2.2.2.1.2.2, hA.2.2.2.2.1.2.2, nI_add, hq.2.1]
          simp only [f_X4_pass, zi_win1 hw, Option.bind_some, zi_10, if_false, gx_lt, e2, ele, eq_true q, if_true, hl, e17, gl, ← em, r2]
    · exact ⟨-3, c, m, by simp only [f_X3_pass, zi_w, zi_win1 hw, Option.bind_some, zi_10, if_false, gx_lt, e1, ele, eq_false q], by simp only [f_X4_pass, zi_win1 hw, Option.bind_some, zi_10, if_false, e2, ele, eq_false q], ‹zz_R c m›⟩
