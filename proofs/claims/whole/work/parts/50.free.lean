theorem zc_lg {b : Nat} (hb : b < 4) : ∀ (r e F : Nat) (σ : gx_St), e + r = 12 → r < F → ∃ σ', fL_X3_letGo_12 F σ (nI b) (nI e) = some σ' ∧ (∀ i, e ≤ i → i < 12 → σ' (8 + 3 * i + 2) b = 0) ∧ ∀ k i, ¬ (∃ e', e ≤ e' ∧ e' < 12 ∧ k = 8 + 3 * e' + 2 ∧ i = b) → σ' k i = σ k i := by
  intro r
  induction r with
  | zero =>
    intro e F σ he hF
    have he : e = 12 := by omega
    subst he
    obtain ⟨F, rfl⟩ : ∃ F', F = F' + 1 := ⟨F - 1, by omega⟩
    refine ⟨σ, ?_, fun i h1 h2 => by omega, fun k i _ => rfl⟩
    rw [fL_X3_letGo_12]
    simp only [zi_12e, if_true]
  | succ r ih =>
    intro e F σ he hF
    obtain ⟨F, rfl⟩ : ∃ F', F = F' + 1 := ⟨F - 1, by omega⟩
    have he12 : e < 12 := by omega
    obtain ⟨σ', h1, h2, h3⟩ := ih (e + 1) F (gx_w2 σ (8 + 3 * e + 2) b 0) (by omega) (by omega)
    refine ⟨σ', ?_, fun i q1 q2 => ?_, fun k i q => ?_⟩
    · rw [fL_X3_letGo_12]
      simp only [zi_12 he12, if_false, zi_cl (show e < 2 ^ 31 by omega), zi_ck he12 (by decide), zi_cl (show b < 2 ^ 31 by omega), zi_ck hb (by decide), gx_lt, zi_s]
      exact h1
    · rcases Nat.eq_or_lt_of_le q1 with z | z
      · subst z
        rw [h3 _ _ (by rintro ⟨e', y1, y2, y3, -⟩; omega), zi_we]
      · exact h2 i z q2
    · rw [h3 k i (by rintro ⟨e', y1, y2, y3, y4⟩; exact q ⟨e', by omega, y2, y3, y4⟩), zi_w2, if_neg]
      rintro ⟨y1, y2⟩
      exact q ⟨e, Nat.le_refl _, he12, y1, y2⟩
theorem zm_cu {b : Nat} (hb : b < 4) : ∀ (r e F : Nat) (σ : gx_St), e + r = 12 → r < F → ∃ σ', fL_X4_comesUp_10 F σ (nI b) (nI e) = some σ' ∧ (∀ i, e ≤ i → i < 12 → σ' 12 (12 * b + i) = 0) ∧ ∀ k i, ¬ (k = 12 ∧ 12 * b + e ≤ i ∧ i < 12 * b + 12) → σ' k i = σ k i := by
  intro r
  induction r with
  | zero =>
    intro e F σ he hF
    have he : e = 12 := by omega
    subst he
    obtain ⟨F, rfl⟩ : ∃ F', F = F' + 1 := ⟨F - 1, by omega⟩
    refine ⟨σ, ?_, fun i h1 h2 => by omega, fun k i _ => rfl⟩
    rw [fL_X4_comesUp_10]
    simp only [zi_12e, if_true]
  | succ r ih =>
    intro e F σ he hF
    obtain ⟨F, rfl⟩ : ∃ F', F = F' + 1 := ⟨F - 1, by omega⟩
    have he12 : e < 12 := by omega
    obtain ⟨σ', h1, h2, h3⟩ := ih (e + 1) F (gx_w2 σ 12 (12 * b + e) 0) (by omega) (by omega)
    refine ⟨σ', ?_, fun i q1 q2 => ?_, fun k i q => ?_⟩
    · rw [fL_X4_comesUp_10]
      simp only [zi_12 he12, if_false, zi_ix, zi_cl (show 12 * b + e < 2 ^ 31 by omega), zi_ck (show 12 * b + e < 48 by omega) (by decide), gx_lt, zi_s]
      exact h1
    · rcases Nat.eq_or_lt_of_le q1 with z | z
      · subst z
        rw [h3 _ _ (by omega), zi_we]
      · exact h2 i z q2
    · rw [h3 k i (by omega), zi_w2, if_neg (by omega)]
/-- a BUTTON comes up -/
theorem zs_up {n T K : Nat} {c m : gx_St} (hn : n ≤ 12) (hR : zB n K c m ∧ zC n T c m ∧ zD T c m ∧ zE c m) {b : Nat} (hb : b < 4) : ∃ c' m', f_X3_letGo c (nI b) = some c' ∧ f_X4_comesUp m (nI b) = some m' ∧ (zB n K c' m' ∧ zC n T c' m' ∧ zD T c' m' ∧ zE c' m') ∧ (∀ j, c' 0 j = c 0 j) ∧ (∀ j, m' 0 j = m 0 j) ∧ m' 11 b = -9 ∧ (∀ j, ¬ j = b → m' 11 j = m 11 j) ∧ c' (46 + 1 * b) 1 = c (46 + 1 * b) 1 := by
  obtain ⟨hB, hC, hD, hE⟩ := hR
  obtain ⟨c', p1, p2, p3⟩ := zc_lg hb 12 0 13 (gx_w2 c (46 + 1 * b) 0 0) rfl (by decide)
  obtain ⟨m', q1, q2, q3⟩ := zm_cu hb 12 0 13 (gx_w2 m 11 b (-9)) rfl (by decide)
  have co : ∀ k j, ¬ (k = 46 + 1 * b ∧ j = 0) → ¬ (∃ e', e' < 12 ∧ k = 8 + 3 * e' + 2 ∧ j = b) → c' k j = c k j := fun k j y1 y2 => by
    rw [p3 k j (by rintro ⟨e', z0, z1, z2, z3⟩; exact y2 ⟨e', z1, z2, z3⟩), zi_w2, if_neg y1]
  have mo : ∀ k j, ¬ (k = 11 ∧ j = b) → ¬ (k = 12 ∧ 12 * b ≤ j ∧ j < 12 * b + 12) → m' k j = m k j := fun k j y1 y2 => by
    rw [q3 k j (by omega), zi_w2, if_neg y1]
  have m11 : m' 11 b = -9 := by rw [q3 11 b (by omega), zi_we]
  have m11o : ∀ j, ¬ j = b → m' 11 j = m 11 j := fun j hj => mo _ _ (by omega) (by omega)
  have c7 : ∀ e j, e < 12 → c' (8 + 3 * e) j = c (8 + 3 * e) j := fun e j he => co _ _ (by omega) (by rintro ⟨e', z0, z1, z2⟩; omega)
  refine ⟨c', m', ?_, ?_, ⟨zB_f hn (fun k => co _ _ (by omega) (by rintro ⟨e', z0, z1, z2⟩; omega)) (fun e he => c7 e 7 he) (fun k => mo _ _ (by omega) (by omega)) hB, zC_f hn (fun e j he => c7 e j he) (fun e j _ => co _ _ (by omega) (by rintro ⟨e', z0, z1, z2⟩; omega)) (fun k j h1 h2 => mo _ _ (by omega) (by omega)) hC, ⟨fun b' hb' => ?_, fun b' e hb' he => ?_⟩, zE_f (fun a j _ => co _ _ (by omega) (by rintro ⟨e', z0, z1, z2⟩; omega)) (fun k => mo _ _ (by omega) (by omega)) (fun k => mo _ _ (by omega) (by omega)) hE⟩, fun j => co _ _ (by omega) (by rintro ⟨e', z0, z1, z2⟩; omega), fun j => mo _ _ (by omega) (by omega), m11, m11o, co _ _ (by omega) (by rintro ⟨e', z0, z1, z2⟩; omega)⟩
  · simp only [f_X3_letGo, zi_cl (show b < 2 ^ 31 by omega), zi_ck hb (by decide), if_false, gx_lt]
    exact p1
  · simp only [f_X4_comesUp, zi_cl (show b < 2 ^ 31 by omega), zi_ck hb (by decide), if_false, gx_lt]
    exact q1
  · by_cases y : b' = b
    · subst y
      refine Or.inl ⟨?_, m11⟩
      rw [p3 _ _ (by rintro ⟨e', z0, z1, z2, -⟩; omega), zi_we]
    · rw [co _ _ (by omega) (by rintro ⟨e', z0, z1, z2⟩; omega), co _ _ (by omega) (by rintro ⟨e', z0, z1, z2⟩; omega), m11o b' y]
      exact hD.1 b' hb'
  · by_cases y : b' = b
    · subst y
      have z1 := p2 e (by omega) he
      have z2 := q2 e (by omega) he
      exact ⟨by rw [z1, z2], 0, by omega, z2, fun z => absurd z (Nat.lt_irrefl 0)⟩
    · rw [co _ _ (by omega) (by rintro ⟨e', z0, z1, z2⟩; omega), mo _ _ (by omega) (by omega), m11o b' y, c7 e 7 he]
      exact hD.2 b' e hb' he
theorem zs_isB (a1 : Int32) : (f_X3_isButton a1 = some 0 ∧ f_X4_within a1 0 3 = some 0) ∨ ∃ b, b < 4 ∧ a1 = nI b ∧ f_X3_isButton a1 = some 1 ∧ f_X4_within a1 0 3 = some 1 := by
  rcases zi_dec a1 4 (by decide) with ⟨e, he, rfl⟩ | hx
  · refine Or.inr ⟨e, he, rfl, ?_, ?_⟩ <;> rcases (show e = 0 ∨ e = 1 ∨ e = 2 ∨ e = 3 by omega) with rfl | rfl | rfl | rfl <;> rfl
  · refine Or.inl ⟨?_, ?_⟩
    · unfold f_X3_isButton
      by_cases h0 : a1 < 0
      · rw [if_pos h0]
      · rcases hx with h1 | h1
        · exact absurd h1 h0
        · rw [if_neg h0, if_pos (show (4 : Int32) ≤ a1 from h1)]
    · rw [zi_win0]
      rcases hx with h1 | h1
      · exact Or.inl h1
      · refine Or.inr ?_
        rw [zi_lt]
        rw [zi_lei] at h1
        have e1 : (3 : Int32).toInt = 3 := by decide
        have e2 : (nI 4).toInt = 4 := by decide
        omega
theorem zz_free {c m : gx_St} (h : zz_R c m) (a1 : Int32) : ∃ (r : Int32) (c' m' : gx_St), f_X3_free c a1 = some (r, c') ∧ f_X4_free m a1 = some (r, m') ∧ zz_R c' m' := by
  obtain ⟨n, T, K, w, h, M, hR⟩ := id h
  obtain ⟨hA, hB, hC, hD, hE⟩ := id hR
  rcases zs_isB a1 with ⟨h1, h2⟩ | ⟨b, hb, rfl, h1, h2⟩
  · exact ⟨-1, c, m, by simp [f_X3_free, h1], by simp [f_X4_free, h2], ‹zz_R c m›⟩
  · have hkb := zi_cl (k := b) (by omega)
    have hcb := zi_ck (k := b) (N := 4) hb (by decide)
    rcases hD.1 b hb with ⟨q1, q2⟩ | ⟨q1, P, q3, q4, q5⟩
    · exact ⟨-3, c, m, by simp only [f_X3_free, h1, Option.bind_some, zi_10, if_false, hkb, hcb, q1, if_true], by simp only [f_X4_free, h2, Option.bind_some, zi_10, if_false, hkb, hcb, q2, if_true], ‹zz_R c m›⟩
    · obtain ⟨c', m', u1, u2, u3, u4, u5, u6, u7, u8⟩ := zs_up hA.1.1 ⟨hB, hC, hD, hE⟩ hb
      have hT := hA.2.1
      have hA' : zA n T K w h M c' m' := by
        unfold zA
        simp only [u4, u5]
        obtain ⟨k1, k2, k3, k4, k5, k6, k7, k8, k9⟩ := hA
        refine ⟨k1, k2, k3, k4, k5, k6, k7, k8, ?_⟩
        rcases k9 with z | ⟨z1, z2, z3⟩
        · exact Or.inl z
        · refine Or.inr ⟨z1, z2, fun j hj => ?_⟩
          by_cases y : j = b
          · subst y; exact u6
          · rw [u7 j y]; exact z3 j hj
      refine ⟨nI T - nI P, c', m', ?_, ?_, n, T, K, w, h, M, hA', u3⟩
      · simp only [f_X3_free, h1, Option.bind_some, zi_10, if_false, hkb, hcb, q1, u1, u4, hT.2.1, u8, q4]
      · simp only [f_X4_free, h2, Option.bind_some, zi_10, if_false, hkb, hcb, q5, zi_n9 (show P < 2 ^ 31 by omega), gx_lt, u2, hT.2.2]
