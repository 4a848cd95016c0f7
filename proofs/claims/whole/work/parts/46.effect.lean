theorem zQ_sh {k : Nat} {a b c d : Int32} (hk : k < 7) (h : zQ k a.toInt b.toInt c.toInt d.toInt) : zSh (nI k) a b c d := by
  have e1 : (nI k = 1) = (k = 1) := propext (nI_eq (b := 1) (by omega) (by decide))
  have e2 : (nI k = 2) = (k = 2) := propext (nI_eq (b := 2) (by omega) (by decide))
  have e4 : (nI k = 4) = (k = 4) := propext (nI_eq (b := 4) (by omega) (by decide))
  have e5 : (nI k = 5) = (k = 5) := propext (nI_eq (b := 5) (by omega) (by decide))
  have e6 : (nI k = 6) = (k = 6) := propext (nI_eq (b := 6) (by omega) (by decide))
  unfold zSh
  rw [nI_toInt (by omega), e1, e2, e4, e5, e6]
  unfold zQ at h
  refine ⟨by omega, fun q => by omega, fun q => by omega, fun q => by omega⟩
theorem zs_shape {c : gx_St} (k a b cc d : Int32) : (f_X3_isShape c k a b cc d = some 0 ∧ f_X4_mayBe k a b cc d = some 0) ∨ (f_X3_isShape c k a b cc d = some 1 ∧ f_X4_mayBe k a b cc d = some 1 ∧ zSh k a b cc d) := by
  rcases zi_dec k 7 (by decide) with ⟨j, hj, rfl⟩ | hx
  · rcases zc_shape (c := c) hj a b cc d with ⟨q1, q2⟩ | ⟨q1, q2⟩ <;> rcases zm_shape hj a b cc d with ⟨q3, q4⟩ | ⟨q3, q4⟩
    · exact Or.inr ⟨q2, q4, zQ_sh hj q1⟩
    · exact absurd q1 q3
    · exact absurd q3 q1
    · exact Or.inl ⟨q2, q4⟩
  · refine Or.inl ⟨?_, ?_⟩
    · unfold f_X3_isShape
      by_cases h0 : k < 0
      · rw [if_pos h0]
      · rcases hx with z | z
        · exact absurd z h0
        · rw [if_neg h0, if_neg]
          intro z2
          rw [zi_lei] at z
          rw [zi_lt] at z2
          have e1 : (7 : Int32).toInt = 7 := by decide
          have e2 : (nI 7).toInt = 7 := by decide
          omega
    · have ne : ∀ j : Nat, j < 7 → ¬ k = nI j := by
        intro j hj q
        subst q
        rcases hx with z | z
        · exact nI_pos (by omega) z
        · exact nI_ge hj (by decide) z
      unfold f_X4_mayBe
      rw [zi_win]
      simp only [Option.bind_some]
      rw [if_neg (show ¬ k = 0 from ne 0 (by decide)), if_neg (show ¬ k = 1 from ne 1 (by decide)), if_neg (show ¬ k = 2 from ne 2 (by decide)), if_neg (show ¬ k = 3 from ne 3 (by decide)), if_neg (show ¬ k = 4 from ne 4 (by decide)), if_neg (show ¬ k = 5 from ne 5 (by decide)), if_neg (show ¬ k = 6 from ne 6 (by decide))]
theorem zc_become {e : Nat} (he : e < 12) : ∀ (r j F : Nat) (σ : gx_St), j + r = 12 → r < F → ∃ σ', fL_X2_become_30 F σ (nI e) (nI j) = some σ' ∧ (∀ i, j ≤ i → i < 12 → σ' (8 + 3 * e + 1) i = gx_tv 4 i) ∧ ∀ k i, ¬ (k = 8 + 3 * e + 1 ∧ j ≤ i ∧ i < 12) → σ' k i = σ k i := by
  intro r
  induction r with
  | zero =>
    intro j F σ hj hF
    have hj : j = 12 := by omega
    subst hj
    obtain ⟨F, rfl⟩ : ∃ F', F = F' + 1 := ⟨F - 1, by omega⟩
    refine ⟨σ, ?_, fun i h1 h2 => by omega, fun k i _ => rfl⟩
    rw [fL_X2_become_30]
    simp only [zi_12e, if_true]
  | succ r ih =>
    intro j F σ hj hF
    obtain ⟨F, rfl⟩ : ∃ F', F = F' + 1 := ⟨F - 1, by omega⟩
    have hj12 : j < 12 := by omega
    obtain ⟨σ', q1, q2, q3⟩ := ih (j + 1) F (gx_w2 σ (8 + 3 * e + 1) j (gx_tv 4 j)) (by omega) (by omega)
    refine ⟨σ', ?_, fun i h1 h2 => ?_, fun k i hki => ?_⟩
    · rw [fL_X2_become_30]
      simp only [zi_12 hj12, if_false, zi_cl (show j < 2 ^ 31 by omega), zi_cl (show e < 2 ^ 31 by omega), zi_ck hj12 (by decide), gx_lt, zi_s, q1]
    · rcases Nat.eq_or_lt_of_le h1 with z | z
      · subst z
        rw [q3 _ _ (by omega), zi_we]
      · exact q2 i z h2
    · rw [q3 k i (by omega)]
      by_cases z : k = 8 + 3 * e + 1
      · subst z
        rw [zi_wj (by omega)]
      · rw [zi_wk z]
theorem zm_effect {e : Nat} (he : e < 12) : ∀ (r j F : Nat) (σ : gx_St), j + r = 12 → r < F → ∃ σ', fL_X4_effect_79 F σ (nI e) (nI j) = some (nI e, gx_w2 (gx_w2 σ' 9 e (-9)) 0 4 (σ 0 4 + 1)) ∧ (∀ i, j ≤ i → i < 12 → σ' 8 (12 * e + i) = gx_tv 4 i) ∧ ∀ k i, ¬ (k = 8 ∧ 12 * e + j ≤ i ∧ i < 12 * e + 12) → σ' k i = σ k i := by
  intro r
  induction r with
  | zero =>
    intro j F σ hj hF
    have hj : j = 12 := by omega
    subst hj
    obtain ⟨F, rfl⟩ : ∃ F', F = F' + 1 := ⟨F - 1, by omega⟩
    refine ⟨σ, ?_, fun i h1 h2 => by omega, fun k i _ => rfl⟩
    have e4 : gx_w2 σ 9 e (-9) 0 4 = σ 0 4 := zi_wk (by decide)
    rw [fL_X4_effect_79]
    simp only [zi_12e, if_true, zi_cl (show e < 2 ^ 31 by omega), zi_ck he (by decide), if_false, gx_lt, e4]
  | succ r ih =>
    intro j F σ hj hF
    obtain ⟨F, rfl⟩ : ∃ F', F = F' + 1 := ⟨F - 1, by omega⟩
    have hj12 : j < 12 := by omega
    obtain ⟨σ', q1, q2, q3⟩ := ih (j + 1) F (gx_w2 σ 8 (12 * e + j) (gx_tv 4 j)) (by omega) (by omega)
    refine ⟨σ', ?_, fun i h1 h2 => ?_, fun k i hki => ?_⟩
    · have i1 : ((12 : Int32) * nI e + nI j).toNatClampNeg = 12 * e + j := by rw [zi_ix, zi_cl (by omega)]
      have i2 : ((12 : Int32) * nI e + nI j < 0 ∨ 144 ≤ 12 * e + j) = False := by rw [zi_ix]; exact zi_ck (by omega) (by decide)
      have e0 : (nI j = 0) = (j = 0) := propext (nI_eq (b := 0) (by omega) (by decide))
      have e10 : (nI j = 10) = (j = 10) := propext (nI_eq (b := 10) (by omega) (by decide))
      have e6 : (nI j = 6) = (j = 6) := propext (nI_eq (b := 6) (by omega) (by decide))
      have e8 : (nI j = 8) = (j = 8) := propext (nI_eq (b := 8) (by omega) (by decide))
      have e4 : gx_w2 σ 8 (12 * e + j) (gx_tv 4 j) 0 4 = σ 0 4 := zi_wk (by decide)
      rw [e4] at q1
      have hb : fL_X4_effect_79 (F + 1) σ (nI e) (nI j) = fL_X4_effect_79 F (gx_w2 σ 8 (12 * e + j) (gx_tv 4 j)) (nI e) (nI (j + 1)) := by
        rw [fL_X4_effect_79]
        simp only [zi_12 hj12, if_false, gx_lt, i1, i2, zi_s, e0, e10, e6, e8]
        rcases (show j = 0 ∨ j = 1 ∨ j = 2 ∨ j = 3 ∨ j = 4 ∨ j = 5 ∨ j = 6 ∨ j = 7 ∨ j = 8 ∨ j = 9 ∨ j = 10 ∨ j = 11 by omega) with rfl | rfl | rfl | rfl | rfl | rfl | rfl | rfl | rfl | rfl | rfl | rfl <;> rfl
      rw [hb, q1]
    · rcases Nat.eq_or_lt_of_le h1 with z | z
      · subst z
        rw [q3 _ _ (by omega), zi_we]
      · exact q2 i z h2
    · rw [q3 k i (by omega)]
      by_cases z : k = 8
      · subst z
        rw [zi_wj (by omega)]
      · rw [zi_wk z]
theorem zz_effect {c m : gx_St} (h : zz_R c m) (a1 a2 a3 a4 a5 : Int32) : ∃ (r : Int32) (c' m' : gx_St), f_X3_effect c a1 a2 a3 a4 a5 = some (r, c') ∧ f_X4_effect m a1 a2 a3 a4 a5 = some (r, m') ∧ zz_R c' m' := by
  rcases zs_shape (c := c) a1 a2 a3 a4 a5 with ⟨h1, h2⟩ | ⟨h1, h2, hsh⟩
  · exact ⟨-2, c, m, by simp [f_X3_effect, h1], by simp [f_X4_effect, h2], h⟩
  · obtain ⟨n, T, K, w, h, M, ⟨⟨hn, cn, mn⟩, hA⟩, hB, hC, hD, hE⟩ := id h
    rcases Nat.lt_or_ge n 12 with hlt | hge
    · have hk := zi_cl (k := n) (by omega)
      have hc := zi_ck (k := n) (N := 12) hlt (by decide)
      have hm12 : (nI n = 12) = False := eq_false (fun q => absurd (nI_inj (b := 12) (by omega) (by decide) q) (by omega))
      obtain ⟨c1, ec1⟩ : ∃ x, x = gx_w2 (gx_w2 (gx_w2 (gx_w2 (gx_w2 c (8 + 3 * n) 1 a1) (8 + 3 * n) 2 a2) (8 + 3 * n) 3 a3) (8 + 3 * n) 4 a4) (8 + 3 * n) 5 a5 := ⟨_, rfl⟩
      obtain ⟨m1, em1⟩ : ∃ x, x = gx_w2 (gx_w2 (gx_w2 (gx_w2 (gx_w2 m 3 n a1) 4 n a2) 5 n a3) 6 n a4) 7 n a5 := ⟨_, rfl⟩
      obtain ⟨c2, k1, k2, k3⟩ := zc_become hlt 12 0 13 c1 rfl (by decide)
      obtain ⟨m2, g1, g2, g3⟩ := zm_effect hlt 12 0 13 m1 rfl (by decide)
      have c1o : ∀ k j, ¬ (k = 8 + 3 * n ∧ 1 ≤ j ∧ j ≤ 5) → c1 k j = c k j := by
        intro k j hkj
        rw [ec1]
        by_cases z : k = 8 + 3 * n
        · subst z
          rw [zi_wj (by omega), zi_wj (by omega), zi_wj (by omega), zi_wj (by omega), zi_wj (by omega)]
        · rw [zi_wk z, zi_wk z, zi_wk z, zi_wk z, zi_wk z]
      have c2o : ∀ k j, ¬ (k = 8 + 3 * n ∧ 1 ≤ j ∧ j ≤ 5) → ¬ (k = 8 + 3 * n + 1 ∧ j < 12) → c2 k j = c k j := fun k j q1 q2 => (k3 k j (by omega)).trans (c1o k j q1)
      have m1o : ∀ k j, ¬ (3 ≤ k ∧ k ≤ 7 ∧ j = n) → m1 k j = m k j := by
        intro k j hkj
        rw [em1]
        by_cases z : j = n
        · subst z
          rw [zi_wk (by omega), zi_wk (by omega), zi_wk (by omega), zi_wk (by omega), zi_wk (by omega)]
        · rw [zi_wj z, zi_wj z, zi_wj z, zi_wj z, zi_wj z]
      have m2o : ∀ k j, ¬ (3 ≤ k ∧ k ≤ 7 ∧ j = n) → ¬ (k = 8 ∧ 12 * n ≤ j ∧ j < 12 * n + 12) → m2 k j = m k j := fun k j q1 q2 => (g3 k j (by omega)).trans (m1o k j q1)
      have m104 : m1 0 4 = nI n := (m1o 0 4 (by omega)).trans mn
      rw [m104, zi_s] at g1
      have c201 : c2 0 1 = nI n := (c2o 0 1 (by omega) (by omega)).trans cn
      obtain ⟨c', ec'⟩ : ∃ x, x = gx_w2 c2 0 1 (nI (n + 1)) := ⟨_, rfl⟩
      obtain ⟨m', em'⟩ : ∃ x, x = gx_w2 (gx_w2 m2 9 n (-9)) 0 4 (nI (n + 1)) := ⟨_, rfl⟩
      have cc : ∀ k j, ¬ (k = 8 + 3 * n ∧ 1 ≤ j ∧ j ≤ 5) → ¬ (k = 8 + 3 * n + 1 ∧ j < 12) → ¬ (k = 0 ∧ j = 1) → c' k j = c k j := by
        intro k j q1 q2 q3
        rw [ec']
        by_cases z : k = 0
        · subst z
          rw [zi_wj (by omega)]
          exact c2o _ _ q1 q2
        · rw [zi_wk z]
          exact c2o _ _ q1 q2
      have mm : ∀ k j, ¬ (3 ≤ k ∧ k ≤ 7 ∧ j = n) → ¬ (k = 8 ∧ 12 * n ≤ j ∧ j < 12 * n + 12) → ¬ (k = 0 ∧ j = 4) → ¬ (k = 9 ∧ j = n) → m' k j = m k j := by
        intro k j q1 q2 q3 q4
        rw [em', zi_w2, if_neg q3, zi_w2, if_neg q4]
        exact m2o _ _ q1 q2
      have sl : c (8 + 3 * n) 7 = -9 := by
        rcases hB.2.2 n hlt with q | ⟨k, q1, q2, q3⟩
        · exact q
        · rcases hB.2.1 k (by have := hA.2.1.2.1; omega) with q | ⟨e', q4, q5, -⟩
          · exact absurd (q3.symm.trans q) (zi_n9 (by omega))
          · exact absurd (nI_inj (by omega) (by omega) (q3.symm.trans q5)) (by omega)
      have stn : c (8 + 3 * n) 8 = -9 := by
        rcases hC.2.2.2.2 n hlt with q | ⟨-, q⟩
        · exact q
        · exact absurd sl q
      refine ⟨nI n, c', m', ?_, ?_, n + 1, T, K, w, h, M, ⟨⟨by omega, by rw [ec']; exact zi_we _ _ _ _, by rw [em']; exact zi_we _ _ _ _⟩, ?_⟩, ?_, ?_, ?_, ?_⟩
      · have lt12 : (nI n < (12 : Int32)) = True := zi_l12 hlt
        simp only [f_X3_effect, h1, Option.bind_some, zi_10, if_false, cn, lt12, if_true, gx_lt, hk, hc, f_X2_become]
        rw [← ec1]
        rw [show fL_X2_become_30 13 c1 (nI n) 0 = some c2 from k1]
        simp only [Option.bind_some, c201, zi_s, ← ec']
      · simp only [f_X4_effect, h2, Option.bind_some, zi_10, if_false, mn, hm12, gx_lt, hk, hc]
        rw [← em1]
        rw [show fL_X4_effect_79 13 m1 (nI n) 0 = _ from g1, ← em']
      · have cz : ∀ j, ¬ j = 1 → c' 0 j = c 0 j := fun j hj => cc 0 j (by omega) (by omega) (by omega)
        have mz : ∀ j, ¬ j = 4 → m' 0 j = m 0 j := fun j hj => mm 0 j (by omega) (by omega) (by omega) (by omega)
        have m11 : ∀ j, m' 11 j = m 11 j := fun j => mm 11 j (by omega) (by omega) (by omega) (by omega)
        rw [cz 7 (by decide), mz 0 (by decide), cz 3 (by decide), mz 12 (by decide), cz 8 (by decide), mz 16 (by decide), cz 9 (by decide), mz 17 (by decide), cz 5 (by decide), mz 1 (by decide), cz 11 (by decide), mz 19 (by decide), cz 12 (by decide), mz 20 (by decide), cz 10 (by decide), mz 18 (by decide)]
        simp only [m11]
        exact hA
      · refine ⟨fun k hk => by rw [cc _ _ (by omega) (by omega) (by omega), mm _ _ (by omega) (by omega) (by omega) (by omega)]; exact hB.1 k hk, fun k hk => ?_, fun e he => ?_⟩
        · rw [mm _ _ (by omega) (by omega) (by omega) (by omega)]
          rcases hB.2.1 k hk with q | ⟨e, q1, q2, q3⟩
          · exact Or.inl q
          · exact Or.inr ⟨e, by omega, q2, by rw [cc _ _ (by omega) (by omega) (by omega)]; exact q3⟩
        · rw [cc _ _ (by omega) (by omega) (by omega)]
          rcases hB.2.2 e he with q | ⟨k, q1, q2, q3⟩
          · exact Or.inl q
          · exact Or.inr ⟨k, q1, q2, by rw [mm _ _ (by omega) (by omega) (by omega) (by omega)]; exact q3⟩
      · obtain ⟨b1, b2, b3, b4, b5⟩ := hC
        have shn : ∀ j, j < 5 → c' (8 + 3 * n) (1 + j) = m' (3 + j) n := by
          intro j hj
          rw [ec', zi_wk (by omega), k3 _ _ (by omega), em', zi_wk (by omega), zi_wk (by omega), g3 _ _ (by omega), ec1, em1]
          rcases (show j = 0 ∨ j = 1 ∨ j = 2 ∨ j = 3 ∨ j = 4 by omega) with rfl | rfl | rfl | rfl | rfl
          · rw [zi_wj (by decide), zi_wj (by decide), zi_wj (by decide), zi_wj (by decide), zi_we, zi_wk (by decide), zi_wk (by decide), zi_wk (by decide), zi_wk (by decide), zi_we]
          · rw [zi_wj (by decide), zi_wj (by decide), zi_wj (by decide), zi_we, zi_wk (by decide), zi_wk (by decide), zi_wk (by decide), zi_we]
          · rw [zi_wj (by decide), zi_wj (by decide), zi_we, zi_wk (by decide), zi_wk (by decide), zi_we]
          · rw [zi_wj (by decide), zi_we, zi_wk (by decide), zi_we]
          · rw [zi_we, zi_we]
        have mv : m' 3 n = a1 ∧ m' 4 n = a2 ∧ m' 5 n = a3 ∧ m' 6 n = a4 ∧ m' 7 n = a5 := by
          rw [em']
          simp only [zi_w2]
          rw [g3 3 n (by omega), g3 4 n (by omega), g3 5 n (by omega), g3 6 n (by omega), g3 7 n (by omega), em1]
          simp [zi_w2]
        have nun : ∀ j, j < 12 → m' 8 (12 * n + j) = gx_tv 4 j := by
          intro j hj
          rw [em', zi_wk (by decide), zi_wk (by decide)]
          exact g2 j (by omega) hj
        refine ⟨fun e he => by rw [cc _ _ (by omega) (by omega) (by omega)]; exact b1 e he, fun e he => ?_, fun e he => ?_, fun e he => ?_, fun e he => ?_⟩
        · rcases Nat.lt_or_ge e n with z | z
          · refine ⟨fun j hj => by rw [cc _ _ (by omega) (by omega) (by omega), mm _ _ (by omega) (by omega) (by omega) (by omega)]; exact (b2 e z).1 j hj, ?_⟩
            rw [mm 3 _ (by omega) (by omega) (by omega) (by omega), mm 4 _ (by omega) (by omega) (by omega) (by omega), mm 5 _ (by omega) (by omega) (by omega) (by omega), mm 6 _ (by omega) (by omega) (by omega) (by omega), mm 7 _ (by omega) (by omega) (by omega) (by omega)]
            exact (b2 e z).2
          · have z : e = n := by omega
            subst z
            refine ⟨shn, ?_⟩
            rw [mv.1, mv.2.1, mv.2.2.1, mv.2.2.2.1, mv.2.2.2.2]
            exact hsh
        · rcases Nat.lt_or_ge e n with z | z
          · refine ⟨fun j hj => by rw [cc _ _ (by omega) (by omega) (by omega), mm _ _ (by omega) (by omega) (by omega) (by omega)]; exact (b3 e z).1 j hj, ?_⟩
            exact zNu_c (fun j hj => (mm _ _ (by omega) (by omega) (by omega) (by omega)).symm) (b3 e z).2
          · have z : e = n := by omega
            subst z
            refine ⟨fun j hj => ?_, ?_⟩
            · rw [nun j hj, ec', zi_wk (by omega)]
              exact k2 j (by omega) hj
            · exact zNu_c (fun j hj => (nun j hj).symm) ⟨Or.inl rfl, ⟨0, by decide, rfl⟩, ⟨⟨0, by decide, rfl⟩, ⟨0, by decide, rfl⟩⟩, ⟨0, by decide, rfl⟩, ⟨0, by decide, rfl⟩, ⟨0, by decide, rfl⟩⟩
        · rw [cc _ _ (by omega) (by omega) (by omega)]
          rcases Nat.lt_or_ge e n with z | z
          · rw [mm _ _ (by omega) (by omega) (by omega) (by omega)]
            exact b4 e z
          · have z : e = n := by omega
            subst z
            rw [em', zi_wk (by decide), zi_we]
            exact stn
        · rw [cc _ _ (by omega) (by omega) (by omega), cc _ _ (by omega) (by omega) (by omega)]
          exact b5 e he
      · exact zD_f (fun b j _ => cc _ _ (by omega) (by omega) (by omega)) (fun e j _ => cc _ _ (by omega) (by omega) (by omega)) (fun e _ => cc _ _ (by omega) (by omega) (by omega)) (fun k => mm _ _ (by omega) (by omega) (by omega) (by omega)) (fun k => mm _ _ (by omega) (by omega) (by omega) (by omega)) hD
      · exact zE_f (fun b j _ => cc _ _ (by omega) (by omega) (by omega)) (fun k => mm _ _ (by omega) (by omega) (by omega) (by omega)) (fun k => mm _ _ (by omega) (by omega) (by omega) (by omega)) hE
    · have hn12 : n = 12 := by omega
      subst hn12
      have lt12 : (nI 12 < (12 : Int32)) = False := eq_false (by decide)
      have eq12 : (nI 12 = (12 : Int32)) = True := eq_true rfl
      exact ⟨-4, c, m, by simp only [f_X3_effect, h1, Option.bind_some, zi_10, if_false, cn, lt12], by simp only [f_X4_effect, h2, Option.bind_some, zi_10, if_false, mn, eq12, if_true], ‹zz_R c m›⟩
