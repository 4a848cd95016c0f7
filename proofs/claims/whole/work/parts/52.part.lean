theorem zc_lv (a : Int32) {x D : Nat} (hx : x < 2 ^ 31) (hD : D < 2 ^ 31) : f_X2_levelAt a (nI x) (nI D) = some (if x < D then a + ((100 - a) * nI x) / nI D else 100) := by
  unfold f_X2_levelAt
  by_cases h : x < D
  · rw [if_neg (show ¬ nI D < 1 from nI_nlt (b := 1) (by omega) hD), if_pos (nI_lt h hD), if_neg (nI_ne0 (by omega) hD), if_pos h]
  · rw [if_neg h]
    by_cases h1 : nI D < 1
    · rw [if_pos h1]
    · rw [if_neg h1, if_neg (nI_nlt (by omega) hx)]
theorem zm_lv (a : Int32) {x D : Nat} (h0 : 0 < D) (hD : D < 2 ^ 31) : f_X4_levelBy a (nI x) (nI D) = some (a + ((100 - a) * nI x) / nI D) := by
  unfold f_X4_levelBy
  rw [if_neg (nI_ne0 h0 hD)]
theorem zi_lv {A U D : Nat} (hA : A ≤ 100) (h : U < D) (hD : D ≤ 5000) : (nI A + ((100 - nI A) * nI U) / nI D).toInt ≤ (100 : Int32).toInt := by
  have h1 : (100 - A) * U ≤ 100 * 5000 := Nat.mul_le_mul (by omega) (by omega)
  have h2 : (100 - A) * U / D ≤ 100 - A := Nat.div_le_of_le_mul (by rw [Nat.mul_comm D]; exact Nat.mul_le_mul (Nat.le_refl _) (by omega))
  rw [show (100 : Int32) = nI 100 from rfl, pk_sub hA, pk_mul, pk_div (by omega) (by omega) (by omega), nI_add, nI_toInt (by omega), nI_toInt (by omega)]
  omega
theorem zi_min1 (a b : Int32) : (if a < b then a else b) = (if a ≤ b then a else b) := by
  by_cases h : a < b
  · rw [if_pos h, if_pos (Int32.le_of_lt h)]
  · rw [if_neg h]
    by_cases h2 : a ≤ b
    · rw [if_pos h2, zi_eq]
      rw [zi_lt] at h
      rw [zi_lei] at h2
      omega
    · rw [if_neg h2]
theorem zi_min2 (a b : Int32) : (if a < b then a else b) = (if a ≤ b then a else b) := zi_min1 a b
theorem zi_min3 (b : Int32) : (if (100 : Int32) < b then (100 : Int32) else b) = (if (100 : Int32) ≤ b then (100 : Int32) else b) := zi_min1 100 b
theorem zs_env {n T : Nat} {c m : gx_St} (hC : zC n T c m) (hn : n ≤ 12) {e U : Nat} (he : e < n) (hU : U < 2 ^ 30) (hL : zn m e 0 = -9 ∨ ∃ L, U < L ∧ L ≤ 60000 ∧ zn m e 0 = nI L) : ∃ r, f_X2_envelopeAt c (nI e) (nI U) = some r ∧ f_X4_envelopeAt m (nI e) (nI U) = some r := by
  have he12 : e < 12 := by omega
  have hke := zi_cl (k := e) (by omega)
  have hu : ∀ j, j < 12 → c (8 + 3 * e + 1) j = zn m e j := (hC.2.2.1 e he).1
  have hN := (hC.2.2.1 e he).2
  obtain ⟨D2, d2, e2⟩ := hN.2.2.1.1
  obtain ⟨A3, a3, e3⟩ := hN.2.2.1.2
  have e3 : zn m e 3 = nI A3 := e3
  obtain ⟨D4, d4, e4⟩ := hN.2.2.2.1
  have e2 : zn m e 2 = nI D2 := e2
  have e4 : zn m e 4 = nI D4 := e4
  have le2 : (nI D2 ≤ nI U) = (D2 ≤ U) := propext (nI_leI (by omega) (by omega))
  rcases hL with h0 | ⟨L, l1, l2, h0⟩
  · by_cases q : D2 ≤ U
    · refine ⟨100, ?_, ?_⟩
      · simp only [f_X2_envelopeAt, hke, hu 0 (by decide), hu 2 (by decide), hu 3 (by decide), e2, zc_lv _ (show U < 2 ^ 31 by omega) (show D2 < 2 ^ 31 by omega), Option.bind_some, h0, if_true, if_neg (show ¬ U < D2 by omega)]
      · simp only [f_X4_envelopeAt, zm_0 he12, zm_2 he12, zm_4 he12, Option.bind_some, e2, le2, eq_true q, if_true, gx_lt, h0]
    · refine ⟨zn m e 3 + ((100 - zn m e 3) * nI U) / nI D2, ?_, ?_⟩
      · simp only [f_X2_envelopeAt, hke, hu 0 (by decide), hu 2 (by decide), hu 3 (by decide), e2, zc_lv _ (show U < 2 ^ 31 by omega) (show D2 < 2 ^ 31 by omega), Option.bind_some, h0, if_true, if_pos (show U < D2 by omega)]
      · simp only [f_X4_envelopeAt, zm_0 he12, zm_2 he12, zm_3 he12, zm_4 he12, Option.bind_some, e2, le2, eq_false q, if_true, if_false, gx_lt, h0, zm_lv _ (show 0 < D2 by omega) (show D2 < 2 ^ 31 by omega)]
        by_cases z : (100 : Int32) ≤ zn m e 3 + ((100 - zn m e 3) * nI U) / nI D2
        · rw [if_pos z]
          congr 1
          rw [zi_eq]
          rw [zi_lei] at z
          have z2 := zi_lv a3 (show U < D2 by omega) d2
          rw [← e3] at z2
          omega
        · rw [if_neg z]
  · have n9 := zi_n9 (e := L) (by omega)
    have sb : nI L - nI U = nI (L - U) := pk_sub (by omega)
    have le4 : (nI D4 ≤ nI (L - U)) = (D4 ≤ L - U) := propext (nI_leI (by omega) (by omega))
    by_cases q : D2 ≤ U
    · by_cases q4 : D4 ≤ L - U
      · refine ⟨100, ?_, ?_⟩
        · simp only [f_X2_envelopeAt, hke, hu 0 (by decide), hu 2 (by decide), hu 3 (by decide), hu 4 (by decide), hu 5 (by decide), e2, e4, h0, n9, if_false, sb, zc_lv _ (show U < 2 ^ 31 by omega) (show D2 < 2 ^ 31 by omega), zc_lv _ (show L - U < 2 ^ 31 by omega) (show D4 < 2 ^ 31 by omega), Option.bind_some, if_neg (show ¬ U < D2 by omega), if_neg (show ¬ L - U < D4 by omega), gx_lt]
          rfl
        · simp only [f_X4_envelopeAt, zm_0 he12, zm_2 he12, zm_4 he12, Option.bind_some, e2, e4, le2, eq_true q, if_true, gx_lt, h0, sb, n9, if_false, le4, eq_true q4]
      · refine ⟨if zn m e 5 + ((100 - zn m e 5) * nI (L - U)) / nI D4 ≤ 100 then zn m e 5 + ((100 - zn m e 5) * nI (L - U)) / nI D4 else 100, ?_, ?_⟩
        · simp only [f_X2_envelopeAt, hke, hu 0 (by decide), hu 2 (by decide), hu 3 (by decide), hu 4 (by decide), hu 5 (by decide), e2, e4, h0, n9, if_false, sb, zc_lv _ (show U < 2 ^ 31 by omega) (show D2 < 2 ^ 31 by omega), zc_lv _ (show L - U < 2 ^ 31 by omega) (show D4 < 2 ^ 31 by omega), Option.bind_some, if_neg (show ¬ U < D2 by omega), if_pos (show L - U < D4 by omega), gx_lt, zi_min1]
        · simp only [f_X4_envelopeAt, zm_0 he12, zm_2 he12, zm_4 he12, zm_5 he12, Option.bind_some, e2, e4, le2, eq_true q, if_true, gx_lt, h0, sb, n9, if_false, le4, eq_false q4, zm_lv _ (show 0 < D4 by omega) (show D4 < 2 ^ 31 by omega)]
          split <;> rfl
    · by_cases q4 : D4 ≤ L - U
      · refine ⟨if 100 ≤ zn m e 3 + ((100 - zn m e 3) * nI U) / nI D2 then 100 else zn m e 3 + ((100 - zn m e 3) * nI U) / nI D2, ?_, ?_⟩
        · simp only [f_X2_envelopeAt, hke, hu 0 (by decide), hu 2 (by decide), hu 3 (by decide), hu 4 (by decide), hu 5 (by decide), e2, e4, h0, n9, if_false, sb, zc_lv _ (show U < 2 ^ 31 by omega) (show D2 < 2 ^ 31 by omega), zc_lv _ (show L - U < 2 ^ 31 by omega) (show D4 < 2 ^ 31 by omega), Option.bind_some, if_pos (show U < D2 by omega), if_neg (show ¬ L - U < D4 by omega), gx_lt, zi_min1]
        · simp only [f_X4_envelopeAt, zm_0 he12, zm_2 he12, zm_3 he12, zm_4 he12, Option.bind_some, e2, e4, le2, eq_false q, if_true, gx_lt, h0, sb, n9, if_false, le4, eq_true q4, zm_lv _ (show 0 < D2 by omega) (show D2 < 2 ^ 31 by omega)]
          split <;> rfl
      · refine ⟨if zn m e 5 + ((100 - zn m e 5) * nI (L - U)) / nI D4 ≤ zn m e 3 + ((100 - zn m e 3) * nI U) / nI D2 then zn m e 5 + ((100 - zn m e 5) * nI (L - U)) / nI D4 else zn m e 3 + ((100 - zn m e 3) * nI U) / nI D2, ?_, ?_⟩
        · simp only [f_X2_envelopeAt, hke, hu 0 (by decide), hu 2 (by decide), hu 3 (by decide), hu 4 (by decide), hu 5 (by decide), e2, e4, h0, n9, if_false, sb, zc_lv _ (show U < 2 ^ 31 by omega) (show D2 < 2 ^ 31 by omega), zc_lv _ (show L - U < 2 ^ 31 by omega) (show D4 < 2 ^ 31 by omega), Option.bind_some, if_pos (show U < D2 by omega), if_pos (show L - U < D4 by omega), gx_lt, zi_min1]
        · simp only [f_X4_envelopeAt, zm_0 he12, zm_2 he12, zm_3 he12, zm_4 he12, zm_5 he12, Option.bind_some, e2, e4, le2, eq_false q, if_true, gx_lt, h0, sb, n9, if_false, le4, eq_false q4, zm_lv _ (show 0 < D2 by omega) (show D2 < 2 ^ 31 by omega), zm_lv _ (show 0 < D4 by omega) (show D4 < 2 ^ 31 by omega)]
          split <;> rfl
