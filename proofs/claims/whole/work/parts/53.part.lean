theorem zi_d100 (x : Int32) : -21474836 ≤ (x / 100).toInt ∧ (x / 100).toInt ≤ 21474836 := by
  have h1 : (x / 100).toInt = x.toInt.tdiv 100 := Int32.toInt_div_of_ne_right x 100 (by decide)
  have h2 := Int32.toInt_lt x
  have h3 := Int32.le_toInt x
  rw [h1]
  by_cases q : x.toInt < 0
  · have h4 : x.toInt.tdiv 100 = -((-x.toInt) / 100) := by
      rw [← Int.tdiv_eq_ediv_of_nonneg (by omega), Int.neg_tdiv, Int.neg_neg]
    omega
  · rw [Int.tdiv_eq_ediv_of_nonneg (Int.not_lt.mp q)]
    omega
theorem zi_neg {p : Nat} (h : p < 2 ^ 30) : (-(nI p)).toInt = -(p : Int) := by
  have h1 := pk_sub_toInt (a := 0) (b := p) (by decide) h
  rw [show nI 0 - nI p = -(nI p) from Int32.zero_sub _] at h1
  rw [h1]
  omega
theorem zi_ndiv {p : Nat} (h : p < 2 ^ 30) : (-(nI p)) / 100 = -(nI (p / 100)) := by
  rw [zi_eq, zi_neg (by omega), Int32.toInt_div_of_ne_right _ _ (by decide), zi_neg h, show (100 : Int32).toInt = 100 by decide, Int.neg_tdiv, Int.tdiv_eq_ediv_of_nonneg (by omega)]
  omega
theorem zi_hpos {z d : Nat} (hz : z < 2 ^ 30) (hd : d < 2 ^ 30) : f_X4_held (nI z) (nI d) = some (nI (min z d)) := by
  unfold f_X4_held
  by_cases q : z ≤ d
  · rw [if_pos (nI_le q (by omega)), if_pos, Nat.min_eq_left q]
    rw [zi_lei, zi_neg hd, nI_toInt (by omega)]
    omega
  · rw [if_neg (nI_ge (by omega) (by omega)), Nat.min_eq_right (by omega)]
theorem zi_hneg {z d : Nat} (hz : z < 2 ^ 30) (hd : d < 2 ^ 30) : f_X4_held (-(nI z)) (nI d) = some (-(nI (min z d))) := by
  unfold f_X4_held
  rw [if_pos (by rw [zi_lei, zi_neg hz, nI_toInt (by omega)]; omega)]
  by_cases q : z ≤ d
  · rw [if_pos, Nat.min_eq_left q]
    rw [zi_lei, zi_neg hd, zi_neg hz]
    omega
  · rw [if_neg, Nat.min_eq_right (by omega)]
    rw [zi_lei, zi_neg hd, zi_neg hz]
    omega
theorem zi_nat {x : Int32} (h : 0 ≤ x.toInt) : ∃ j : Nat, (j : Int) = x.toInt ∧ j < 2 ^ 31 ∧ x = nI j := by
  obtain ⟨j, j1, j2⟩ := nI_of (x := x) (by rw [zi_lt, zi_t0]; omega)
  exact ⟨j, by rw [j2, nI_toInt j1], j1, j2⟩
theorem zi_h0 {d : Int32} (h : 0 ≤ d.toInt) (h2 : d.toInt ≤ 1000) : f_X4_held 0 d = some 0 := by
  obtain ⟨D, d1, d2, rfl⟩ := zi_nat h
  exact (zi_hpos (z := 0) (by decide) (by omega)).trans (by rw [Nat.min_eq_left (Nat.zero_le _)]; rfl)
/-- WAVES -/
theorem zs_wave {n T : Nat} {c m : gx_St} (hC : zC n T c m) (hn : n ≤ 12) {e U : Nat} (he : e < n) (hL : zn m e 0 = -9 ∨ ∃ L, U < L ∧ L ≤ 60000 ∧ zn m e 0 = nI L) (h4 : ¬ (4 : Int32) ≤ m 3 e) : ∃ r, f_X2_waveAt c (nI e) (nI U) = some r ∧ f_X4_waveAt m (nI e) (nI U) = some r := by
  have he12 : e < 12 := by omega
  have hke := zi_cl (k := e) (by omega)
  have hce := zi_ck (k := e) (N := 12) he12 (by decide)
  have u0 : c (8 + 3 * e + 1) 0 = zn m e 0 := (hC.2.2.1 e he).1 0 (by decide)
  have hs := (hC.2.1 e he).1
  have s0 : c (8 + 3 * e) 1 = m 3 e := hs 0 (by decide)
  have s1 : c (8 + 3 * e) 2 = m 4 e := hs 1 (by decide)
  have s2 : c (8 + 3 * e) 3 = m 5 e := hs 2 (by decide)
  have s3 : c (8 + 3 * e) 4 = m 6 e := hs 3 (by decide)
  have s4 : c (8 + 3 * e) 5 = m 7 e := hs 4 (by decide)
  obtain ⟨⟨k0, k6⟩, k12, -, -⟩ := (hC.2.1 e he).2
  rw [zi_lei, show (4 : Int32).toInt = 4 by decide] at h4
  have hk : m 3 e = 0 ∨ m 3 e = 1 ∨ m 3 e = 2 ∨ m 3 e = 3 := by
    rw [zi_eq, zi_eq, zi_eq, zi_eq, zi_t0, zi_t1, zi_t2, show (3 : Int32).toInt = 3 by decide]
    omega
  have n01 : ((0 : Int32) = 1) = False := eq_false (by decide)
  have n02 : ((0 : Int32) = 2) = False := eq_false (by decide)
  have n03 : ((0 : Int32) = 3) = False := eq_false (by decide)
  have n20 : ((2 : Int32) = 0) = False := eq_false (by decide)
  have n21 : ((2 : Int32) = 1) = False := eq_false (by decide)
  have n30 : ((3 : Int32) = 0) = False := eq_false (by decide)
  have n31 : ((3 : Int32) = 1) = False := eq_false (by decide)
  have n32 : ((3 : Int32) = 2) = False := eq_false (by decide)
  have cne : ¬ m 6 e ≤ 0 → ¬ m 6 e = 0 := fun z y => z (by rw [y]; exact Int32.le_refl _)
  rcases hk with hk | hk | hk | hk
  · refine ⟨m 4 e, ?_, ?_⟩
    · simp only [f_X2_waveAt, hke, s0, hk, n01, n02, n03, if_false, s1]
    · by_cases q : m 6 e ≤ 0
      · simp only [f_X4_waveAt, hke, hce, if_false, gx_lt, zm_0 he12, Option.bind_some, q, if_true, hk]
      · simp only [f_X4_waveAt, hke, hce, if_false, gx_lt, zm_0 he12, Option.bind_some, q, cne q, if_true, hk]
  · have c2 := k12 (Or.inl hk)
    have q : ¬ m 6 e ≤ 0 := by rw [zi_lei, zi_t0]; omega
    simp only [f_X2_waveAt, f_X4_waveAt, hke, hce, s0, s1, s2, s3, s4, f_X3_remainder, q, cne q, if_false, hk, if_true, Option.bind_some, gx_lt, zm_0 he12, zi_10]
    split
    · exact ⟨_, rfl, rfl⟩
    · exact ⟨_, rfl, rfl⟩
  · have c2 := k12 (Or.inr hk)
    have q : ¬ m 6 e ≤ 0 := by rw [zi_lei, zi_t0]; omega
    simp only [f_X2_waveAt, f_X4_waveAt, hke, hce, s0, s1, s2, s3, s4, f_X3_remainder, f_X2_riseAt, f_X3_quotient, q, cne q, if_false, hk, if_true, Option.bind_some, gx_lt, zm_0 he12, n20, n21]
    split
    · exact ⟨_, rfl, rfl⟩
    · exact ⟨_, rfl, rfl⟩
  · rcases hL with h0 | ⟨L, l1, l2, h0⟩
    · refine ⟨m 4 e, ?_, ?_⟩
      · simp only [f_X2_waveAt, hke, s0, hk, n31, n32, if_false, if_true, s1, u0, h0]
      · by_cases q : m 6 e ≤ 0
        · simp only [f_X4_waveAt, hke, hce, if_false, gx_lt, zm_0 he12, Option.bind_some, q, if_true, hk, n30, n31, n32, h0]
        · simp only [f_X4_waveAt, hke, hce, if_false, gx_lt, zm_0 he12, Option.bind_some, q, cne q, if_true, hk, n30, n31, n32, h0]
    · have n9 := zi_n9 (e := L) (by omega)
      have l0 := nI_ne0 (n := L) (by omega) (by omega)
      have l3 := nI_nle (n := L) (by omega) (by omega)
      refine ⟨m 4 e + ((m 5 e - m 4 e) * nI U) / nI L, ?_, ?_⟩
      · simp only [f_X2_waveAt, hke, s0, hk, n31, n32, if_false, if_true, s1, s2, u0, h0, n9, f_X3_quotient, l0, l3, Option.bind_some]
      · by_cases q : m 6 e ≤ 0
        · simp only [f_X4_waveAt, hke, hce, if_false, gx_lt, zm_0 he12, Option.bind_some, q, if_true, hk, n30, n31, n32, h0, n9, l0]
        · simp only [f_X4_waveAt, hke, hce, if_false, gx_lt, zm_0 he12, Option.bind_some, q, cne q, hk, n30, n31, n32, h0, n9, l0]
theorem zs_away {c : gx_St} {e : Nat} (he : e < 12) (o D : Int32) (hD : ¬ D ≤ 0) (hc : 0 ≤ (c (8 + 3 * e) 4).toInt) (hd : 0 ≤ (c (8 + 3 * e) 5).toInt ∧ (c (8 + 3 * e) 5).toInt ≤ 1000) : ∃ r, f_X2_awayFrom c (nI e) o D = some r ∧ ((f_X4_beyond o (c (8 + 3 * e) 4)).bind fun r28 => f_X4_held (((-(c (8 + 3 * e) 2)) * r28) / D) (c (8 + 3 * e) 5)) = some r := by
  have hke := zi_cl (k := e) (by omega)
  have d0 : ¬ D = 0 := fun y => hD (by rw [y]; exact Int32.le_refl _)
  have hh : ∀ x y, ∃ r, f_X4_held x y = some r := fun x y => by
    unfold f_X4_held
    split
    · split <;> exact ⟨_, rfl⟩
    · exact ⟨_, rfl⟩
  have z0 : ∀ x : Int32, x * 0 / D = 0 := fun x => by
    rw [Int32.mul_zero]
    exact Int32.zero_div
  have key : ∀ s : Int32, (if 0 ≤ o then o else 0 - o) = s → f_X4_size o = some s := fun s hs => by
    unfold f_X4_size
    rw [← hs]
    by_cases q : 0 ≤ o
    · rw [if_pos q, if_pos q]
    · rw [if_neg q, if_neg q, Int32.zero_sub]
  obtain ⟨s, hs⟩ : ∃ s, (if 0 ≤ o then o else 0 - o) = s := ⟨_, rfl⟩
  have k1 := key s hs
  simp only [f_X2_awayFrom, hke, gx_lt, hs, f_X4_beyond, k1, Option.bind_some, f_X3_quotient, hD, d0, if_false, zi_q]
  by_cases q : c (8 + 3 * e) 4 < s
  · simp only [q, if_true]
    by_cases q2 : 0 ≤ o
    · have q3 : ¬ o ≤ 0 := fun y => by
        have y1 : o.toInt = 0 := by
          rw [zi_lei, zi_t0] at y q2
          omega
        rw [if_pos q2] at hs
        rw [← hs, zi_lt] at q
        omega
      simp only [q2, q3, if_true, if_false, Option.bind_some]
      obtain ⟨r, hr⟩ := hh (-(c (8 + 3 * e) 2) * (o - c (8 + 3 * e) 4) / D) (c (8 + 3 * e) 5)
      exact ⟨r, by rw [hr]; rfl, hr⟩
    · have q3 : o ≤ 0 := by
        rw [zi_lei, zi_t0] at q2 ⊢
        omega
      simp only [q2, q3, if_true, if_false, Option.bind_some]
      obtain ⟨r, hr⟩ := hh (-(c (8 + 3 * e) 2) * (o + c (8 + 3 * e) 4) / D) (c (8 + 3 * e) 5)
      exact ⟨r, by rw [hr]; rfl, hr⟩
  · simp only [q, if_false, Option.bind_some, z0]
    exact ⟨0, rfl, zi_h0 hd.1 hd.2⟩
theorem zs_wall {c : gx_St} {e : Nat} (he : e < 12) (x : Int32) (hx : -1000 ≤ x.toInt ∧ x.toInt ≤ 1000) (ha : 1 ≤ (c (8 + 3 * e) 2).toInt ∧ (c (8 + 3 * e) 2).toInt ≤ 1000) (hb : -1000 ≤ (c (8 + 3 * e) 3).toInt ∧ (c (8 + 3 * e) 3).toInt ≤ 1000) (hd : 0 ≤ (c (8 + 3 * e) 5).toInt ∧ (c (8 + 3 * e) 5).toInt ≤ 1000) : ∃ r, f_X2_wallAt c (nI e) x = some r ∧ (if c (8 + 3 * e) 4 = 0 then (if x - c (8 + 3 * e) 3 ≤ 0 then some 0 else (f_X4_held (((-(c (8 + 3 * e) 2)) * (x - c (8 + 3 * e) 3)) / 100) (c (8 + 3 * e) 5)).bind fun r21 => some r21) else (if 0 ≤ x - c (8 + 3 * e) 3 then some 0 else (f_X4_held (((-(c (8 + 3 * e) 2)) * (x - c (8 + 3 * e) 3)) / 100) (c (8 + 3 * e) 5)).bind fun r16 => some r16)) = some r := by
  have hke := zi_cl (k := e) (by omega)
  obtain ⟨a, a1, a2, a3⟩ := zi_nat (x := c (8 + 3 * e) 2) (by omega)
  obtain ⟨d, d1, d2, d3⟩ := zi_nat (x := c (8 + 3 * e) 5) (by omega)
  have subI : ∀ y z : Int32, -1000 ≤ y.toInt ∧ y.toInt ≤ 1000 → -1000 ≤ z.toInt ∧ z.toInt ≤ 1000 → (y - z).toInt = y.toInt - z.toInt := fun y z hy hz => by
    rw [Int32.toInt_sub]
    exact Int.bmod_eq_of_le (by omega) (by omega)
  have s1 := subI x (c (8 + 3 * e) 3) hx hb
  have s2 := subI (c (8 + 3 * e) 3) x hb hx
  have hm : ∀ y, y ≤ 2000 → a * y < 2 ^ 30 := fun y hy => Nat.lt_of_le_of_lt (Nat.mul_le_mul (show a ≤ 1000 by omega) hy) (by decide)
  simp only [f_X2_wallAt, hke, gx_lt, zi_q]
  by_cases q : c (8 + 3 * e) 4 = 0
  · simp only [q, if_true]
    by_cases q2 : 0 < x - c (8 + 3 * e) 3
    · have q3 : ¬ x - c (8 + 3 * e) 3 ≤ 0 := by
        rw [zi_lt, zi_t0] at q2
        rw [zi_lei, zi_t0]
        omega
      rw [zi_lt, zi_t0, s1] at q2
      obtain ⟨y, y1, y2, y3⟩ := zi_nat (x := x - c (8 + 3 * e) 3) (by rw [s1]; omega)
      rw [s1] at y1
      have hy := hm y (by omega)
      rw [if_pos (by rw [zi_lt, zi_t0, s1]; omega), if_neg q3, y3, a3, d3, Int32.neg_mul, pk_mul, zi_ndiv hy, zi_hneg (by omega) (by omega), show (100 : Int32) = nI 100 from rfl, pk_div (by omega) (by decide) (by decide), zi_hpos (by omega) (by omega)]
      exact ⟨_, rfl, rfl⟩
    · have q3 : x - c (8 + 3 * e) 3 ≤ 0 := by
        rw [zi_lt, zi_t0] at q2
        rw [zi_lei, zi_t0]
        omega
      rw [if_neg q2, if_pos q3]
      exact ⟨_, rfl, rfl⟩
  · simp only [q, if_false]
    by_cases q2 : 0 < c (8 + 3 * e) 3 - x
    · have q3 : ¬ 0 ≤ x - c (8 + 3 * e) 3 := by
        rw [zi_lt, zi_t0, s2] at q2
        rw [zi_lei, zi_t0, s1]
        omega
      have q4 : -(c (8 + 3 * e) 2) * (x - c (8 + 3 * e) 3) = c (8 + 3 * e) 2 * (c (8 + 3 * e) 3 - x) := by
        rw [Int32.neg_mul, ← Int32.mul_neg, Int32.neg_sub]
      have hh : ∀ x y, ∃ r, f_X4_held x y = some r := fun x y => by
        unfold f_X4_held
        split
        · split <;> exact ⟨_, rfl⟩
        · exact ⟨_, rfl⟩
      rw [if_pos q2, if_neg q3, q4]
      obtain ⟨r, hr⟩ := hh (c (8 + 3 * e) 2 * (c (8 + 3 * e) 3 - x) / 100) (c (8 + 3 * e) 5)
      rw [hr]
      exact ⟨_, rfl, rfl⟩
    · have q3 : 0 ≤ x - c (8 + 3 * e) 3 := by
        rw [zi_lt, zi_t0, s2] at q2
        rw [zi_lei, zi_t0, s1]
        omega
      rw [if_neg q2, if_pos q3]
      exact ⟨_, rfl, rfl⟩
