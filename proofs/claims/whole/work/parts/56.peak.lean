theorem zs_loss {n T K w h M : Nat} {c m : gx_St} (hR : zR n T K w h M c m) : ∃ Lo, f_X3_lossAt c = some (nI Lo) ∧ T < Lo ∧ Lo ≤ 1000000000 ∧ (∀ τ, τ ≤ 20000000 → τ < Lo → zlive T w h m τ) ∧ (∀ τ, Lo ≤ τ → τ ≤ 20000000 → ¬ zlive T w h m τ ∧ Lo = h + w ∧ m 0 18 = 0) := by
  obtain ⟨hA, -⟩ := id hR
  have hw := hA.2.2.2.1
  have hh := hA.2.2.2.2.1
  have hT := hA.2.1
  have eb : (1000000000 : Int32) = nI 1000000000 := rfl
  unfold f_X3_lossAt zlive
  rw [hw.2.1, hh.2.1, nI_add]
  rcases hA.2.2.2.2.2.2.2.2 with ⟨l1, l2, l3⟩ | ⟨l1, l2, -⟩
  · rw [l1, if_pos rfl]
    rcases Nat.eq_zero_or_pos w with z | z
    · subst z
      rw [if_pos (show nI 0 ≤ 0 by decide)]
      exact ⟨1000000000, by rw [eb], by omega, by omega, fun τ _ _ => Or.inr (Or.inl rfl), fun τ h1 h2 => by omega⟩
    · rw [if_neg (nI_nle z (by omega))]
      refine ⟨h + w, rfl, l3 z, by omega, fun τ _ h1 => Or.inr (Or.inr h1), fun τ h1 h2 => ⟨?_, rfl, l2⟩⟩
      rw [l2]
      rintro (y | y | y)
      · exact absurd y (by decide)
      · omega
      · omega
  · rw [l1, if_neg (by decide)]
    exact ⟨1000000000, by rw [eb], by omega, by omega, fun τ _ _ => Or.inl l2, fun τ h1 h2 => by omega⟩
theorem zs_end {n T K w h M : Nat} {c m : gx_St} (hR : zR n T K w h M c m) {N : Nat} (h1 : 1 ≤ N) (h2 : N ≤ 2000) : ∃ E, f_X3_endOfPush c (nI N) = some (nI E) ∧ T < E ∧ E ≤ T + N ∧ (∀ τ, τ < E → zlive T w h m τ) ∧ (∀ τ, E ≤ τ → τ < T + N → ¬ zlive T w h m τ) := by
  obtain ⟨Lo, l1, l2, l3, l4, l5⟩ := zs_loss hR
  have hT := hR.1.2.1
  simp only [f_X3_endOfPush, l1, Option.bind_some, hT.2.1, nI_add, gx_lt]
  by_cases q : Lo < T + N
  · rw [if_pos (nI_lt q (by omega))]
    exact ⟨Lo, rfl, l2, by omega, fun τ y => l4 τ (by omega) y, fun τ y1 y2 => (l5 τ y1 (by omega)).1⟩
  · rw [if_neg (nI_nlt (by omega) (by omega))]
    exact ⟨T + N, rfl, by omega, by omega, fun τ y => l4 τ (by omega) (by omega), fun τ y1 y2 => by omega⟩
def zhb (R : Int32) : Bool := decide (1000 < R.toInt ∨ R.toInt < -1000)
theorem zi_size {R : Int32} (h : -300000000 ≤ R.toInt ∧ R.toInt ≤ 300000000) : ∃ s, f_X4_size R = some s ∧ (if 0 ≤ R then R else 0 - R) = s ∧ 0 ≤ s.toInt ∧ (1000 < s.toInt ↔ zhb R = true) := by
  by_cases q : 0 ≤ R
  · refine ⟨R, by rw [f_X4_size, if_pos q], by rw [if_pos q], ?_, ?_⟩
    · rw [zi_lei, zi_t0] at q
      exact q
    · unfold zhb
      rw [decide_eq_true_iff]
      rw [zi_lei, zi_t0] at q
      omega
  · have q2 : (-R).toInt = -R.toInt := by
      rw [Int32.toInt_neg]
      exact Int.bmod_eq_of_le (by omega) (by omega)
    refine ⟨-R, by rw [f_X4_size, if_neg q], by rw [if_neg q, Int32.zero_sub], ?_, ?_⟩
    · rw [zi_lei, zi_t0] at q
      omega
    · unfold zhb
      rw [decide_eq_true_iff, q2]
      rw [zi_lei, zi_t0] at q
      omega
theorem zi_hb (R : Int32) : f_X3_isHeldBack R = some (if zhb R = true then 1 else 0) := by
  unfold f_X3_isHeldBack zhb
  simp only [zi_lt, zi_lei, zi_1000, zi_m1000]
  by_cases q : 1000 < R.toInt
  · rw [if_pos q, if_pos (by rw [decide_eq_true_iff]; omega)]
  · rw [if_neg q]
    by_cases q2 : -1000 ≤ R.toInt
    · rw [if_pos q2, if_neg (by rw [decide_eq_true_iff]; omega)]
    · rw [if_neg q2, if_pos (by rw [decide_eq_true_iff]; omega)]
theorem zm_hb {m : gx_St} {t X R0 R1 : Int32} (h0 : f_X4_rawAt m 0 t X = some R0) (h1 : f_X4_rawAt m 1 t X = some R1) (b0 : -300000000 ≤ R0.toInt ∧ R0.toInt ≤ 300000000) (b1 : -300000000 ≤ R1.toInt ∧ R1.toInt ≤ 300000000) : f_X4_isHeldBack m t X = some (if zhb R0 = true ∨ zhb R1 = true then 1 else 0) := by
  obtain ⟨s0, p1, -, p2, p3⟩ := zi_size b0
  obtain ⟨s1, q1, -, q2, q3⟩ := zi_size b1
  simp only [f_X4_isHeldBack, h0, h1, p1, q1, Option.bind_some, zi_lt, zi_lei, zi_1000]
  by_cases z : zhb R0 = true
  · rw [if_pos (p3.mpr z), if_pos (Or.inl z)]
  · rw [if_neg (fun y => z (p3.mp y))]
    by_cases z1 : zhb R1 = true
    · rw [if_neg (by have := q3.mpr z1; omega), if_pos (Or.inr z1)]
    · rw [if_pos (by
        have : ¬ 1000 < s1.toInt := fun y => z1 (q3.mp y)
        omega), if_neg (fun y => y.elim z z1)]
/-- after the host is lost nothing pushes -/
theorem zm_peakT {n T K w h M : Nat} {c m : gx_St} (hR : zR n T K w h M c m) {a N : Nat} (ha : a < 2) (hN : N ≤ 2000) (v3 B : Int32) (hB : 0 ≤ B.toInt) (A : Int32) : ∀ (r p F : Nat), p + r = N → r < F → (∀ q, p ≤ q → q < N → ¬ zlive T w h m (T + q)) → fL_X4_peak_41 F m (nI a) (nI N) v3 B A (nI p) = some (if v3 = 0 then B else A) := by
  have hT := hR.1.2.1
  intro r
  induction r with
  | zero =>
    intro p F hp hF _
    have hp : p = N := by omega
    subst hp
    obtain ⟨F, rfl⟩ : ∃ F', F = F' + 1 := ⟨F - 1, by omega⟩
    rw [fL_X4_peak_41]
    simp only [zi_lee, if_true]
    split <;> rfl
  | succ r ih =>
    intro p F hp hF hl
    obtain ⟨F, rfl⟩ : ∃ F', F = F' + 1 := ⟨F - 1, by omega⟩
    have r0 := (zs_rawX hR ha (τ := T + p) (by omega) (by omega) 0).2 (hl p (Nat.le_refl _) (by omega))
    have s0 : f_X4_size 0 = some 0 := rfl
    have l0 : (0 : Int32) ≤ B := by rw [zi_lei, zi_t0]; exact hB
    rw [fL_X4_peak_41]
    simp only [zi_le (show p < N by omega) (show N < 2 ^ 31 by omega), if_false, hT.2.2, nI_add, r0, Option.bind_some, s0, l0, if_true, gx_lt, zi_s]
    exact ih (p + 1) F (by omega) (by omega) (fun q h1 h2 => hl q (by omega) h2)
theorem zs_peakL {n T K w h M : Nat} {c m : gx_St} (hR : zR n T K w h M c m) {a N E : Nat} (ha : a < 2) (hN : N ≤ 2000) (hE : E ≤ T + N) (hl : ∀ τ, τ < E → zlive T w h m τ) (hd : ∀ τ, E ≤ τ → τ < T + N → ¬ zlive T w h m τ) (v3 : Int32) : ∀ (r p F : Nat) (B : Int32) (A : Nat), p + r = N → r < F → 0 ≤ B.toInt → T + p ≤ E → ∃ x, fL_X3_peak_54 F c (nI a) v3 B (nI (T + A)) (nI E) (nI (T + p)) = some x ∧ fL_X4_peak_41 F m (nI a) (nI N) v3 B (nI A) (nI p) = some x := by
  have hT := hR.1.2.1
  have hn := hR.1.1.1
  have fin : ∀ (r p F : Nat) (B : Int32) (A : Nat), p + r = N → r < F → 0 ≤ B.toInt → T + p = E → ∃ x, fL_X3_peak_54 F c (nI a) v3 B (nI (T + A)) (nI E) (nI (T + p)) = some x ∧ fL_X4_peak_41 F m (nI a) (nI N) v3 B (nI A) (nI p) = some x := by
    intro r p F B A hp hF hB hpE
    refine ⟨if v3 = 0 then B else nI A, ?_, zm_peakT hR ha hN v3 B hB (nI A) r p F hp hF (fun q h1 h2 => hd _ (by omega) (by omega))⟩
    obtain ⟨F, rfl⟩ : ∃ F', F = F' + 1 := ⟨F - 1, by omega⟩
    rw [fL_X3_peak_54, hpE]
    have sb : nI (T + A) - nI T = nI A := by rw [pk_sub (by omega), Nat.add_sub_cancel_left]
    simp only [zi_lee, if_true, hT.2.1, sb]
    split <;> rfl
  intro r
  induction r with
  | zero =>
    intro p F B A hp hF hB hpE
    exact fin 0 p F B A hp hF hB (by omega)
  | succ r ih =>
    intro p F B A hp hF hB hpE
    rcases Nat.eq_or_lt_of_le hpE with z | z
    · exact fin (r + 1) p F B A hp hF hB z
    · obtain ⟨F, rfl⟩ : ∃ F', F = F' + 1 := ⟨F - 1, by omega⟩
      have r1 := zs_raw hR ha (τ := T + p) (by omega) (by omega)
      have r2 := (zs_rawX hR ha (τ := T + p) (by omega) (by omega) 0).1 (hl _ z)
      rw [zs_raw0 m hn] at r2
      have bd := zs_gb hR ha (τ := T + p) (by omega) (by omega)
      obtain ⟨s, s1, s2, s3, -⟩ := zi_size bd
      have e1 : fL_X3_peak_54 (F + 1) c (nI a) v3 B (nI (T + A)) (nI E) (nI (T + p)) = if s ≤ B then fL_X3_peak_54 F c (nI a) v3 B (nI (T + A)) (nI E) (nI (T + (p + 1))) else fL_X3_peak_54 F c (nI a) v3 s (nI (T + p)) (nI E) (nI (T + (p + 1))) := by
        rw [fL_X3_peak_54]
        simp only [zi_le z (show E < 2 ^ 31 by omega), if_false, zi_cl (show a < 2 ^ 31 by omega), zi_ck ha (by decide), r1, Option.bind_some, s2, gx_lt, zi_s, Nat.add_assoc]
      have e2 : fL_X4_peak_41 (F + 1) m (nI a) (nI N) v3 B (nI A) (nI p) = if s ≤ B then fL_X4_peak_41 F m (nI a) (nI N) v3 B (nI A) (nI (p + 1)) else fL_X4_peak_41 F m (nI a) (nI N) v3 s (nI p) (nI (p + 1)) := by
        rw [fL_X4_peak_41]
        simp only [zi_le (show p < N by omega) (show N < 2 ^ 31 by omega), if_false, hT.2.2, nI_add, r2, Option.bind_some, s1, gx_lt, zi_s]
      rw [e1, e2]
      by_cases y : s ≤ B
      · rw [if_pos y, if_pos y]
        exact ih (p + 1) F B A (by omega) (by omega) hB (by omega)
      · rw [if_neg y, if_neg y]
        exact ih (p + 1) F s p (by omega) (by omega) s3 (by omega)
theorem zi_1rng {x : Int32} {Mx : Int32} {n : Nat} (hM : Mx.toInt = n) (h : ¬ (x < 1 ∨ Mx < x)) : ∃ g, 1 ≤ g ∧ g ≤ n ∧ x = nI g := by
  obtain ⟨g, g1, g2⟩ := zi_rng (x := x) hM (fun q => h (q.elim (fun z => Or.inl (zi_01 z)) Or.inr))
  refine ⟨g, ?_, g1, g2⟩
  rcases Nat.eq_zero_or_pos g with z | z
  · subst z
    subst g2
    exact absurd (Or.inl (by decide)) h
  · exact z
theorem zz_peak {c m : gx_St} (h : zz_R c m) (a1 a2 a3 : Int32) : ∃ r : Int32, f_X3_peak c a1 a2 a3 = some r ∧ f_X4_peak m a1 a2 a3 = some r := by
  obtain ⟨n, T, K, w, h, M, hR⟩ := id h
  obtain ⟨hA, hB, hC, hD, hE⟩ := id hR
  have hT := hA.2.1
  have hn := hA.1.1
  rcases zs_isX a1 with ⟨h1, h2⟩ | ⟨a, ha, rfl, h1, h2⟩
  · exact ⟨-1, by simp [f_X3_peak, h1], by simp [f_X4_peak, h2]⟩
  · by_cases hw : a2 < 1 ∨ 2000 < a2
    · exact ⟨-2, by simp [f_X3_peak, h1, zi_w, zi_win0 hw], by simp [f_X4_peak, h2, zi_win0 hw]⟩
    · by_cases hw3 : a3 < 0 ∨ 1 < a3
      · exact ⟨-2, by simp [f_X3_peak, h1, zi_w, zi_win1 hw, zi_win0 hw3], by simp [f_X4_peak, h2, zi_win1 hw, zi_win0 hw3]⟩
      · obtain ⟨N, n1, n2, rfl⟩ := zi_1rng (n := 2000) (by decide) hw
        obtain ⟨E, e1, e2, e3, e4, e5⟩ := zs_end hR n1 n2
        have r1 := zs_raw hR ha (τ := T) (by omega) (by omega)
        have r2 := (zs_rawX hR ha (τ := T) (by omega) (by omega) 0).1 (e4 _ e2)
        rw [zs_raw0 m hn] at r2
        have bd := zs_gb hR ha (τ := T) (by omega) (by omega)
        obtain ⟨s, s1, s2, s3, -⟩ := zi_size bd
        obtain ⟨x, x1, x2⟩ := zs_peakL hR ha n2 e3 e4 e5 a3 (N - 1) 1 2000 s 0 (by omega) (by omega) s3 (by omega)
        refine ⟨x, ?_, ?_⟩
        · simp only [f_X3_peak, h1, zi_w, zi_win1 hw, zi_win1 hw3, Option.bind_some, zi_10, if_false, gx_lt, hT.2.1, e1]
          rw [fL_X3_peak_54]
          simp only [zi_le e2 (show E < 2 ^ 31 by omega), if_false, zi_cl (show a < 2 ^ 31 by omega), zi_ck ha (by decide), r1, Option.bind_some, s2, gx_lt, zi_s]
          by_cases y : s ≤ 0
          · rw [if_pos y]
            have y2 : s = 0 := by
              rw [zi_lei, zi_t0] at y
              rw [zi_eq, zi_t0]
              omega
            rw [y2] at x1
            exact x1
          · rw [if_neg y]
            exact x1
        · simp only [f_X4_peak, h2, zi_win1 hw, zi_win1 hw3, Option.bind_some, zi_10, if_false]
          have l0 := zi_le (show 0 < N by omega) (show N < 2 ^ 31 by omega)
          have a0 : nI T + 0 = nI T := Int32.add_zero _
          have lm : ¬ s ≤ -1 := by
            rw [zi_lei, show (-1 : Int32).toInt = -1 by decide]
            omega
          rw [nI_0] at l0
          rw [fL_X4_peak_41]
          simp only [l0, if_false, hT.2.2, a0, r2, Option.bind_some, s1, lm, gx_lt]
          exact x2
/-- how long it is held back -/
theorem zm_soT {n T K w h M : Nat} {c m : gx_St} (hR : zR n T K w h M c m) {N : Nat} (hN : N ≤ 2000) (v : Int32) : ∀ (r p F : Nat), p + r = N → r < F → (∀ q, p ≤ q → q < N → ¬ zlive T w h m (T + q)) → fL_X4_soLong_18 F m (nI N) v (nI p) = some v := by
  have hT := hR.1.2.1
  intro r
  induction r with
  | zero =>
    intro p F hp hF _
    have hp : p = N := by omega
    subst hp
    obtain ⟨F, rfl⟩ : ∃ F', F = F' + 1 := ⟨F - 1, by omega⟩
    rw [fL_X4_soLong_18]
    simp only [zi_lee, if_true]
  | succ r ih =>
    intro p F hp hF hl
    obtain ⟨F, rfl⟩ : ∃ F', F = F' + 1 := ⟨F - 1, by omega⟩
    have r0 := (zs_rawX hR (a := 0) (by omega) (τ := T + p) (by omega) (by omega) 0).2 (hl p (Nat.le_refl _) (by omega))
    have r1 := (zs_rawX hR (a := 1) (by omega) (τ := T + p) (by omega) (by omega) 0).2 (hl p (Nat.le_refl _) (by omega))
    have hb := zm_hb r0 r1 (by decide) (by decide)
    have z0 : zhb 0 = false := by decide
    rw [fL_X4_soLong_18]
    simp only [zi_le (show p < N by omega) (show N < 2 ^ 31 by omega), if_false, hT.2.2, nI_add, hb, z0, Bool.false_eq_true, or_self, Option.bind_some, if_true, gx_lt, zi_s, Int32.add_zero]
    exact ih (p + 1) F (by omega) (by omega) (fun q h1 h2 => hl q (by omega) h2)
theorem zs_soL {n T K w h M : Nat} {c m : gx_St} (hR : zR n T K w h M c m) {N E : Nat} (hN : N ≤ 2000) (hE : E ≤ T + N) (hl : ∀ τ, τ < E → zlive T w h m τ) (hd : ∀ τ, E ≤ τ → τ < T + N → ¬ zlive T w h m τ) : ∀ (r p F : Nat) (v : Int32), p + r = N → r < F → T + p ≤ E → ∃ x, fL_X3_soLong_28 F c v (nI E) (nI (T + p)) = some x ∧ fL_X4_soLong_18 F m (nI N) v (nI p) = some x := by
  have hT := hR.1.2.1
  have hn := hR.1.1.1
  have fin : ∀ (r p F : Nat) (v : Int32), p + r = N → r < F → T + p = E → ∃ x, fL_X3_soLong_28 F c v (nI E) (nI (T + p)) = some x ∧ fL_X4_soLong_18 F m (nI N) v (nI p) = some x := by
    intro r p F v hp hF hpE
    refine ⟨v, ?_, zm_soT hR hN v r p F hp hF (fun q h1 h2 => hd _ (by omega) (by omega))⟩
    obtain ⟨F, rfl⟩ : ∃ F', F = F' + 1 := ⟨F - 1, by omega⟩
    rw [fL_X3_soLong_28, hpE]
    simp only [zi_lee, if_true]
  intro r
  induction r with
  | zero =>
    intro p F v hp hF hpE
    exact fin 0 p F v hp hF (by omega)
  | succ r ih =>
    intro p F v hp hF hpE
    rcases Nat.eq_or_lt_of_le hpE with z | z
    · exact fin (r + 1) p F v hp hF z
    · obtain ⟨F, rfl⟩ : ∃ F', F = F' + 1 := ⟨F - 1, by omega⟩
      have b0 := zs_gb hR (a := 0) (by omega) (τ := T + p) (by omega) (by omega)
      have b1 := zs_gb hR (a := 1) (by omega) (τ := T + p) (by omega) (by omega)
      have p0 := zs_raw hR (a := 0) (by omega) (τ := T + p) (by omega) (by omega)
      have p1 := zs_raw hR (a := 1) (by omega) (τ := T + p) (by omega) (by omega)
      have r0 := (zs_rawX hR (a := 0) (by omega) (τ := T + p) (by omega) (by omega) 0).1 (hl _ z)
      have r1 := (zs_rawX hR (a := 1) (by omega) (τ := T + p) (by omega) (by omega) 0).1 (hl _ z)
      rw [zs_raw0 m hn] at r0 r1
      have p0 : f_X3_rawAt c (nI (T + p)) 0 = _ := p0
      have p1 : f_X3_rawAt c (nI (T + p)) 1 = _ := p1
      have hb := zm_hb r0 r1 b0 b1
      have i0 : ((0 : Int32) < 0 ∨ 2 ≤ (0 : Int32).toNatClampNeg) = False := eq_false (by decide)
      have i1 : ((1 : Int32) < 0 ∨ 2 ≤ (1 : Int32).toNatClampNeg) = False := eq_false (by decide)
      rw [fL_X3_soLong_28, fL_X4_soLong_18]
      simp only [zi_le z (show E < 2 ^ 31 by omega), zi_le (show p < N by omega) (show N < 2 ^ 31 by omega), if_false, i0, i1, p0, p1, zi_hb, Option.bind_some, hT.2.2, nI_add, hb, gx_lt, zi_s, Int32.add_zero, Nat.add_assoc]
      by_cases y0 : zhb (zsum (zg m 0 (nI (T + p))) n) = true
      · simp only [y0, if_true, true_or, zi_10, if_false]
        exact ih (p + 1) F (v + 1) (by omega) (by omega) (by omega)
      · by_cases y1 : zhb (zsum (zg m 1 (nI (T + p))) n) = true
        · simp only [y0, y1, if_true, or_true, zi_10, if_false]
          exact ih (p + 1) F (v + 1) (by omega) (by omega) (by omega)
        · simp only [y0, y1, if_true, or_self, if_false]
          exact ih (p + 1) F v (by omega) (by omega) (by omega)
theorem zz_soLong {c m : gx_St} (h : zz_R c m) (a1 : Int32) : ∃ r : Int32, f_X3_soLong c a1 = some r ∧ f_X4_soLong m a1 = some r := by
  obtain ⟨n, T, K, w, h, M, hR⟩ := id h
  have hT := hR.1.2.1
  by_cases hw : a1 < 1 ∨ 2000 < a1
  · exact ⟨-2, by simp [f_X3_soLong, zi_w, zi_win0 hw], by simp [f_X4_soLong, zi_win0 hw]⟩
  · obtain ⟨N, n1, n2, rfl⟩ := zi_1rng (n := 2000) (by decide) hw
    obtain ⟨E, e1, e2, e3, e4, e5⟩ := zs_end hR n1 n2
    obtain ⟨x, x1, x2⟩ := zs_soL hR n2 e3 e4 e5 N 0 2001 0 (by omega) (by omega) (by omega)
    refine ⟨x, ?_, ?_⟩
    · simp only [f_X3_soLong, zi_w, zi_win1 hw, Option.bind_some, zi_10, if_false, gx_lt, hT.2.1, e1]
      exact x1
    · simp only [f_X4_soLong, zi_win1 hw, Option.bind_some, zi_10, if_false]
      exact x2
