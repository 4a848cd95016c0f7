theorem zi_c0 : (0 : Int32).toNatClampNeg = 0 := by decide
theorem zi_c1 : (1 : Int32).toNatClampNeg = 1 := by decide
theorem zF_h {n T K : Nat} {c m c' m' : gx_St} (hn : n ≤ 12) (hc : ∀ k j, ¬ k = 0 → ¬ k = 44 → ¬ k = 45 → c' k j = c k j) (hm : ∀ k j, 3 ≤ k → m' k j = m k j) (h : zB n K c m ∧ zC n T c m ∧ zD T c m) : zB n K c' m' ∧ zC n T c' m' ∧ zD T c' m' :=
  ⟨zB_f hn (fun k => hc _ _ (by omega) (by omega) (by omega)) (fun e _ => hc _ _ (by omega) (by omega) (by omega)) (fun k => hm _ _ (by omega)) h.1, zC_f hn (fun e j _ => hc _ _ (by omega) (by omega) (by omega)) (fun e j _ => hc _ _ (by omega) (by omega) (by omega)) (fun k j h1 h2 => hm _ _ h1) h.2.1, zD_f (fun b j _ => hc _ _ (by omega) (by omega) (by omega)) (fun e j _ => hc _ _ (by omega) (by omega) (by omega)) (fun e _ => hc _ _ (by omega) (by omega) (by omega)) (fun k => hm _ _ (by omega)) (fun k => hm _ _ (by omega)) h.2.2⟩
theorem zz_hand {c m : gx_St} (h : zz_R c m) (a1 a2 : Int32) : ∃ (r : Int32) (c' m' : gx_St), f_X3_hand c a1 a2 = some (r, c') ∧ f_X4_hand m a1 a2 = some (r, m') ∧ zz_R c' m' := by
  by_cases hw : a1 < -1000 ∨ 1000 < a1
  · exact ⟨-2, c, m, by simp only [f_X3_hand, zi_w, zi_win0 hw, Option.bind_some, if_true], by simp only [f_X4_hand, zi_win0 hw, Option.bind_some, if_true], h⟩
  · by_cases hw2 : a2 < -1000 ∨ 1000 < a2
    · exact ⟨-2, c, m, by simp only [f_X3_hand, zi_w, zi_win1 hw, zi_win0 hw2, Option.bind_some, if_true, zi_10, if_false], by simp only [f_X4_hand, zi_win1 hw, zi_win0 hw2, Option.bind_some, if_true, zi_10, if_false], h⟩
    · obtain ⟨n, T, K, w, h, M, ⟨h1, ⟨hT, cT, mT⟩, h3, h4, h5, ⟨hM, cM, mM⟩, h7, h8, h9⟩, hB, hC, hD, hE⟩ := h
      have r1 : -1000 ≤ a1.toInt ∧ a1.toInt ≤ 1000 := by
        rw [zi_lt, zi_lt] at hw
        have e1 : (-1000 : Int32).toInt = -1000 := by decide
        have e2 : (1000 : Int32).toInt = 1000 := by decide
        omega
      have r2 : -1000 ≤ a2.toInt ∧ a2.toInt ≤ 1000 := by
        rw [zi_lt, zi_lt] at hw2
        have e1 : (-1000 : Int32).toInt = -1000 := by decide
        have e2 : (1000 : Int32).toInt = 1000 := by decide
        omega
      have d1 : nI T - nI M = nI (T - M) := pk_sub hM
      have p0 : c (44 + 1 * 0) 1 = m 1 0 := (hE 0 (by decide)).2.1
      have p1 : c (44 + 1 * 1) 1 = m 1 1 := (hE 1 (by decide)).2.1
      have s0 : c (44 + 1 * 0) 2 = m 2 0 := (hE 0 (by decide)).2.2.1
      have s1 : c (44 + 1 * 1) 2 = m 2 1 := (hE 1 (by decide)).2.2.1
      have b0 : ((0 : Int32) < 0 ∨ 2 ≤ 0) = False := by decide
      have b1 : ((1 : Int32) < 0 ∨ 2 ≤ 1) = False := by decide
      rcases Nat.eq_zero_or_pos (T - M) with z | z
      · have x0 : (nI (T - M) ≤ 0) = True := by rw [z]; exact eq_true (by decide)
        refine ⟨1, gx_w2 (gx_w2 (gx_w2 c (44 + 1 * 0) 1 a1) (44 + 1 * 1) 1 a2) 0 5 (nI T), gx_w2 (gx_w2 (gx_w2 m 1 0 a1) 1 1 a2) 0 1 (nI T), ?_, ?_, n, T, K, w, h, T, ⟨h1, ⟨hT, cT, mT⟩, h3, h4, h5, ⟨Nat.le_refl _, rfl, rfl⟩, h7, h8, h9⟩, ?_⟩
        · have e7 : gx_w2 (gx_w2 c (44 + 1 * 0) 1 a1) (44 + 1 * 1) 1 a2 0 7 = nI T := cT
          simp only [f_X3_hand, zi_w, zi_win1 hw, zi_win1 hw2, Option.bind_some, zi_10, if_false, gx_lt, cT, cM, d1, zi_c0, zi_c1, b0, b1, f_X0_moveTo, x0, if_true, e7]
        · have e7 : gx_w2 m 1 0 a1 0 0 = nI T := mT
          have e8 : gx_w2 m 1 0 a1 0 1 = nI M := mM
          have e9 : gx_w2 (gx_w2 m 1 0 a1) 1 1 a2 0 0 = nI T := mT
          simp only [f_X4_hand, zi_win1 hw, zi_win1 hw2, Option.bind_some, zi_10, if_false, gx_lt, mT, mM, d1, zi_c0, zi_c1, b0, b1, f_X4_moves, x0, if_true, e7, e8, e9]
        · obtain ⟨q1, q2, q3⟩ := zF_h h1.1 (c := c) (m := m) (c' := gx_w2 (gx_w2 (gx_w2 c (44 + 1 * 0) 1 a1) (44 + 1 * 1) 1 a2) 0 5 (nI T)) (m' := gx_w2 (gx_w2 (gx_w2 m 1 0 a1) 1 1 a2) 0 1 (nI T)) (fun k j g1 g2 g3 => by rw [zi_wk g1, zi_wk g3, zi_wk g2]) (fun k j g => by rw [zi_wk (by omega), zi_wk (by omega), zi_wk (by omega)]) ⟨hB, hC, hD⟩
          refine ⟨q1, q2, q3, fun a ha => ?_⟩
          rcases (show a = 0 ∨ a = 1 by omega) with rfl | rfl
          · exact ⟨(hE 0 (by decide)).1, rfl, s0, r1.1, r1.2⟩
          · exact ⟨(hE 1 (by decide)).1, rfl, s1, r2.1, r2.2⟩
      · have x0 : (nI (T - M) ≤ 0) = False := eq_false (nI_nle z (by omega))
        have x1 : (nI (T - M) = 0) = False := eq_false (nI_ne0 z (by omega))
        refine ⟨1, gx_w2 (gx_w2 (gx_w2 (gx_w2 (gx_w2 c (44 + 1 * 0) 2 (1000 * (a1 - m 1 0) / nI (T - M))) (44 + 1 * 0) 1 a1) (44 + 1 * 1) 2 (1000 * (a2 - m 1 1) / nI (T - M))) (44 + 1 * 1) 1 a2) 0 5 (nI T), gx_w2 (gx_w2 (gx_w2 (gx_w2 (gx_w2 m 2 0 (1000 * (a1 - m 1 0) / nI (T - M))) 1 0 a1) 2 1 (1000 * (a2 - m 1 1) / nI (T - M))) 1 1 a2) 0 1 (nI T), ?_, ?_, n, T, K, w, h, T, ⟨h1, ⟨hT, cT, mT⟩, h3, h4, h5, ⟨Nat.le_refl _, rfl, rfl⟩, h7, h8, h9⟩, ?_⟩
        · have e7 : ∀ x y z, gx_w2 (gx_w2 (gx_w2 (gx_w2 c (44 + 1 * 0) 2 x) (44 + 1 * 0) 1 a1) (44 + 1 * 1) 2 y) (44 + 1 * 1) 1 z 0 7 = nI T := fun _ _ _ => cT
          have e8 : ∀ x, gx_w2 (gx_w2 c (44 + 1 * 0) 2 x) (44 + 1 * 0) 1 a1 (44 + 1 * 1) 1 = m 1 1 := fun _ => p1
          simp only [f_X3_hand, zi_w, zi_win1 hw, zi_win1 hw2, Option.bind_some, zi_10, if_false, gx_lt, cT, cM, d1, zi_c0, zi_c1, b0, b1, f_X0_moveTo, x0, x1, p0, e7, e8]
        · have e7 : ∀ x, gx_w2 (gx_w2 m 2 0 x) 1 0 a1 0 0 = nI T := fun _ => mT
          have e8 : ∀ x, gx_w2 (gx_w2 m 2 0 x) 1 0 a1 0 1 = nI M := fun _ => mM
          have e9 : ∀ x y z, gx_w2 (gx_w2 (gx_w2 (gx_w2 m 2 0 x) 1 0 a1) 2 1 y) 1 1 z 0 0 = nI T := fun _ _ _ => mT
          have e10 : ∀ x, gx_w2 (gx_w2 m 2 0 x) 1 0 a1 1 1 = m 1 1 := fun _ => rfl
          simp only [f_X4_hand, zi_win1 hw, zi_win1 hw2, Option.bind_some, zi_10, if_false, gx_lt, mT, mM, d1, zi_c0, zi_c1, b0, b1, f_X4_moves, x0, x1, e7, e8, e9, e10]
        · obtain ⟨q1, q2, q3⟩ := zF_h h1.1 (c := c) (m := m) (c' := gx_w2 (gx_w2 (gx_w2 (gx_w2 (gx_w2 c (44 + 1 * 0) 2 (1000 * (a1 - m 1 0) / nI (T - M))) (44 + 1 * 0) 1 a1) (44 + 1 * 1) 2 (1000 * (a2 - m 1 1) / nI (T - M))) (44 + 1 * 1) 1 a2) 0 5 (nI T)) (m' := gx_w2 (gx_w2 (gx_w2 (gx_w2 (gx_w2 m 2 0 (1000 * (a1 - m 1 0) / nI (T - M))) 1 0 a1) 2 1 (1000 * (a2 - m 1 1) / nI (T - M))) 1 1 a2) 0 1 (nI T)) (fun k j g1 g2 g3 => by rw [zi_wk g1, zi_wk g3, zi_wk g3, zi_wk g2, zi_wk g2]) (fun k j g => by rw [zi_wk (by omega), zi_wk (by omega), zi_wk (by omega), zi_wk (by omega), zi_wk (by omega)]) ⟨hB, hC, hD⟩
          refine ⟨q1, q2, q3, fun a ha => ?_⟩
          rcases (show a = 0 ∨ a = 1 by omega) with rfl | rfl
          · exact ⟨(hE 0 (by decide)).1, rfl, rfl, r1.1, r1.2⟩
          · exact ⟨(hE 1 (by decide)).1, rfl, rfl, r2.1, r2.2⟩
theorem zs_slotsL {n K : Nat} {c m : gx_St} (hB : zB n K c m) (hn : n ≤ 12) (v : Int32) : ∀ (r k F : Nat), k + r = 6 → r < F → ((∃ j, k ≤ j ∧ j < 6 ∧ ¬ m 10 j = -9) ∧ fL_X3_slots_15 F c v (nI k) = some (-3, c) ∧ fL_X4_slots_15 F m v (nI k) = some (-3, m)) ∨ ((∀ j, k ≤ j → j < 6 → m 10 j = -9) ∧ fL_X3_slots_15 F c v (nI k) = some (c 0 3, gx_w2 c 0 3 v) ∧ fL_X4_slots_15 F m v (nI k) = some (m 0 12, gx_w2 m 0 12 v)) := by
  intro r
  induction r with
  | zero =>
    intro k F hk hF
    have hk : k = 6 := by omega
    subst hk
    obtain ⟨F, rfl⟩ : ∃ F', F = F' + 1 := ⟨F - 1, by omega⟩
    refine Or.inr ⟨fun j h1 h2 => by omega, ?_, ?_⟩
    · rw [fL_X3_slots_15]
      simp only [zi_6e, if_true, gx_lt]
    · rw [fL_X4_slots_15]
      simp only [zi_6e, if_true, gx_lt]
  | succ r ih =>
    intro k F hk hF
    obtain ⟨F, rfl⟩ : ∃ F', F = F' + 1 := ⟨F - 1, by omega⟩
    have hk6 : k < 6 := by omega
    have e1 : fL_X3_slots_15 (F + 1) c v (nI k) = if m 10 k = -9 then fL_X3_slots_15 F c v (nI (k + 1)) else if 12 ≤ (m 10 k).toNatClampNeg then none else some (-3, c) := by
      rw [fL_X3_slots_15]
      simp only [zi_6 hk6, if_false, zi_cl (show k < 2 ^ 31 by omega), zi_ck hk6 (by decide), gx_lt, zi_s, hB.1 k hk6]
    have e2 : fL_X4_slots_15 (F + 1) m v (nI k) = if m 10 k = -9 then fL_X4_slots_15 F m v (nI (k + 1)) else some (-3, m) := by
      rw [fL_X4_slots_15]
      simp only [zi_6 hk6, if_false, zi_cl (show k < 2 ^ 31 by omega), zi_ck hk6 (by decide), gx_lt, zi_s]
    rw [e1, e2]
    rcases hB.2.1 k hk6 with q | ⟨e, q1, q2, -⟩
    · rw [if_pos q, if_pos q]
      rcases ih (k + 1) F (by omega) (by omega) with ⟨⟨j, g1, g2, g3⟩, g4⟩ | ⟨g1, g2⟩
      · exact Or.inl ⟨⟨j, by omega, g2, g3⟩, g4⟩
      · refine Or.inr ⟨fun j h1 h2 => ?_, g2⟩
        rcases Nat.eq_or_lt_of_le h1 with z | z
        · rw [← z]; exact q
        · exact g1 j z h2
    · have q9 : ¬ m 10 k = -9 := by rw [q2]; exact zi_n9 (by omega)
      rw [if_neg q9, if_neg q9, q2, zi_cl (by omega), if_neg (by omega)]
      exact Or.inl ⟨⟨k, Nat.le_refl _, hk6, q9⟩, rfl, rfl⟩
theorem zz_slots {c m : gx_St} (h : zz_R c m) (a1 : Int32) : ∃ (r : Int32) (c' m' : gx_St), f_X3_slots c a1 = some (r, c') ∧ f_X4_slots m a1 = some (r, m') ∧ zz_R c' m' := by
  by_cases hw : a1 < 1 ∨ 6 < a1
  · exact ⟨-2, c, m, by simp only [f_X3_slots, zi_w, zi_win0 hw, Option.bind_some, if_true], by simp only [f_X4_slots, zi_win0 hw, Option.bind_some, if_true], h⟩
  · obtain ⟨n, T, K, w, h, M, ⟨h1, h2, ⟨hK1, hK6, cK, mK⟩, h4⟩, hB, hC, hD, hE⟩ := id h
    obtain ⟨a, ha, rfl⟩ := zi_rng (x := a1) (M := 6) (n := 6) (by decide) (fun q => hw (q.elim (fun z => Or.inl (zi_01 z)) Or.inr))
    have ha1 : 1 ≤ a := by
      rcases Nat.eq_zero_or_pos a with z | z
      · subst z; exact absurd (Or.inl (by decide)) hw
      · exact z
    have e1 : f_X3_slots c (nI a) = fL_X3_slots_15 7 c (nI a) (nI a) := by simp only [f_X3_slots, zi_w, zi_win1 hw, Option.bind_some, zi_10, if_false]
    have e2 : f_X4_slots m (nI a) = fL_X4_slots_15 7 m (nI a) (nI a) := by simp only [f_X4_slots, zi_win1 hw, Option.bind_some, zi_10, if_false]
    rw [e1, e2]
    rcases zs_slotsL hB h1.1 (nI a) (6 - a) a 7 (by omega) (by omega) with ⟨-, g1, g2⟩ | ⟨g0, g1, g2⟩
    · exact ⟨-3, c, m, g1, g2, ‹zz_R c m›⟩
    · refine ⟨nI K, gx_w2 c 0 3 (nI a), gx_w2 m 0 12 (nI a), by rw [g1, cK], by rw [g2, mK], n, T, a, w, h, M, ⟨h1, h2, ⟨ha1, ha, rfl, rfl⟩, h4⟩, ?_⟩
      have hB2 : zB n a c m := ⟨hB.1, hB.2.1, fun e he => by
        rcases hB.2.2 e he with q | ⟨k, q1, q2, q3⟩
        · exact Or.inl q
        · refine Or.inr ⟨k, ?_, q2, q3⟩
          rcases Nat.lt_or_ge k a with z | z
          · exact z
          · exact absurd ((g0 k z (by omega)).symm.trans q3).symm (zi_n9 (by omega))⟩
      exact zF_0 h1.1 (fun _ _ => zi_wk) (fun _ _ => zi_wk) ⟨hB2, hC, hD, hE⟩
