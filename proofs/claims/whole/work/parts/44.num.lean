def zN (j : Nat) (v : Int32) : Int32 := if v = -9 ∧ (j = 0 ∨ j = 10) then 1 else if v < gx_tv 2 j ∨ gx_tv 3 j < v then 0 else 1
theorem zN_o {j : Nat} (hj : ¬ (j = 0 ∨ j = 10)) (v : Int32) : zN j v = if v < gx_tv 2 j ∨ gx_tv 3 j < v then 0 else 1 := if_neg (fun q => hj q.2)
theorem zi_l12 {k : Nat} (h : k < 12) : (nI k < (12 : Int32)) = True := eq_true (nI_lt (b := 12) h (by decide))
theorem zi_wb (x a b : Int32) : ((f_X4_within x a b).bind fun r => if ¬ (r = 0 ∨ r = 1) then none else some r) = some (if x < a ∨ b < x then 0 else 1) := by
  rw [zi_win]
  split <;> rfl
theorem zc_isN {c : gx_St} {j : Nat} (hj : j < 12) (v : Int32) : f_X3_isNumber c (nI j) v = some (zN j v) := by
  have h0 : (nI j = 0) = (j = 0) := propext (nI_eq (b := 0) (by omega) (by decide))
  have h10 : (nI j = 10) = (j = 10) := propext (nI_eq (b := 10) (by omega) (by decide))
  unfold f_X3_isNumber zN
  simp only [zi_n0 (show j < 2 ^ 31 by omega), if_false, false_or, zi_l12 hj, if_true, zi_cl (show j < 2 ^ 31 by omega), zi_nn hj, zi_w, zi_wb, h0, h10]
  by_cases hv : v = -9
  · by_cases a0 : j = 0
    · simp only [hv, a0, if_true, true_or, and_self]
    · by_cases a1 : j = 10
      · subst a1
        simp [hv]
      · simp only [hv, a0, a1, if_true, if_false, or_self, and_false]
  · simp only [hv, if_false, false_and]
theorem zm_isN {j : Nat} (hj : j < 12) (v : Int32) : f_X4_mayBeNumber (nI j) v = some (zN j v) := by
  have key : ∀ (a : Int32), f_X4_mayBeNumber a v = if a = 0 then (if v = -9 then some 1 else ((f_X4_mostOf a).bind fun r => some (if v < 1 ∨ r < v then 0 else 1))) else if a = 10 then (if v = -9 then some 1 else (if a = 6 then ((f_X4_mostOf a).bind fun r => some (if v < -100 ∨ r < v then 0 else 1)) else if a = 7 then ((f_X4_mostOf a).bind fun r => some (if v < -100 ∨ r < v then 0 else 1)) else ((f_X4_mostOf a).bind fun r => some (if v < 0 ∨ r < v then 0 else 1)))) else (if a = 6 then ((f_X4_mostOf a).bind fun r => some (if v < -100 ∨ r < v then 0 else 1)) else if a = 7 then ((f_X4_mostOf a).bind fun r => some (if v < -100 ∨ r < v then 0 else 1)) else ((f_X4_mostOf a).bind fun r => some (if v < 0 ∨ r < v then 0 else 1))) := by
    intro a
    unfold f_X4_mayBeNumber
    simp only [zi_wb]
  rw [key]
  rcases (show j = 0 ∨ j = 10 ∨ j = 1 ∨ j = 2 ∨ j = 3 ∨ j = 4 ∨ j = 5 ∨ j = 6 ∨ j = 7 ∨ j = 8 ∨ j = 9 ∨ j = 11 by omega) with rfl | rfl | rfl | rfl | rfl | rfl | rfl | rfl | rfl | rfl | rfl | rfl
  · by_cases hv : v = -9
    · subst hv; rfl
    · show (if v = -9 then some 1 else some (if v < 1 ∨ 60000 < v then 0 else 1)) = some (if v = -9 ∧ (0 = 0 ∨ 0 = 10) then 1 else if v < 1 ∨ 60000 < v then 0 else 1)
      rw [if_neg hv, if_neg (show ¬ (v = -9 ∧ (0 = 0 ∨ 0 = 10)) from fun q => hv q.1)]
  · by_cases hv : v = -9
    · subst hv; rfl
    · show (if v = -9 then some 1 else some (if v < 0 ∨ 3 < v then 0 else 1)) = some (if v = -9 ∧ (10 = 0 ∨ 10 = 10) then 1 else if v < 0 ∨ 3 < v then 0 else 1)
      rw [if_neg hv, if_neg (show ¬ (v = -9 ∧ (10 = 0 ∨ 10 = 10)) from fun q => hv q.1)]
  all_goals (rw [zN_o (by decide)]; rfl)
theorem zN01 (j : Nat) (v : Int32) : zN j v = 0 ∨ zN j v = 1 := by
  unfold zN
  split
  · exact Or.inr rfl
  · split
    · exact Or.inl rfl
    · exact Or.inr rfl
/-- a NUMBER of an EFFECT becomes another -/
theorem zi_us {α : Type} (u : Nat → α) (j : Nat) (v : α) : va_up u j v j = v := if_pos rfl
theorem zi_un {α : Type} {u : Nat → α} {j : Nat} {v : α} {i : Nat} (h : ¬ i = j) : va_up u j v i = u i := if_neg h
theorem zNu_up {u : Nat → Int32} (h : zNu u) {j : Nat} {v : Int32} (hv : zN j v = 1) : zNu (va_up u j v) := by
  have rg : ∀ (M : Nat), M < 2 ^ 31 → gx_tv 2 j = 0 → gx_tv 3 j = nI M → ¬ (j = 0 ∨ j = 10) → ∃ D, D ≤ M ∧ v = nI D := by
    intro M hM e2 e3 hj
    unfold zN at hv
    rw [if_neg (fun q => hj q.2), e2, e3] at hv
    by_cases q : v < 0 ∨ nI M < v
    · rw [if_pos q] at hv; exact absurd hv (by decide)
    · exact zi_rng (nI_toInt hM) q
  obtain ⟨h0, h1, h2, h4, h9, h11⟩ := h
  refine ⟨?_, ?_, ?_, ?_, ?_, ?_⟩
  · by_cases q : j = 0
    · subst q
      rw [zi_us]
      unfold zN at hv
      by_cases q9 : v = -9
      · exact Or.inl q9
      · rw [if_neg (fun q => q9 q.1)] at hv
        by_cases q : v < gx_tv 2 0 ∨ gx_tv 3 0 < v
        · rw [if_pos q] at hv; exact absurd hv (by decide)
        · have q : ¬ (v < 1 ∨ 60000 < v) := q
          obtain ⟨g2, hg2, rfl⟩ := zi_rng (x := v) (M := 60000) (n := 60000) (by decide) (fun z => q (z.elim (fun z => Or.inl (zi_01 z)) Or.inr))
          refine Or.inr ⟨g2, ?_, hg2, rfl⟩
          rcases Nat.eq_zero_or_pos g2 with z | z
          · subst z; exact absurd (Or.inl (by decide)) q
          · exact z
    · rw [zi_un (fun z => q z.symm)]; exact h0
  · by_cases q : j = 1
    · subst q; rw [zi_us]; exact rg 5000 (by decide) rfl rfl (by decide)
    · rw [zi_un (fun z => q z.symm)]; exact h1
  · refine ⟨?_, ?_⟩
    · by_cases q : j = 2
      · subst q; rw [zi_us]; exact rg 5000 (by decide) rfl rfl (by decide)
      · rw [zi_un (fun z => q z.symm)]; exact h2.1
    · by_cases q : j = 3
      · subst q; rw [zi_us]; exact rg 100 (by decide) rfl rfl (by decide)
      · rw [zi_un (fun z => q z.symm)]; exact h2.2
  · by_cases q : j = 4
    · subst q; rw [zi_us]; exact rg 5000 (by decide) rfl rfl (by decide)
    · rw [zi_un (fun z => q z.symm)]; exact h4
  · by_cases q : j = 9
    · subst q; rw [zi_us]; exact rg 9 (by decide) rfl rfl (by decide)
    · rw [zi_un (fun z => q z.symm)]; exact h9
  · by_cases q : j = 11
    · subst q; rw [zi_us]; exact rg 5000 (by decide) rfl rfl (by decide)
    · rw [zi_un (fun z => q z.symm)]; exact h11
theorem zNu_c {u v : Nat → Int32} (h : ∀ j, j < 12 → u j = v j) (hu : zNu u) : zNu v := by
  unfold zNu at hu ⊢
  rw [← h 0 (by decide), ← h 1 (by decide), ← h 2 (by decide), ← h 3 (by decide), ← h 4 (by decide), ← h 9 (by decide), ← h 11 (by decide)]
  exact hu
theorem zR_num {n T K w h M : Nat} {c m : gx_St} (hR : zR n T K w h M c m) {e j : Nat} (he : e < n) (hj : j < 12) {v : Int32} (hv : zN j v = 1) : zR n T K w h M (gx_w2 c (8 + 3 * e + 1) j v) (gx_w2 m 8 (12 * e + j) v) := by
  obtain ⟨hA, hB, hC, hD, hE⟩ := hR
  have hn := hA.1.1
  refine ⟨?_, zB_f hn (fun k => zi_wk (by omega)) (fun e' _ => zi_wk (by omega)) (fun k => zi_wk (by decide)) hB, ?_, zD_f (fun b j _ => zi_wk (by omega)) (fun e' j _ => zi_wk (by omega)) (fun e' _ => zi_wk (by omega)) (fun k => zi_wk (by decide)) (fun k => zi_wk (by decide)) hD, zE_f (fun b j _ => zi_wk (by omega)) (fun k => zi_wk (by decide)) (fun k => zi_wk (by decide)) hE⟩
  · unfold zA
    have c0 : ∀ i, gx_w2 c (8 + 3 * e + 1) j v 0 i = c 0 i := fun i => zi_wk (by omega)
    have m0 : ∀ i, gx_w2 m 8 (12 * e + j) v 0 i = m 0 i := fun i => zi_wk (by decide)
    have m11 : ∀ i, gx_w2 m 8 (12 * e + j) v 11 i = m 11 i := fun i => zi_wk (by decide)
    simp only [c0, m0, m11]
    exact hA
  · obtain ⟨a1, a2, a3, a4, a5⟩ := hC
    refine ⟨fun e' he' => by rw [zi_wk (by omega)]; exact a1 e' he', fun e' he' => ⟨fun i hi => ?_, ?_⟩, fun e' he' => ⟨fun i hi => ?_, ?_⟩, fun e' he' => ?_, fun e' he' => ?_⟩
    · rw [zi_wk (by omega), zi_wk (by omega)]
      exact (a2 e' he').1 i hi
    · rw [zi_wk (by decide), zi_wk (by decide), zi_wk (by decide), zi_wk (by decide), zi_wk (by decide)]
      exact (a2 e' he').2
    · by_cases q : e' = e
      · subst q
        by_cases q2 : i = j
        · subst q2
          rw [zi_we, zi_we]
        · rw [zi_wj q2, zi_wj (by omega)]
          exact (a3 e' he').1 i hi
      · rw [zi_wk (by omega), zi_wj (by omega)]
        exact (a3 e' he').1 i hi
    · by_cases q : e' = e
      · subst q
        refine zNu_c (fun i hi => ?_) (zNu_up (a3 e' he').2 hv)
        by_cases q2 : i = j
        · subst q2
          rw [zi_us, zi_we]
        · rw [zi_un q2, zi_wj (by omega)]
      · refine zNu_c (fun i hi => ?_) (a3 e' he').2
        rw [zi_wj (by omega)]
    · rw [zi_wk (by omega), zi_wk (by decide)]
      exact a4 e' he'
    · rw [zi_wk (by omega), zi_wk (by omega)]
      exact a5 e' he'
theorem zz_set {c m : gx_St} (h : zz_R c m) (a1 a2 a3 : Int32) : ∃ (r : Int32) (c' m' : gx_St), f_X3_set c a1 a2 a3 = some (r, c') ∧ f_X4_set m a1 a2 a3 = some (r, m') ∧ zz_R c' m' := by
  obtain ⟨n, T, K, w, h, M, hR⟩ := id h
  obtain ⟨hA, hB, hC, hD, hE⟩ := id hR
  rcases zs_isE hA a1 with ⟨h1, h2⟩ | ⟨e, he, rfl, h1, h2⟩
  · exact ⟨-1, c, m, by simp [f_X3_set, h1], by simp [f_X4_set, h2], ‹zz_R c m›⟩
  · have hn := hA.1.1
    have he12 : e < 12 := by omega
    have hk := zi_cl (k := e) (by omega)
    have hc := zi_ck (k := e) (N := 12) he12 (by decide)
    rcases zi_dec a2 12 (by decide) with ⟨j, hj, rfl⟩ | hx
    · have hw : ¬ (nI j < 0 ∨ 11 < nI j) := by
        rintro (q | q)
        · exact nI_pos (by omega) q
        · rw [zi_lt, nI_toInt (by omega)] at q
          have e1 : (11 : Int32).toInt = 11 := by decide
          omega
      have hkj := zi_cl (k := j) (by omega)
      have hcj := zi_ck (k := j) (N := 12) hj (by decide)
      rcases zN01 j a3 with q | q
      · exact ⟨-2, c, m, by simp only [f_X3_set, h1, Option.bind_some, zi_10, if_false, zc_isN hj, q, if_true], by simp only [f_X4_set, h2, Option.bind_some, zi_10, if_false, zi_win1 hw, zm_isN hj, q, if_true], ‹zz_R c m›⟩
      · obtain ⟨r, r1, r2⟩ := zs_told hC hn he hj
        have hi : ((12 : Int32) * nI e + nI j < 0 ∨ 144 ≤ ((12 : Int32) * nI e + nI j).toNatClampNeg) = False := by rw [zi_ix]; exact zi_chk (by omega) (by decide)
        have hi2 : ((12 : Int32) * nI e + nI j).toNatClampNeg = 12 * e + j := by rw [zi_ix, zi_cl (by omega)]
        refine ⟨r, _, _, ?_, ?_, n, T, K, w, h, M, zR_num hR he hj q⟩
        · simp only [f_X3_set, h1, Option.bind_some, zi_10, if_false, zc_isN hj, q, hk, hc, r1, hkj, hcj, gx_lt]
        · rw [hi2] at hi
          simp only [f_X4_set, h2, Option.bind_some, zi_10, if_false, zi_win1 hw, zm_isN hj, q, r2, hi2, hi, gx_lt]
    · have hw : a2 < 0 ∨ 11 < a2 := by
        rcases hx with z | z
        · exact Or.inl z
        · refine Or.inr ?_
          rw [zi_lei] at z
          rw [zi_lt]
          have e1 : (11 : Int32).toInt = 11 := by decide
          have e2 : (nI 12).toInt = 12 := by decide
          omega
      refine ⟨-2, c, m, ?_, by simp only [f_X4_set, h2, Option.bind_some, zi_10, if_false, zi_win0 hw, if_true], ‹zz_R c m›⟩
      have e0 : f_X3_isNumber c a2 a3 = some 0 := by
        unfold f_X3_isNumber
        by_cases z0 : a2 < 0
        · rw [if_pos z0]
        · rcases hx with z | z
          · exact absurd z z0
          · rw [if_neg z0, if_neg]
            intro z2
            rw [zi_lei] at z
            rw [zi_lt] at z2
            have e1 : (12 : Int32).toInt = 12 := by decide
            have e2 : (nI 12).toInt = 12 := by decide
            omega
      simp only [f_X3_set, h1, Option.bind_some, zi_10, if_false, e0, if_true]
