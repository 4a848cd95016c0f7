/-- an EFFECT that isn't LOADED comes into a free SLOT -/
theorem zR_in {n T K w h M : Nat} {c m : gx_St} (hR : zR n T K w h M c m) {e k : Nat} (he : e < n) (hk : k < K) (hf : m 10 k = -9) (hl : c (8 + 3 * e) 7 = -9) : zR n T K w h M (gx_w2 (gx_w2 c 2 k (nI e)) (8 + 3 * e) 7 (nI k)) (gx_w2 m 10 k (nI e)) := by
  obtain ⟨hA, hB, hC, hD, hE⟩ := id hR
  have hn := hA.1.1
  have hK := hA.2.2.1.2.1
  obtain ⟨c', ec⟩ : ∃ x, x = gx_w2 (gx_w2 c 2 k (nI e)) (8 + 3 * e) 7 (nI k) := ⟨_, rfl⟩
  obtain ⟨m', em⟩ : ∃ x, x = gx_w2 m 10 k (nI e) := ⟨_, rfl⟩
  rw [← ec, ← em]
  have c7 : c' (8 + 3 * e) 7 = nI k := by rw [ec, zi_we]
  have co : ∀ i j, ¬ i = 2 → ¬ (i = 8 + 3 * e ∧ j = 7) → c' i j = c i j := fun i j q1 q2 => by rw [ec, zi_w2, if_neg q2, zi_wk q1]
  have mo : ∀ i j, ¬ (i = 10 ∧ j = k) → m' i j = m i j := fun i j q => by rw [em, zi_w2, if_neg q]
  have m10 : m' 10 k = nI e := by rw [em, zi_we]
  have c2 : c' 2 k = nI e := by rw [ec, zi_wk (by omega), zi_we]
  have c2o : ∀ j, ¬ j = k → c' 2 j = c 2 j := fun j q => by rw [ec, zi_wk (by omega), zi_wj q]
  refine ⟨?_, ⟨fun j hj => ?_, fun j hj => ?_, fun e' he' => ?_⟩, ⟨fun e' he' => ?_, fun e' he' => ⟨fun j hj => ?_, ?_⟩, fun e' he' => ⟨fun j hj => ?_, ?_⟩, fun e' he' => ?_, fun e' he' => ?_⟩, ⟨fun b hb => ?_, fun b e' hb he' => ?_⟩, ?_⟩
  · unfold zA
    have cz : ∀ j, c' 0 j = c 0 j := fun j => co _ _ (by omega) (by omega)
    have mz : ∀ j, m' 0 j = m 0 j := fun j => mo _ _ (by omega)
    have m11 : ∀ j, m' 11 j = m 11 j := fun j => mo _ _ (by omega)
    simp only [cz, mz, m11]
    exact hA
  · by_cases z : j = k
    · subst z
      rw [c2, m10]
    · rw [c2o j z, mo _ _ (by omega)]
      exact hB.1 j hj
  · by_cases z : j = k
    · subst z
      exact Or.inr ⟨e, he, m10, c7⟩
    · rw [mo _ _ (by omega)]
      rcases hB.2.1 j hj with q | ⟨e', q1, q2, q3⟩
      · exact Or.inl q
      · refine Or.inr ⟨e', q1, q2, ?_⟩
        by_cases y : e' = e
        · subst y
          exact absurd (q3.symm.trans hl) (zi_n9 (by omega))
        · rw [co _ _ (by omega) (by omega)]
          exact q3
  · by_cases y : e' = e
    · subst y
      exact Or.inr ⟨k, hk, c7, m10⟩
    · rw [co _ _ (by omega) (by omega)]
      rcases hB.2.2 e' he' with q | ⟨j, q1, q2, q3⟩
      · exact Or.inl q
      · refine Or.inr ⟨j, q1, q2, ?_⟩
        rw [mo _ _ (by
          rintro ⟨-, z⟩
          subst z
          exact zi_n9 (show e' < 2 ^ 31 by omega) (q3.symm.trans hf))]
        exact q3
  · rw [co _ _ (by omega) (by omega)]
    exact hC.1 e' he'
  · rw [co _ _ (by omega) (by omega), mo _ _ (by omega)]
    exact (hC.2.1 e' he').1 j hj
  · rw [mo 3 _ (by omega), mo 4 _ (by omega), mo 5 _ (by omega), mo 6 _ (by omega), mo 7 _ (by omega)]
    exact (hC.2.1 e' he').2
  · rw [co _ _ (by omega) (by omega), mo _ _ (by omega)]
    exact (hC.2.2.1 e' he').1 j hj
  · exact zNu_c (fun j hj => (mo _ _ (by omega)).symm) (hC.2.2.1 e' he').2
  · rw [co _ _ (by omega) (by omega), mo _ _ (by omega)]
    exact hC.2.2.2.1 e' he'
  · rw [co _ 8 (by omega) (by omega)]
    by_cases y : e' = e
    · subst y
      rcases hC.2.2.2.2 e' he' with q | ⟨-, q⟩
      · exact Or.inl q
      · exact absurd hl q
    · rw [co _ 7 (by omega) (by omega)]
      exact hC.2.2.2.2 e' he'
  · rw [co _ _ (by omega) (by omega), co _ _ (by omega) (by omega), mo _ _ (by omega)]
    exact hD.1 b hb
  · rw [co _ _ (by omega) (by omega), mo 12 _ (by omega), mo 11 _ (by omega)]
    obtain ⟨q1, B, q2, q3, q4⟩ := hD.2 b e' hb he'
    refine ⟨q1, B, q2, q3, fun z => ⟨(q4 z).1, ?_⟩⟩
    by_cases y : e' = e
    · subst y
      exact absurd hl (q4 z).2
    · rw [co _ _ (by omega) (by omega)]
      exact (q4 z).2
  · exact zE_f (fun b j _ => co _ _ (by omega) (by omega)) (fun k => mo _ _ (by omega)) (fun k => mo _ _ (by omega)) hE
theorem zs_freeL {n T K w h M : Nat} {c m : gx_St} (hR : zR n T K w h M c m) : ∀ (r k F : Nat), k + r = K → r < F → ∃ x, fL_X3_leastFreeSlot_2 F c (nI k) = some x ∧ fL_X4_freeSlot_2 F m (nI k) = some x ∧ ((x = -9 ∧ ∀ j, k ≤ j → j < K → ¬ m 10 j = -9) ∨ ∃ j, j < K ∧ x = nI j ∧ m 10 j = -9) := by
  obtain ⟨hA, hB, -⟩ := id hR
  have hn := hA.1.1
  have hK := hA.2.2.1
  intro r
  induction r with
  | zero =>
    intro k F hk hF
    have hk : k = K := by omega
    subst hk
    obtain ⟨F, rfl⟩ : ∃ F', F = F' + 1 := ⟨F - 1, by omega⟩
    refine ⟨-9, ?_, ?_, Or.inl ⟨rfl, fun j h1 h2 => by omega⟩⟩
    · rw [fL_X3_leastFreeSlot_2]
      simp only [hK.2.2.1, zi_lee, if_true]
    · rw [fL_X4_freeSlot_2]
      simp only [hK.2.2.2, zi_lee, if_true]
  | succ r ih =>
    intro k F hk hF
    obtain ⟨F, rfl⟩ : ∃ F', F = F' + 1 := ⟨F - 1, by omega⟩
    have hkK : k < K := by omega
    have hk6 : k < 6 := by omega
    have e1 : fL_X3_leastFreeSlot_2 (F + 1) c (nI k) = if m 10 k = -9 then some (nI k) else if 12 ≤ (m 10 k).toNatClampNeg then none else fL_X3_leastFreeSlot_2 F c (nI (k + 1)) := by
      rw [fL_X3_leastFreeSlot_2]
      simp only [hK.2.2.1, zi_le hkK (show K < 2 ^ 31 by omega), if_false, zi_cl (show k < 2 ^ 31 by omega), zi_ck hk6 (by decide), gx_lt, zi_s, hB.1 k hk6]
    have e2 : fL_X4_freeSlot_2 (F + 1) m (nI k) = if m 10 k = -9 then some (nI k) else fL_X4_freeSlot_2 F m (nI (k + 1)) := by
      rw [fL_X4_freeSlot_2]
      simp only [hK.2.2.2, zi_le hkK (show K < 2 ^ 31 by omega), if_false, zi_cl (show k < 2 ^ 31 by omega), zi_ck hk6 (by decide), gx_lt, zi_s]
    rw [e1, e2]
    rcases hB.2.1 k hk6 with q | ⟨e, q1, q2, -⟩
    · rw [if_pos q, if_pos q]
      exact ⟨nI k, rfl, rfl, Or.inr ⟨k, hkK, rfl, q⟩⟩
    · have q9 : ¬ m 10 k = -9 := by rw [q2]; exact zi_n9 (by omega)
      rw [if_neg q9, if_neg q9, q2, zi_cl (by omega), if_neg (by omega)]
      obtain ⟨x, x1, x2, x3⟩ := ih (k + 1) F (by omega) (by omega)
      refine ⟨x, x1, x2, ?_⟩
      rcases x3 with ⟨y1, y2⟩ | y
      · refine Or.inl ⟨y1, fun j h1 h2 => ?_⟩
        rcases Nat.eq_or_lt_of_le h1 with z | z
        · rw [← z]; exact q9
        · exact y2 j z h2
      · exact Or.inr y
theorem zs_free {n T K w h M : Nat} {c m : gx_St} (hR : zR n T K w h M c m) : ∃ x, f_X3_leastFreeSlot c = some x ∧ f_X4_freeSlot m = some x ∧ ((x = -9 ∧ ∀ j, j < K → ¬ m 10 j = -9) ∨ ∃ j, j < K ∧ x = nI j ∧ m 10 j = -9) := by
  obtain ⟨x, h1, h2, h3⟩ := zs_freeL hR K 0 7 (by omega) (by have := hR.1.2.2.1.2.1; omega)
  refine ⟨x, h1, h2, ?_⟩
  rcases h3 with ⟨y1, y2⟩ | y
  · exact Or.inl ⟨y1, fun j hj => y2 j (by omega) hj⟩
  · exact Or.inr y
def zok (n : Nat) (c : gx_St) (v : Int32) : Prop := v = -9 ∨ ∃ e, e < n ∧ v = nI e ∧ ¬ c (8 + 3 * e) 7 = -9
theorem zs_which {n T K w h M : Nat} {c m : gx_St} (hR : zR n T K w h M c m) (rank : Int32) : ∀ (r e F : Nat) (i l : Int32), e + r = n → r < F → zok n c i → zok n c l → ∃ i' l', zok n c i' ∧ zok n c l' ∧ fL_X4_firstToGo_6 F m 0 10 i (nI e) = some i' ∧ fL_X4_firstToGo_6 F m 1 rank l (nI e) = some l' ∧ fL_X3_whichGoes_7 F c rank i l (nI e) = some (if i' = -9 then l' else i') := by
  obtain ⟨hA, hB, hC, hD, hE⟩ := id hR
  have hn := hA.1.1
  have hK := hA.2.2.1.2.1
  have hT := hA.2.1
  intro r
  induction r with
  | zero =>
    intro e F i l he hF hi hl
    have he : e = n := by omega
    subst he
    obtain ⟨F, rfl⟩ : ∃ F', F = F' + 1 := ⟨F - 1, by omega⟩
    refine ⟨i, l, hi, hl, ?_, ?_, ?_⟩
    · rw [fL_X4_firstToGo_6]
      simp only [hA.1.2.2, zi_lee, if_true]
    · rw [fL_X4_firstToGo_6]
      simp only [hA.1.2.2, zi_lee, if_true]
    · rw [fL_X3_whichGoes_7]
      simp only [hA.1.2.1, zi_lee, if_true]
      rcases hi with q | ⟨a, qa, q, -⟩
      · rw [if_pos q, if_pos q]
        rcases hl with q2 | ⟨b, qb, q2, -⟩
        · rw [if_pos q2, q2]
        · rw [q2, if_neg (zi_n9 (by omega)), zi_cl (by omega), if_neg (by omega)]
      · rw [q, if_neg (zi_n9 (by omega)), if_neg (zi_n9 (by omega)), zi_cl (by omega), if_neg (by omega)]
  | succ r ih =>
    intro e F i l he hF hi hl
    obtain ⟨F, rfl⟩ : ∃ F', F = F' + 1 := ⟨F - 1, by omega⟩
    have hen : e < n := by omega
    have he12 : e < 12 := by omega
    have hke := zi_cl (k := e) (by omega)
    have hce := zi_ck (k := e) (N := 12) he12 (by decide)
    have hso := zm_slot hB hn hK he12
    have hst := hC.2.2.2.1 e hen
    have hrk : c (8 + 3 * e + 1) 9 = zn m e 9 := (hC.2.2.1 e hen).1 9 (by decide)
    by_cases q : c (8 + 3 * e) 7 = -9
    · obtain ⟨i', l', x1, x2, x3, x4, x5⟩ := ih (e + 1) F i l (by omega) (by omega) hi hl
      refine ⟨i', l', x1, x2, ?_, ?_, ?_⟩
      · rw [fL_X4_firstToGo_6]
        simp only [hA.1.2.2, zi_le hen (show n < 2 ^ 31 by omega), if_false, hso, Option.bind_some, q, if_true, gx_lt, zi_s, x3]
      · rw [fL_X4_firstToGo_6]
        simp only [hA.1.2.2, zi_le hen (show n < 2 ^ 31 by omega), if_false, hso, Option.bind_some, q, if_true, gx_lt, zi_s, x4]
      · rw [fL_X3_whichGoes_7]
        simp only [hA.1.2.1, zi_le hen (show n < 2 ^ 31 by omega), if_false, hke, hce, q, if_true, gx_lt, zi_s, x5]
    · have oke : zok n c (nI e) := Or.inr ⟨e, hen, rfl, q⟩
      have rke : ∀ v, zok n c v → ¬ v = -9 → ∃ e', e' < n ∧ v = nI e' := fun v hv h9 => by
        rcases hv with z | ⟨e', z1, z2, -⟩
        · exact absurd z h9
        · exact ⟨e', z1, z2⟩
      rcases zp_pl01 (zn m e) (m 9 e) (nI T) with p0 | p0
      · -- does not PLAY
        have h10 : ((10 : Int32) ≤ zn m e 9) = False := by
          obtain ⟨D, hD9, eD⟩ := (hC.2.2.1 e hen).2.2.2.2.2.1
          rw [show zn m e 9 = nI D from eD]
          exact eq_false (nI_ge (b := 10) (by omega) (by decide))
        have h01 : ((0 : Int32) = 1) = False := eq_false (by decide)
        by_cases hi9 : i = -9
        · obtain ⟨i', l', x1, x2, x3, x4, x5⟩ := ih (e + 1) F (nI e) l (by omega) (by omega) oke hl
          refine ⟨i', l', x1, x2, ?_, ?_, ?_⟩
          · rw [fL_X4_firstToGo_6]
            simp only [hA.1.2.2, zi_le hen (show n < 2 ^ 31 by omega), if_false, hso, Option.bind_some, q, hke, hce, zm_pl he12, hT.2.2, p0, if_true, zm_9 he12, h10, hi9, gx_lt, zi_s, x3]
          · rw [fL_X4_firstToGo_6]
            simp only [hA.1.2.2, zi_le hen (show n < 2 ^ 31 by omega), if_false, hso, Option.bind_some, q, hke, hce, zm_pl he12, hT.2.2, p0, h01, gx_lt, zi_s, x4]
          · rw [fL_X3_whichGoes_7]
            simp only [hA.1.2.1, zi_le hen (show n < 2 ^ 31 by omega), if_false, hke, hce, q, hrk, zc_pl hC hn hen, hst, hT.2.1, Option.bind_some, p0, if_true, hi9, gx_lt, zi_s, x5]
        · obtain ⟨e', he', rfl⟩ := rke i hi hi9
          have hk' := zi_cl (k := e') (by omega)
          have hr' : c (8 + 3 * e' + 1) 9 = zn m e' 9 := (hC.2.2.1 e' he').1 9 (by decide)
          by_cases hcmp : zn m e' 9 ≤ zn m e 9
          · obtain ⟨i', l', x1, x2, x3, x4, x5⟩ := ih (e + 1) F (nI e') l (by omega) (by omega) hi hl
            refine ⟨i', l', x1, x2, ?_, ?_, ?_⟩
            · rw [fL_X4_firstToGo_6]
              simp only [hA.1.2.2, zi_le hen (show n < 2 ^ 31 by omega), if_false, hso, Option.bind_some, q, hke, hce, zm_pl he12, hT.2.2, p0, if_true, zm_9 he12, h10, hi9, zm_9 (show e' < 12 by omega), hcmp, gx_lt, zi_s, x3]
            · rw [fL_X4_firstToGo_6]
              simp only [hA.1.2.2, zi_le hen (show n < 2 ^ 31 by omega), if_false, hso, Option.bind_some, q, hke, hce, zm_pl he12, hT.2.2, p0, h01, gx_lt, zi_s, x4]
            · rw [fL_X3_whichGoes_7]
              simp only [hA.1.2.1, zi_le hen (show n < 2 ^ 31 by omega), if_false, hke, hce, q, hrk, zc_pl hC hn hen, hst, hT.2.1, Option.bind_some, p0, if_true, hi9, hk', zi_nn (show e' < 12 by omega), hr', hcmp, gx_lt, zi_s, x5]
          · obtain ⟨i', l', x1, x2, x3, x4, x5⟩ := ih (e + 1) F (nI e) l (by omega) (by omega) oke hl
            refine ⟨i', l', x1, x2, ?_, ?_, ?_⟩
            · rw [fL_X4_firstToGo_6]
              simp only [hA.1.2.2, zi_le hen (show n < 2 ^ 31 by omega), if_false, hso, Option.bind_some, q, hke, hce, zm_pl he12, hT.2.2, p0, if_true, zm_9 he12, h10, hi9, zm_9 (show e' < 12 by omega), hcmp, gx_lt, zi_s, x3]
            · rw [fL_X4_firstToGo_6]
              simp only [hA.1.2.2, zi_le hen (show n < 2 ^ 31 by omega), if_false, hso, Option.bind_some, q, hke, hce, zm_pl he12, hT.2.2, p0, h01, gx_lt, zi_s, x4]
            · rw [fL_X3_whichGoes_7]
              simp only [hA.1.2.1, zi_le hen (show n < 2 ^ 31 by omega), if_false, hke, hce, q, hrk, zc_pl hC hn hen, hst, hT.2.1, Option.bind_some, p0, if_true, hi9, hk', zi_nn (show e' < 12 by omega), hr', hcmp, gx_lt, zi_s, x5]
      · -- PLAYS
        by_cases hrank : rank ≤ zn m e 9
        · obtain ⟨i', l', x1, x2, x3, x4, x5⟩ := ih (e + 1) F i l (by omega) (by omega) hi hl
          refine ⟨i', l', x1, x2, ?_, ?_, ?_⟩
          · rw [fL_X4_firstToGo_6]
            simp only [hA.1.2.2, zi_le hen (show n < 2 ^ 31 by omega), if_false, hso, Option.bind_some, q, hke, hce, zm_pl he12, hT.2.2, p0, zi_10, gx_lt, zi_s, x3]
          · rw [fL_X4_firstToGo_6]
            simp only [hA.1.2.2, zi_le hen (show n < 2 ^ 31 by omega), if_false, hso, Option.bind_some, q, hke, hce, zm_pl he12, hT.2.2, p0, if_true, zm_9 he12, hrank, gx_lt, zi_s, x4]
          · rw [fL_X3_whichGoes_7]
            simp only [hA.1.2.1, zi_le hen (show n < 2 ^ 31 by omega), if_false, hke, hce, q, hrk, zc_pl hC hn hen, hst, hT.2.1, Option.bind_some, p0, zi_10, hrank, if_true, gx_lt, zi_s, x5]
        · by_cases hl9 : l = -9
          · obtain ⟨i', l', x1, x2, x3, x4, x5⟩ := ih (e + 1) F i (nI e) (by omega) (by omega) hi oke
            refine ⟨i', l', x1, x2, ?_, ?_, ?_⟩
            · rw [fL_X4_firstToGo_6]
              simp only [hA.1.2.2, zi_le hen (show n < 2 ^ 31 by omega), if_false, hso, Option.bind_some, q, hke, hce, zm_pl he12, hT.2.2, p0, zi_10, gx_lt, zi_s, x3]
            · rw [fL_X4_firstToGo_6]
              simp only [hA.1.2.2, zi_le hen (show n < 2 ^ 31 by omega), if_false, hso, Option.bind_some, q, hke, hce, zm_pl he12, hT.2.2, p0, if_true, zm_9 he12, hrank, hl9, gx_lt, zi_s, x4]
            · rw [fL_X3_whichGoes_7]
              simp only [hA.1.2.1, zi_le hen (show n < 2 ^ 31 by omega), if_false, hke, hce, q, hrk, zc_pl hC hn hen, hst, hT.2.1, Option.bind_some, p0, zi_10, hrank, hl9, if_true, gx_lt, zi_s, x5]
          · obtain ⟨e', he', rfl⟩ := rke l hl hl9
            have hk' := zi_cl (k := e') (by omega)
            have hr' : c (8 + 3 * e' + 1) 9 = zn m e' 9 := (hC.2.2.1 e' he').1 9 (by decide)
            by_cases hcmp : zn m e' 9 ≤ zn m e 9
            · obtain ⟨i', l', x1, x2, x3, x4, x5⟩ := ih (e + 1) F i (nI e') (by omega) (by omega) hi hl
              refine ⟨i', l', x1, x2, ?_, ?_, ?_⟩
              · rw [fL_X4_firstToGo_6]
                simp only [hA.1.2.2, zi_le hen (show n < 2 ^ 31 by omega), if_false, hso, Option.bind_some, q, hke, hce, zm_pl he12, hT.2.2, p0, zi_10, gx_lt, zi_s, x3]
              · rw [fL_X4_firstToGo_6]
                simp only [hA.1.2.2, zi_le hen (show n < 2 ^ 31 by omega), if_false, hso, Option.bind_some, q, hke, hce, zm_pl he12, hT.2.2, p0, if_true, zm_9 he12, hrank, hl9, zm_9 (show e' < 12 by omega), hcmp, gx_lt, zi_s, x4]
              · rw [fL_X3_whichGoes_7]
                simp only [hA.1.2.1, zi_le hen (show n < 2 ^ 31 by omega), if_false, hke, hce, q, hrk, zc_pl hC hn hen, hst, hT.2.1, Option.bind_some, p0, zi_10, hrank, hl9, hk', zi_nn (show e' < 12 by omega), hr', hcmp, if_true, gx_lt, zi_s, x5]
            · obtain ⟨i', l', x1, x2, x3, x4, x5⟩ := ih (e + 1) F i (nI e) (by omega) (by omega) hi oke
              refine ⟨i', l', x1, x2, ?_, ?_, ?_⟩
              · rw [fL_X4_firstToGo_6]
                simp only [hA.1.2.2, zi_le hen (show n < 2 ^ 31 by omega), if_false, hso, Option.bind_some, q, hke, hce, zm_pl he12, hT.2.2, p0, zi_10, gx_lt, zi_s, x3]
              · rw [fL_X4_firstToGo_6]
                simp only [hA.1.2.2, zi_le hen (show n < 2 ^ 31 by omega), if_false, hso, Option.bind_some, q, hke, hce, zm_pl he12, hT.2.2, p0, if_true, zm_9 he12, hrank, hl9, zm_9 (show e' < 12 by omega), hcmp, gx_lt, zi_s, x4]
              · rw [fL_X3_whichGoes_7]
                simp only [hA.1.2.1, zi_le hen (show n < 2 ^ 31 by omega), if_false, hke, hce, q, hrk, zc_pl hC hn hen, hst, hT.2.1, Option.bind_some, p0, zi_10, hrank, hl9, hk', zi_nn (show e' < 12 by omega), hr', hcmp, gx_lt, zi_s, x5]
/-- an EFFECT is LOADED -/
theorem zs_load {n T K w h M : Nat} {c m : gx_St} (hR : zR n T K w h M c m) {e : Nat} (he : e < n) : (f_X3_bringIn c (nI e) = some (-4, c) ∧ f_X4_loads m (nI e) = some (-9, m)) ∨ ∃ k c' m', k < K ∧ f_X3_bringIn c (nI e) = some (nI k, c') ∧ f_X4_loads m (nI e) = some (nI k, m') ∧ zR n T K w h M c' m' ∧ c' (8 + 3 * e) 7 = nI k := by
  obtain ⟨hA, hB, hC, hD, hE⟩ := id hR
  have hn := hA.1.1
  have hK := hA.2.2.1.2.1
  have he12 : e < 12 := by omega
  have hke := zi_cl (k := e) (by omega)
  have hso := zm_slot hB hn hK he12
  have hrk : c (8 + 3 * e + 1) 9 = zn m e 9 := (hC.2.2.1 e he).1 9 (by decide)
  rcases hB.2.2 e he12 with q | ⟨k, q1, q2, q3⟩
  · obtain ⟨x, x1, x2, x3⟩ := zs_free hR
    rcases x3 with ⟨rfl, x3⟩ | ⟨k, hk, rfl, hf⟩
    · obtain ⟨i', l', oi, ol, g1, g2, g3⟩ := zs_which hR (zn m e 9) n 0 13 (-9) (-9) (by omega) (by omega) (Or.inl rfl) (Or.inl rfl)
      have g1 : f_X4_firstToGo m 0 10 = some i' := g1
      have g2 : f_X4_firstToGo m 1 (zn m e 9) = some l' := g2
      have g3 : f_X3_whichGoes c (zn m e 9) = some (if i' = -9 then l' else i') := g3
      have step : ∀ v, zok n c v → ¬ v = -9 → f_X3_whichGoes c (zn m e 9) = some v → (f_X4_loads m (nI e) = (f_X4_goes m v).bind fun σ => (f_X4_freeSlot σ).bind fun r => if r < 0 ∨ 6 ≤ r.toNatClampNeg then none else gx_lt (gx_w2 σ 10 r.toNatClampNeg (nI e)) fun σ2 => some (r, σ2)) → ∃ k c' m', k < K ∧ f_X3_bringIn c (nI e) = some (nI k, c') ∧ f_X4_loads m (nI e) = some (nI k, m') ∧ zR n T K w h M c' m' ∧ c' (8 + 3 * e) 7 = nI k := by
        intro v ov v9 gv gl
        rcases ov with z | ⟨e', he', rfl, hl'⟩
        · exact absurd z v9
        · have hk' := zi_cl (k := e') (by omega)
          have hne : ¬ e = e' := fun z => hl' (by rw [← z]; exact q)
          rcases hB.2.2 e' (by omega) with z | ⟨k, y1, y2, y3⟩
          · exact absurd z hl'
          · obtain ⟨c1, m1, t1, t2, t3, t4, t5, t6, -, -⟩ := zR_out hR he'
            have hl1 : c1 (8 + 3 * e) 7 = -9 := by rw [t5 e hne]; exact q
            have hf1 : m1 10 k = -9 := by rw [t6 k (by omega), if_pos y3]
            obtain ⟨x', f1, f2, f3⟩ := zs_free t3
            have fx : x' = nI k := by
              rcases f3 with ⟨rfl, f3⟩ | ⟨k2, z1, rfl, z2⟩
              · exact absurd hf1 (f3 k y1)
              · by_cases z : m 10 k2 = nI e'
                · rcases hB.2.1 k2 (by omega) with y | ⟨e2, y4, y5, y6⟩
                  · exact absurd (z.symm.trans y) (zi_n9 (by omega))
                  · have y7 := nI_inj (by omega) (by omega) (z.symm.trans y5)
                    subst y7
                    rw [← y6, y2]
                · rw [t6 k2 (by omega), if_neg z] at z2
                  exact absurd z2 (x3 k2 z1)
            subst fx
            refine ⟨k, _, _, y1, ?_, ?_, zR_in t3 he y1 hf1 hl1, zi_we _ _ _ _⟩
            · simp only [f_X3_bringIn, hke, q, if_true, x1, Option.bind_some, hrk, gv, zi_n9 (show e' < 2 ^ 31 by omega), if_false, hk', zi_nn (show e' < 12 by omega), gx_lt, y2, t1, zi_n0 (show k < 2 ^ 31 by omega), zi_6 (show k < 6 by omega), zi_cl (show k < 2 ^ 31 by omega), false_or, zi_nn (show k < 6 by omega)]
            · rw [gl]
              simp only [t2, Option.bind_some, f2, zi_cl (show k < 2 ^ 31 by omega), zi_ck (show k < 6 by omega) (by decide), if_false, gx_lt]
      by_cases hi9 : i' = -9
      · rw [if_pos hi9] at g3
        by_cases hl9 : l' = -9
        · refine Or.inl ⟨?_, ?_⟩
          · simp only [f_X3_bringIn, hke, q, if_true, x1, Option.bind_some, hrk, g3, hl9]
          · simp only [f_X4_loads, hso, q, Option.bind_some, if_true, x2, g1, hi9, zm_9 he12, g2, hl9]
        · refine Or.inr (step l' ol hl9 g3 ?_)
          simp only [f_X4_loads, hso, q, Option.bind_some, if_true, x2, g1, hi9, zm_9 he12, g2, hl9, if_false]
      · rw [if_neg hi9] at g3
        refine Or.inr (step i' oi hi9 g3 ?_)
        simp only [f_X4_loads, hso, q, Option.bind_some, if_true, x2, g1, hi9, if_false]
    · refine Or.inr ⟨k, _, _, hk, ?_, ?_, zR_in hR he hk hf q, zi_we _ _ _ _⟩
      · simp only [f_X3_bringIn, hke, q, if_true, x1, Option.bind_some, zi_n9 (show k < 2 ^ 31 by omega), if_false, zi_n0 (show k < 2 ^ 31 by omega), zi_6 (show k < 6 by omega), zi_cl (show k < 2 ^ 31 by omega), false_or, zi_nn (show k < 6 by omega), gx_lt]
      · simp only [f_X4_loads, hso, q, Option.bind_some, if_true, x2, zi_n9 (show k < 2 ^ 31 by omega), if_false, zi_cl (show k < 2 ^ 31 by omega), zi_ck (show k < 6 by omega) (by decide), gx_lt]
  · have q9 : ¬ c (8 + 3 * e) 7 = -9 := by rw [q2]; exact zi_n9 (by omega)
    refine Or.inr ⟨k, c, m, q1, ?_, ?_, hR, q2⟩
    · simp only [f_X3_bringIn, hke, q2, zi_n9 (show k < 2 ^ 31 by omega), if_false]
    · rw [q2] at hso
      simp only [f_X4_loads, hso, Option.bind_some, zi_n9 (show k < 2 ^ 31 by omega), if_false]
theorem zz_load {c m : gx_St} (h : zz_R c m) (a1 : Int32) : ∃ (r : Int32) (c' m' : gx_St), f_X3_load c a1 = some (r, c') ∧ f_X4_load m a1 = some (r, m') ∧ zz_R c' m' := by
  obtain ⟨n, T, K, w, h, M, hR⟩ := id h
  obtain ⟨hA, hB, hC, hD, hE⟩ := id hR
  rcases zs_isE hA a1 with ⟨h1, h2⟩ | ⟨e, he, rfl, h1, h2⟩
  · exact ⟨-1, c, m, by simp [f_X3_load, h1], by simp [f_X4_load, h2], ‹zz_R c m›⟩
  · have hn := hA.1.1
    have hK := hA.2.2.1.2.1
    have hke := zi_cl (k := e) (by omega)
    have hce := zi_ck (k := e) (N := 12) (by omega) (by decide)
    rcases zs_load hR he with ⟨q1, q2⟩ | ⟨k, c', m', q0, q1, q2, q3, -⟩
    · exact ⟨-4, c, m, by simp only [f_X3_load, h1, Option.bind_some, zi_10, if_false, hke, hce, q1, gx_b2], by simp only [f_X4_load, h2, Option.bind_some, zi_10, if_false, q2, gx_b2, if_true], ‹zz_R c m›⟩
    · exact ⟨nI k, c', m', by simp only [f_X3_load, h1, Option.bind_some, zi_10, if_false, hke, hce, q1, gx_b2], by simp only [f_X4_load, h2, Option.bind_some, zi_10, if_false, q2, gx_b2, zi_n9 (show k < 2 ^ 31 by omega)], n, T, K, w, h, M, q3⟩
theorem zz_play {c m : gx_St} (h : zz_R c m) (a1 : Int32) : ∃ (r : Int32) (c' m' : gx_St), f_X3_play c a1 = some (r, c') ∧ f_X4_play m a1 = some (r, m') ∧ zz_R c' m' := by
  obtain ⟨n, T, K, w, h, M, hR⟩ := id h
  obtain ⟨hA, hB, hC, hD, hE⟩ := id hR
  rcases zs_isE hA a1 with ⟨h1, h2⟩ | ⟨e, he, rfl, h1, h2⟩
  · exact ⟨-1, c, m, by simp [f_X3_play, h1], by simp [f_X4_play, h2], ‹zz_R c m›⟩
  · have hn := hA.1.1
    have hK := hA.2.2.1.2.1
    have hke := zi_cl (k := e) (by omega)
    have hce := zi_ck (k := e) (N := 12) (by omega) (by decide)
    rcases hA.2.2.2.2.2.2.2.2 with ⟨l1, l2, -⟩ | ⟨l1, l2, -⟩
    · rcases zs_load hR he with ⟨q1, q2⟩ | ⟨k, c', m', q0, q1, q2, q3, q4⟩
      · exact ⟨-4, c, m, by simp only [f_X3_play, h1, Option.bind_some, zi_10, if_false, l1, if_true, hke, hce, q1, gx_b2], by simp only [f_X4_play, h2, Option.bind_some, zi_10, if_false, l2, if_true, q2, gx_b2], ‹zz_R c m›⟩
      · have n4 : (nI k = (-4 : Int32)) = False := eq_false (fun z => by
          have z1 := congrArg Int32.toInt z
          rw [nI_toInt (by omega)] at z1
          have z2 : (-4 : Int32).toInt = -4 := by decide
          omega)
        have key := zR_start q3 he (v := nI T) (Or.inr ⟨⟨T, Nat.le_refl _, rfl⟩, by rw [q4]; exact zi_n9 (by omega)⟩)
        refine ⟨nI k, _, _, ?_, ?_, n, T, K, w, h, M, key⟩
        · simp only [f_X3_play, h1, Option.bind_some, zi_10, if_false, l1, if_true, hke, hce, q1, gx_b2, n4, gx_lt, q3.1.2.1.2.1]
        · simp only [f_X4_play, h2, Option.bind_some, zi_10, if_false, l2, if_true, q2, gx_b2, zi_n9 (show k < 2 ^ 31 by omega), hke, hce, gx_lt, q3.1.2.1.2.2]
    · exact ⟨-3, c, m, by simp only [f_X3_play, h1, Option.bind_some, zi_10, if_false, l1], by simp only [f_X4_play, h2, Option.bind_some, zi_10, if_false, l2], ‹zz_R c m›⟩
