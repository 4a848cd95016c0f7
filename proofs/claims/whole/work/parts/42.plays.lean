def zn (m : gx_St) (e : Nat) : Nat → Int32 := fun j => m 8 (12 * e + j)
theorem zm_num {m : gx_St} {e j : Nat} (he : e < 12) (hj : j < 12) : f_X4_numberOf m (nI e) (nI j) = some (zn m e j) := by
  unfold f_X4_numberOf
  rw [zi_ix, if_neg (nI_in (by omega) (by decide)), zi_cl (by omega)]
  rfl
theorem zm_0 {m : gx_St} {e : Nat} (he : e < 12) : f_X4_numberOf m (nI e) 0 = some (zn m e 0) := zm_num (j := 0) he (by decide)
theorem zm_1 {m : gx_St} {e : Nat} (he : e < 12) : f_X4_numberOf m (nI e) 1 = some (zn m e 1) := zm_num (j := 1) he (by decide)
theorem zm_2 {m : gx_St} {e : Nat} (he : e < 12) : f_X4_numberOf m (nI e) 2 = some (zn m e 2) := zm_num (j := 2) he (by decide)
theorem zm_3 {m : gx_St} {e : Nat} (he : e < 12) : f_X4_numberOf m (nI e) 3 = some (zn m e 3) := zm_num (j := 3) he (by decide)
theorem zm_4 {m : gx_St} {e : Nat} (he : e < 12) : f_X4_numberOf m (nI e) 4 = some (zn m e 4) := zm_num (j := 4) he (by decide)
theorem zm_5 {m : gx_St} {e : Nat} (he : e < 12) : f_X4_numberOf m (nI e) 5 = some (zn m e 5) := zm_num (j := 5) he (by decide)
theorem zm_6 {m : gx_St} {e : Nat} (he : e < 12) : f_X4_numberOf m (nI e) 6 = some (zn m e 6) := zm_num (j := 6) he (by decide)
theorem zm_7 {m : gx_St} {e : Nat} (he : e < 12) : f_X4_numberOf m (nI e) 7 = some (zn m e 7) := zm_num (j := 7) he (by decide)
theorem zm_8 {m : gx_St} {e : Nat} (he : e < 12) : f_X4_numberOf m (nI e) 8 = some (zn m e 8) := zm_num (j := 8) he (by decide)
theorem zm_9 {m : gx_St} {e : Nat} (he : e < 12) : f_X4_numberOf m (nI e) 9 = some (zn m e 9) := zm_num (j := 9) he (by decide)
theorem zm_10 {m : gx_St} {e : Nat} (he : e < 12) : f_X4_numberOf m (nI e) 10 = some (zn m e 10) := zm_num (j := 10) he (by decide)
theorem zm_11 {m : gx_St} {e : Nat} (he : e < 12) : f_X4_numberOf m (nI e) 11 = some (zn m e 11) := zm_num (j := 11) he (by decide)
def zp_pl (u : Nat → Int32) (s t : Int32) : Int32 := if s = -9 then 0 else if u 0 = -9 then 1 else if (s + u 1) + u 0 ≤ t then 0 else 1
def zp_on (u : Nat → Int32) (s t : Int32) : Int32 := if zp_pl u s t = 0 then 0 else if t < s + u 1 then 0 else 1
theorem zp_pl01 (u : Nat → Int32) (s t : Int32) : zp_pl u s t = 0 ∨ zp_pl u s t = 1 := by
  unfold zp_pl
  split
  · exact Or.inl rfl
  · split
    · exact Or.inr rfl
    · split
      · exact Or.inl rfl
      · exact Or.inr rfl
theorem zp_on01 (u : Nat → Int32) (s t : Int32) : zp_on u s t = 0 ∨ zp_on u s t = 1 := by
  unfold zp_on
  split
  · exact Or.inl rfl
  · split
    · exact Or.inl rfl
    · exact Or.inr rfl
theorem zp_pl9 (u : Nat → Int32) (t : Int32) : zp_pl u (-9) t = 0 := if_pos rfl
theorem zp_on9 (u : Nat → Int32) (t : Int32) : zp_on u (-9) t = 0 := by rw [zp_on, zp_pl9, if_pos rfl]
theorem zp_plc {u v : Nat → Int32} (h : ∀ j, j < 12 → u j = v j) (s t : Int32) : zp_pl u s t = zp_pl v s t := by
  unfold zp_pl
  rw [h 0 (by decide), h 1 (by decide)]
theorem zp_onc {u v : Nat → Int32} (h : ∀ j, j < 12 → u j = v j) (s t : Int32) : zp_on u s t = zp_on v s t := by
  unfold zp_on
  rw [zp_plc h, h 1 (by decide)]
theorem zc_pl0 {c : gx_St} {e : Nat} (he : e < 12) (s t : Int32) : f_X2_playsAt c (nI e) s t = some (zp_pl (c (8 + 3 * e + 1)) s t) := by
  unfold f_X2_playsAt zp_pl
  rw [zi_cl (by omega)]
  simp only [gx_lt]
  split
  · rfl
  · split
    · rfl
    · split <;> rfl
theorem zc_on0 {c : gx_St} {e : Nat} (he : e < 12) (s t : Int32) : f_X2_isOnAt c (nI e) s t = some (zp_on (c (8 + 3 * e + 1)) s t) := by
  unfold f_X2_isOnAt zp_on
  rw [zc_pl0 he, zi_cl (by omega)]
  simp only [Option.bind_some]
  split
  · rfl
  · split <;> rfl
theorem zm_pl {m : gx_St} {e : Nat} (he : e < 12) (s t : Int32) : f_X4_doesPlay m (nI e) s t = some (zp_pl (zn m e) s t) := by
  unfold f_X4_doesPlay zp_pl
  rw [zm_0 he, zm_1 he]
  simp only [Option.bind_some]
  split
  · rfl
  · split
    · rfl
    · split <;> rfl
theorem zm_on {m : gx_St} {e : Nat} (he : e < 12) (s t : Int32) : f_X4_isOn m (nI e) s t = some (zp_on (zn m e) s t) := by
  unfold f_X4_isOn zp_on
  rw [zm_pl he, zm_1 he]
  simp only [Option.bind_some]
  split
  · rfl
  · split <;> rfl
theorem zc_pl {n T : Nat} {c m : gx_St} (hC : zC n T c m) (hn : n ≤ 12) {e : Nat} (he : e < n) (s t : Int32) : f_X2_playsAt c (nI e) s t = some (zp_pl (zn m e) s t) := by rw [zc_pl0 (by omega), zp_plc (hC.2.2.1 e he).1]; rfl
theorem zc_on {n T : Nat} {c m : gx_St} (hC : zC n T c m) (hn : n ≤ 12) {e : Nat} (he : e < n) (s t : Int32) : f_X2_isOnAt c (nI e) s t = some (zp_on (zn m e) s t) := by rw [zc_on0 (by omega), zp_onc (hC.2.2.1 e he).1]; rfl
theorem nI_inj {a b : Nat} (ha : a < 2 ^ 31) (hb : b < 2 ^ 31) (h : nI a = nI b) : a = b := (nI_eq ha hb).mp h
/-- in which SLOT: the reference looks it up -/
theorem zm_slotL {n K : Nat} {c m : gx_St} (hB : zB n K c m) (hn : n ≤ 12) (hK : K ≤ 6) {e : Nat} (he : e < 12) : ∀ (r k F : Nat), k + r = 6 → r < F → (∀ j, j < k → ¬ m 10 j = nI e) → fL_X4_slotOf_2 F m (nI e) (nI k) = some (c (8 + 3 * e) 7) := by
  intro r
  induction r with
  | zero =>
    intro k F hk hF hno
    have hk : k = 6 := by omega
    subst hk
    obtain ⟨F, rfl⟩ : ∃ F', F = F' + 1 := ⟨F - 1, by omega⟩
    rw [fL_X4_slotOf_2]
    rw [if_pos (show (6 : Int32) ≤ nI 6 by decide)]
    rcases hB.2.2 e he with h | ⟨k, h1, h2, h3⟩
    · rw [h]
    · exact absurd h3 (hno k (by omega))
  | succ r ih =>
    intro k F hk hF hno
    obtain ⟨F, rfl⟩ : ∃ F', F = F' + 1 := ⟨F - 1, by omega⟩
    have hk6 : k < 6 := by omega
    rw [fL_X4_slotOf_2]
    simp only [zi_6 hk6, if_false, zi_cl (show k < 2 ^ 31 by omega), zi_ck hk6 (by decide), gx_lt, zi_s]
    by_cases h : m 10 k = nI e
    · rw [if_pos h]
      rcases hB.2.1 k hk6 with h1 | ⟨e', h1, h2, h3⟩
      · exact absurd (h1.symm.trans h).symm (zi_n9 (by omega))
      · have h4 := nI_inj (by omega) (by omega) (h.symm.trans h2)
        subst h4
        rw [h3]
    · rw [if_neg h]
      refine ih (k + 1) F (by omega) (by omega) (fun j hj => ?_)
      rcases Nat.lt_or_ge j k with q | q
      · exact hno j q
      · have : j = k := by omega
        subst this
        exact h
theorem zm_slot {n K : Nat} {c m : gx_St} (hB : zB n K c m) (hn : n ≤ 12) (hK : K ≤ 6) {e : Nat} (he : e < 12) : f_X4_slotOf m (nI e) = some (c (8 + 3 * e) 7) := zm_slotL hB hn hK he 6 0 7 rfl (by decide) (fun j hj => absurd hj (Nat.not_lt_zero j))
/-- the START of an EFFECT becomes another -/
theorem zR_start {n T K w h M : Nat} {c m : gx_St} (hR : zR n T K w h M c m) {e : Nat} (he : e < n) {v : Int32} (hv : v = -9 ∨ ((∃ S, S ≤ T ∧ v = nI S) ∧ ¬ c (8 + 3 * e) 7 = -9)) : zR n T K w h M (gx_w2 c (8 + 3 * e) 8 v) (gx_w2 m 9 e v) := by
  obtain ⟨hA, hB, hC, hD, hE⟩ := hR
  have k7 : ∀ e', gx_w2 c (8 + 3 * e) 8 v (8 + 3 * e') 7 = c (8 + 3 * e') 7 := fun e' => zi_wj (by decide)
  have hn := hA.1.1
  refine ⟨?_, zB_f hn (fun k => zi_wk (by omega)) (fun e' _ => k7 e') (fun k => zi_wk (by decide)) hB, ?_, zD_f (fun b j _ => zi_wk (by omega)) (fun e' j _ => zi_wk (by omega)) (fun e' _ => k7 e') (fun k => zi_wk (by decide)) (fun k => zi_wk (by decide)) hD, zE_f (fun b j _ => zi_wk (by omega)) (fun k => zi_wk (by decide)) (fun k => zi_wk (by decide)) hE⟩
  · unfold zA
    have c0 : ∀ j, gx_w2 c (8 + 3 * e) 8 v 0 j = c 0 j := fun j => zi_wk (by omega)
    have m0 : ∀ j, gx_w2 m 9 e v 0 j = m 0 j := fun j => zi_wk (by decide)
    have m11 : ∀ j, gx_w2 m 9 e v 11 j = m 11 j := fun j => zi_wk (by decide)
    simp only [c0, m0, m11]
    exact hA
  · obtain ⟨a1, a2, a3, a4, a5⟩ := hC
    refine ⟨fun e' he' => by rw [zi_wj (by decide)]; exact a1 e' he', fun e' he' => ⟨fun j hj => ?_, ?_⟩, fun e' he' => ⟨fun j hj => ?_, ?_⟩, fun e' he' => ?_, fun e' he' => ?_⟩
    · rw [zi_wj (by omega), zi_wk (by omega)]
      exact (a2 e' he').1 j hj
    · rw [zi_wk (by decide), zi_wk (by decide), zi_wk (by decide), zi_wk (by decide), zi_wk (by decide)]
      exact (a2 e' he').2
    · rw [zi_wk (by omega), zi_wk (by decide)]
      exact (a3 e' he').1 j hj
    · rw [show (fun j => gx_w2 m 9 e v 8 (12 * e' + j)) = fun j => m 8 (12 * e' + j) from funext fun j => zi_wk (by decide)]
      exact (a3 e' he').2
    · by_cases q : e' = e
      · subst q
        rw [zi_we, zi_we]
      · rw [zi_wk (by omega), zi_wj (fun z => q z)]
        exact a4 e' he'
    · rw [k7]
      by_cases q : e' = e
      · subst q
        rw [zi_we]
        exact hv
      · rw [zi_wk (by omega)]
        exact a5 e' he'
theorem zz_stop {c m : gx_St} (h : zz_R c m) (a1 : Int32) : ∃ (r : Int32) (c' m' : gx_St), f_X3_stop c a1 = some (r, c') ∧ f_X4_stop m a1 = some (r, m') ∧ zz_R c' m' := by
  obtain ⟨n, T, K, w, h, M, hR⟩ := id h
  obtain ⟨hA, hB, hC, hD, hE⟩ := id hR
  rcases zs_isE hA a1 with ⟨h1, h2⟩ | ⟨e, he, rfl, h1, h2⟩
  · exact ⟨-1, c, m, by simp [f_X3_stop, h1], by simp [f_X4_stop, h2], ‹zz_R c m›⟩
  · have hn := hA.1.1
    have he12 : e < 12 := by omega
    have hk := zi_cl (k := e) (by omega)
    have hc := zi_ck (k := e) (N := 12) he12 (by decide)
    have hst := hC.2.2.2.1 e he
    have hT := hA.2.1
    have key := zR_start hR he (v := -9) (Or.inl rfl)
    rcases zp_pl01 (zn m e) (m 9 e) (nI T) with q | q
    · refine ⟨0, _, _, ?_, ?_, n, T, K, w, h, M, key⟩
      · simp only [f_X3_stop, h1, Option.bind_some, zi_10, if_false, hk, hc, zc_pl hC hn he, hst, hT.2.1, q, if_true, gx_lt]
      · simp only [f_X4_stop, h2, Option.bind_some, zi_10, if_false, hk, hc, zm_pl he12, hT.2.2, q, if_true, gx_lt]
    · refine ⟨1, _, _, ?_, ?_, n, T, K, w, h, M, key⟩
      · simp only [f_X3_stop, h1, Option.bind_some, zi_10, if_false, hk, hc, zc_pl hC hn he, hst, hT.2.1, q, gx_lt]
      · simp only [f_X4_stop, h2, Option.bind_some, zi_10, if_false, hk, hc, zm_pl he12, hT.2.2, q, gx_lt]
theorem zi_sub10 {j : Nat} : nI (10 + j) - 10 = nI j := by rw [show (10 : Int32) = nI 10 from rfl, pk_sub (by omega), Nat.add_sub_cancel_left]
theorem zs_told {n T : Nat} {c m : gx_St} (hC : zC n T c m) (hn : n ≤ 12) {e : Nat} (he : e < n) {j : Nat} (hj : j < 12) : ∃ r, f_X3_toldNumber c (nI e) (nI j) = some r ∧ f_X4_tellNumber m (nI e) (nI j) = some r := by
  have he12 : e < 12 := by omega
  have hk := zi_cl (k := e) (by omega)
  have hkj := zi_cl (k := j) (by omega)
  have hcj := zi_ck (k := j) (N := 12) hj (by decide)
  have e1 : c (8 + 3 * e + 1) j = zn m e j := (hC.2.2.1 e he).1 j hj
  by_cases h6 : nI j = 6
  · exact ⟨zn m e j + 10000, by simp only [f_X3_toldNumber, hk, hkj, hcj, if_false, e1, eq_true h6, if_true], by simp only [f_X4_tellNumber, zm_num he12 hj, Option.bind_some, eq_true h6, if_true]⟩
  · by_cases h7 : nI j = 7
    · exact ⟨zn m e j + 10000, by simp only [f_X3_toldNumber, hk, hkj, hcj, if_false, e1, h6, eq_true h7, if_true], by simp only [f_X4_tellNumber, zm_num he12 hj, Option.bind_some, h6, eq_true h7, if_true, if_false]⟩
    · exact ⟨zn m e j, by simp only [f_X3_toldNumber, hk, hkj, hcj, if_false, e1, h6, h7], by simp only [f_X4_tellNumber, zm_num he12 hj, Option.bind_some, h6, h7, if_false, Int32.add_zero]⟩
theorem zz_ofEffect {c m : gx_St} (h : zz_R c m) (a1 a2 : Int32) : ∃ r : Int32, f_X3_ofEffect c a1 a2 = some r ∧ f_X4_ofEffect m a1 a2 = some r := by
  obtain ⟨n, T, K, w, h, M, hR⟩ := id h
  obtain ⟨hA, hB, hC, hD, hE⟩ := id hR
  rcases zs_isE hA a1 with ⟨h1, h2⟩ | ⟨e, he, rfl, h1, h2⟩
  · exact ⟨-1, by simp [f_X3_ofEffect, h1], by simp [f_X4_ofEffect, h2]⟩
  · have hn := hA.1.1
    have he12 : e < 12 := by omega
    have hk := zi_cl (k := e) (by omega)
    have hc := zi_ck (k := e) (N := 12) he12 (by decide)
    have hst := hC.2.2.2.1 e he
    have hT := hA.2.1
    have hs := (hC.2.1 e he).1
    have s0 : c (8 + 3 * e) 1 = m 3 e := hs 0 (by decide)
    have s1 : c (8 + 3 * e) 2 = m 4 e := hs 1 (by decide)
    have s2 : c (8 + 3 * e) 3 = m 5 e := hs 2 (by decide)
    have s3 : c (8 + 3 * e) 4 = m 6 e := hs 3 (by decide)
    have s4 : c (8 + 3 * e) 5 = m 7 e := hs 4 (by decide)
    by_cases hw : a2 < 10 ∨ 21 < a2
    · simp only [f_X3_ofEffect, h1, Option.bind_some, zi_10, if_false, hk, hc, zi_w, zi_win0 hw, if_true, s0, s1, s2, s3, s4, hst, hT.2.1, zc_pl hC hn he, zc_on hC hn he, f_X4_ofEffect, h2, zm_slot hB hn hA.2.2.1.2.1 he12, zm_pl he12, zm_on he12, hT.2.2]
      repeat' split
      all_goals exact ⟨_, rfl, rfl⟩
    · obtain ⟨j, hj, rfl⟩ : ∃ j, j < 12 ∧ a2 = nI (10 + j) := by
        rcases zi_dec a2 22 (by decide) with ⟨k, hk, rfl⟩ | hx
        · have h10 : 10 ≤ k := by
            rcases Nat.lt_or_ge k 10 with q | q
            · exact absurd (Or.inl (nI_lt (b := 10) q (by decide))) hw
            · exact q
          exact ⟨k - 10, by omega, by rw [show 10 + (k - 10) = k by omega]⟩
        · exfalso
          rcases hx with q | q
          · refine hw (Or.inl ?_)
            rw [zi_lt] at q ⊢
            have e1 : (10 : Int32).toInt = 10 := by decide
            have e0 : (0 : Int32).toInt = 0 := by decide
            omega
          · refine hw (Or.inr ?_)
            rw [zi_lei] at q
            rw [zi_lt]
            have e1 : (21 : Int32).toInt = 21 := by decide
            have e0 : (nI 22).toInt = 22 := by decide
            omega
      obtain ⟨r, r1, r2⟩ := zs_told hC hn he hj
      exact ⟨r, by simp only [f_X3_ofEffect, h1, Option.bind_some, zi_10, if_false, hk, hc, zi_w, zi_win1 hw, zi_sub10, r1], by simp only [f_X4_ofEffect, h2, Option.bind_some, zi_10, if_false, zi_win1 hw, zi_sub10, r2]⟩
