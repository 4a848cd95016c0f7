theorem zc_pr {n T K w h M : Nat} {c m : gx_St} (hR : zR n T K w h M c m) {b : Nat} (hb : b < 4) : ∀ (r k F : Nat) (v : Int32) (σ : gx_St), k + r = 6 → r < F → (∀ j, σ 0 j = c 0 j) → (∀ j, σ 2 j = c 2 j) → (∀ e j, e < 12 → σ (8 + 3 * e + 1) j = c (8 + 3 * e + 1) j) → ∃ σ', fL_X3_press_58 F σ (nI b) v (nI k) = some (v + zs2 (zsl m fun e => if zn m e 10 = nI b then 1 else 0) k r, σ') ∧ (∀ e k', e < 12 → k ≤ k' → k' < 6 → m 10 k' = nI e → zn m e 10 = nI b → σ' (8 + 3 * e) 8 = nI T ∧ σ' (8 + 3 * e + 2) b = zn m e 11) ∧ (∀ i j, ¬ (∃ e k', e < 12 ∧ k ≤ k' ∧ k' < 6 ∧ m 10 k' = nI e ∧ zn m e 10 = nI b ∧ ((i = 8 + 3 * e ∧ j = 8) ∨ (i = 8 + 3 * e + 2 ∧ j = b))) → σ' i j = σ i j) := by
  obtain ⟨hA, hB, hC, -⟩ := id hR
  have hn := hA.1.1
  have hT := hA.2.1
  intro r
  induction r with
  | zero =>
    intro k F v σ hk hF h0 h2 h1
    have hk : k = 6 := by omega
    subst hk
    obtain ⟨F, rfl⟩ : ∃ F', F = F' + 1 := ⟨F - 1, by omega⟩
    refine ⟨σ, ?_, fun e k' _ q1 q2 => by omega, fun i j _ => rfl⟩
    rw [fL_X3_press_58]
    simp only [zi_6e, if_true, zs2, Int32.add_zero]
  | succ r ih =>
    intro k F v σ hk hF h0 h2 h1
    obtain ⟨F, rfl⟩ : ∃ F', F = F' + 1 := ⟨F - 1, by omega⟩
    have hk6 : k < 6 := by omega
    rw [fL_X3_press_58, zs2, ← Int32.add_assoc]
    simp only [zi_6 hk6, if_false, zi_cl (show k < 2 ^ 31 by omega), zi_ck hk6 (by decide), gx_lt, zi_s, h2, hB.1 k hk6]
    rcases hB.2.1 k hk6 with q | ⟨e, q1, q2, -⟩
    · simp only [zsl, q, if_true, Int32.add_zero]
      obtain ⟨σ', g1, g2, g3⟩ := ih (k + 1) F v σ (by omega) (by omega) h0 h2 h1
      refine ⟨σ', g1, fun e k' y0 y1 y2 y3 y4 => ?_, fun i j y => ?_⟩
      · rcases Nat.eq_or_lt_of_le y1 with z | z
        · subst z
          exact absurd (y3.symm.trans q) (zi_n9 (by omega))
        · exact g2 e k' y0 z y2 y3 y4
      · refine g3 i j ?_
        rintro ⟨e, k', y0, y1, y2⟩
        exact y ⟨e, k', y0, by omega, y2⟩
    · have hnum : σ (8 + 3 * e + 1) 10 = zn m e 10 := (h1 e 10 (by omega)).trans ((hC.2.2.1 e q1).1 10 (by decide))
      have hnum2 : σ (8 + 3 * e + 1) 11 = zn m e 11 := (h1 e 11 (by omega)).trans ((hC.2.2.1 e q1).1 11 (by decide))
      simp only [zsl, q2, zi_n9 (show e < 2 ^ 31 by omega), if_false, zi_cl (show e < 2 ^ 31 by omega), zi_nn (show e < 12 by omega), hnum]
      by_cases p : zn m e 10 = nI b
      · simp only [eq_true p, if_true, zi_cl (show b < 2 ^ 31 by omega), zi_ck hb (by decide), if_false]
        have e7 : σ 0 7 = nI T := (h0 7).trans hT.2.1
        have e11 : gx_w2 σ (8 + 3 * e) 8 (σ 0 7) (8 + 3 * e + 1) 11 = zn m e 11 := by rw [zi_wk (by omega)]; exact hnum2
        rw [e11, e7]
        obtain ⟨σ2, eσ⟩ : ∃ x, x = gx_w2 (gx_w2 σ (8 + 3 * e) 8 (nI T)) (8 + 3 * e + 2) b (zn m e 11) := ⟨_, rfl⟩
        rw [← eσ]
        have so : ∀ i j, ¬ (i = 8 + 3 * e ∧ j = 8) → ¬ (i = 8 + 3 * e + 2 ∧ j = b) → σ2 i j = σ i j := fun i j z1 z2 => by rw [eσ, zi_w2, if_neg z2, zi_w2, if_neg z1]
        have s8 : σ2 (8 + 3 * e) 8 = nI T := by rw [eσ, zi_wk (by omega), zi_we]
        have sb : σ2 (8 + 3 * e + 2) b = zn m e 11 := by rw [eσ, zi_we]
        obtain ⟨σ', g1, g2, g3⟩ := ih (k + 1) F (v + 1) σ2 (by omega) (by omega) (fun j => (so _ _ (by omega) (by omega)).trans (h0 j)) (fun j => (so _ _ (by omega) (by omega)).trans (h2 j)) (fun e' j he' => (so _ _ (by omega) (by omega)).trans (h1 e' j he'))
        refine ⟨σ', g1, fun e' k' y0 y1 y2 y3 y4 => ?_, fun i j y => ?_⟩
        · by_cases y5 : ∃ k2, k + 1 ≤ k2 ∧ k2 < 6 ∧ m 10 k2 = nI e'
          · obtain ⟨k2, z1, z2, z3⟩ := y5
            exact g2 e' k2 y0 z1 z2 z3 y4
          · have y6 : k' = k := by
              rcases Nat.eq_or_lt_of_le y1 with z | z
              · exact z.symm
              · exact absurd ⟨k', z, y2, y3⟩ y5
            subst y6
            have y7 := nI_inj (by omega) (by omega) (y3.symm.trans q2)
            subst y7
            rw [g3 _ _ (by rintro ⟨e2, k2, z0, z1, z2, z3, z4, z5⟩; exact y5 ⟨k2, z1, z2, by rw [z3, show e2 = e' by omega]⟩), g3 _ _ (by rintro ⟨e2, k2, z0, z1, z2, z3, z4, z5⟩; exact y5 ⟨k2, z1, z2, by rw [z3, show e2 = e' by omega]⟩)]
            exact ⟨s8, sb⟩
        · rw [g3 i j (by
            rintro ⟨e2, k', y0, y1, y2⟩
            exact y ⟨e2, k', y0, by omega, y2⟩)]
          refine so i j (fun z => y ⟨e, k, by omega, Nat.le_refl _, hk6, q2, p, Or.inl z⟩) (fun z => y ⟨e, k, by omega, Nat.le_refl _, hk6, q2, p, Or.inr z⟩)
      · simp only [p, if_false, Int32.add_zero]
        obtain ⟨σ', g1, g2, g3⟩ := ih (k + 1) F v σ (by omega) (by omega) h0 h2 h1
        refine ⟨σ', g1, fun e' k' y0 y1 y2 y3 y4 => ?_, fun i j y => ?_⟩
        · rcases Nat.eq_or_lt_of_le y1 with z | z
          · subst z
            have y7 := nI_inj (by omega) (by omega) (y3.symm.trans q2)
            subst y7
            exact absurd y4 p
          · exact g2 e' k' y0 z y2 y3 y4
        · refine g3 i j ?_
          rintro ⟨e, k', y0, y1, y2⟩
          exact y ⟨e, k', y0, by omega, y2⟩
def zhit (c m : gx_St) (b e : Nat) : Prop := ¬ c (8 + 3 * e) 7 = -9 ∧ zn m e 10 = nI b
theorem zm_slot2 {n K : Nat} {c m σ : gx_St} (hB : zB n K c m) (hn : n ≤ 12) (hK : K ≤ 6) (h : ∀ j, σ 10 j = m 10 j) {e : Nat} (he : e < 12) : f_X4_slotOf σ (nI e) = some (c (8 + 3 * e) 7) := zm_slot (zB_f (c' := c) (m' := σ) hn (fun _ => rfl) (fun _ _ => rfl) h hB) hn hK he
theorem zm_pr {n T K w h M : Nat} {c m : gx_St} (hR : zR n T K w h M c m) {b : Nat} (hb : b < 4) : ∀ (r k F : Nat) (v : Int32) (σ : gx_St), k + r = n → r < F → (∀ j, σ 0 j = m 0 j) → (∀ j, σ 10 j = m 10 j) → (∀ j, σ 8 j = m 8 j) → ∃ σ', fL_X4_press_46 F σ (nI b) v (nI k) = some (v + zs2 (fun e => if c (8 + 3 * e) 7 = -9 then 0 else if zn m e 10 = nI b then 1 else 0) k r, σ') ∧ (∀ e, k ≤ e → e < n → zhit c m b e → σ' 9 e = nI T ∧ σ' 12 (12 * b + e) = zn m e 11) ∧ (∀ e, k ≤ e → e < n → ¬ zhit c m b e → σ' 9 e = σ 9 e ∧ σ' 12 (12 * b + e) = 0) ∧ (∀ i j, ¬ (∃ e, k ≤ e ∧ e < n ∧ ((i = 9 ∧ j = e) ∨ (i = 12 ∧ j = 12 * b + e))) → σ' i j = σ i j) := by
  obtain ⟨hA, hB, hC, -⟩ := id hR
  have hn := hA.1.1
  have hT := hA.2.1
  have hK := hA.2.2.1.2.1
  intro r
  induction r with
  | zero =>
    intro k F v σ hk hF h0 h2 h1
    have hk : k = n := by omega
    subst hk
    obtain ⟨F, rfl⟩ : ∃ F', F = F' + 1 := ⟨F - 1, by omega⟩
    refine ⟨σ, ?_, fun e q1 q2 => by omega, fun e q1 q2 => by omega, fun i j _ => rfl⟩
    rw [fL_X4_press_46]
    simp only [h0, hA.1.2.2, zi_lee, if_true, zs2, Int32.add_zero]
  | succ r ih =>
    intro k F v σ hk hF h0 h2 h1
    obtain ⟨F, rfl⟩ : ∃ F', F = F' + 1 := ⟨F - 1, by omega⟩
    have hkn : k < n := by omega
    have hk12 : k < 12 := by omega
    have hnum : ∀ j, zn σ k j = zn m k j := fun j => h1 _
    have key : ∀ (v' x y : Int32), (zhit c m b k → x = nI T ∧ y = zn m k 11) → (¬ zhit c m b k → x = σ 9 k ∧ y = 0) → (v + (if c (8 + 3 * k) 7 = -9 then 0 else if zn m k 10 = nI b then 1 else 0) = v') → (fL_X4_press_46 (F + 1) σ (nI b) v (nI k) = fL_X4_press_46 F (gx_w2 (gx_w2 σ 12 (12 * b + k) y) 9 k x) (nI b) v' (nI (k + 1))) → ∃ σ', fL_X4_press_46 (F + 1) σ (nI b) v (nI k) = some (v + zs2 (fun e => if c (8 + 3 * e) 7 = -9 then 0 else if zn m e 10 = nI b then 1 else 0) k (r + 1), σ') ∧ (∀ e, k ≤ e → e < n → zhit c m b e → σ' 9 e = nI T ∧ σ' 12 (12 * b + e) = zn m e 11) ∧ (∀ e, k ≤ e → e < n → ¬ zhit c m b e → σ' 9 e = σ 9 e ∧ σ' 12 (12 * b + e) = 0) ∧ (∀ i j, ¬ (∃ e, k ≤ e ∧ e < n ∧ ((i = 9 ∧ j = e) ∨ (i = 12 ∧ j = 12 * b + e))) → σ' i j = σ i j) := by
      intro v' x y hx hy hv hf
      obtain ⟨σ2, eσ⟩ : ∃ z, z = gx_w2 (gx_w2 σ 12 (12 * b + k) y) 9 k x := ⟨_, rfl⟩
      have so : ∀ i j, ¬ (i = 9 ∧ j = k) → ¬ (i = 12 ∧ j = 12 * b + k) → σ2 i j = σ i j := fun i j z1 z2 => by rw [eσ, zi_w2, if_neg z1, zi_w2, if_neg z2]
      have s9 : σ2 9 k = x := by rw [eσ, zi_we]
      have s12 : σ2 12 (12 * b + k) = y := by rw [eσ, zi_wk (by omega), zi_we]
      obtain ⟨σ', g1, g2, g3, g4⟩ := ih (k + 1) F v' σ2 (by omega) (by omega) (fun j => (so _ _ (by omega) (by omega)).trans (h0 j)) (fun j => (so _ _ (by omega) (by omega)).trans (h2 j)) (fun j => (so _ _ (by omega) (by omega)).trans (h1 j))
      refine ⟨σ', ?_, fun e y1 y2 y3 => ?_, fun e y1 y2 y3 => ?_, fun i j z => ?_⟩
      · rw [hf, ← eσ, g1, zs2, ← Int32.add_assoc, hv]
      · rcases Nat.eq_or_lt_of_le y1 with z | z
        · subst z
          rw [g4 _ _ (by rintro ⟨e2, z1, z2, z3⟩; omega), g4 _ _ (by rintro ⟨e2, z1, z2, z3⟩; omega), s9, s12]
          exact hx y3
        · exact g2 e z y2 y3
      · rcases Nat.eq_or_lt_of_le y1 with z | z
        · subst z
          rw [g4 _ _ (by rintro ⟨e2, z1, z2, z3⟩; omega), g4 _ _ (by rintro ⟨e2, z1, z2, z3⟩; omega), s9, s12]
          exact hy y3
        · have z5 := g3 e z y2 y3
          rw [so 9 e (by omega) (by omega)] at z5
          exact z5
      · rw [g4 i j (by rintro ⟨e2, z1, z2, z3⟩; exact z ⟨e2, by omega, z2, z3⟩)]
        exact so i j (fun y => z ⟨k, Nat.le_refl _, hkn, Or.inl y⟩) (fun y => z ⟨k, Nat.le_refl _, hkn, Or.inr y⟩)
    have l0 := zi_le hkn (show n < 2 ^ 31 by omega)
    have lk := zi_cl (k := k) (by omega)
    have lc := zi_ck (k := k) (N := 12) hk12 (by decide)
    have lx := zi_cl (k := 12 * b + k) (by omega)
    have ly := zi_ck (k := 12 * b + k) (N := 48) (by omega) (by decide)
    have hsl := zm_slot2 hB hn hK h2 hk12
    by_cases q : c (8 + 3 * k) 7 = -9
    · refine key v (σ 9 k) 0 (fun z => absurd q z.1) (fun _ => ⟨rfl, rfl⟩) (by rw [if_pos q, Int32.add_zero]) ?_
      rw [fL_X4_press_46]
      have e9 : gx_w2 σ 12 (12 * b + k) 0 9 k = σ 9 k := zi_wk (by omega)
      simp only [h0, hA.1.2.2, l0, if_false, hsl, Option.bind_some, q, if_true, zi_ix, lx, ly, gx_lt, lk, lc, zi_s, Int32.add_zero, e9]
    · by_cases p : zn m k 10 = nI b
      · refine key (v + 1) (nI T) (zn m k 11) (fun _ => ⟨rfl, rfl⟩) (fun z => absurd ⟨q, p⟩ z) (by rw [if_neg q, if_pos p]) ?_
        rw [fL_X4_press_46]
        have e9 : gx_w2 σ 12 (12 * b + k) (zn m k 11) 0 0 = nI T := by rw [zi_wk (by omega), h0]; exact hT.2.2
        simp only [h0, hA.1.2.2, l0, if_false, hsl, Option.bind_some, q, zm_10 hk12, zm_11 hk12, hnum, eq_true p, if_true, zi_ix, lx, ly, gx_lt, lk, lc, zi_s, e9]
      · refine key v (σ 9 k) 0 (fun z => absurd z.2 p) (fun _ => ⟨rfl, rfl⟩) (by rw [if_neg q, if_neg p, Int32.add_zero]) ?_
        rw [fL_X4_press_46]
        have e9 : gx_w2 σ 12 (12 * b + k) 0 9 k = σ 9 k := zi_wk (by omega)
        simp only [h0, hA.1.2.2, l0, if_false, hsl, Option.bind_some, q, zm_10 hk12, hnum, p, zi_ix, lx, ly, gx_lt, lk, lc, zi_s, Int32.add_zero, e9]
theorem zz_press {c m : gx_St} (h : zz_R c m) (a1 : Int32) : ∃ (r : Int32) (c' m' : gx_St), f_X3_press c a1 = some (r, c') ∧ f_X4_press m a1 = some (r, m') ∧ zz_R c' m' := by
  obtain ⟨n, T, K, w, h, M, hR⟩ := id h
  obtain ⟨hA, hB, hC, hD, hE⟩ := id hR
  rcases zs_isB a1 with ⟨h1, h2⟩ | ⟨b, hb, rfl, h1, h2⟩
  · exact ⟨-1, c, m, by simp [f_X3_press, h1], by simp [f_X4_press, h2], ‹zz_R c m›⟩
  · have hkb := zi_cl (k := b) (by omega)
    have hcb := zi_ck (k := b) (N := 4) hb (by decide)
    have hn := hA.1.1
    have hT := hA.2.1
    have hK := hA.2.2.1.2.1
    rcases hD.1 b hb with ⟨q1, q2⟩ | ⟨q1, P, q3, q4, q5⟩
    · rcases hA.2.2.2.2.2.2.2.2 with ⟨l1, l2, l3⟩ | ⟨l1, l2, -⟩
      · obtain ⟨c1, ec⟩ : ∃ z, z = gx_w2 (gx_w2 c (46 + 1 * b) 0 1) (46 + 1 * b) 1 (nI T) := ⟨_, rfl⟩
        obtain ⟨m1, em⟩ : ∃ z, z = gx_w2 m 11 b (nI T) := ⟨_, rfl⟩
        have co1 : ∀ i j, ¬ i = 46 + 1 * b → c1 i j = c i j := fun i j z => by rw [ec, zi_wk z, zi_wk z]
        have mo1 : ∀ i j, ¬ (i = 11 ∧ j = b) → m1 i j = m i j := fun i j z => by rw [em, zi_w2, if_neg z]
        have c10 : c1 (46 + 1 * b) 0 = 1 := by rw [ec, zi_wj (by omega), zi_we]
        have c11 : c1 (46 + 1 * b) 1 = nI T := by rw [ec, zi_we]
        have m11 : m1 11 b = nI T := by rw [em, zi_we]
        obtain ⟨c', p1, p2, p3⟩ := zc_pr hR hb 6 0 7 0 c1 rfl (by decide) (fun j => co1 _ _ (by omega)) (fun j => co1 _ _ (by omega)) (fun e j he => co1 _ _ (by omega))
        obtain ⟨m', r1, r2, r3, r4⟩ := zm_pr hR hb n 0 13 0 m1 (by omega) (by omega) (fun j => mo1 _ _ (by omega)) (fun j => mo1 _ _ (by omega)) (fun j => mo1 _ _ (by omega))
        have hsum : zsum (zsl m fun e => if zn m e 10 = nI b then 1 else 0) 6 = zsum (fun e => if c (8 + 3 * e) 7 = -9 then 0 else if zn m e 10 = nI b then 1 else 0) n := by
          rw [← zsum_p hB hn hK (G := fun e => if c (8 + 3 * e) 7 = -9 then 0 else if zn m e 10 = nI b then 1 else 0) (fun e _ z => if_pos z)]
          refine zsum_c (fun k hk => ?_)
          unfold zsl
          rcases hB.2.1 k hk with z | ⟨e, z1, z2, z3⟩
          · rw [if_pos z, if_pos z]
          · rw [z2, if_neg (zi_n9 (by omega)), if_neg (zi_n9 (by omega)), zi_cl (by omega)]
            dsimp only
            rw [z3, if_neg (zi_n9 (by omega))]
        rw [zs2_0, hsum] at p1
        rw [zs2_0] at r1
        -- what the cells are
        have hitk : ∀ e, e < 12 → zhit c m b e → e < n ∧ ∃ k, k < 6 ∧ m 10 k = nI e := fun e he z => by
          rcases hB.2.2 e he with y | ⟨k, y1, y2, y3⟩
          · exact absurd y z.1
          · refine ⟨?_, k, by omega, y3⟩
            rcases hB.2.1 k (by omega) with x | ⟨e', x1, x2, x3⟩
            · exact absurd (y3.symm.trans x) (zi_n9 (by omega))
            · have x4 := nI_inj (by omega) (by omega) (y3.symm.trans x2)
              omega
        have khit : ∀ e k, e < 12 → k < 6 → m 10 k = nI e → zn m e 10 = nI b → zhit c m b e := fun e k he hk z1 z2 => by
          refine ⟨?_, z2⟩
          rcases hB.2.1 k hk with x | ⟨e', x1, x2, x3⟩
          · exact absurd (z1.symm.trans x) (zi_n9 (by omega))
          · have x4 := nI_inj (by omega) (by omega) (z1.symm.trans x2)
            subst x4
            rw [x3]
            exact zi_n9 (by omega)
        have cs : ∀ i j, (∀ e, e < 12 → zhit c m b e → ¬ (i = 8 + 3 * e ∧ j = 8) ∧ ¬ (i = 8 + 3 * e + 2 ∧ j = b)) → c' i j = c1 i j := fun i j z => by
          refine p3 i j ?_
          rintro ⟨e, k, y0, y1, y2, y3, y4, y5⟩
          have y6 := z e y0 (khit e k y0 y2 y3 y4)
          rcases y5 with y5 | y5
          · exact y6.1 y5
          · exact y6.2 y5
        have ms : ∀ i j, ¬ i = 9 → ¬ (i = 12 ∧ 12 * b ≤ j ∧ j < 12 * b + 12) → m' i j = m1 i j := fun i j z1 z2 => by
          refine r4 i j ?_
          rintro ⟨e, y1, y2, y3⟩
          omega
        have c0 : ∀ j, c' 0 j = c 0 j := fun j => (cs _ _ (fun e he _ => by omega)).trans (co1 _ _ (by omega))
        have m0 : ∀ j, m' 0 j = m 0 j := fun j => (ms _ _ (by omega) (by omega)).trans (mo1 _ _ (by omega))
        have c7 : ∀ e j, e < 12 → ¬ j = 8 → c' (8 + 3 * e) j = c (8 + 3 * e) j := fun e j he z => (cs _ _ (fun e' he' _ => by omega)).trans (co1 _ _ (by omega))
        have cn : ∀ e j, e < 12 → c' (8 + 3 * e + 1) j = c (8 + 3 * e + 1) j := fun e j he => (cs _ _ (fun e' he' _ => by omega)).trans (co1 _ _ (by omega))
        have m38 : ∀ k j, 3 ≤ k → k ≤ 8 → m' k j = m k j := fun k j z1 z2 => (ms _ _ (by omega) (by omega)).trans (mo1 _ _ (by omega))
        refine ⟨zsum (fun e => if c (8 + 3 * e) 7 = -9 then 0 else if zn m e 10 = nI b then 1 else 0) n, c', m', ?_, ?_, n, T, K, w, h, M, ?_, zB_f hn (fun k => (cs _ _ (fun e he _ => by omega)).trans (co1 _ _ (by omega))) (fun e he => c7 e 7 he (by omega)) (fun k => (ms _ _ (by omega) (by omega)).trans (mo1 _ _ (by omega))) hB, ⟨fun e he => ?_, fun e he => ⟨fun j hj => ?_, ?_⟩, fun e he => ⟨fun j hj => ?_, ?_⟩, fun e he => ?_, fun e he => ?_⟩, ⟨fun b' hb' => ?_, fun b' e hb' he => ?_⟩, zE_f (fun a j _ => (cs _ _ (fun e he _ => by omega)).trans (co1 _ _ (by omega))) (fun k => (ms _ _ (by omega) (by omega)).trans (mo1 _ _ (by omega))) (fun k => (ms _ _ (by omega) (by omega)).trans (mo1 _ _ (by omega))) hE⟩
        · have e7 : gx_w2 c (46 + 1 * b) 0 1 0 7 = nI T := by rw [zi_wk (by omega)]; exact hT.2.1
          simp only [f_X3_press, h1, Option.bind_some, zi_10, if_false, hkb, hcb, q1, if_true, l1, gx_lt, e7]
          rw [← ec]
          exact p1
        · simp only [f_X4_press, h2, Option.bind_some, zi_10, if_false, hkb, hcb, q2, if_true, l2, gx_lt, hT.2.2]
          rw [← em]
          exact r1
        · unfold zA
          simp only [c0, m0]
          obtain ⟨k1, k2, k3, k4, k5, k6, k7, k8, k9⟩ := hA
          exact ⟨k1, k2, k3, k4, k5, k6, k7, k8, Or.inl ⟨l1, l2, l3⟩⟩
        · rw [c7 e 0 he (by omega)]
          exact hC.1 e he
        · rw [c7 e _ (by omega) (by omega), m38 _ _ (by omega) (by omega)]
          exact (hC.2.1 e he).1 j hj
        · rw [m38 3 _ (by omega) (by omega), m38 4 _ (by omega) (by omega), m38 5 _ (by omega) (by omega), m38 6 _ (by omega) (by omega), m38 7 _ (by omega) (by omega)]
          exact (hC.2.1 e he).2
        · rw [cn e _ (by omega), m38 _ _ (by omega) (by omega)]
          exact (hC.2.2.1 e he).1 j hj
        · exact zNu_c (fun j hj => (m38 8 _ (by omega) (by omega)).symm) (hC.2.2.1 e he).2
        · by_cases z : zhit c m b e
          · obtain ⟨-, k, y1, y2⟩ := hitk e (by omega) z
            rw [(p2 e k (by omega) (by omega) y1 y2 z.2).1, (r2 e (by omega) he z).1]
          · rw [(r3 e (by omega) he z).1, mo1 _ _ (by omega), cs _ _ (fun e' he' z' => ⟨fun y => z (by rw [show e = e' by omega]; exact z'), by omega⟩), co1 _ _ (by omega)]
            exact hC.2.2.2.1 e he
        · rw [c7 e 7 he (by omega)]
          by_cases z : zhit c m b e
          · obtain ⟨-, k, y1, y2⟩ := hitk e (by omega) z
            exact Or.inr ⟨⟨T, Nat.le_refl _, (p2 e k (by omega) (by omega) y1 y2 z.2).1⟩, z.1⟩
          · rw [cs _ _ (fun e' he' z' => ⟨fun y => z (by rw [show e = e' by omega]; exact z'), by omega⟩), co1 _ _ (by omega)]
            exact hC.2.2.2.2 e he
        · rw [cs _ _ (fun e he _ => by omega), cs _ _ (fun e he _ => by omega), ms _ _ (by omega) (by omega)]
          by_cases y : b' = b
          · subst y
            exact Or.inr ⟨c10, T, Nat.le_refl _, c11, m11⟩
          · rw [co1 _ _ (by omega), co1 _ _ (by omega), mo1 _ _ (by omega)]
            exact hD.1 b' hb'
        · rw [c7 e 7 he (by omega)]
          by_cases y : b' = b
          · subst y
            have z0 := (hD.2 b' e hb' he).1
            obtain ⟨B, z1, z2, z3⟩ := (hD.2 b' e hb' he).2
            have zB0 : B = 0 := by
              rcases Nat.eq_zero_or_pos B with z | z
              · exact z
              · exact absurd q2 (z3 z).1
            subst zB0
            by_cases z : zhit c m b' e
            · obtain ⟨y0, k, y1, y2⟩ := hitk e (by omega) z
              obtain ⟨D, d1, d2⟩ := (hC.2.2.1 e y0).2.2.2.2.2.2
              have d3 : zn m e 11 = nI D := d2
              rw [(p2 e k he (by omega) y1 y2 z.2).2, (r2 e (by omega) y0 z).2]
              refine ⟨rfl, D, d1, d3, fun _ => ⟨?_, z.1⟩⟩
              rw [ms _ _ (by omega) (by omega), m11]
              exact zi_n9 (by omega)
            · have y3 : c' (8 + 3 * e + 2) b' = 0 := by
                rw [cs _ _ (fun e' he' z' => ⟨by omega, fun y => z (by rw [show e = e' by omega]; exact z')⟩), co1 _ _ (by omega), z0, z2]
                rfl
              have y4 : m' 12 (12 * b' + e) = 0 := by
                rcases Nat.lt_or_ge e n with y5 | y5
                · exact (r3 e (by omega) y5 z).2
                · rw [r4 _ _ (by rintro ⟨e2, x1, x2, x3⟩; omega), mo1 _ _ (by omega), z2]
                  rfl
              rw [y3, y4]
              exact ⟨rfl, 0, by omega, rfl, fun z => absurd z (Nat.lt_irrefl 0)⟩
          · rw [cs _ _ (fun e he _ => by omega), ms 12 _ (by omega) (by omega), ms 11 _ (by omega) (by omega), co1 _ _ (by omega), mo1 12 _ (by omega), mo1 11 _ (by omega)]
            exact hD.2 b' e hb' he
      · exact ⟨-3, c, m, by simp only [f_X3_press, h1, Option.bind_some, zi_10, if_false, hkb, hcb, q1, if_true, l1], by simp only [f_X4_press, h2, Option.bind_some, zi_10, if_false, hkb, hcb, q2, if_true, l2], ‹zz_R c m›⟩
    · exact ⟨-3, c, m, by simp only [f_X3_press, h1, Option.bind_some, zi_10, if_false, hkb, hcb, q1], by simp only [f_X4_press, h2, Option.bind_some, zi_10, if_false, hkb, hcb, q5, zi_n9 (show P < 2 ^ 31 by omega)], ‹zz_R c m›⟩
