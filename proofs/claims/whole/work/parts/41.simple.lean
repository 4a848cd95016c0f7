theorem zi_10 : ((1 : Int32) = 0) = False := eq_false (by decide)
theorem zi_ck {k N : Nat} (h : k < N) (hN : N < 2 ^ 31) : (nI k < 0 ∨ N ≤ k) = False := eq_false (fun q => q.elim (nI_pos (by omega)) (by omega))
theorem zi_01 {x : Int32} (z : x < 0) : x < 1 := by
  rw [zi_lt] at z ⊢
  have e1 : (1 : Int32).toInt = 1 := by decide
  have e0 : (0 : Int32).toInt = 0 := by decide
  omega
theorem zi_l6 {k : Nat} (h : k < 6) : (nI k < (6 : Int32)) = True := eq_true (nI_lt (b := 6) h (by decide))
theorem zi_nn {a b : Nat} (h : a < b) : (b ≤ a) = False := eq_false (by omega)
theorem zi_n0 {k : Nat} (h : k < 2 ^ 31) : (nI k < 0) = False := eq_false (nI_pos h)
theorem zi_00 : ((0 : Int32) = 0) = True := eq_true rfl
theorem zB_f {n K : Nat} {c m c' m' : gx_St} (hn : n ≤ 12) (h1 : ∀ k, c' 2 k = c 2 k) (h2 : ∀ e, e < 12 → c' (8 + 3 * e) 7 = c (8 + 3 * e) 7) (h3 : ∀ k, m' 10 k = m 10 k) (h : zB n K c m) : zB n K c' m' := by
  obtain ⟨a1, a2, a3⟩ := h
  refine ⟨fun k hk => by rw [h1, h3]; exact a1 k hk, fun k hk => ?_, fun e he => ?_⟩
  · rw [h3]
    rcases a2 k hk with q | ⟨e, q1, q2, q3⟩
    · exact Or.inl q
    · exact Or.inr ⟨e, q1, q2, by rw [h2 e (by omega)]; exact q3⟩
  · rw [h2 e he]
    rcases a3 e he with q | ⟨k, q1, q2, q3⟩
    · exact Or.inl q
    · exact Or.inr ⟨k, q1, q2, by rw [h3]; exact q3⟩
theorem zC_f {n T : Nat} {c m c' m' : gx_St} (hn : n ≤ 12) (h1 : ∀ e j, e < 12 → c' (8 + 3 * e) j = c (8 + 3 * e) j) (h2 : ∀ e j, e < 12 → c' (8 + 3 * e + 1) j = c (8 + 3 * e + 1) j) (h3 : ∀ k j, 3 ≤ k → k ≤ 9 → m' k j = m k j) (h : zC n T c m) : zC n T c' m' := by
  obtain ⟨a1, a2, a3, a4, a5⟩ := h
  refine ⟨fun e he => by rw [h1 e _ he]; exact a1 e he, fun e he => ⟨fun j hj => by rw [h1 e _ (by omega), h3 _ _ (by omega) (by omega)]; exact (a2 e he).1 j hj, ?_⟩, fun e he => ⟨fun j hj => by rw [h2 e _ (by omega), h3 _ _ (by omega) (by omega)]; exact (a3 e he).1 j hj, ?_⟩, fun e he => by rw [h1 e _ (by omega), h3 _ _ (by omega) (by omega)]; exact a4 e he, fun e he => by rw [h1 e _ he, h1 e _ he]; exact a5 e he⟩
  · rw [h3 3 _ (by omega) (by omega), h3 4 _ (by omega) (by omega), h3 5 _ (by omega) (by omega), h3 6 _ (by omega) (by omega), h3 7 _ (by omega) (by omega)]
    exact (a2 e he).2
  · rw [show (fun j => m' 8 (12 * e + j)) = fun j => m 8 (12 * e + j) from funext fun j => h3 8 _ (by omega) (by omega)]
    exact (a3 e he).2
theorem zD_f {T : Nat} {c m c' m' : gx_St} (h1 : ∀ b j, b < 4 → c' (46 + 1 * b) j = c (46 + 1 * b) j) (h2 : ∀ e j, e < 12 → c' (8 + 3 * e + 2) j = c (8 + 3 * e + 2) j) (h3 : ∀ e, e < 12 → c' (8 + 3 * e) 7 = c (8 + 3 * e) 7) (h4 : ∀ k, m' 11 k = m 11 k) (h5 : ∀ k, m' 12 k = m 12 k) (h : zD T c m) : zD T c' m' :=
  ⟨fun b hb => by rw [h1 b _ hb, h1 b _ hb, h4]; exact h.1 b hb, fun b e hb he => by rw [h2 e _ he, h5, h4, h3 e he]; exact h.2 b e hb he⟩
theorem zE_f {c m c' m' : gx_St} (h1 : ∀ a j, a < 2 → c' (44 + 1 * a) j = c (44 + 1 * a) j) (h2 : ∀ k, m' 1 k = m 1 k) (h3 : ∀ k, m' 2 k = m 2 k) (h : zE c m) : zE c' m' := fun a ha => by
  rw [h1 a _ ha, h1 a _ ha, h1 a _ ha, h2, h3]
  exact h a ha
/-- only the objects' own scalars are changed -/
theorem zF_0 {n T K : Nat} {c m c' m' : gx_St} (hn : n ≤ 12) (hc : ∀ k j, ¬ k = 0 → c' k j = c k j) (hm : ∀ k j, ¬ k = 0 → m' k j = m k j) (h : zB n K c m ∧ zC n T c m ∧ zD T c m ∧ zE c m) : zB n K c' m' ∧ zC n T c' m' ∧ zD T c' m' ∧ zE c' m' :=
  ⟨zB_f hn (fun k => hc _ _ (by omega)) (fun e _ => hc _ _ (by omega)) (fun k => hm _ _ (by omega)) h.1, zC_f hn (fun e j _ => hc _ _ (by omega)) (fun e j _ => hc _ _ (by omega)) (fun k j h1 h2 => hm _ _ (by omega)) h.2.1, zD_f (fun b j _ => hc _ _ (by omega)) (fun e j _ => hc _ _ (by omega)) (fun e _ => hc _ _ (by omega)) (fun k => hm _ _ (by omega)) (fun k => hm _ _ (by omega)) h.2.2.1, zE_f (fun b j _ => hc _ _ (by omega)) (fun k => hm _ _ (by omega)) (fun k => hm _ _ (by omega)) h.2.2.2⟩
/-- an int within literal bounds -/
theorem zi_rng {x M : Int32} {n : Nat} (hM : M.toInt = n) (h : ¬ (x < 0 ∨ M < x)) : ∃ g, g ≤ n ∧ x = nI g := nI_of2 hM (fun q => h (Or.inl q)) (by rw [zi_lei]; rw [zi_lt, zi_lt] at h; omega)
theorem zs_isE {n T K w h M : Nat} {c m : gx_St} (hA : zA n T K w h M c m) (a1 : Int32) : (f_X3_isEffect c a1 = some 0 ∧ f_X4_isEffect m a1 = some 0) ∨ ∃ e, e < n ∧ a1 = nI e ∧ f_X3_isEffect c a1 = some 1 ∧ f_X4_isEffect m a1 = some 1 := by
  obtain ⟨⟨hn, c1, m1⟩, -⟩ := hA
  have hs : (nI n - 1).toInt = (n : Int) - 1 := pk_sub_toInt (a := n) (b := 1) (by omega) (by omega)
  rcases zi_dec a1 n (by omega) with ⟨e, he, rfl⟩ | hx
  · refine Or.inr ⟨e, he, rfl, ?_, ?_⟩
    · unfold f_X3_isEffect
      rw [c1, if_neg (nI_pos (by omega)), if_neg (nI_ge he (by omega)), if_neg (show ¬ (12 : Int32) ≤ nI e from nI_ge (b := 12) (by omega) (by decide))]
    · unfold f_X4_isEffect
      rw [m1, zi_win1]
      · rfl
      · rintro (q | q)
        · exact nI_pos (by omega) q
        · rw [zi_lt, hs, nI_toInt (by omega)] at q
          omega
  · refine Or.inl ⟨?_, ?_⟩
    · unfold f_X3_isEffect
      by_cases h0 : a1 < 0
      · rw [if_pos h0]
      · rcases hx with h1 | h1
        · exact absurd h1 h0
        · rw [if_neg h0, c1, if_pos h1]
    · unfold f_X4_isEffect
      rw [m1, zi_win0]
      · rfl
      · rcases hx with h1 | h1
        · exact Or.inl h1
        · refine Or.inr ?_
          rw [zi_lt, hs]
          rw [zi_lei, nI_toInt (by omega)] at h1
          omega
theorem zs_isX (a1 : Int32) : (f_X3_isAxis a1 = some 0 ∧ f_X4_isAxis a1 = some 0) ∨ ∃ a, a < 2 ∧ a1 = nI a ∧ f_X3_isAxis a1 = some 1 ∧ f_X4_isAxis a1 = some 1 := by
  rcases zi_dec a1 2 (by decide) with ⟨e, he, rfl⟩ | hx
  · refine Or.inr ⟨e, he, rfl, ?_, ?_⟩ <;> rcases (show e = 0 ∨ e = 1 by omega) with rfl | rfl <;> rfl
  · refine Or.inl ⟨?_, ?_⟩
    · unfold f_X3_isAxis
      by_cases h0 : a1 < 0
      · rw [if_pos h0]
      · rcases hx with h1 | h1
        · exact absurd h1 h0
        · rw [if_neg h0, if_pos (show (2 : Int32) ≤ a1 from h1)]
    · unfold f_X4_isAxis
      rw [zi_win0]
      · rfl
      · rcases hx with h1 | h1
        · exact Or.inl h1
        · refine Or.inr ?_
          rw [zi_lt]
          rw [zi_lei] at h1
          have e1 : (1 : Int32).toInt = 1 := by decide
          have e2 : (nI 2).toInt = 2 := by decide
          omega
theorem zz_ofAxis {c m : gx_St} (h : zz_R c m) (a1 a2 : Int32) : ∃ r : Int32, f_X3_ofAxis c a1 a2 = some r ∧ f_X4_ofAxis m a1 a2 = some r := by
  obtain ⟨n, T, K, w, h, M, hA, hB, hC, hD, hE⟩ := h
  rcases zs_isX a1 with ⟨h1, h2⟩ | ⟨a, ha, rfl, h1, h2⟩
  · exact ⟨-1, by simp [f_X3_ofAxis, h1], by simp [f_X4_ofAxis, h2]⟩
  · by_cases hw : a2 < 0 ∨ 1 < a2
    · exact ⟨-2, by simp [f_X3_ofAxis, h1, zi_w, zi_win0 hw], by simp [f_X4_ofAxis, h2, zi_win0 hw]⟩
    · obtain ⟨e1, e2, e3, -⟩ := hE a ha
      have hc := zi_ck (k := a) (N := 2) ha (by decide)
      have hk := zi_cl (k := a) (by omega)
      by_cases h0 : a2 = 0
      · subst h0
        exact ⟨10000000 + m 1 a, by simp only [f_X3_ofAxis, h1, zi_w, zi_win1 hw, Option.bind_some, zi_10, if_false, hk, hc, if_true, e2], by simp only [f_X4_ofAxis, h2, zi_win1 hw, Option.bind_some, zi_10, if_false, hk, hc, if_true]⟩
      · exact ⟨10000000 + m 2 a, by simp only [f_X3_ofAxis, h1, zi_w, zi_win1 hw, Option.bind_some, zi_10, if_false, hk, hc, h0, e3], by simp only [f_X4_ofAxis, h2, zi_win1 hw, Option.bind_some, zi_10, if_false, hk, hc, h0]⟩
theorem zz_master {c m : gx_St} (h : zz_R c m) (a1 : Int32) : ∃ (r : Int32) (c' m' : gx_St), f_X3_master c a1 = some (r, c') ∧ f_X4_master m a1 = some (r, m') ∧ zz_R c' m' := by
  by_cases hw : a1 < 0 ∨ 100 < a1
  · exact ⟨-2, c, m, by simp only [f_X3_master, zi_w, zi_win0 hw, Option.bind_some, if_true], by simp only [f_X4_master, zi_win0 hw, Option.bind_some, if_true], h⟩
  · obtain ⟨n, T, K, w, h, M, ⟨h1, h2, h3, h4, h5, h6, ⟨g, hg, cg, mg⟩, h8, h9⟩, hB, hC, hD, hE⟩ := h
    obtain ⟨g2, hg2, rfl⟩ := zi_rng (M := 100) (n := 100) (by decide) hw
    refine ⟨nI g, gx_w2 c 0 11 (nI g2), gx_w2 m 0 19 (nI g2), by simp only [f_X3_master, zi_w, zi_win1 hw, Option.bind_some, zi_10, if_false, gx_lt, cg], by simp only [f_X4_master, zi_win1 hw, Option.bind_some, zi_10, if_false, gx_lt, mg], n, T, K, w, h, M, ⟨h1, h2, h3, h4, h5, h6, ⟨g2, hg2, zi_we _ _ _ _, zi_we _ _ _ _⟩, h8, h9⟩, zF_0 h1.1 (fun _ _ => zi_wk) (fun _ _ => zi_wk) ⟨hB, hC, hD, hE⟩⟩
theorem zz_rate {c m : gx_St} (h : zz_R c m) (a1 : Int32) : ∃ (r : Int32) (c' m' : gx_St), f_X3_rate c a1 = some (r, c') ∧ f_X4_rate m a1 = some (r, m') ∧ zz_R c' m' := by
  by_cases hw : a1 < 1 ∨ 1000 < a1
  · exact ⟨-2, c, m, by simp only [f_X3_rate, zi_w, zi_win0 hw, Option.bind_some, if_true], by simp only [f_X4_rate, zi_win0 hw, Option.bind_some, if_true], h⟩
  · obtain ⟨n, T, K, w, h, M, ⟨h1, h2, h3, h4, h5, h6, h7, ⟨g, hg0, hg, cg, mg⟩, h9⟩, hB, hC, hD, hE⟩ := h
    obtain ⟨g2, hg2, rfl⟩ := zi_rng (x := a1) (M := 1000) (n := 1000) (by decide) (fun q => hw (q.elim (fun z => Or.inl (zi_01 z)) Or.inr))
    have hg3 : 1 ≤ g2 := by
      rcases Nat.eq_zero_or_pos g2 with z | z
      · subst z; exact absurd (Or.inl (by decide)) hw
      · exact z
    refine ⟨nI g, gx_w2 c 0 12 (nI g2), gx_w2 m 0 20 (nI g2), by simp only [f_X3_rate, zi_w, zi_win1 hw, Option.bind_some, zi_10, if_false, gx_lt, cg], by simp only [f_X4_rate, zi_win1 hw, Option.bind_some, zi_10, if_false, gx_lt, mg], n, T, K, w, h, M, ⟨h1, h2, h3, h4, h5, h6, h7, ⟨g2, hg3, hg2, zi_we _ _ _ _, zi_we _ _ _ _⟩, h9⟩, zF_0 h1.1 (fun _ _ => zi_wk) (fun _ _ => zi_wk) ⟨hB, hC, hD, hE⟩⟩
theorem zz_hello {c m : gx_St} (h : zz_R c m) : ∃ (r : Int32) (c' m' : gx_St), f_X3_hello c = some (r, c') ∧ f_X4_hello m = some (r, m') ∧ zz_R c' m' := by
  obtain ⟨n, T, K, w, h, M, ⟨h1, ⟨hT, cT, mT⟩, h3, h4, h5, h6, h7, h8, h9⟩, hB, hC, hD, hE⟩ := h
  have key : ∀ (c' m' : gx_St), c' = gx_w2 (gx_w2 c 0 10 0) 0 9 (nI T) → m' = gx_w2 (gx_w2 m 0 18 0) 0 17 (nI T) → zz_R c' m' := by
    intro c' m' ec em
    subst ec; subst em
    refine ⟨n, T, K, w, T, M, ⟨h1, ⟨hT, cT, mT⟩, h3, h4, ⟨Nat.le_refl _, zi_we _ _ _ _, zi_we _ _ _ _⟩, h6, h7, h8, Or.inl ⟨rfl, rfl, fun _ => by omega⟩⟩, zF_0 h1.1 (fun _ _ h => (zi_wk h).trans (zi_wk h)) (fun _ _ h => (zi_wk h).trans (zi_wk h)) ⟨hB, hC, hD, hE⟩⟩
  have e1 : gx_w2 c 0 10 0 0 7 = nI T := cT
  have e2 : gx_w2 m 0 18 0 0 0 = nI T := mT
  rcases h9 with ⟨q1, q2, -⟩ | ⟨q1, q2, -⟩
  · exact ⟨0, _, _, by simp only [f_X3_hello, q1, if_true, gx_lt, e1], by simp only [f_X4_hello, q2, if_true, gx_lt, e2], key _ _ rfl rfl⟩
  · exact ⟨1, _, _, by simp only [f_X3_hello, q1, zi_10, if_false, gx_lt, e1], by simp only [f_X4_hello, q2, zi_10, if_false, gx_lt, e2], key _ _ rfl rfl⟩
theorem zz_watch {c m : gx_St} (h : zz_R c m) (a1 : Int32) : ∃ (r : Int32) (c' m' : gx_St), f_X3_watch c a1 = some (r, c') ∧ f_X4_watch m a1 = some (r, m') ∧ zz_R c' m' := by
  by_cases hw : a1 < 0 ∨ 10000 < a1
  · exact ⟨-2, c, m, by simp only [f_X3_watch, zi_w, zi_win0 hw, Option.bind_some, if_true], by simp only [f_X4_watch, zi_win0 hw, Option.bind_some, if_true], h⟩
  · obtain ⟨n, T, K, w, h, M, ⟨h1, ⟨hT, cT, mT⟩, h3, ⟨hw0, cw, mw⟩, h5, h6, h7, h8, h9⟩, hB, hC, hD, hE⟩ := h
    obtain ⟨g2, hg2, rfl⟩ := zi_rng (M := 10000) (n := 10000) (by decide) hw
    have e1 : gx_w2 c 0 8 (nI g2) 0 7 = nI T := cT
    have e2 : gx_w2 m 0 16 (nI g2) 0 0 = nI T := mT
    refine ⟨nI w, gx_w2 (gx_w2 c 0 8 (nI g2)) 0 9 (nI T), gx_w2 (gx_w2 m 0 16 (nI g2)) 0 17 (nI T), by simp only [f_X3_watch, zi_w, zi_win1 hw, Option.bind_some, zi_10, if_false, gx_lt, cw, e1], by simp only [f_X4_watch, zi_win1 hw, Option.bind_some, zi_10, if_false, gx_lt, mw, e2], n, T, K, g2, T, M, ⟨h1, ⟨hT, cT, mT⟩, h3, ⟨hg2, rfl, rfl⟩, ⟨Nat.le_refl _, zi_we _ _ _ _, zi_we _ _ _ _⟩, h6, h7, h8, ?_⟩, zF_0 h1.1 (fun _ _ h => (zi_wk h).trans (zi_wk h)) (fun _ _ h => (zi_wk h).trans (zi_wk h)) ⟨hB, hC, hD, hE⟩⟩
    rcases h9 with ⟨q1, q2, -⟩ | ⟨q1, q2, q3⟩
    · exact Or.inl ⟨q1, q2, fun z => by omega⟩
    · exact Or.inr ⟨q1, q2, q3⟩
theorem zz_frame {c m : gx_St} (h : zz_R c m) (a1 : Int32) : ∃ r : Int32, f_X3_frame c a1 = some r ∧ f_X4_frame m a1 = some r := by
  obtain ⟨n, T, K, w, h, M, ⟨h1, h2, h3, h4, h5, h6, h7, ⟨g, hg0, hg, cg, mg⟩, h9⟩, hB, hC, hD, hE⟩ := h
  by_cases hw : a1 < 0 ∨ 1000000 < a1
  · exact ⟨-2, by simp only [f_X3_frame, zi_w, zi_win0 hw, Option.bind_some, if_true], by simp only [f_X4_frame, zi_win0 hw, Option.bind_some, if_true]⟩
  · have g0 : ¬ nI g = 0 := nI_ne0 hg0 (by omega)
    have g1 : ¬ nI g ≤ 0 := nI_nle hg0 (by omega)
    exact ⟨1000 * a1 / nI g, by simp only [f_X3_frame, zi_w, zi_win1 hw, Option.bind_some, zi_10, if_false, f_X3_quotient, cg, g0, g1], by simp only [f_X4_frame, zi_win1 hw, Option.bind_some, zi_10, if_false, mg, g0]⟩
theorem zz_frames {c m : gx_St} (h : zz_R c m) : ∃ r : Int32, f_X3_frames c = some r ∧ f_X4_frames m = some r := by
  obtain ⟨n, T, K, w, h, M, ⟨h1, ⟨hT, cT, mT⟩, h3, h4, h5, h6, h7, ⟨g, hg0, hg, cg, mg⟩, h9⟩, hB, hC, hD, hE⟩ := h
  refine ⟨_, rfl, ?_⟩
  unfold f_X4_frames
  rw [cT, mT, cg, mg, zi_s, nI_l (by omega), nI_l (by omega), nI_l (by omega), lN_mul, show (999 : Int64) = lN 999 from rfl, show (1000 : Int64) = lN 1000 from rfl, show (1 : Int64) = lN 1 from rfl, lN_add, lN_add, lN_mul]
  have hb : 1 ≤ (T + 1) * g := Nat.mul_pos (by omega) hg0
  have hb2 : (T + 1) * g ≤ 10000001 * 1000 := Nat.mul_le_mul (by omega) hg
  rw [lN_sub hb, pk_lDiv (by omega) (by omega) (by omega), Nat.mul_comm g (T + 1), pk_lDiv (by omega) (by omega) (by omega), lN_i, lN_i, show (1 : Int32) = nI 1 from rfl, nI_add]
  congr 2
  omega
theorem zz_slot {c m : gx_St} (h : zz_R c m) (a1 : Int32) : ∃ r : Int32, f_X3_slot c a1 = some r ∧ f_X4_slot m a1 = some r := by
  obtain ⟨n, T, K, w, h, M, ⟨h1, h2, ⟨hK1, hK6, cK, mK⟩, -⟩, hB, hC, hD, hE⟩ := h
  have hs : (nI K - 1).toInt = (K : Int) - 1 := pk_sub_toInt (a := K) (b := 1) (by omega) (by omega)
  rcases zi_dec a1 K (by omega) with ⟨k, hk, rfl⟩ | hx
  · have hw : ¬ (nI k < 0 ∨ nI K - 1 < nI k) := by
      rintro (q | q)
      · exact nI_pos (by omega) q
      · rw [zi_lt, hs, nI_toInt (by omega)] at q
        omega
    refine ⟨m 10 k, ?_, ?_⟩
    · have hk6 : k < 6 := by omega
      have n0 : (nI k < 0) = False := eq_false (nI_pos (by omega))
      simp only [f_X3_slot, n0, if_false, if_true, false_or, cK, zi_le hk (show K < 2 ^ 31 by omega), zi_l6 hk6, zi_cl (show k < 2 ^ 31 by omega), zi_nn hk6, gx_lt, hB.1 k hk6]
      rcases hB.2.1 k hk6 with q | ⟨e, he, q, -⟩
      · rw [q]; simp
      · have : ¬ 12 ≤ e := by omega
        simp only [q, zi_n9 (show e < 2 ^ 31 by omega), if_false, zi_cl (show e < 2 ^ 31 by omega), this, hC.1 e (by omega)]
    · simp only [f_X4_slot, mK, zi_win1 hw, Option.bind_some, zi_10, if_false, zi_cl (show k < 2 ^ 31 by omega), zi_ck (show k < 6 by omega) (by decide)]
  · refine ⟨-1, ?_, ?_⟩
    · unfold f_X3_slot
      by_cases h0 : a1 < 0
      · rw [if_pos h0]
      · rcases hx with z | z
        · exact absurd z h0
        · rw [if_neg h0, cK, if_pos z]
    · have hw : a1 < 0 ∨ nI K - 1 < a1 := by
        rcases hx with z | z
        · exact Or.inl z
        · refine Or.inr ?_
          rw [zi_lt, hs]
          rw [zi_lei, nI_toInt (by omega)] at z
          omega
      simp only [f_X4_slot, mK, zi_win0 hw, Option.bind_some, if_true]
