theorem zi_ob (o : Option Int32) : (o.bind fun r => some r) = o := by cases o <;> rfl
theorem zs_hand {n T : Nat} {c m : gx_St} (hC : zC n T c m) (hE : zE c m) (hn : n ≤ 12) {e a : Nat} (he : e < n) (ha : a < 2) (h4 : (4 : Int32) ≤ m 3 e) (t : Int32) : ∃ r, f_X2_valueAt c (nI e) t (nI a) = some r ∧ f_X4_byHand m (nI e) (nI a) = some r := by
  have he12 : e < 12 := by omega
  have hke := zi_cl (k := e) (by omega)
  have hce := zi_ck (k := e) (N := 12) he12 (by decide)
  have hka := zi_cl (k := a) (by omega)
  have hca := zi_ck (k := a) (N := 2) ha (by decide)
  have hs := (hC.2.1 e he).1
  have s0 : c (8 + 3 * e) 1 = m 3 e := hs 0 (by decide)
  have s1 : c (8 + 3 * e) 2 = m 4 e := hs 1 (by decide)
  have s2 : c (8 + 3 * e) 3 = m 5 e := hs 2 (by decide)
  have s3 : c (8 + 3 * e) 4 = m 6 e := hs 3 (by decide)
  have s4 : c (8 + 3 * e) 5 = m 7 e := hs 4 (by decide)
  obtain ⟨⟨k0, k6⟩, -, k456, kw⟩ := (hC.2.1 e he).2
  obtain ⟨-, a1, a2, a3, a4⟩ := hE a ha
  rw [zi_lei, show (4 : Int32).toInt = 4 by decide] at h4
  have hk : m 3 e = 4 ∨ m 3 e = 5 ∨ m 3 e = 6 := by
    rw [zi_eq, zi_eq, zi_eq, show (4 : Int32).toInt = 4 by decide, show (5 : Int32).toInt = 5 by decide, show (6 : Int32).toInt = 6 by decide]
    omega
  have n54 : ((5 : Int32) = 4) = False := eq_false (by decide)
  have n64 : ((6 : Int32) = 4) = False := eq_false (by decide)
  have n65 : ((6 : Int32) = 5) = False := eq_false (by decide)
  obtain ⟨b1, b2, b3⟩ := k456 (by rcases hk with h | h | h <;> simp [h])
  rcases hk with hk | hk | hk
  · obtain ⟨r, r1, r2⟩ := zs_away (c := c) he12 (m 1 a - m 5 e) 100 (by decide) (by rw [s3]; exact b1) (by rw [s4]; exact ⟨b2, b3⟩)
    rw [s1, s3, s4] at r2
    refine ⟨r, ?_, ?_⟩
    · simp only [f_X2_valueAt, hke, hka, s0, hk, if_true, a1, s2, r1, zi_ob]
    · simp only [f_X4_byHand, hke, hka, hce, hca, if_false, gx_lt, hk, if_true, zi_ob]
      exact r2
  · obtain ⟨r, r1, r2⟩ := zs_away (c := c) he12 (m 2 a) 1000 (by decide) (by rw [s3]; exact b1) (by rw [s4]; exact ⟨b2, b3⟩)
    rw [s1, s3, s4] at r2
    refine ⟨r, ?_, ?_⟩
    · simp only [f_X2_valueAt, hke, hka, s0, hk, n54, if_false, if_true, a2, r1, zi_ob]
    · simp only [f_X4_byHand, hke, hka, hce, hca, if_false, gx_lt, hk, n54, if_true, zi_ob]
      exact r2
  · obtain ⟨w1, w2, w3, w4⟩ := kw hk
    obtain ⟨r, r1, r2⟩ := zs_wall (c := c) he12 (m 1 a) ⟨a3, a4⟩ (by rw [s1]; exact ⟨w1, w2⟩) (by rw [s2]; exact ⟨w3, w4⟩) (by rw [s4]; exact ⟨b2, b3⟩)
    rw [s1, s2, s3, s4] at r2
    refine ⟨r, ?_, ?_⟩
    · simp only [f_X2_valueAt, hke, hka, s0, hk, n64, n65, if_false, if_true, a1, r1, zi_ob]
    · simp only [f_X4_byHand, hke, hka, hce, hca, if_false, gx_lt, hk, n64, n65]
      exact r2
/-- when it is ON: how long since its DELAY -/
theorem zs_on1 {n T : Nat} {c m : gx_St} (hC : zC n T c m) {e S τ : Nat} (he : e < n) (hS : S ≤ τ) (hτ : τ ≤ 20000000) (h : zp_on (zn m e) (nI S) (nI τ) = 1) : ∃ D, D ≤ 5000 ∧ zn m e 1 = nI D ∧ S + D ≤ τ ∧ (zn m e 0 = -9 ∨ ∃ L, τ - S - D < L ∧ L ≤ 60000 ∧ zn m e 0 = nI L) := by
  have hN := (hC.2.2.1 e he).2
  obtain ⟨D, d1, d2⟩ := hN.2.1
  have d2 : zn m e 1 = nI D := d2
  refine ⟨D, d1, d2, ?_, ?_⟩
  · unfold zp_on at h
    by_cases q : zp_pl (zn m e) (nI S) (nI τ) = 0
    · rw [if_pos q] at h; exact absurd h (by decide)
    · rw [if_neg q, d2, nI_add] at h
      by_cases q2 : nI τ < nI (S + D)
      · rw [if_pos q2] at h; exact absurd h (by decide)
      · rw [nI_ltI (by omega) (by omega)] at q2
        omega
  · rcases hN.1 with q | ⟨L, l1, l2, l3⟩
    · exact Or.inl q
    · have l3 : zn m e 0 = nI L := l3
      refine Or.inr ⟨L, ?_, l2, l3⟩
      unfold zp_on zp_pl at h
      rw [if_neg (zi_n9 (e := S) (by omega)), l3, if_neg (zi_n9 (e := L) (by omega)), d2, nI_add, nI_add] at h
      by_cases q2 : nI (S + D + L) ≤ nI τ
      · rw [if_pos q2, if_pos rfl] at h; exact absurd h (by decide)
      · rw [nI_leI (by omega) (by omega)] at q2
        omega
theorem zs_part {n T : Nat} {c m : gx_St} (hC : zC n T c m) (hE : zE c m) (hn : n ≤ 12) {e a τ : Nat} (he : e < n) (ha : a < 2) (hτ : τ ≤ 20000000) {s : Int32} (hs : s = -9 ∨ ∃ S, S ≤ τ ∧ s = nI S) : ∃ r, f_X2_partAt c (nI e) s (nI τ) (nI a) = some r ∧ f_X4_partAt m (nI e) (nI a) s (nI τ) = some r ∧ (-21474836 ≤ r.toInt ∧ r.toInt ≤ 21474836) ∧ (s = -9 → r = 0) := by
  have he12 : e < 12 := by omega
  have hke := zi_cl (k := e) (by omega)
  have hce := zi_ck (k := e) (N := 12) he12 (by decide)
  have hka := zi_cl (k := a) (by omega)
  have hu : ∀ j, j < 12 → c (8 + 3 * e + 1) j = zn m e j := (hC.2.2.1 e he).1
  rcases zp_on01 (zn m e) s (nI τ) with p | p
  · refine ⟨0, ?_, ?_, by decide, fun _ => rfl⟩
    · simp only [f_X2_partAt, zc_on hC hn he, p, Option.bind_some, if_true]
    · simp only [f_X4_partAt, zm_on he12, p, Option.bind_some, if_true]
  · rcases hs with rfl | ⟨S, s1, rfl⟩
    · rw [zp_on9] at p
      exact absurd p (by decide)
    · obtain ⟨D, d1, d2, d3, d4⟩ := zs_on1 hC he s1 hτ p
      have hsub : nI τ - nI S - nI D = nI (τ - S - D) := by rw [pk_sub s1, pk_sub (by omega)]
      have h9 : nI S = -9 → ∀ r : Int32, r = 0 := fun z => absurd z (zi_n9 (by omega))
      have s0 : c (8 + 3 * e) 1 = m 3 e := (hC.2.1 e he).1 0 (by decide)
      obtain ⟨⟨k0, k6⟩, -⟩ := (hC.2.1 e he).2
      have haim := (hE a ha).1
      have hk6 := zi_cl (k := 6 + a) (by omega)
      have hc6 := zi_ck (k := 6 + a) (N := 12) (by omega) (by decide)
      have val : ∃ r, f_X2_valueAt c (nI e) (nI (τ - S - D)) (nI a) = some r ∧ f_X4_partAt m (nI e) (nI a) (nI S) (nI τ) = some ((((r * zn m e 8) / 100) * zn m e (6 + a)) / 100) := by
        have aim : ∀ x : Int32, (if nI a = 0 then ((f_X4_numberOf m (nI e) 6).bind fun r11 => some ((((x * zn m e 8) / 100) * r11) / 100)) else ((f_X4_numberOf m (nI e) 7).bind fun r10 => some ((((x * zn m e 8) / 100) * r10) / 100))) = some ((((x * zn m e 8) / 100) * zn m e (6 + a)) / 100) := fun x => by
          rw [zm_6 he12, zm_7 he12]
          rcases (show a = 0 ∨ a = 1 by omega) with rfl | rfl
          · rw [if_pos nI_0]; rfl
          · rw [if_neg (by decide)]; rfl
        by_cases h4 : (4 : Int32) ≤ m 3 e
        · obtain ⟨r, r1, r2⟩ := zs_hand hC hE hn he ha h4 (nI (τ - S - D))
          refine ⟨r, r1, ?_⟩
          simp only [f_X4_partAt, zm_on he12, p, Option.bind_some, zi_10, if_false, zm_1 he12, d2, gx_lt, hke, hce, h4, if_true, r2, zm_8 he12]
          exact aim r
        · obtain ⟨r, r1, r2⟩ := zs_wave hC hn he d4 h4
          obtain ⟨r', r3, r4⟩ := zs_env hC hn he (U := τ - S - D) (by omega) d4
          refine ⟨(r * r') / 100, ?_, ?_⟩
          · rw [zi_lei, show (4 : Int32).toInt = 4 by decide] at h4
            have n4 : ¬ m 3 e = 4 := by rw [zi_eq, show (4 : Int32).toInt = 4 by decide]; omega
            have n5 : ¬ m 3 e = 5 := by rw [zi_eq, show (5 : Int32).toInt = 5 by decide]; omega
            have n6 : ¬ m 3 e = 6 := by rw [zi_eq, show (6 : Int32).toInt = 6 by decide]; omega
            simp only [f_X2_valueAt, hke, s0, n4, n5, n6, if_false, r1, r3, Option.bind_some]
          · simp only [f_X4_partAt, zm_on he12, p, Option.bind_some, zi_10, if_false, zm_1 he12, d2, gx_lt, hke, hce, h4, hsub, r2, r4, zm_8 he12]
            exact aim _
      obtain ⟨r, r1, r2⟩ := val
      refine ⟨_, ?_, r2, zi_d100 _, fun z => h9 z _⟩
      simp only [f_X2_partAt, zc_on hC hn he, p, Option.bind_some, zi_10, if_false, f_X2_sinceDelay, hke, hu 1 (by decide), d2, hsub, r1, hka, haim, hk6, hc6, hu 8 (by decide), hu (6 + a) (by omega)]
theorem zs_start {n T K w h M : Nat} {c m : gx_St} (hR : zR n T K w h M c m) {e : Nat} (he : e < n) : m 9 e = -9 ∨ ∃ S, S ≤ T ∧ m 9 e = nI S := by
  obtain ⟨hA, hB, hC, hD, hE⟩ := id hR
  have hn := hA.1.1
  rw [← hC.2.2.2.1 e he]
  rcases hC.2.2.2.2 e (by omega) with z | ⟨z, -⟩
  · exact Or.inl z
  · exact Or.inr z
theorem zz_part {c m : gx_St} (h : zz_R c m) (a1 a2 : Int32) : ∃ r : Int32, f_X3_part c a1 a2 = some r ∧ f_X4_part m a1 a2 = some r := by
  obtain ⟨n, T, K, w, h, M, hR⟩ := id h
  obtain ⟨hA, hB, hC, hD, hE⟩ := id hR
  rcases zs_isE hA a1 with ⟨h1, h2⟩ | ⟨e, he, rfl, h1, h2⟩
  · exact ⟨-1, by simp [f_X3_part, h1], by simp [f_X4_part, h2]⟩
  · rcases zs_isX a2 with ⟨h3, h4⟩ | ⟨a, ha, rfl, h3, h4⟩
    · exact ⟨-1, by simp [f_X3_part, h1, h3], by simp [f_X4_part, h2, h4]⟩
    · have hn := hA.1.1
      have hT := hA.2.1
      have hke := zi_cl (k := e) (by omega)
      have hce := zi_ck (k := e) (N := 12) (by omega) (by decide)
      have hka := zi_cl (k := a) (by omega)
      have hca := zi_ck (k := a) (N := 2) ha (by decide)
      obtain ⟨r, r1, r2, -⟩ := zs_part hC hE hn he ha (τ := T) (by omega) (zs_start hR he)
      exact ⟨r + 10000, by simp only [f_X3_part, h1, h3, Option.bind_some, zi_10, if_false, hke, hce, hka, hca, hC.2.2.2.1 e he, hT.2.1, r1], by simp only [f_X4_part, h2, h4, Option.bind_some, zi_10, if_false, hke, hce, hT.2.2, r2]⟩
theorem zz_envelope {c m : gx_St} (h : zz_R c m) (a1 : Int32) : ∃ r : Int32, f_X3_envelope c a1 = some r ∧ f_X4_envelope m a1 = some r := by
  obtain ⟨n, T, K, w, h, M, hR⟩ := id h
  obtain ⟨hA, hB, hC, hD, hE⟩ := id hR
  rcases zs_isE hA a1 with ⟨h1, h2⟩ | ⟨e, he, rfl, h1, h2⟩
  · exact ⟨-1, by simp [f_X3_envelope, h1], by simp [f_X4_envelope, h2]⟩
  · have hn := hA.1.1
    have hT := hA.2.1
    have he12 : e < 12 := by omega
    have hke := zi_cl (k := e) (by omega)
    have hce := zi_ck (k := e) (N := 12) he12 (by decide)
    have hst := hC.2.2.2.1 e he
    have s0 : c (8 + 3 * e) 1 = m 3 e := (hC.2.1 e he).1 0 (by decide)
    have hu1 : c (8 + 3 * e + 1) 1 = zn m e 1 := (hC.2.2.1 e he).1 1 (by decide)
    rcases zp_on01 (zn m e) (m 9 e) (nI T) with p | p
    · exact ⟨-9, by simp only [f_X3_envelope, h1, Option.bind_some, zi_10, if_false, hke, hce, hst, hT.2.1, zc_on hC hn he, p, if_true], by simp only [f_X4_envelope, h2, Option.bind_some, zi_10, if_false, hke, hce, hT.2.2, zm_on he12, p, if_true]⟩
    · rcases zs_start hR he with q | ⟨S, q1, q2⟩
      · rw [q, zp_on9] at p
        exact absurd p (by decide)
      · have p2 := p
        rw [q2] at p2
        obtain ⟨D, d1, d2, d3, d4⟩ := zs_on1 hC he q1 (by omega) p2
        have hsub : nI T - nI S - nI D = nI (T - S - D) := by rw [pk_sub q1, pk_sub (by omega)]
        by_cases h4 : (4 : Int32) ≤ m 3 e
        · have h3 : (3 : Int32) < m 3 e := by
            rw [zi_lei, show (4 : Int32).toInt = 4 by decide] at h4
            rw [zi_lt, show (3 : Int32).toInt = 3 by decide]
            omega
          exact ⟨-9, by simp only [f_X3_envelope, h1, Option.bind_some, zi_10, if_false, hke, hce, hst, hT.2.1, zc_on hC hn he, p, f_X2_hasEnvelope, s0, h3, if_true], by simp only [f_X4_envelope, h2, Option.bind_some, zi_10, if_false, hke, hce, hT.2.2, zm_on he12, p, h4, if_true]⟩
        · have h3 : ¬ (3 : Int32) < m 3 e := by
            rw [zi_lei, show (4 : Int32).toInt = 4 by decide] at h4
            rw [zi_lt, show (3 : Int32).toInt = 3 by decide]
            omega
          obtain ⟨r, r1, r2⟩ := zs_env hC hn he (U := T - S - D) (by omega) d4
          refine ⟨r, ?_, ?_⟩
          · rw [q2] at hst
            simp only [f_X3_envelope, h1, Option.bind_some, zi_10, if_false, hke, hce, hst, hT.2.1, zc_on hC hn he, p2, f_X2_hasEnvelope, s0, h3, f_X2_sinceDelay, hu1, d2, hsub, r1]
          · simp only [f_X4_envelope, h2, Option.bind_some, zi_10, if_false, hke, hce, hT.2.2, zm_on he12, p2, h4, zm_1 he12, d2, q2, hsub, r2]
