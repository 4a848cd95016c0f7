/-- the START by a moment to come: both look over the BUTTONS -/
theorem zs_stL {n T K w h M : Nat} {c m : gx_St} (hR : zR n T K w h M c m) {e τ : Nat} (he : e < n) (hτ : T ≤ τ) (hτ2 : τ ≤ 20000000) : ∀ (r b F : Nat) (v : Int32), b + r = 4 → r < F → ∃ v', fL_X3_startBy_8 F c (nI e) (nI τ) v (nI b) = some v' ∧ fL_X4_startAt_6 F m (nI e) (nI τ) v (nI b) = some v' ∧ (v' = v ∨ ∃ S, T < S ∧ S ≤ τ ∧ v' = nI S) ∧ (c (8 + 3 * e) 7 = -9 → v' = v) := by
  obtain ⟨hA, hB, hC, hD, hE⟩ := id hR
  have hn := hA.1.1
  have hT := hA.2.1
  have he12 : e < 12 := by omega
  have hke := zi_cl (k := e) (by omega)
  intro r
  induction r with
  | zero =>
    intro b F v hb hF
    have hb : b = 4 := by omega
    subst hb
    obtain ⟨F, rfl⟩ : ∃ F', F = F' + 1 := ⟨F - 1, by omega⟩
    refine ⟨v, ?_, ?_, Or.inl rfl, fun _ => rfl⟩
    · rw [fL_X3_startBy_8]
      simp only [zi_4e, if_true]
    · rw [fL_X4_startAt_6]
      simp only [zi_4e, if_true]
  | succ r ih =>
    intro b F v hb hF
    obtain ⟨F, rfl⟩ : ∃ F', F = F' + 1 := ⟨F - 1, by omega⟩
    have hb4 : b < 4 := by omega
    have lb := zi_cl (k := b) (by omega)
    have lc := zi_ck (k := b) (N := 4) hb4 (by decide)
    have lx := zi_cl (k := 12 * b + e) (by omega)
    have ly := zi_ck (k := 12 * b + e) (N := 48) (by omega) (by decide)
    obtain ⟨q0, B, q1, q2, q3⟩ := hD.2 b e hb4 he12
    rcases Nat.eq_zero_or_pos B with z | z
    · subst z
      have z0 : (nI 0 ≤ (0 : Int32)) = True := eq_true (by decide)
      obtain ⟨v', g1, g2, g3⟩ := ih (b + 1) F v (by omega) (by omega)
      refine ⟨v', ?_, ?_, g3⟩
      · rw [fL_X3_startBy_8]
        simp only [zi_4 hb4, if_false, lb, lc, hke, gx_lt, q0, q2, z0, if_true, zi_s, g1]
      · rw [fL_X4_startAt_6]
        simp only [zi_4 hb4, if_false, lb, lc, zi_ix, lx, ly, gx_lt, q2, z0, if_true, zi_s, g2]
        split <;> rfl
    · obtain ⟨p1, p2⟩ := q3 z
      have z1 := nI_nle z (show B < 2 ^ 31 by omega)
      have z2 := nI_ne0 z (show B < 2 ^ 31 by omega)
      rcases hD.1 b hb4 with ⟨-, y⟩ | ⟨y1, P, y2, y3, y4⟩
      · exact absurd y p1
      · have n9 := zi_n9 (e := P) (by omega)
        have sb : nI τ - nI P = nI (τ - P) := pk_sub (by omega)
        have rm := pk_rem (a := τ - P) (d := B) (by omega) z (by omega)
        have lm : (τ - P) % B ≤ τ - P := Nat.mod_le _ _
        have sb2 : nI τ - nI ((τ - P) % B) = nI (τ - (τ - P) % B) := pk_sub (by omega)
        have e1 : fL_X3_startBy_8 (F + 1) c (nI e) (nI τ) v (nI b) = if nI (τ - (τ - P) % B) ≤ nI T then fL_X3_startBy_8 F c (nI e) (nI τ) v (nI (b + 1)) else if nI (τ - (τ - P) % B) ≤ v then fL_X3_startBy_8 F c (nI e) (nI τ) v (nI (b + 1)) else fL_X3_startBy_8 F c (nI e) (nI τ) (nI (τ - (τ - P) % B)) (nI (b + 1)) := by
          rw [fL_X3_startBy_8]
          simp only [zi_4 hb4, if_false, lb, lc, hke, gx_lt, q0, q2, z1, z2, f_X3_remainder, y3, sb, rm, sb2, Option.bind_some, hT.2.1, zi_s]
        have e2 : fL_X4_startAt_6 (F + 1) m (nI e) (nI τ) v (nI b) = if nI (τ - (τ - P) % B) ≤ nI T then fL_X4_startAt_6 F m (nI e) (nI τ) v (nI (b + 1)) else if nI (τ - (τ - P) % B) ≤ v then fL_X4_startAt_6 F m (nI e) (nI τ) v (nI (b + 1)) else fL_X4_startAt_6 F m (nI e) (nI τ) (nI (τ - (τ - P) % B)) (nI (b + 1)) := by
          rw [fL_X4_startAt_6]
          simp only [zi_4 hb4, if_false, lb, lc, zi_ix, lx, ly, gx_lt, q2, z1, z2, y4, n9, sb, rm, sb2, hT.2.2, zi_s]
        rw [e1, e2]
        by_cases w1 : nI (τ - (τ - P) % B) ≤ nI T
        · simp only [w1, if_true]
          exact ih (b + 1) F v (by omega) (by omega)
        · by_cases w2 : nI (τ - (τ - P) % B) ≤ v
          · simp only [w1, w2, if_true, if_false]
            exact ih (b + 1) F v (by omega) (by omega)
          · simp only [w1, w2, if_false]
            obtain ⟨v', g1, g2, g3, -⟩ := ih (b + 1) F (nI (τ - (τ - P) % B)) (by omega) (by omega)
            rw [nI_leI (by omega) (by omega)] at w1
            refine ⟨v', g1, g2, ?_, fun y => absurd y p2⟩
            rcases g3 with rfl | g3
            · exact Or.inr ⟨_, by omega, by omega, rfl⟩
            · exact Or.inr g3
/-- what the reference's START is, as a number -/
def zst (m : gx_St) (e : Nat) (v t : Int32) : Int32 := (f_X4_startAt m (nI e) v t).getD 0
theorem zs_st {n T K w h M : Nat} {c m : gx_St} (hR : zR n T K w h M c m) {e τ : Nat} (he : e < n) (hτ : T ≤ τ) (hτ2 : τ ≤ 20000000) : f_X3_startBy c (nI e) (nI τ) = some (zst m e (m 9 e) (nI τ)) ∧ f_X4_startAt m (nI e) (m 9 e) (nI τ) = some (zst m e (m 9 e) (nI τ)) ∧ (zst m e (m 9 e) (nI τ) = -9 ∨ ∃ S, S ≤ τ ∧ zst m e (m 9 e) (nI τ) = nI S) ∧ (c (8 + 3 * e) 7 = -9 → zst m e (m 9 e) (nI τ) = -9) ∧ (zst m e (m 9 e) (nI τ) = m 9 e ∨ ¬ c (8 + 3 * e) 7 = -9) := by
  obtain ⟨hA, hB, hC, hD, hE⟩ := id hR
  have hn := hA.1.1
  have hke := zi_cl (k := e) (by omega)
  obtain ⟨v, g1, g2, g3, g4⟩ := zs_stL hR he hτ hτ2 4 0 5 (m 9 e) rfl (by decide)
  rw [nI_0] at g1 g2
  have g2 : f_X4_startAt m (nI e) (m 9 e) (nI τ) = some v := by
    rw [f_X4_startAt]
    exact g2
  have ev : zst m e (m 9 e) (nI τ) = v := by rw [zst, g2]; rfl
  have g1 : f_X3_startBy c (nI e) (nI τ) = some v := by
    rw [f_X3_startBy, hke, hC.2.2.2.1 e he, gx_lt]
    exact g1
  rw [ev]
  refine ⟨g1, g2, ?_, fun z => ?_, ?_⟩
  · rcases g3 with g3 | ⟨S, s1, s2, s3⟩
    · rw [g3]
      rcases zs_start hR he with z | ⟨S, s1, s2⟩
      · exact Or.inl z
      · exact Or.inr ⟨S, by omega, s2⟩
    · exact Or.inr ⟨S, s2, s3⟩
  · rw [g4 z, ← hC.2.2.2.1 e he]
    rcases hC.2.2.2.2 e (by omega) with y | ⟨-, y⟩
    · exact y
    · exact absurd z y
  · by_cases z : c (8 + 3 * e) 7 = -9
    · exact Or.inl (g4 z)
    · exact Or.inr z
/-- with no START of its own -/
theorem zs_qL {n T K w h M : Nat} {c m : gx_St} (hR : zR n T K w h M c m) {e τ : Nat} (he : e < n) (hτ : T ≤ τ) (hτ2 : τ ≤ 20000000) : ∀ (r b F : Nat) (v v' : Int32), b + r = 4 → r < F → ((v' = v ∧ ∃ S, T < S ∧ S ≤ τ ∧ v = nI S) ∨ (v' = -9 ∧ (v = -9 ∨ ∃ S, S ≤ T ∧ v = nI S))) → ∃ u u', fL_X4_startAt_6 F m (nI e) (nI τ) v (nI b) = some u ∧ fL_X4_startAt_6 F m (nI e) (nI τ) v' (nI b) = some u' ∧ ((u' = u ∧ ∃ S, T < S ∧ S ≤ τ ∧ u = nI S) ∨ (u' = -9 ∧ (u = -9 ∨ ∃ S, S ≤ T ∧ u = nI S))) := by
  obtain ⟨hA, hB, hC, hD, hE⟩ := id hR
  have hn := hA.1.1
  have hT := hA.2.1
  have he12 : e < 12 := by omega
  have hke := zi_cl (k := e) (by omega)
  intro r
  induction r with
  | zero =>
    intro b F v v' hb hF hv
    have hb : b = 4 := by omega
    subst hb
    obtain ⟨F, rfl⟩ : ∃ F', F = F' + 1 := ⟨F - 1, by omega⟩
    refine ⟨v, v', ?_, ?_, hv⟩
    · rw [fL_X4_startAt_6]
      simp only [zi_4e, if_true]
    · rw [fL_X4_startAt_6]
      simp only [zi_4e, if_true]
  | succ r ih =>
    intro b F v v' hb hF hv
    obtain ⟨F, rfl⟩ : ∃ F', F = F' + 1 := ⟨F - 1, by omega⟩
    have hb4 : b < 4 := by omega
    have lb := zi_cl (k := b) (by omega)
    have lc := zi_ck (k := b) (N := 4) hb4 (by decide)
    have lx := zi_cl (k := 12 * b + e) (by omega)
    have ly := zi_ck (k := 12 * b + e) (N := 48) (by omega) (by decide)
    obtain ⟨q0, B, q1, q2, q3⟩ := hD.2 b e hb4 he12
    rcases Nat.eq_zero_or_pos B with z | z
    · subst z
      have z0 : (nI 0 ≤ (0 : Int32)) = True := eq_true (by decide)
      have e2 : ∀ v, fL_X4_startAt_6 (F + 1) m (nI e) (nI τ) v (nI b) = fL_X4_startAt_6 F m (nI e) (nI τ) v (nI (b + 1)) := fun v => by
        rw [fL_X4_startAt_6]
        simp only [zi_4 hb4, if_false, lb, lc, zi_ix, lx, ly, gx_lt, q2, z0, if_true, zi_s]
        split <;> rfl
      rw [e2, e2]
      exact ih (b + 1) F v v' (by omega) (by omega) hv
    · obtain ⟨p1, p2⟩ := q3 z
      have z1 := nI_nle z (show B < 2 ^ 31 by omega)
      have z2 := nI_ne0 z (show B < 2 ^ 31 by omega)
      rcases hD.1 b hb4 with ⟨-, y⟩ | ⟨y1, P, y2, y3, y4⟩
      · exact absurd y p1
      · have n9 := zi_n9 (e := P) (by omega)
        have sb : nI τ - nI P = nI (τ - P) := pk_sub (by omega)
        have rm := pk_rem (a := τ - P) (d := B) (by omega) z (by omega)
        have lm : (τ - P) % B ≤ τ - P := Nat.mod_le _ _
        have sb2 : nI τ - nI ((τ - P) % B) = nI (τ - (τ - P) % B) := pk_sub (by omega)
        have e2 : ∀ v, fL_X4_startAt_6 (F + 1) m (nI e) (nI τ) v (nI b) = if nI (τ - (τ - P) % B) ≤ nI T then fL_X4_startAt_6 F m (nI e) (nI τ) v (nI (b + 1)) else if nI (τ - (τ - P) % B) ≤ v then fL_X4_startAt_6 F m (nI e) (nI τ) v (nI (b + 1)) else fL_X4_startAt_6 F m (nI e) (nI τ) (nI (τ - (τ - P) % B)) (nI (b + 1)) := fun v => by
          rw [fL_X4_startAt_6]
          simp only [zi_4 hb4, if_false, lb, lc, zi_ix, lx, ly, gx_lt, q2, z1, z2, y4, n9, sb, rm, sb2, hT.2.2, zi_s]
        rw [e2, e2]
        obtain ⟨X, eX⟩ : ∃ X, X = τ - (τ - P) % B := ⟨_, rfl⟩
        rw [← eX]
        by_cases w1 : nI X ≤ nI T
        · simp only [w1, if_true]
          exact ih (b + 1) F v v' (by omega) (by omega) hv
        · rw [if_neg w1, if_neg w1]
          rw [nI_leI (by omega) (by omega)] at w1
          have lt9 : ¬ nI X ≤ -9 := by
            rw [zi_lei, nI_toInt (by omega), show (-9 : Int32).toInt = -9 by decide]
            omega
          rcases hv with ⟨rfl, S, s1, s2, rfl⟩ | ⟨rfl, hv⟩
          · by_cases w2 : nI X ≤ nI S
            · rw [if_pos w2]
              exact ih (b + 1) F (nI S) (nI S) (by omega) (by omega) (Or.inl ⟨rfl, S, s1, s2, rfl⟩)
            · rw [if_neg w2]
              exact ih (b + 1) F (nI X) (nI X) (by omega) (by omega) (Or.inl ⟨rfl, X, by omega, by omega, rfl⟩)
          · rw [if_neg lt9]
            have w2 : ¬ nI X ≤ v := by
              rcases hv with rfl | ⟨S, s1, rfl⟩
              · exact lt9
              · rw [nI_leI (by omega) (by omega)]
                omega
            rw [if_neg w2]
            exact ih (b + 1) F (nI X) (nI X) (by omega) (by omega) (Or.inl ⟨rfl, X, by omega, by omega, rfl⟩)
theorem zs_q {n T K w h M : Nat} {c m : gx_St} (hR : zR n T K w h M c m) {e τ : Nat} (he : e < n) (hτ : T ≤ τ) (hτ2 : τ ≤ 20000000) : f_X4_startAt m (nI e) (-9) (nI τ) = some (zst m e (-9) (nI τ)) ∧ ((zst m e (-9) (nI τ) = zst m e (m 9 e) (nI τ) ∧ ∃ S, T < S ∧ S ≤ τ ∧ zst m e (m 9 e) (nI τ) = nI S) ∨ (zst m e (-9) (nI τ) = -9 ∧ (zst m e (m 9 e) (nI τ) = -9 ∨ ∃ S, S ≤ T ∧ zst m e (m 9 e) (nI τ) = nI S))) := by
  obtain ⟨u, u', g1, g2, g3⟩ := zs_qL hR he hτ hτ2 4 0 5 (m 9 e) (-9) rfl (by decide) (Or.inr ⟨rfl, zs_start hR he⟩)
  have g1 : f_X4_startAt m (nI e) (m 9 e) (nI τ) = some u := g1
  have g2 : f_X4_startAt m (nI e) (-9) (nI τ) = some u' := g2
  have e1 : zst m e (m 9 e) (nI τ) = u := by rw [zst, g1]; rfl
  have e2 : zst m e (-9) (nI τ) = u' := by rw [zst, g2]; rfl
  rw [e1, e2]
  exact ⟨g2, g3⟩
def zpt (m : gx_St) (a e : Nat) (s t : Int32) : Int32 := (f_X4_partAt m (nI e) (nI a) s t).getD 0
theorem zs_pt {n T : Nat} {c m : gx_St} (hC : zC n T c m) (hE : zE c m) (hn : n ≤ 12) {e a τ : Nat} (he : e < n) (ha : a < 2) (hτ : τ ≤ 20000000) {s : Int32} (hs : s = -9 ∨ ∃ S, S ≤ τ ∧ s = nI S) : f_X2_partAt c (nI e) s (nI τ) (nI a) = some (zpt m a e s (nI τ)) ∧ f_X4_partAt m (nI e) (nI a) s (nI τ) = some (zpt m a e s (nI τ)) ∧ (-21474836 ≤ (zpt m a e s (nI τ)).toInt ∧ (zpt m a e s (nI τ)).toInt ≤ 21474836) ∧ (s = -9 → zpt m a e s (nI τ) = 0) := by
  obtain ⟨r, r1, r2, r3, r4⟩ := zs_part hC hE hn he ha hτ hs
  have er : zpt m a e s (nI τ) = r := by rw [zpt, r2]; rfl
  rw [er]
  exact ⟨r1, r2, r3, r4⟩
/-- what each pushes by a moment -/
def zg (m : gx_St) (a : Nat) (t : Int32) (e : Nat) : Int32 := zpt m a e (zst m e (m 9 e) t) t
theorem zs_rawc {n T K w h M : Nat} {c m : gx_St} (hR : zR n T K w h M c m) {a τ : Nat} (ha : a < 2) (hτ : T ≤ τ) (hτ2 : τ ≤ 20000000) : ∀ (r k F : Nat) (v : Int32), k + r = 6 → r < F → fL_X3_rawAt_5 F c (nI τ) (nI a) v (nI k) = some (v + zs2 (zsl m (zg m a (nI τ))) k r) := by
  obtain ⟨hA, hB, hC, hD, hE⟩ := id hR
  have hn := hA.1.1
  intro r
  induction r with
  | zero =>
    intro k F v hk hF
    have hk : k = 6 := by omega
    subst hk
    obtain ⟨F, rfl⟩ : ∃ F', F = F' + 1 := ⟨F - 1, by omega⟩
    rw [fL_X3_rawAt_5]
    simp only [zi_6e, if_true, zs2, Int32.add_zero]
  | succ r ih =>
    intro k F v hk hF
    obtain ⟨F, rfl⟩ : ∃ F', F = F' + 1 := ⟨F - 1, by omega⟩
    have hk6 : k < 6 := by omega
    rw [fL_X3_rawAt_5, zs2, ← Int32.add_assoc]
    simp only [zi_6 hk6, if_false, zi_cl (show k < 2 ^ 31 by omega), zi_ck hk6 (by decide), gx_lt, zi_s, hB.1 k hk6]
    rcases hB.2.1 k hk6 with q | ⟨e, q1, q2, -⟩
    · simp only [zsl, q, if_true, Int32.add_zero]
      exact ih (k + 1) F v (by omega) (by omega)
    · have st := zs_st hR q1 hτ hτ2
      simp only [zsl, q2, zi_n9 (show e < 2 ^ 31 by omega), if_false, zi_cl (show e < 2 ^ 31 by omega), zi_nn (show e < 12 by omega), st.1, (zs_pt hC hE hn q1 ha hτ2 st.2.2.1).1, Option.bind_some]
      exact ih (k + 1) F _ (by omega) (by omega)
theorem zs_raw {n T K w h M : Nat} {c m : gx_St} (hR : zR n T K w h M c m) {a τ : Nat} (ha : a < 2) (hτ : T ≤ τ) (hτ2 : τ ≤ 20000000) : f_X3_rawAt c (nI τ) (nI a) = some (zsum (zg m a (nI τ)) n) := by
  obtain ⟨hA, hB, hC, hD, hE⟩ := id hR
  have hn := hA.1.1
  have h1 : f_X3_rawAt c (nI τ) (nI a) = _ := zs_rawc hR ha hτ hτ2 6 0 7 0 rfl (by decide)
  rw [h1, zs2_0, zsum_p hB hn hA.2.2.1.2.1]
  intro e he q
  have st := zs_st hR he hτ hτ2
  exact (zs_pt hC hE hn he ha hτ2 st.2.2.1).2.2.2 (st.2.2.2.1 q)
/-- what is left with some stopped -/
def zgx (m : gx_St) (a : Nat) (t X : Int32) (e : Nat) : Int32 := if ((X >>> (nI e &&& 31)) &&& 1) = 1 then zpt m a e (zst m e (-9) t) t else zg m a t e
theorem zs_rawm {n T K w h M : Nat} {c m : gx_St} (hR : zR n T K w h M c m) {a τ : Nat} (ha : a < 2) (hτ : T ≤ τ) (hτ2 : τ ≤ 20000000) (X : Int32) : ∀ (r k F : Nat) (v : Int32), k + r = n → r < F → fL_X4_rawAt_16 F m (nI a) (nI τ) X v (nI k) = some (v + zs2 (zgx m a (nI τ) X) k r) := by
  obtain ⟨hA, hB, hC, hD, hE⟩ := id hR
  have hn := hA.1.1
  intro r
  induction r with
  | zero =>
    intro k F v hk hF
    have hk : k = n := by omega
    subst hk
    obtain ⟨F, rfl⟩ : ∃ F', F = F' + 1 := ⟨F - 1, by omega⟩
    rw [fL_X4_rawAt_16]
    simp only [hA.1.2.2, zi_lee, if_true, zs2, Int32.add_zero]
  | succ r ih =>
    intro k F v hk hF
    obtain ⟨F, rfl⟩ : ∃ F', F = F' + 1 := ⟨F - 1, by omega⟩
    have hkn : k < n := by omega
    rw [fL_X4_rawAt_16, zs2, ← Int32.add_assoc]
    have st := zs_st hR hkn hτ hτ2
    have sq := zs_q hR hkn hτ hτ2
    have sq2 : zst m k (-9) (nI τ) = -9 ∨ ∃ S, S ≤ τ ∧ zst m k (-9) (nI τ) = nI S := by
      rcases sq.2 with ⟨y1, S, y2, y3, y4⟩ | ⟨y, -⟩
      · exact Or.inr ⟨S, y3, y1.trans y4⟩
      · exact Or.inl y
    simp only [hA.1.2.2, zi_le hkn (show n < 2 ^ 31 by omega), if_false]
    by_cases q : ((X >>> (nI k &&& 31)) &&& 1) = 1
    · simp only [eq_true q, if_true, sq.1, (zs_pt hC hE hn hkn ha hτ2 sq2).2.1, Option.bind_some, gx_lt, zi_s, zgx]
      exact ih (k + 1) F _ (by omega) (by omega)
    · simp only [q, if_false, zi_cl (show k < 2 ^ 31 by omega), zi_ck (show k < 12 by omega) (by decide), st.2.1, (zs_pt hC hE hn hkn ha hτ2 st.2.2.1).2.1, Option.bind_some, gx_lt, zi_s, zgx]
      exact ih (k + 1) F _ (by omega) (by omega)
theorem zi_bit0 {e : Nat} (he : e < 12) : ¬ (((0 : Int32) >>> (nI e &&& 31)) &&& 1) = 1 := by
  rcases (show e = 0 ∨ e = 1 ∨ e = 2 ∨ e = 3 ∨ e = 4 ∨ e = 5 ∨ e = 6 ∨ e = 7 ∨ e = 8 ∨ e = 9 ∨ e = 10 ∨ e = 11 by omega) with rfl | rfl | rfl | rfl | rfl | rfl | rfl | rfl | rfl | rfl | rfl | rfl <;> decide
/-- the host isn't lost by a moment, or it is -/
def zlive (T w h : Nat) (m : gx_St) (τ : Nat) : Prop := m 0 18 = 1 ∨ w = 0 ∨ τ < h + w
theorem zs_lost {n T K w h M : Nat} {c m : gx_St} (hR : zR n T K w h M c m) {τ : Nat} (hτ2 : τ ≤ 20000000) : (zlive T w h m τ → f_X4_isLostBy m (nI τ) = some 0) ∧ (¬ zlive T w h m τ → f_X4_isLostBy m (nI τ) = some 1) := by
  obtain ⟨hA, -⟩ := id hR
  have hw := hA.2.2.2.1
  have hh := hA.2.2.2.2.1
  have hT := hA.2.1
  unfold zlive f_X4_isLostBy
  rw [hw.2.2, hh.2.2, nI_add]
  rcases hA.2.2.2.2.2.2.2.2 with ⟨l1, l2, -⟩ | ⟨l1, l2, -⟩
  · rw [l2, if_pos rfl]
    rcases Nat.eq_zero_or_pos w with z | z
    · subst z
      rw [if_pos (show nI 0 ≤ 0 by decide)]
      exact ⟨fun _ => rfl, fun y => absurd (Or.inr (Or.inl rfl)) y⟩
    · rw [if_neg (nI_nle z (by omega))]
      by_cases q : τ < h + w
      · rw [if_pos (nI_lt q (by omega))]
        exact ⟨fun _ => rfl, fun y => absurd (Or.inr (Or.inr q)) y⟩
      · rw [if_neg (nI_nlt (by omega) (by omega))]
        refine ⟨fun y => ?_, fun _ => rfl⟩
        rcases y with y | y | y
        · exact absurd y (by decide)
        · omega
        · omega
  · rw [l2, if_neg (by decide)]
    exact ⟨fun _ => rfl, fun y => absurd (Or.inl rfl) y⟩
theorem zs_rawX {n T K w h M : Nat} {c m : gx_St} (hR : zR n T K w h M c m) {a τ : Nat} (ha : a < 2) (hτ : T ≤ τ) (hτ2 : τ ≤ 20000000) (X : Int32) : (zlive T w h m τ → f_X4_rawAt m (nI a) (nI τ) X = some (zsum (zgx m a (nI τ) X) n)) ∧ (¬ zlive T w h m τ → f_X4_rawAt m (nI a) (nI τ) X = some 0) := by
  have hl := zs_lost hR hτ2
  have hn := hR.1.1.1
  refine ⟨fun y => ?_, fun y => ?_⟩
  · have h1 := zs_rawm hR ha hτ hτ2 X n 0 13 0 (by omega) (by omega)
    rw [zs2_0] at h1
    simp only [f_X4_rawAt, hl.1 y, Option.bind_some, if_true]
    exact h1
  · simp only [f_X4_rawAt, hl.2 y, Option.bind_some, zi_10, if_false]
theorem zs_raw0 {n : Nat} (m : gx_St) (hn : n ≤ 12) (a : Nat) (t : Int32) : zsum (zgx m a t 0) n = zsum (zg m a t) n := by
  refine zsum_c (fun e he => ?_)
  exact if_neg (zi_bit0 (by omega))
theorem zs_sumb {f : Nat → Int32} : ∀ {n : Nat}, n ≤ 12 → (∀ e, e < n → -21474836 ≤ (f e).toInt ∧ (f e).toInt ≤ 21474836) → -(21474836 * (n : Int)) ≤ (zsum f n).toInt ∧ (zsum f n).toInt ≤ 21474836 * (n : Int)
  | 0, _, _ => by
    rw [zsum, zi_t0]
    omega
  | n + 1, hn, h => by
    have h1 := zs_sumb (n := n) (by omega) (fun e he => h e (by omega))
    have h2 := h n (by omega)
    rw [zsum, Int32.toInt_add, Int.bmod_eq_of_le (by omega) (by omega)]
    omega
theorem zs_gb {n T K w h M : Nat} {c m : gx_St} (hR : zR n T K w h M c m) {a τ : Nat} (ha : a < 2) (hτ : T ≤ τ) (hτ2 : τ ≤ 20000000) : -300000000 ≤ (zsum (zg m a (nI τ)) n).toInt ∧ (zsum (zg m a (nI τ)) n).toInt ≤ 300000000 := by
  obtain ⟨hA, hB, hC, hD, hE⟩ := id hR
  have hn := hA.1.1
  have h1 := zs_sumb hn (f := zg m a (nI τ)) (fun e he => (zs_pt hC hE hn he ha hτ2 (zs_st hR he hτ hτ2).2.2.1).2.2.1)
  omega
theorem zz_force {c m : gx_St} (h : zz_R c m) (a1 a2 : Int32) : ∃ r : Int32, f_X3_force c a1 a2 = some r ∧ f_X4_force m a1 a2 = some r := by
  obtain ⟨n, T, K, w, h, M, hR⟩ := id h
  obtain ⟨hA, hB, hC, hD, hE⟩ := id hR
  have hT := hA.2.1
  rcases zs_isX a1 with ⟨h1, h2⟩ | ⟨a, ha, rfl, h1, h2⟩
  · exact ⟨-1, by simp [f_X3_force, h1], by simp [f_X4_force, h2]⟩
  · by_cases hw : a2 < 0 ∨ 1 < a2
    · exact ⟨-2, by simp [f_X3_force, h1, zi_w, zi_win0 hw], by simp [f_X4_force, h2, zi_win0 hw]⟩
    · have hka := zi_cl (k := a) (by omega)
      have hca := zi_ck (k := a) (N := 2) ha (by decide)
      have lv : zlive T w h m T := by
        rcases hA.2.2.2.2.2.2.2.2 with ⟨l1, l2, l3⟩ | ⟨l1, l2, -⟩
        · rcases Nat.eq_zero_or_pos w with z | z
          · exact Or.inr (Or.inl z)
          · exact Or.inr (Or.inr (l3 z))
        · exact Or.inl l2
      have r1 := zs_raw hR ha (Nat.le_refl T) (by omega)
      have r2 := (zs_rawX hR ha (Nat.le_refl T) (by omega) 0).1 lv
      rw [zs_raw0 m hA.1.1] at r2
      obtain ⟨g, -, g1, g2⟩ := hA.2.2.2.2.2.2.1
      simp only [f_X3_force, f_X4_force, h1, h2, zi_w, zi_win1 hw, Option.bind_some, zi_10, if_false, hka, hca, hT.2.1, hT.2.2, r1, r2, zi_q, g1, g2]
      split
      · exact ⟨_, rfl, rfl⟩
      · obtain ⟨r, hr⟩ : ∃ r, f_X4_held (zsum (zg m a (nI T)) n) 1000 = some r := by
          unfold f_X4_held
          split
          · split <;> exact ⟨_, rfl⟩
          · exact ⟨_, rfl⟩
        rw [hr]
        exact ⟨_, rfl, rfl⟩
