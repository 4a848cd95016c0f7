def zan (f : Nat → Bool) : Nat → Nat → Bool
  | _, 0 => false
  | p, r + 1 => f p || zan f (p + 1) r
def zf (m : gx_St) (T n s p : Nat) : Bool := zhb (zV m T n 0 (T + p) s) || zhb (zV m T n 1 (T + p) s)
theorem zi_ifb (b1 b2 : Bool) : (if b2 = true then (1 : Int32) else (if b1 = true then 1 else 0)) = if (b1 || b2) = true then 1 else 0 := by
  cases b1 <;> cases b2 <;> rfl
theorem zc_59 {n T K w h M : Nat} {m : gx_St} {E : Nat} (hE2 : E ≤ T + 2000) : ∀ (r p F : Nat) (σ : gx_St) (b : Nat → Bool), T + p + r = E → r < F → zR n T K w h M σ m → (∀ e', e' < n → zq m T e' = true → σ 5 (zP (zq m T) e') = nI e') → (∀ s, s < 2 ^ zP (zq m T) n → σ 7 s = if b s = true then 1 else 0) → ∃ σ', fL_X3_quiet_59 F σ (nI (zP (zq m T) n)) (nI (2 ^ zP (zq m T) n)) (nI E) (nI (T + p)) = ((f_X3_fewestNotHeldBack σ' (nI (2 ^ zP (zq m T) n))).bind fun r10 => if r10 = (-9 : Int32) then (some ((-9 : Int32), σ')) else ((f_X3_asEffects σ' r10 (nI (zP (zq m T) n))).bind fun r12 => some (r12, σ'))) ∧ (∀ s, s < 2 ^ zP (zq m T) n → σ' 7 s = if (b s || zan (zf m T n s) p r) = true then 1 else 0) ∧ (∀ k j, ¬ k = 6 → ¬ k = 7 → σ' k j = σ k j) := by
  intro r
  induction r with
  | zero =>
    intro p F σ b hp hF hR h5 h7
    have hp : T + p = E := by omega
    obtain ⟨F, rfl⟩ : ∃ F', F = F' + 1 := ⟨F - 1, by omega⟩
    refine ⟨σ, ?_, fun s hs => ?_, fun _ _ _ _ => rfl⟩
    · rw [hp, fL_X3_quiet_59, if_pos (Int32.le_refl _)]
    · rw [zan, Bool.or_false]
      exact h7 s hs
  | succ r ih =>
    intro p F σ b hp hF hR h5 h7
    obtain ⟨F, rfl⟩ : ∃ F', F = F' + 1 := ⟨F - 1, by omega⟩
    have hT := hR.1.2.1.1
    obtain ⟨σ1, p1, p2, p3⟩ := zc_mh hR (a := 0) (τ := T + p) (by omega) (by omega) (by omega) h5
    have hR1 : zR n T K w h M σ1 m := zR_567 (fun k j z => p3 k j (by omega) (by omega)) hR
    have h51 : ∀ e', e' < n → zq m T e' = true → σ1 5 (zP (zq m T) e') = nI e' := fun e' h1 h2 => by
      rw [p3 _ _ (by omega) (by omega)]
      exact h5 e' h1 h2
    obtain ⟨σ2, q1, q2, q3⟩ := zc_mh hR1 (a := 1) (τ := T + p) (by omega) (by omega) (by omega) h51
    have hR2 : zR n T K w h M σ2 m := zR_567 (fun k j z => q3 k j (by omega) (by omega)) hR1
    have h52 : ∀ e', e' < n → zq m T e' = true → σ2 5 (zP (zq m T) e') = nI e' := fun e' h1 h2 => by
      rw [q3 _ _ (by omega) (by omega)]
      exact h51 e' h1 h2
    obtain ⟨σ', g1, g2, g3⟩ := ih (p + 1) F σ2 (fun s => b s || zf m T n s p) (by omega) (by omega) hR2 h52 (fun s hs => by
      rw [q2 s hs, p2 s hs, h7 s hs, zi_ifb, zi_ifb, zf, Bool.or_assoc])
    refine ⟨σ', ?_, fun s hs => ?_, fun k j z1 z2 => ?_⟩
    · rw [nI_0] at p1
      have q1 : f_X3_markHeldBack σ1 (nI (T + p)) 1 (nI (2 ^ zP (zq m T) n)) = some σ2 := q1
      have i0 : ((0 : Int32) < 0 ∨ 2 ≤ (0 : Int32).toNatClampNeg) = False := eq_false (by decide)
      have i1 : ((1 : Int32) < 0 ∨ 2 ≤ (1 : Int32).toNatClampNeg) = False := eq_false (by decide)
      rw [fL_X3_quiet_59]
      simp only [zi_le (show T + p < E by omega) (show E < 2 ^ 31 by omega), if_false, i0, i1, p1, q1, Option.bind_some, gx_lt, zi_s]
      exact g1
    · rw [g2 s hs, zan, Bool.or_assoc]
    · rw [g3 k j z1 z2, q3 k j z1 z2, p3 k j z1 z2]
/-- the reference: is it never held back -/
theorem zm_quT {n T K w h M : Nat} {c m : gx_St} (hR : zR n T K w h M c m) {N : Nat} (hN : N ≤ 2000) (X : Int32) : ∀ (r p F : Nat), p + r = N → r < F → (∀ q, p ≤ q → q < N → ¬ zlive T w h m (T + q)) → fL_X4_isQuiet_2 F m (nI N) X (nI p) = some 1 := by
  have hT := hR.1.2.1
  intro r
  induction r with
  | zero =>
    intro p F hp hF _
    have hp : p = N := by omega
    subst hp
    obtain ⟨F, rfl⟩ : ∃ F', F = F' + 1 := ⟨F - 1, by omega⟩
    rw [fL_X4_isQuiet_2]
    simp only [zi_lee, if_true]
  | succ r ih =>
    intro p F hp hF hl
    obtain ⟨F, rfl⟩ : ∃ F', F = F' + 1 := ⟨F - 1, by omega⟩
    have r0 := (zs_rawX hR (a := 0) (by omega) (τ := T + p) (by omega) (by omega) X).2 (hl p (Nat.le_refl _) (by omega))
    have r1 := (zs_rawX hR (a := 1) (by omega) (τ := T + p) (by omega) (by omega) X).2 (hl p (Nat.le_refl _) (by omega))
    have hb := zm_hb r0 r1 (by decide) (by decide)
    have z0 : zhb 0 = false := by decide
    rw [fL_X4_isQuiet_2]
    simp only [zi_le (show p < N by omega) (show N < 2 ^ 31 by omega), if_false, hT.2.2, nI_add, hb, z0, Bool.false_eq_true, or_self, Option.bind_some, if_true, gx_lt, zi_s]
    exact ih (p + 1) F (by omega) (by omega) (fun q h1 h2 => hl q (by omega) h2)
theorem zm_quL {n T K w h M : Nat} {c m : gx_St} (hR : zR n T K w h M c m) {N E s : Nat} (hN : N ≤ 2000) (hE : E ≤ T + N) (hl : ∀ τ, τ < E → zlive T w h m τ) (hd : ∀ τ, E ≤ τ → τ < T + N → ¬ zlive T w h m τ) (hs : s < 2 ^ zP (zq m T) n) : ∀ (r p F : Nat), T + p + r = E → N < F + p → fL_X4_isQuiet_2 F m (nI N) (nI (zph (zq m T) n s)) (nI p) = some (if zan (zf m T n s) p r = true then 0 else 1) := by
  have hT := hR.1.2.1
  intro r
  induction r with
  | zero =>
    intro p F hp hF
    exact zm_quT hR hN _ (N - p) p F (by omega) (by omega) (fun q h1 h2 => hd _ (by omega) (by omega))
  | succ r ih =>
    intro p F hp hF
    obtain ⟨F, rfl⟩ : ∃ F', F = F' + 1 := ⟨F - 1, by omega⟩
    have v0 := zs_V hR (a := 0) (τ := T + p) (by omega) (by omega) (by omega) hs
    have v1 := zs_V hR (a := 1) (τ := T + p) (by omega) (by omega) (by omega) hs
    have r0 := (zs_rawX hR (a := 0) (by omega) (τ := T + p) (by omega) (by omega) (nI (zph (zq m T) n s))).1 (hl _ (by omega))
    have r1 := (zs_rawX hR (a := 1) (by omega) (τ := T + p) (by omega) (by omega) (nI (zph (zq m T) n s))).1 (hl _ (by omega))
    rw [v0.1] at r0
    rw [v1.1] at r1
    have hb := zm_hb r0 r1 v0.2 v1.2
    have hz : (zhb (zV m T n 0 (T + p) s) = true ∨ zhb (zV m T n 1 (T + p) s) = true) = (zf m T n s p = true) := by
      rw [zf, Bool.or_eq_true]
    simp only [hz] at hb
    rw [fL_X4_isQuiet_2, zan]
    simp only [zi_le (show p < N by omega) (show N < 2 ^ 31 by omega), if_false, hT.2.2, nI_add, hb, Option.bind_some, gx_lt, zi_s]
    by_cases z : zf m T n s p = true
    · simp only [z, if_true, zi_10, if_false, Bool.true_or]
    · simp only [z, if_false, if_true, Bool.false_or]
      exact ih (p + 1) F (by omega) (by omega)
theorem zc_f9 {σ : gx_St} {D s F : Nat} {b : Bool} (hs : s < D) (hD : D ≤ 2 ^ 6) (h7 : σ 7 s = if b = true then 1 else 0) : fL_X3_fewestNotHeldBack_5 (F + 1) σ (nI D) (-9) (nI s) = fL_X3_fewestNotHeldBack_5 F σ (nI D) (if b = true then -9 else nI s) (nI (s + 1)) := by
  rw [fL_X3_fewestNotHeldBack_5, if_neg (nI_ge hs (by omega)), if_pos rfl, zi_cl (by omega), if_neg (by rw [zi_ck (N := 64) (by omega) (by decide)]; exact id), h7]
  simp only [gx_lt, zi_s]
  cases b
  · rfl
  · rfl
theorem zc_fn {σ : gx_St} {D s s0 F : Nat} {b : Bool} {x x0 : Int32} (hs : s < D) (hD : D ≤ 2 ^ 6) (h7 : σ 7 s = if b = true then 1 else 0) (h1 : f_J6_bitCount_0f7a4 (nI s) = some x) (h0 : f_J6_bitCount_0f7a4 (nI s0) = some x0) (hs0 : s0 < 2 ^ 31) : fL_X3_fewestNotHeldBack_5 (F + 1) σ (nI D) (nI s0) (nI s) = fL_X3_fewestNotHeldBack_5 F σ (nI D) (if x0 ≤ x then nI s0 else if b = true then nI s0 else nI s) (nI (s + 1)) := by
  have hc : ¬ (nI s < 0 ∨ 64 ≤ s) := by rw [zi_ck (N := 64) (by omega) (by decide)]; exact id
  rw [fL_X3_fewestNotHeldBack_5, if_neg (nI_ge hs (by omega)), if_neg (zi_n9 hs0), h1, h0, zi_cl (by omega), if_neg hc, if_neg hc, h7]
  simp only [gx_lt, zi_s, Option.bind_some]
  by_cases y : x0 ≤ x
  · rw [if_pos y, if_pos y]
    cases b
    · rfl
    · rfl
  · rw [if_neg y, if_neg y]
    cases b
    · rfl
    · rfl
theorem zm_f0 {m : gx_St} {v1 A v : Int32} {X G : Nat} (hl : (A < nI X) = False) (hsub : ¬ (nI X &&& (A ^^^ (-1 : Int32))) = 0) : fL_X4_quiet_66 (G + 1) m v1 A v (nI X) = fL_X4_quiet_66 G m v1 A v (nI (X + 1)) := by
  rw [fL_X4_quiet_66, if_neg (fun z => by rw [hl] at z; exact z), if_neg hsub, gx_lt, zi_s]
theorem zm_f9 {m : gx_St} {v1 A : Int32} {X G : Nat} {b : Bool} (hl : (A < nI X) = False) (hsub : (nI X &&& (A ^^^ (-1 : Int32))) = 0) (hQ : f_X4_isQuiet m v1 (nI X) = some (if b = true then 0 else 1)) : fL_X4_quiet_66 (G + 1) m v1 A (-9) (nI X) = fL_X4_quiet_66 G m v1 A (if b = true then -9 else nI X) (nI (X + 1)) := by
  rw [fL_X4_quiet_66, if_neg (fun z => by rw [hl] at z; exact z), if_pos hsub, if_pos rfl, hQ]
  simp only [gx_lt, zi_s, Option.bind_some]
  cases b
  · rfl
  · rfl
theorem zm_fn {m : gx_St} {v1 A x x0 : Int32} {X X0 G : Nat} {b : Bool} (hl : (A < nI X) = False) (hsub : (nI X &&& (A ^^^ (-1 : Int32))) = 0) (hQ : f_X4_isQuiet m v1 (nI X) = some (if b = true then 0 else 1)) (h1 : f_X4_manyOf (nI X) = some x) (h0 : f_X4_manyOf (nI X0) = some x0) (hX0 : X0 < 2 ^ 31) : fL_X4_quiet_66 (G + 1) m v1 A (nI X0) (nI X) = fL_X4_quiet_66 G m v1 A (if x0 ≤ x then nI X0 else if b = true then nI X0 else nI X) (nI (X + 1)) := by
  rw [fL_X4_quiet_66, if_neg (fun z => by rw [hl] at z; exact z), if_pos hsub, if_neg (zi_n9 hX0), h1, h0, hQ]
  simp only [gx_lt, zi_s, Option.bind_some]
  by_cases y : x0 ≤ x
  · rw [if_pos y, if_pos y]
  · rw [if_neg y, if_neg y]
    cases b
    · rfl
    · rfl
/-- the fewest: both look for them -/
theorem zs_few {q : Nat → Bool} {n : Nat} {σ m : gx_St} {N : Nat} (hn : n ≤ 12) (h6 : zP q n ≤ 6) (B : Nat → Bool) (h7 : ∀ s, s < 2 ^ zP q n → σ 7 s = if B s = true then 1 else 0) (hQ : ∀ s, s < 2 ^ zP q n → f_X4_isQuiet m (nI N) (nI (zph q n s)) = some (if B s = true then 0 else 1)) : ∀ (r X s F G : Nat) (v v' : Int32), X + r = zAl q n + 1 → r < G → s ≤ 2 ^ zP q n → 2 ^ zP q n - s < F → (∀ s', s' < s → zph q n s' < X) → (∀ s', s ≤ s' → s' < 2 ^ zP q n → X ≤ zph q n s') → ((v = -9 ∧ v' = -9) ∨ ∃ s0, s0 < 2 ^ zP q n ∧ v = nI s0 ∧ v' = nI (zph q n s0)) → ∃ u u', fL_X3_fewestNotHeldBack_5 F σ (nI (2 ^ zP q n)) v (nI s) = some u ∧ fL_X4_quiet_66 G m (nI N) (nI (zAl q n)) v' (nI X) = some u' ∧ ((u = -9 ∧ u' = -9) ∨ ∃ s0, s0 < 2 ^ zP q n ∧ u = nI s0 ∧ u' = nI (zph q n s0)) := by
  have pw6 : 2 ^ zP q n ≤ 2 ^ 6 := Nat.pow_le_pow_right (by decide) h6
  have pw12 : 2 ^ n ≤ 2 ^ 12 := Nat.pow_le_pow_right (by decide) hn
  have hA := zAl_lt q n
  obtain ⟨D, eD⟩ : ∃ D, D = 2 ^ zP q n := ⟨_, rfl⟩
  have hlt : ∀ s, s < D → zph q n s < 2 ^ 12 := fun s hs => Nat.lt_of_lt_of_le (zph_lt q (by omega)) pw12
  have hbc : ∀ s, s < D → f_J6_bitCount_0f7a4 (nI s) = some (nI (zpop 6 s)) := fun s hs => zi_bc s (by omega)
  have hmo : ∀ s, s < D → f_X4_manyOf (nI (zph q n s)) = some (nI (zpop 6 s)) := fun s hs => by
    rw [zm_mo (hlt s hs), zph_pop q (by omega) hn h6]
  have hle : ∀ s, s < D → zph q n s ≤ zAl q n := fun s hs => zph_le q (by omega)
  have hsur : ∀ X, X < 2 ^ n → (∀ i, X.testBit i = true → q i = true) → ∃ s, s < D ∧ zph q n s = X := fun X h1 h2 => by
    rw [eD]
    exact zph_sur q h1 h2
  have hmono : ∀ s s', s < s' → s' < D → zph q n s < zph q n s' := fun s s' h1 h2 => zph_mono q h1 (by omega)
  have hbit : ∀ s, s < D → ∀ i, (zph q n s).testBit i = true → i < n ∧ q i = true := fun s hs => zph_bit q (by omega)
  rw [← eD] at h7 hQ pw6
  rw [← eD]
  intro r
  induction r with
  | zero =>
    intro X s F G v v' hX hG hs hF j1 j2 hv
    have hs2 : s = D := by
      rcases Nat.eq_or_lt_of_le hs with z | z
      · exact z
      · have y1 := j2 s (Nat.le_refl _) z
        have y2 := hle s z
        omega
    subst hs2
    obtain ⟨F, rfl⟩ : ∃ F', F = F' + 1 := ⟨F - 1, by omega⟩
    obtain ⟨G, rfl⟩ : ∃ G', G = G' + 1 := ⟨G - 1, by omega⟩
    refine ⟨v, v', ?_, ?_, hv⟩
    · rw [fL_X3_fewestNotHeldBack_5, if_pos (Int32.le_refl _)]
    · rw [fL_X4_quiet_66, if_pos (nI_lt (show zAl q n < X by omega) (by omega))]
  | succ r ih =>
    intro X s F G v v' hX hG hs hF j1 j2 hv
    obtain ⟨F, rfl⟩ : ∃ F', F = F' + 1 := ⟨F - 1, by omega⟩
    obtain ⟨G, rfl⟩ : ∃ G', G = G' + 1 := ⟨G - 1, by omega⟩
    have nlt : (nI (zAl q n) < nI X) = False := eq_false (nI_nlt (by omega) (by omega))
    by_cases hsub : (nI X &&& (nI (zAl q n) ^^^ (-1 : Int32))) = 0
    · have hsub2 := (zi_sub (by omega) (by omega)).mp hsub
      obtain ⟨s2, s3, s4⟩ := hsur X (by omega) (fun i hi => by
        have y := hsub2 i hi
        rw [zAl_bit, Bool.and_eq_true] at y
        exact y.2)
      have es : s2 = s := by
        rcases Nat.lt_trichotomy s2 s with z | z | z
        · have := j1 s2 z
          omega
        · exact z
        · have y1 := hmono s s2 z s3
          have y2 := j2 s (Nat.le_refl _) (by omega)
          omega
      subst es
      subst s4
      have nx : ∀ u u', ((u = -9 ∧ u' = -9) ∨ ∃ s0, s0 < D ∧ u = nI s0 ∧ u' = nI (zph q n s0)) → ∃ x x', fL_X3_fewestNotHeldBack_5 F σ (nI D) u (nI (s2 + 1)) = some x ∧ fL_X4_quiet_66 G m (nI N) (nI (zAl q n)) u' (nI (zph q n s2 + 1)) = some x' ∧ ((x = -9 ∧ x' = -9) ∨ ∃ s0, s0 < D ∧ x = nI s0 ∧ x' = nI (zph q n s0)) := fun u u' hu =>
        ih (zph q n s2 + 1) (s2 + 1) F G u u' (by omega) (by omega) (by omega) (by omega) (fun s' hs' => by
          rcases Nat.eq_or_lt_of_le (show s' ≤ s2 by omega) with z | z
          · subst z; omega
          · have := hmono s' s2 z s3
            omega) (fun s' h1 h2 => by
          have := hmono s2 s' (by omega) h2
          omega) hu
      rcases hv with ⟨rfl, rfl⟩ | ⟨s0, t1, rfl, rfl⟩
      · rw [zc_f9 s3 pw6 (h7 s2 s3), zm_f9 nlt hsub (hQ s2 s3)]
        by_cases z : B s2 = true
        · rw [if_pos z, if_pos z]
          exact nx _ _ (Or.inl ⟨rfl, rfl⟩)
        · rw [if_neg z, if_neg z]
          exact nx _ _ (Or.inr ⟨s2, s3, rfl, rfl⟩)
      · have hl0 := hlt s0 t1
        rw [zc_fn s3 pw6 (h7 s2 s3) (hbc s2 s3) (hbc s0 t1) (by omega), zm_fn nlt hsub (hQ s2 s3) (hmo s2 s3) (hmo s0 t1) (by omega)]
        by_cases y : nI (zpop 6 s0) ≤ nI (zpop 6 s2)
        · rw [if_pos y, if_pos y]
          exact nx _ _ (Or.inr ⟨s0, t1, rfl, rfl⟩)
        · rw [if_neg y, if_neg y]
          by_cases z : B s2 = true
          · rw [if_pos z, if_pos z]
            exact nx _ _ (Or.inr ⟨s0, t1, rfl, rfl⟩)
          · rw [if_neg z, if_neg z]
            exact nx _ _ (Or.inr ⟨s2, s3, rfl, rfl⟩)
    · rw [zm_f0 nlt hsub]
      refine ih (X + 1) s (F + 1) G v v' (by omega) (by omega) hs (by omega) (fun s' hs' => by
        have := j1 s' hs'
        omega) (fun s' h1 h2 => ?_) hv
      have y1 := j2 s' h1 h2
      rcases Nat.eq_or_lt_of_le y1 with z | z
      · exfalso
        refine hsub ((zi_sub (by omega) (by omega)).mpr (fun i hi => ?_))
        rw [z] at hi
        have y := hbit s' h2 i hi
        rw [zAl_bit, Bool.and_eq_true]
        exact ⟨decide_eq_true y.1, y.2⟩
      · exact z
theorem zc_as {n T K w h M : Nat} {σ m : gx_St} (hR : zR n T K w h M σ m) (h5 : ∀ e', e' < n → zq m T e' = true → σ 5 (zP (zq m T) e') = nI e') {s : Nat} (hs : s < 2 ^ zP (zq m T) n) : ∀ e, e ≤ n → fL_X3_asEffects_5 7 σ (nI s) (nI (zP (zq m T) n)) 0 0 = fL_X3_asEffects_5 (7 - zP (zq m T) e) σ (nI s) (nI (zP (zq m T) n)) (nI (zph (zq m T) e (s % 2 ^ zP (zq m T) e))) (nI (zP (zq m T) e)) := by
  have h6 := zs_P6 hR
  have hn := hR.1.1.1
  have pw6 : 2 ^ zP (zq m T) n ≤ 2 ^ 6 := Nat.pow_le_pow_right (by decide) h6
  intro e
  induction e with
  | zero => intro _; rfl
  | succ e ih =>
    intro he
    rw [ih (by omega)]
    by_cases hq : zq m T e = true
    · have hm := zP_m (zq m T) (show e + 1 ≤ n by omega)
      rw [zP_1 hq] at hm
      have ml : s % 2 ^ zP (zq m T) e < 2 ^ zP (zq m T) e := Nat.mod_lt _ (Nat.two_pow_pos _)
      have hl := zph_lt (zq m T) ml
      have c5 := h5 e (by omega) hq
      rw [zP_1 hq]
      obtain ⟨F, eF⟩ : ∃ F, 7 - zP (zq m T) e = F + 1 := ⟨6 - zP (zq m T) e, by omega⟩
      have eF2 : 7 - (zP (zq m T) e + 1) = F := by omega
      have ms : s % 2 ^ (zP (zq m T) e + 1) = s % 2 ^ zP (zq m T) e + 2 ^ zP (zq m T) e * (s / 2 ^ zP (zq m T) e % 2) := Nat.mod_pow_succ
      rw [eF, eF2, fL_X3_asEffects_5]
      simp only [zi_le (show zP (zq m T) e < zP (zq m T) n by omega) (show zP (zq m T) n < 2 ^ 31 by omega), if_false, zi_cl (show zP (zq m T) e < 2 ^ 31 by omega), zi_ck (show zP (zq m T) e < 6 by omega) (by decide), c5, gx_lt, zi_n9 (show e < 2 ^ 31 by omega), zi_cl (show e < 2 ^ 31 by omega), zi_nn (show e < 12 by omega), hR.2.2.1.1 e (by omega), zi_bit (show s < 2 ^ 12 by omega) (show zP (zq m T) e < 12 by omega), zi_shl (show e < 12 by omega), zi_or, zi_orp hl, zi_s]
      by_cases hb : s.testBit (zP (zq m T) e) = true
      · rw [if_pos hb]
        rw [Nat.testBit_eq_decide_div_mod_eq, decide_eq_true_iff] at hb
        rw [hb, Nat.mul_one] at ms
        rw [ms, zph_1 hq (Nat.le_add_left _ _), Nat.add_sub_cancel]
      · rw [if_neg hb]
        rw [Nat.testBit_eq_decide_div_mod_eq, decide_eq_true_iff] at hb
        have hb0 : s / 2 ^ zP (zq m T) e % 2 = 0 := by omega
        rw [hb0, Nat.mul_zero, Nat.add_zero (s % 2 ^ zP (zq m T) e)] at ms
        rw [ms, zph_0 (fun y => by omega)]
    · rw [zP_0 hq, zph_0 (fun y => hq y.1)]
theorem zc_26 {D : Nat} (hD : D ≤ 64) (v1 v2 : Int32) : ∀ (r s F : Nat) (σ : gx_St), s + r = D → r < F → ∃ σ', fL_X3_quiet_26 F σ v1 v2 (nI D) (nI s) = ((f_X3_endOfPush σ' v1).bind fun r7 => gx_lt (σ' 0 7) fun x8 => fL_X3_quiet_59 401 σ' v2 (nI D) r7 x8) ∧ (∀ i, s ≤ i → i < D → σ' 7 i = 0) ∧ (∀ k j, ¬ (k = 7 ∧ s ≤ j ∧ j < D) → σ' k j = σ k j) := by
  intro r
  induction r with
  | zero =>
    intro s F σ hs hF
    have hs : s = D := by omega
    subst hs
    obtain ⟨F, rfl⟩ : ∃ F', F = F' + 1 := ⟨F - 1, by omega⟩
    refine ⟨σ, ?_, fun i h1 h2 => by omega, fun _ _ _ => rfl⟩
    rw [fL_X3_quiet_26, if_pos (Int32.le_refl _)]
  | succ r ih =>
    intro s F σ hs hF
    obtain ⟨F, rfl⟩ : ∃ F', F = F' + 1 := ⟨F - 1, by omega⟩
    obtain ⟨σ', g1, g2, g3⟩ := ih (s + 1) F (gx_w2 σ 7 s 0) (by omega) (by omega)
    refine ⟨σ', ?_, fun i h1 h2 => ?_, fun k j z => ?_⟩
    · rw [fL_X3_quiet_26, ← g1]
      simp only [zi_le (show s < D by omega) (show D < 2 ^ 31 by omega), if_false, zi_cl (show s < 2 ^ 31 by omega), zi_ck (show s < 64 by omega) (by decide)]
      simp only [gx_lt, zi_s]
    · rcases Nat.eq_or_lt_of_le h1 with z | z
      · subst z
        rw [g3 _ _ (by omega), zi_we]
      · exact g2 i z h2
    · rw [g3 k j (by omega), zi_w2, if_neg (by omega)]
theorem zm_18 {n T K w h M : Nat} {c m : gx_St} (hR : zR n T K w h M c m) (N : Int32) : ∀ (r e F : Nat), e + r = n → r < F → fL_X4_quiet_18 F m N (nI (zAl (zq m T) e)) (nI e) = fL_X4_quiet_66 4097 m N (nI (zAl (zq m T) n)) (-9) 0 := by
  have hn := hR.1.1.1
  intro r
  induction r with
  | zero =>
    intro e F he hF
    have he : e = n := by omega
    subst he
    obtain ⟨F, rfl⟩ : ∃ F', F = F' + 1 := ⟨F - 1, by omega⟩
    rw [fL_X4_quiet_18, hR.1.1.2.2, if_pos (Int32.le_refl _)]
  | succ r ih =>
    intro e F he hF
    obtain ⟨F, rfl⟩ : ∃ F', F = F' + 1 := ⟨F - 1, by omega⟩
    have hen : e < n := by omega
    rw [← ih (e + 1) F (by omega) (by omega), fL_X4_quiet_18, zAl]
    have o0 : nI (zAl (zq m T) e) ||| 0 = nI (zAl (zq m T) e) := by
      rw [← nI_0, zi_or, Nat.or_zero]
    simp only [hR.1.1.2.2, zi_le hen (show n < 2 ^ 31 by omega), if_false, zi_cl (show e < 2 ^ 31 by omega), zi_ck (show e < 12 by omega) (by decide), zm_pl (show e < 12 by omega), hR.1.2.1.2.2, Option.bind_some, gx_lt, zi_s, o0, zi_shl (show e < 12 by omega), zi_or, zi_orp (zAl_lt (zq m T) e)]
    by_cases hq : zq m T e = true
    · simp only [zq_1.mp hq, zi_10, if_false, hq, if_true]
    · simp only [zq_0 hq, if_true, hq, Bool.false_eq_true, if_false, Nat.add_zero]
theorem zz_quiet {c m : gx_St} (h : zz_R c m) (a1 : Int32) : ∃ (r : Int32) (c' : gx_St), f_X3_quiet c a1 = some (r, c') ∧ f_X4_quiet m a1 = some r ∧ zz_R c' m := by
  by_cases hw : a1 < 1 ∨ 400 < a1
  · exact ⟨-2, c, by simp only [f_X3_quiet, zi_w, zi_win0 hw, Option.bind_some, if_true], by simp only [f_X4_quiet, zi_win0 hw, Option.bind_some, if_true], h⟩
  · obtain ⟨n, T, K, w, h, M, hR⟩ := id h
    have hn := hR.1.1.1
    have h6 := zs_P6 hR
    have pw6 : 2 ^ zP (zq m T) n ≤ 2 ^ 6 := Nat.pow_le_pow_right (by decide) h6
    have pw12 : 2 ^ n ≤ 2 ^ 12 := Nat.pow_le_pow_right (by decide) hn
    have hAl := zAl_lt (zq m T) n
    obtain ⟨N, n1, n2, rfl⟩ := zi_1rng (n := 400) (by decide) hw
    -- the class gathers
    obtain ⟨σ1, a1', a2, a3⟩ := zs_ga hR n 0 13 c (by omega) (by omega) (fun _ _ _ => rfl) (fun e' he' => absurd he' (Nat.not_lt_zero e'))
    have ga : f_X3_gatherPlaying c = some (nI (zP (zq m T) n), σ1) := a1'
    obtain ⟨σ2, b1, b2, b3⟩ := zc_26 (D := 2 ^ zP (zq m T) n) pw6 (nI N) (nI (zP (zq m T) n)) (2 ^ zP (zq m T) n) 0 65 σ1 (by omega) (by omega)
    have fr2 : ∀ k j, ¬ (k = 5 ∨ k = 6 ∨ k = 7) → σ2 k j = c k j := fun k j z => (b3 k j (by omega)).trans (a2 k j (by omega))
    have hR2 := zR_567 fr2 hR
    have h52 : ∀ e', e' < n → zq m T e' = true → σ2 5 (zP (zq m T) e') = nI e' := fun e' x y => (b3 _ _ (by omega)).trans (a3 e' x y)
    obtain ⟨E, e1, e2, e3, e4, e5⟩ := zs_end hR2 (N := N) n1 (by omega)
    obtain ⟨σ3, c1, c2, c3⟩ := zc_59 (K := K) (w := w) (h := h) (M := M) (n := n) (T := T) (m := m) (E := E) (by omega) (E - T) 0 401 σ2 (fun _ => false) (by omega) (by omega) hR2 h52 (fun s hs => b2 s (by omega) hs)
    have hR3 : zR n T K w h M σ3 m := zR_567 (fun k j z => c3 k j (by omega) (by omega)) hR2
    have h53 : ∀ e', e' < n → zq m T e' = true → σ3 5 (zP (zq m T) e') = nI e' := fun e' x y => (c3 _ _ (by omega) (by omega)).trans (h52 e' x y)
    have hQ : ∀ s, s < 2 ^ zP (zq m T) n → f_X4_isQuiet m (nI N) (nI (zph (zq m T) n s)) = some (if (false || zan (zf m T n s) 0 (E - T)) = true then 0 else 1) := fun s hs => by
      have z := zm_quL hR2 (N := N) (by omega) e3 e4 e5 hs (E - T) 0 401 (by omega) (by omega)
      rw [Bool.false_or]
      exact z
    obtain ⟨u, u', f1, f2, f3⟩ := zs_few (σ := σ3) (m := m) (N := N) hn h6 (fun s => false || zan (zf m T n s) 0 (E - T)) c2 hQ (zAl (zq m T) n + 1) 0 0 65 4097 (-9) (-9) (by omega) (by omega) (Nat.zero_le _) (by omega) (fun s' hs' => absurd hs' (Nat.not_lt_zero s')) (fun s' _ _ => Nat.zero_le _) (Or.inl ⟨rfl, rfl⟩)
    rw [nI_0] at f1 f2
    have f1 : f_X3_fewestNotHeldBack σ3 (nI (2 ^ zP (zq m T) n)) = some u := by
      rw [f_X3_fewestNotHeldBack]
      exact f1
    have fM : f_X4_quiet m (nI N) = some u' := by
      have z := zm_18 hR (nI N) n 0 13 (by omega) (by omega)
      rw [zAl, nI_0, f2] at z
      simp only [f_X4_quiet, zi_win1 hw, Option.bind_some, zi_10, if_false]
      exact z
    have fC : f_X3_quiet c (nI N) = ((f_X3_fewestNotHeldBack σ3 (nI (2 ^ zP (zq m T) n))).bind fun r10 => if r10 = (-9 : Int32) then (some ((-9 : Int32), σ3)) else ((f_X3_asEffects σ3 r10 (nI (zP (zq m T) n))).bind fun r12 => some (r12, σ3))) := by
      rw [nI_0] at b1
      rw [Nat.add_zero] at c1
      rw [← c1]
      simp only [f_X3_quiet, zi_w, zi_win1 hw, Option.bind_some, zi_10, if_false, ga, gx_b2, zi_shl (show zP (zq m T) n < 12 by omega)]
      rw [gx_lt, b1, e1, hR2.1.2.1.2.1]
      rfl
    rw [f1] at fC
    refine ⟨u', σ3, ?_, fM, n, T, K, w, h, M, hR3⟩
    rw [fC]
    rcases f3 with ⟨rfl, rfl⟩ | ⟨s0, t1, rfl, rfl⟩
    · rfl
    · have as := zc_as hR3 h53 t1 n (Nat.le_refl _)
      obtain ⟨F, eF⟩ : ∃ F, 7 - zP (zq m T) n = F + 1 := ⟨6 - zP (zq m T) n, by omega⟩
      have fin : fL_X3_asEffects_5 (F + 1) σ3 (nI s0) (nI (zP (zq m T) n)) (nI (zph (zq m T) n s0)) (nI (zP (zq m T) n)) = some (nI (zph (zq m T) n s0)) := by
        rw [fL_X3_asEffects_5, if_pos (Int32.le_refl _)]
      rw [eF, Nat.mod_eq_of_lt t1, fin] at as
      have as : f_X3_asEffects σ3 (nI s0) (nI (zP (zq m T) n)) = some (nI (zph (zq m T) n s0)) := by
        rw [f_X3_asEffects]
        exact as
      simp only [Option.bind_some, zi_n9 (show s0 < 2 ^ 31 by omega), if_false, as]
