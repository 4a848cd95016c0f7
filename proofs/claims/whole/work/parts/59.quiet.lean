theorem zR_567 {n T K w h M : Nat} {c m σ : gx_St} (hf : ∀ k j, ¬ (k = 5 ∨ k = 6 ∨ k = 7) → σ k j = c k j) (hR : zR n T K w h M c m) : zR n T K w h M σ m := by
  obtain ⟨hA, hB, hC, hD, hE⟩ := id hR
  have hn := hA.1.1
  refine ⟨?_, zB_f hn (fun k => hf _ _ (by omega)) (fun e _ => hf _ _ (by omega)) (fun _ => rfl) hB, zC_f hn (fun e j _ => hf _ _ (by omega)) (fun e j _ => hf _ _ (by omega)) (fun _ _ _ _ => rfl) hC, zD_f (fun b j _ => hf _ _ (by omega)) (fun e j _ => hf _ _ (by omega)) (fun e _ => hf _ _ (by omega)) (fun _ => rfl) (fun _ => rfl) hD, zE_f (fun a j _ => hf _ _ (by omega)) (fun _ => rfl) (fun _ => rfl) hE⟩
  unfold zA
  have c0 : ∀ j, σ 0 j = c 0 j := fun j => hf _ _ (by omega)
  simp only [c0]
  exact hA
def zq (m : gx_St) (T : Nat) (e : Nat) : Bool := decide (zp_pl (zn m e) (m 9 e) (nI T) = 1)
theorem zq_1 {m : gx_St} {T e : Nat} : zq m T e = true ↔ zp_pl (zn m e) (m 9 e) (nI T) = 1 := decide_eq_true_iff
theorem zq_0 {m : gx_St} {T e : Nat} (h : ¬ zq m T e = true) : zp_pl (zn m e) (m 9 e) (nI T) = 0 := by
  rcases zp_pl01 (zn m e) (m 9 e) (nI T) with z | z
  · exact z
  · exact absurd (zq_1.mpr z) h
theorem zsum_01 {f : Nat → Int32} : ∀ {k : Nat}, (∀ i, i < k → f i = 0 ∨ f i = 1) → ∃ j, j ≤ k ∧ zsum f k = nI j
  | 0, _ => ⟨0, Nat.le_refl _, rfl⟩
  | k + 1, h => by
    obtain ⟨j, j1, j2⟩ := zsum_01 (k := k) (fun i hi => h i (by omega))
    rw [zsum, j2]
    rcases h k (by omega) with z | z
    · exact ⟨j, by omega, by rw [z, Int32.add_zero]⟩
    · exact ⟨j + 1, by omega, by rw [z, zi_s]⟩
theorem zP_le (q : Nat → Bool) : ∀ e, zP q e ≤ e
  | 0 => Nat.le_refl _
  | e + 1 => by
    have := zP_le q e
    rw [zP]
    split <;> omega
theorem zsum_P (m : gx_St) (T : Nat) : ∀ e, zsum (fun i => zp_pl (zn m i) (m 9 i) (nI T)) e = nI (zP (zq m T) e)
  | 0 => rfl
  | e + 1 => by
    rw [zsum, zsum_P m T e]
    by_cases z : zq m T e = true
    · rw [zP_1 z, zq_1.mp z, zi_s]
    · rw [zP_0 z, zq_0 z, Int32.add_zero]
theorem zs_P6 {n T K w h M : Nat} {c m : gx_St} (hR : zR n T K w h M c m) : zP (zq m T) n ≤ 6 := by
  obtain ⟨hA, hB, hC, hD, hE⟩ := id hR
  have hn := hA.1.1
  obtain ⟨j, j1, j2⟩ := zsum_01 (f := zsl m fun e => zp_pl (zn m e) (m 9 e) (nI T)) (k := 6) (fun i _ => by
    unfold zsl
    split
    · exact Or.inl rfl
    · exact zp_pl01 _ _ _)
  rw [zsum_p hB hn hA.2.2.1.2.1 (fun e he q => by
    have h2 : m 9 e = -9 := by
      rw [← hC.2.2.2.1 e he]
      rcases hC.2.2.2.2 e (by omega) with z | ⟨-, z⟩
      · exact z
      · exact absurd q z
    rw [h2, zp_pl9]), zsum_P] at j2
  have h1 := zP_le (zq m T) n
  have h2 := nI_inj (by omega) (by omega) j2
  omega
theorem zs_ga {n T K w h M : Nat} {c m : gx_St} (hR : zR n T K w h M c m) : ∀ (r e F : Nat) (σ : gx_St), e + r = n → r < F → (∀ k j, ¬ k = 5 → σ k j = c k j) → (∀ e', e' < e → zq m T e' = true → σ 5 (zP (zq m T) e') = nI e') → ∃ σ', fL_X3_gatherPlaying_4 F σ (nI (zP (zq m T) e)) (nI e) = some (nI (zP (zq m T) n), σ') ∧ (∀ k j, ¬ k = 5 → σ' k j = c k j) ∧ (∀ e', e' < n → zq m T e' = true → σ' 5 (zP (zq m T) e') = nI e') := by
  have h6 := zs_P6 hR
  have hn := hR.1.1.1
  intro r
  induction r with
  | zero =>
    intro e F σ he hF hf h5
    have he : e = n := by omega
    subst he
    obtain ⟨F, rfl⟩ : ∃ F', F = F' + 1 := ⟨F - 1, by omega⟩
    refine ⟨σ, ?_, hf, h5⟩
    rw [fL_X3_gatherPlaying_4]
    have e1 : σ 0 1 = nI e := (hf _ _ (by omega)).trans hR.1.1.2.1
    simp only [e1, zi_lee, if_true]
  | succ r ih =>
    intro e F σ he hF hf h5
    obtain ⟨F, rfl⟩ : ∃ F', F = F' + 1 := ⟨F - 1, by omega⟩
    have hen : e < n := by omega
    have hR' := zR_567 (σ := σ) (fun k j z => hf k j (by omega)) hR
    obtain ⟨hA, hB, hC, hD, hE⟩ := id hR'
    have hm := zP_m (zq m T) (show e ≤ n by omega)
    rw [fL_X3_gatherPlaying_4]
    by_cases z6 : zP (zq m T) e = 6
    · refine ⟨σ, ?_, hf, fun e' he' hq => ?_⟩
      · have e6 : zP (zq m T) n = 6 := by omega
        simp only [hA.1.2.1, zi_le hen (show n < 2 ^ 31 by omega), if_false, z6, e6, zi_6e, if_true]
      · rcases Nat.lt_or_ge e' e with z | z
        · exact h5 e' z hq
        · exfalso
          have y1 := zP_m (zq m T) (show e' + 1 ≤ n by omega)
          have y2 := zP_m (zq m T) z
          rw [zP_1 hq] at y1
          omega
    · have hp6 : zP (zq m T) e < 6 := by omega
      simp only [hA.1.2.1, zi_le hen (show n < 2 ^ 31 by omega), if_false, zi_6 hp6, zi_cl (show e < 2 ^ 31 by omega), zi_ck (show e < 12 by omega) (by decide), hC.2.2.2.1 e hen, hA.2.1.2.1, zc_pl hC hn hen, Option.bind_some]
      by_cases hq : zq m T e = true
      · have hw : ∀ k j, ¬ k = 5 → gx_w2 σ 5 (zP (zq m T) e) (nI e) k j = c k j := fun k j z => (zi_wk z).trans (hf k j z)
        obtain ⟨σ', g1, g2, g3⟩ := ih (e + 1) F (gx_w2 σ 5 (zP (zq m T) e) (nI e)) (by omega) (by omega) hw (fun e' he' hq' => by
          by_cases y : e' = e
          · subst y
            rw [zi_we]
          · have y1 := zP_m (zq m T) (show e' + 1 ≤ e by omega)
            rw [zP_1 hq'] at y1
            rw [zi_wj (by omega)]
            exact h5 e' (by omega) hq')
        refine ⟨σ', ?_, g2, g3⟩
        rw [zP_1 hq] at g1
        simp only [zq_1.mp hq, zi_10, if_false, zi_cl (show zP (zq m T) e < 2 ^ 31 by omega), zi_ck hp6 (by decide), gx_lt, zi_s]
        exact g1
      · obtain ⟨σ', g1, g2, g3⟩ := ih (e + 1) F σ (by omega) (by omega) hf (fun e' he' hq' => by
          by_cases y : e' = e
          · subst y
            exact absurd hq' hq
          · exact h5 e' (by omega) hq')
        refine ⟨σ', ?_, g2, g3⟩
        rw [zP_0 hq] at g1
        simp only [zq_0 hq, if_true, gx_lt, zi_s]
        exact g1
/-- what is lacking when it is stopped -/
def zlk (m : gx_St) (T a τ e : Nat) : Int32 := if zst m e (m 9 e) (nI τ) ≤ nI T then zg m a (nI τ) e else 0
def zL (q : Nat → Bool) (lk : Nat → Int32) : Nat → Nat → Int32
  | 0, _ => 0
  | e + 1, s => if q e = true ∧ 2 ^ zP q e ≤ s then zL q lk e (s - 2 ^ zP q e) + lk e else zL q lk e s
theorem zL_1 {q : Nat → Bool} {lk : Nat → Int32} {e s : Nat} (h1 : q e = true) (h2 : 2 ^ zP q e ≤ s) : zL q lk (e + 1) s = zL q lk e (s - 2 ^ zP q e) + lk e := by rw [zL, if_pos ⟨h1, h2⟩]
theorem zL_0 {q : Nat → Bool} {lk : Nat → Int32} {e s : Nat} (h : ¬ (q e = true ∧ 2 ^ zP q e ≤ s)) : zL q lk (e + 1) s = zL q lk e s := by rw [zL, if_neg h]
theorem zi_al1 (a b c d : Int32) : a - b + (c - d) = a + c - (b + d) := by
  simp only [Int32.sub_eq_add_neg, Int32.neg_add]
  ac_rfl
theorem zi_al2 (a b c : Int32) : a - b + c = a + c - b := by
  simp only [Int32.sub_eq_add_neg]
  ac_rfl
theorem zi_al3 (a b c : Int32) : a - b - c = a - (b + c) := by
  simp only [Int32.sub_eq_add_neg, Int32.neg_add]
  ac_rfl
theorem zs_gx (q : Nat → Bool) (g lk : Nat → Int32) : ∀ {e s : Nat}, s < 2 ^ zP q e → zsum (fun i => if (zph q e s).testBit i = true then g i - lk i else g i) e = zsum g e - zL q lk e s
  | 0, s, _ => by
    rw [zsum, zsum, zL, Int32.sub_zero]
  | e + 1, s, h => by
    rcases zph_c h with ⟨h1, h2, h3⟩ | ⟨h1, h2⟩
    · have hl := zph_lt q h3
      rw [zph_1 h1 h2, zsum, zsum, zL_1 h1 h2, ← zi_al1, ← zs_gx q g lk h3]
      congr 1
      · refine zsum_c (fun i hi => ?_)
        rw [Nat.add_comm, Nat.testBit_two_pow_add_gt hi]
      · rw [Nat.add_comm, Nat.testBit_two_pow_add_eq, Nat.testBit_lt_two_pow hl]
        rfl
    · have hl := zph_lt q h2
      rw [zph_0 h1, zsum, zsum, zL_0 h1, ← zi_al2, ← zs_gx q g lk h2]
      congr 1
      rw [Nat.testBit_lt_two_pow hl]
      rfl
theorem zs_lk {n T K w h M : Nat} {c m : gx_St} (hR : zR n T K w h M c m) {a e τ : Nat} (he : e < n) (ha : a < 2) (hτ : T ≤ τ) (hτ2 : τ ≤ 20000000) : zpt m a e (zst m e (-9) (nI τ)) (nI τ) = zg m a (nI τ) e - zlk m T a τ e := by
  obtain ⟨hA, hB, hC, hD, hE⟩ := id hR
  have hn := hA.1.1
  have hT := hA.2.1.1
  unfold zlk
  rcases (zs_q hR he hτ hτ2).2 with ⟨q1, S, q2, q3, q4⟩ | ⟨q1, q2⟩
  · rw [q4, if_neg (nI_ge q2 (by omega)), Int32.sub_zero, q1]
    rfl
  · rw [if_pos, Int32.sub_self, q1]
    · exact (zs_pt hC hE hn he ha hτ2 (Or.inl rfl)).2.2.2 rfl
    · rcases q2 with q2 | ⟨S, s1, s2⟩
      · rw [q2, zi_lei, nI_toInt (by omega), show (-9 : Int32).toInt = -9 by decide]
        omega
      · rw [s2]
        exact nI_le s1 (by omega)
def zV (m : gx_St) (T n a τ s : Nat) : Int32 := zsum (zg m a (nI τ)) n - zL (zq m T) (zlk m T a τ) n s
theorem zs_V {n T K w h M : Nat} {c m : gx_St} (hR : zR n T K w h M c m) {a τ s : Nat} (ha : a < 2) (hτ : T ≤ τ) (hτ2 : τ ≤ 20000000) (hs : s < 2 ^ zP (zq m T) n) : zsum (zgx m a (nI τ) (nI (zph (zq m T) n s))) n = zV m T n a τ s ∧ -300000000 ≤ (zV m T n a τ s).toInt ∧ (zV m T n a τ s).toInt ≤ 300000000 := by
  obtain ⟨hA, hB, hC, hD, hE⟩ := id hR
  have hn := hA.1.1
  have hl := zph_lt (zq m T) hs
  have hl2 : zph (zq m T) n s < 2 ^ 12 := Nat.lt_of_lt_of_le hl (Nat.pow_le_pow_right (by decide) hn)
  have e1 : zsum (zgx m a (nI τ) (nI (zph (zq m T) n s))) n = zV m T n a τ s := by
    unfold zV
    rw [← zs_gx (zq m T) (zg m a (nI τ)) (zlk m T a τ) hs]
    refine zsum_c (fun i hi => ?_)
    unfold zgx
    simp only [zi_bit hl2 (show i < 12 by omega), zs_lk hR hi ha hτ hτ2]
  refine ⟨e1, ?_⟩
  rw [← e1]
  have h1 := zs_sumb hn (f := zgx m a (nI τ) (nI (zph (zq m T) n s))) (fun e he => by
    unfold zgx
    split
    · refine (zs_pt hC hE hn he ha hτ2 ?_).2.2.1
      rcases (zs_q hR he hτ hτ2).2 with ⟨q1, S, q2, q3, q4⟩ | ⟨q1, q2⟩
      · exact Or.inr ⟨S, q3, q1.trans q4⟩
      · exact Or.inl q1
    · exact (zs_pt hC hE hn he ha hτ2 (zs_st hR he hτ hτ2).2.2.1).2.2.1)
  omega
theorem zc_lack {n T K w h M : Nat} {c m : gx_St} (hR : zR n T K w h M c m) {a e τ : Nat} (he : e < n) (ha : a < 2) (hτ : T ≤ τ) (hτ2 : τ ≤ 20000000) : f_X3_lackAt c (nI e) (nI τ) (nI a) = some (zlk m T a τ e) := by
  obtain ⟨hA, hB, hC, hD, hE⟩ := id hR
  have hn := hA.1.1
  have st := zs_st hR he hτ hτ2
  simp only [f_X3_lackAt, st.1, Option.bind_some, hA.2.1.2.1, (zs_pt hC hE hn he ha hτ2 st.2.2.1).1, zlk]
  split <;> rfl
theorem zc_49 {Kf : gx_St → Option gx_St} {v1 v2 v3 v5 lk : Int32} {D : Nat} (hD : D ≤ 32) : ∀ (r v F : Nat) (σ : gx_St), v + r = D → r < F → ∃ σ', fL_X3_markHeldBack_49 Kf v1 v2 v3 (nI D) v5 lk F σ (nI v) = Kf σ' ∧ (∀ s, v ≤ s → s < D → σ' 6 (D + s) = σ 6 s - lk) ∧ (∀ k j, ¬ (k = 6 ∧ D + v ≤ j ∧ j < D + D) → σ' k j = σ k j) := by
  intro r
  induction r with
  | zero =>
    intro v F σ hv hF
    have hv : v = D := by omega
    subst hv
    obtain ⟨F, rfl⟩ : ∃ F', F = F' + 1 := ⟨F - 1, by omega⟩
    refine ⟨σ, ?_, fun s h1 h2 => by omega, fun _ _ _ => rfl⟩
    rw [fL_X3_markHeldBack_49]
    simp only [zi_lee, if_true]
  | succ r ih =>
    intro v F σ hv hF
    obtain ⟨F, rfl⟩ : ∃ F', F = F' + 1 := ⟨F - 1, by omega⟩
    obtain ⟨σ', g1, g2, g3⟩ := ih (v + 1) F (gx_w2 σ 6 (D + v) (σ 6 v - lk)) (by omega) (by omega)
    refine ⟨σ', ?_, fun s h1 h2 => ?_, fun k j z => ?_⟩
    · rw [fL_X3_markHeldBack_49]
      simp only [zi_le (show v < D by omega) (show D < 2 ^ 31 by omega), if_false, nI_add, zi_cl (show v < 2 ^ 31 by omega), zi_ck (show v < 64 by omega) (by decide), zi_cl (show D + v < 2 ^ 31 by omega), zi_ck (show D + v < 64 by omega) (by decide), gx_lt, zi_s]
      exact g1
    · rcases Nat.eq_or_lt_of_le h1 with z | z
      · subst z
        rw [g3 _ _ (by omega), zi_we]
      · rw [g2 s z h2, zi_wj (by omega)]
    · rw [g3 k j (by omega), zi_w2, if_neg (by omega)]
theorem zc_97 {D : Nat} (hD : D ≤ 64) : ∀ (r s F : Nat) (σ : gx_St), s + r = D → r < F → ∃ σ', fL_X3_markHeldBack_97 F σ (nI D) (nI s) = some σ' ∧ (∀ i, s ≤ i → i < D → σ' 7 i = if zhb (σ 6 i) = true then 1 else σ 7 i) ∧ (∀ k j, ¬ (k = 7 ∧ s ≤ j ∧ j < D) → σ' k j = σ k j) := by
  intro r
  induction r with
  | zero =>
    intro s F σ hs hF
    have hs : s = D := by omega
    subst hs
    obtain ⟨F, rfl⟩ : ∃ F', F = F' + 1 := ⟨F - 1, by omega⟩
    refine ⟨σ, ?_, fun i h1 h2 => by omega, fun _ _ _ => rfl⟩
    rw [fL_X3_markHeldBack_97]
    simp only [zi_lee, if_true]
  | succ r ih =>
    intro s F σ hs hF
    obtain ⟨F, rfl⟩ : ∃ F', F = F' + 1 := ⟨F - 1, by omega⟩
    rw [fL_X3_markHeldBack_97]
    simp only [zi_le (show s < D by omega) (show D < 2 ^ 31 by omega), if_false, zi_cl (show s < 2 ^ 31 by omega), zi_ck (show s < 64 by omega) (by decide), zi_hb, Option.bind_some, gx_lt, zi_s]
    by_cases z : zhb (σ 6 s) = true
    · simp only [z, if_true, zi_10, if_false]
      obtain ⟨σ', g1, g2, g3⟩ := ih (s + 1) F (gx_w2 σ 7 s 1) (by omega) (by omega)
      refine ⟨σ', g1, fun i h1 h2 => ?_, fun k j y => ?_⟩
      · rcases Nat.eq_or_lt_of_le h1 with y | y
        · subst y
          rw [g3 _ _ (by omega), zi_we, if_pos z]
        · rw [g2 i y h2, zi_wk (by omega), zi_wj (by omega)]
      · rw [g3 k j (by omega), zi_w2, if_neg (by omega)]
    · simp only [z, if_true, if_false]
      obtain ⟨σ', g1, g2, g3⟩ := ih (s + 1) F σ (by omega) (by omega)
      refine ⟨σ', g1, fun i h1 h2 => ?_, fun k j y => ?_⟩
      · rcases Nat.eq_or_lt_of_le h1 with y | y
        · subst y
          rw [g3 _ _ (by omega), if_neg z]
        · exact g2 i y h2
      · exact g3 k j (by omega)
theorem zc_18 {n T K w h M : Nat} {c m : gx_St} (hR : zR n T K w h M c m) {a τ : Nat} (ha : a < 2) (hτ : T ≤ τ) (hτ2 : τ ≤ 20000000) (R : Int32) (h0 : c 6 0 = R) (h5 : ∀ e', e' < n → zq m T e' = true → c 5 (zP (zq m T) e') = nI e') : ∀ e, e ≤ n → ∃ σ, fL_X3_markHeldBack_18 7 c (nI τ) (nI a) (nI (2 ^ zP (zq m T) n)) 1 0 = fL_X3_markHeldBack_18 (7 - zP (zq m T) e) σ (nI τ) (nI a) (nI (2 ^ zP (zq m T) n)) (nI (2 ^ zP (zq m T) e)) (nI (zP (zq m T) e)) ∧ (∀ s, s < 2 ^ zP (zq m T) e → σ 6 s = R - zL (zq m T) (zlk m T a τ) e s) ∧ (∀ k j, ¬ k = 6 → σ k j = c k j) := by
  have h6 := zs_P6 hR
  have hn := hR.1.1.1
  intro e
  induction e with
  | zero =>
    intro _
    refine ⟨c, rfl, fun s hs => ?_, fun _ _ _ => rfl⟩
    have : s = 0 := by
      rw [zP] at hs
      omega
    subst this
    rw [zL, Int32.sub_zero]
    exact h0
  | succ e ih =>
    intro he
    obtain ⟨σ, g1, g2, g3⟩ := ih (by omega)
    by_cases hq : zq m T e = true
    · have hR' := zR_567 (σ := σ) (fun k j z => g3 k j (by omega)) hR
      have hm := zP_m (zq m T) (show e + 1 ≤ n by omega)
      rw [zP_1 hq] at hm
      rw [zP_1 hq]
      obtain ⟨p, ep⟩ : ∃ p, p = zP (zq m T) e := ⟨_, rfl⟩
      rw [← ep] at g1 g2 hm ⊢
      have hp5 : p < 6 := by omega
      have pw : 2 ^ p < 2 ^ zP (zq m T) n := Nat.pow_lt_pow_right (by decide) (by omega)
      have pw6 : 2 ^ zP (zq m T) n ≤ 2 ^ 6 := Nat.pow_le_pow_right (by decide) h6
      have pw5 : 2 ^ p ≤ 2 ^ 5 := Nat.pow_le_pow_right (by decide) (by omega)
      obtain ⟨F, eF⟩ : ∃ F, 7 - p = F + 1 := ⟨6 - p, by omega⟩
      have eF2 : 7 - (p + 1) = F := by omega
      have c5 : σ 5 p = nI e := by
        rw [g3 _ _ (by omega), ep]
        exact h5 e (by omega) hq
      obtain ⟨σ', k1, k2, k3⟩ := zc_49 (Kf := fun σ24 => gx_lt ((2 : Int32) * nI (2 ^ p)) fun x25 => gx_lt (nI p + (1 : Int32)) fun x26 => fL_X3_markHeldBack_18 F σ24 (nI τ) (nI a) (nI (2 ^ zP (zq m T) n)) x25 x26) (v1 := nI τ) (v2 := nI a) (v3 := nI (2 ^ zP (zq m T) n)) (v5 := nI p) (lk := zlk m T a τ e) (D := 2 ^ p) pw5 (2 ^ p) 0 65 σ (by omega) (by omega)
      refine ⟨σ', ?_, fun s hs => ?_, fun k j z => (k3 k j (fun y => z y.1)).trans (g3 k j z)⟩
      · rw [g1, eF, fL_X3_markHeldBack_18, eF2]
        simp only [zi_6 hp5, if_false, zi_le pw (show 2 ^ zP (zq m T) n < 2 ^ 31 by omega), zi_cl (show p < 2 ^ 31 by omega), zi_ck hp5 (by decide), c5, zi_n9 (show e < 2 ^ 31 by omega), zi_cl (show e < 2 ^ 31 by omega), zi_nn (show e < 12 by omega), zc_lack hR' (show e < n by omega) ha hτ hτ2, Option.bind_some]
        rw [gx_lt]
        simp only [zi_n9 (show e < 2 ^ 31 by omega), zi_cl (show e < 2 ^ 31 by omega), zi_nn (show e < 12 by omega), zc_lack hR' (show e < n by omega) ha hτ hτ2, Option.bind_some, if_false]
        refine k1.trans ?_
        simp only [gx_lt, zi_s]
        rw [show (2 : Int32) = nI 2 from rfl, pk_mul, Nat.pow_succ, Nat.mul_comm]
      · rw [zL]
        by_cases z : 2 ^ p ≤ s
        · rw [← ep, if_pos ⟨hq, z⟩]
          obtain ⟨s', rfl⟩ : ∃ s', s = 2 ^ p + s' := ⟨s - 2 ^ p, by omega⟩
          rw [Nat.pow_succ] at hs
          rw [k2 s' (by omega) (by omega), g2 s' (by omega), Nat.add_sub_cancel_left, zi_al3]
        · rw [← ep, if_neg (fun y => z y.2), k3 _ _ (by omega)]
          exact g2 s (by omega)
    · refine ⟨σ, ?_, fun s hs => ?_, g3⟩
      · rw [zP_0 hq]
        exact g1
      · rw [zP_0 hq] at hs
        rw [zL, if_neg (fun y => hq y.1)]
        exact g2 s hs
theorem zc_mh {n T K w h M : Nat} {c m : gx_St} (hR : zR n T K w h M c m) {a τ : Nat} (ha : a < 2) (hτ : T ≤ τ) (hτ2 : τ ≤ 20000000) (h5 : ∀ e', e' < n → zq m T e' = true → c 5 (zP (zq m T) e') = nI e') : ∃ σ, f_X3_markHeldBack c (nI τ) (nI a) (nI (2 ^ zP (zq m T) n)) = some σ ∧ (∀ s, s < 2 ^ zP (zq m T) n → σ 7 s = if zhb (zV m T n a τ s) = true then 1 else c 7 s) ∧ (∀ k j, ¬ k = 6 → ¬ k = 7 → σ k j = c k j) := by
  have h6 := zs_P6 hR
  have pw6 : 2 ^ zP (zq m T) n ≤ 2 ^ 6 := Nat.pow_le_pow_right (by decide) h6
  obtain ⟨R, eR⟩ : ∃ R, R = zsum (zg m a (nI τ)) n := ⟨_, rfl⟩
  have raw := zs_raw hR ha hτ hτ2
  have hR0 : zR n T K w h M (gx_w2 c 6 0 R) m := zR_567 (fun k j z => zi_wk (by omega)) hR
  obtain ⟨σ, g1, g2, g3⟩ := zc_18 hR0 ha hτ hτ2 R (zi_we _ _ _ _) (fun e' he' hq => by rw [zi_wk (by omega)]; exact h5 e' he' hq) n (Nat.le_refl _)
  obtain ⟨σ', k1, k2, k3⟩ := zc_97 (D := 2 ^ zP (zq m T) n) pw6 (2 ^ zP (zq m T) n) 0 65 σ (by omega) (by omega)
  refine ⟨σ', ?_, fun s hs => ?_, fun k j z1 z2 => ?_⟩
  · have i0 : ((0 : Int32) < 0 ∨ 64 ≤ (0 : Int32).toNatClampNeg) = False := eq_false (by decide)
    simp only [f_X3_markHeldBack, raw, ← eR, Option.bind_some, i0, if_false, gx_lt, zi_c0]
    rw [g1]
    obtain ⟨F, eF⟩ : ∃ F, 7 - zP (zq m T) n = F + 1 := ⟨6 - zP (zq m T) n, by omega⟩
    rw [eF, fL_X3_markHeldBack_18]
    rw [nI_0] at k1
    by_cases z6 : (6 : Int32) ≤ nI (zP (zq m T) n)
    · rw [if_pos z6]
      exact k1
    · rw [if_neg z6, if_pos (Int32.le_refl _)]
      exact k1
  · rw [k2 s (by omega) hs, g2 s hs, eR, g3 _ _ (by omega), zi_wk (by omega)]
    rfl
  · rw [k3 k j (fun y => z2 y.1), g3 k j z1, zi_wk z1]
