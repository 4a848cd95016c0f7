def zsum (f : Nat → Int32) : Nat → Int32
  | 0 => 0
  | n + 1 => zsum f n + f n
def zs2 (f : Nat → Int32) : Nat → Nat → Int32
  | _, 0 => 0
  | k, r + 1 => f k + zs2 f (k + 1) r
theorem zsum_2 (f : Nat → Int32) : ∀ (r k : Nat), zsum f k + zs2 f k r = zsum f (k + r) := by
  intro r
  induction r with
  | zero => intro k; exact Int32.add_zero _
  | succ r ih =>
    intro k
    have h := ih (k + 1)
    rw [show k + 1 + r = k + (r + 1) by omega] at h
    rw [← h, zs2, ← Int32.add_assoc]
    rfl
theorem zs2_0 (f : Nat → Int32) (r : Nat) : (0 : Int32) + zs2 f 0 r = zsum f r := by
  have h := zsum_2 f r 0
  rw [Nat.zero_add] at h
  exact h
theorem zsum_c {f g : Nat → Int32} : ∀ {n : Nat}, (∀ i, i < n → f i = g i) → zsum f n = zsum g n
  | 0, _ => rfl
  | n + 1, h => by rw [zsum, zsum, zsum_c (fun i hi => h i (by omega)), h n (by omega)]
theorem zsum_0 {f : Nat → Int32} : ∀ {n : Nat}, (∀ i, i < n → f i = 0) → zsum f n = 0
  | 0, _ => rfl
  | n + 1, h => by rw [zsum, zsum_0 (fun i hi => h i (by omega)), h n (by omega)]; rfl
theorem zsum_1 {f : Nat → Int32} {j : Nat} : ∀ {n : Nat}, j < n → (∀ i, i < n → ¬ i = j → f i = 0) → zsum f n = f j
  | 0, hj, _ => absurd hj (Nat.not_lt_zero j)
  | n + 1, hj, h => by
    rw [zsum]
    by_cases q : n = j
    · subst q
      rw [zsum_0 (fun i hi => h i (by omega) (by omega)), Int32.zero_add]
    · rw [zsum_1 (by omega) (fun i hi => h i (by omega)), h n (by omega) q, Int32.add_zero]
theorem zsum_a (f g : Nat → Int32) : ∀ n, zsum (fun i => f i + g i) n = zsum f n + zsum g n
  | 0 => rfl
  | n + 1 => by
    rw [zsum, zsum, zsum, zsum_a f g n, Int32.add_assoc, Int32.add_assoc, ← Int32.add_assoc (zsum g n), Int32.add_comm (zsum g n) (f n), Int32.add_assoc]
theorem zsum_s (F : Nat → Nat → Int32) (n : Nat) : ∀ K, zsum (fun k => zsum (fun e => F k e) n) K = zsum (fun e => zsum (fun k => F k e) K) n
  | 0 => (zsum_0 (fun _ _ => rfl)).symm
  | K + 1 => by
    rw [zsum, zsum_s F n K]
    exact (zsum_a _ _ n).symm
def zsl (m : gx_St) (G : Nat → Int32) (k : Nat) : Int32 := if m 10 k = -9 then 0 else G (m 10 k).toNatClampNeg
/-- over the SLOTS as over the EFFECTS -/
theorem zsum_p {n K : Nat} {c m : gx_St} (hB : zB n K c m) (hn : n ≤ 12) (hK : K ≤ 6) {G : Nat → Int32} (hG : ∀ e, e < n → c (8 + 3 * e) 7 = -9 → G e = 0) : zsum (zsl m G) 6 = zsum G n := by
  have h1 : zsum (zsl m G) 6 = zsum (fun k => zsum (fun e => if m 10 k = nI e then G e else 0) n) 6 := by
    refine zsum_c (fun k hk => ?_)
    unfold zsl
    rcases hB.2.1 k hk with q | ⟨e, q1, q2, -⟩
    · rw [if_pos q, zsum_0]
      intro e he
      rw [if_neg]
      intro z
      exact zi_n9 (show e < 2 ^ 31 by omega) (z.symm.trans q)
    · rw [q2, if_neg (zi_n9 (by omega)), zi_cl (by omega), zsum_1 q1, if_pos rfl]
      intro i hi hne
      rw [if_neg]
      intro z
      exact hne (nI_inj (by omega) (by omega) z).symm
  rw [h1, zsum_s]
  refine zsum_c (fun e he => ?_)
  rcases hB.2.2 e (by omega) with q | ⟨k, q1, q2, q3⟩
  · rw [hG e he q, zsum_0]
    intro k hk
    split <;> rfl
  · rw [zsum_1 (j := k) (by omega), if_pos q3]
    intro i hi hne
    rw [if_neg]
    intro z
    rcases hB.2.1 i hi with y | ⟨e', y1, y2, y3⟩
    · exact zi_n9 (show e < 2 ^ 31 by omega) (z.symm.trans y)
    · have y4 := nI_inj (by omega) (by omega) (z.symm.trans y2)
      subst y4
      exact hne (nI_inj (by omega) (by omega) (y3.symm.trans q2))
theorem zs_hmPlayc {n T K w h M : Nat} {c m : gx_St} (hR : zR n T K w h M c m) : ∀ (r k F : Nat) (v : Int32), k + r = 6 → r < F → fL_X3_howManyPlay_4 F c v (nI k) = some (v + zs2 (zsl m fun e => zp_pl (zn m e) (m 9 e) (nI T)) k r) := by
  obtain ⟨hA, hB, hC, -⟩ := id hR
  have hn := hA.1.1
  have hT := hA.2.1
  intro r
  induction r with
  | zero =>
    intro k F v hk hF
    have hk : k = 6 := by omega
    subst hk
    obtain ⟨F, rfl⟩ : ∃ F', F = F' + 1 := ⟨F - 1, by omega⟩
    rw [fL_X3_howManyPlay_4]
    simp only [zi_6e, if_true, zs2, Int32.add_zero]
  | succ r ih =>
    intro k F v hk hF
    obtain ⟨F, rfl⟩ : ∃ F', F = F' + 1 := ⟨F - 1, by omega⟩
    have hk6 : k < 6 := by omega
    rw [fL_X3_howManyPlay_4, zs2, ← Int32.add_assoc]
    simp only [zi_6 hk6, if_false, zi_cl (show k < 2 ^ 31 by omega), zi_ck hk6 (by decide), gx_lt, zi_s, hB.1 k hk6]
    rcases hB.2.1 k hk6 with q | ⟨e, q1, q2, -⟩
    · simp only [zsl, q, if_true, Int32.add_zero]
      exact ih (k + 1) F v (by omega) (by omega)
    · simp only [zsl, q2, zi_n9 (show e < 2 ^ 31 by omega), if_false, zi_cl (show e < 2 ^ 31 by omega), zi_nn (show e < 12 by omega), zc_pl hC hn q1, hC.2.2.2.1 e q1, hT.2.1, Option.bind_some]
      rcases zp_pl01 (zn m e) (m 9 e) (nI T) with p | p
      · simp only [p, if_true, Int32.add_zero]
        exact ih (k + 1) F v (by omega) (by omega)
      · simp only [p, zi_10, if_false]
        exact ih (k + 1) F (v + 1) (by omega) (by omega)
theorem zs_hmPlaym {n T K w h M : Nat} {c m : gx_St} (hR : zR n T K w h M c m) : ∀ (r k F : Nat) (v : Int32), k + r = n → r < F → fL_X4_manyPlay_4 F m v (nI k) = some (v + zs2 (fun e => zp_pl (zn m e) (m 9 e) (nI T)) k r) := by
  obtain ⟨hA, hB, hC, -⟩ := id hR
  have hn := hA.1.1
  have hT := hA.2.1
  intro r
  induction r with
  | zero =>
    intro k F v hk hF
    have hk : k = n := by omega
    subst hk
    obtain ⟨F, rfl⟩ : ∃ F', F = F' + 1 := ⟨F - 1, by omega⟩
    rw [fL_X4_manyPlay_4]
    simp only [hA.1.2.2, zi_lee, if_true, zs2, Int32.add_zero]
  | succ r ih =>
    intro k F v hk hF
    obtain ⟨F, rfl⟩ : ∃ F', F = F' + 1 := ⟨F - 1, by omega⟩
    rw [fL_X4_manyPlay_4, zs2, ← Int32.add_assoc]
    simp only [hA.1.2.2, zi_le (show k < n by omega) (show n < 2 ^ 31 by omega), if_false, zi_cl (show k < 2 ^ 31 by omega), zi_ck (show k < 12 by omega) (by decide), gx_lt, zi_s, zm_pl (show k < 12 by omega), hT.2.2, Option.bind_some]
    rcases zp_pl01 (zn m k) (m 9 k) (nI T) with p | p
    · simp only [p, if_true, Int32.add_zero]
      exact ih (k + 1) F v (by omega) (by omega)
    · simp only [p, zi_10, if_false]
      exact ih (k + 1) F (v + 1) (by omega) (by omega)
theorem zs_hmPlay {n T K w h M : Nat} {c m : gx_St} (hR : zR n T K w h M c m) : ∃ r, f_X3_howManyPlay c = some r ∧ f_X4_manyPlay m = some r := by
  obtain ⟨hA, hB, hC, -⟩ := id hR
  have hn := hA.1.1
  refine ⟨zsum (fun e => zp_pl (zn m e) (m 9 e) (nI T)) n, ?_, ?_⟩
  · have h1 : f_X3_howManyPlay c = _ := zs_hmPlayc hR 6 0 7 0 rfl (by decide)
    rw [h1, zs2_0, zsum_p hB hn hA.2.2.1.2.1]
    intro e he q
    have h2 : m 9 e = -9 := by
      rw [← hC.2.2.2.1 e he]
      rcases hC.2.2.2.2 e (by omega) with z | ⟨-, z⟩
      · exact z
      · exact absurd q z
    rw [h2, zp_pl9]
  · have h1 : f_X4_manyPlay m = _ := zs_hmPlaym hR n 0 13 0 (by omega) (by omega)
    rw [h1, zs2_0]
theorem zs_hmOnc {n T K w h M : Nat} {c m : gx_St} (hR : zR n T K w h M c m) : ∀ (r k F : Nat) (v : Int32), k + r = 6 → r < F → fL_X3_howManyOn_4 F c v (nI k) = some (v + zs2 (zsl m fun e => zp_on (zn m e) (m 9 e) (nI T)) k r) := by
  obtain ⟨hA, hB, hC, -⟩ := id hR
  have hn := hA.1.1
  have hT := hA.2.1
  intro r
  induction r with
  | zero =>
    intro k F v hk hF
    have hk : k = 6 := by omega
    subst hk
    obtain ⟨F, rfl⟩ : ∃ F', F = F' + 1 := ⟨F - 1, by omega⟩
    rw [fL_X3_howManyOn_4]
    simp only [zi_6e, if_true, zs2, Int32.add_zero]
  | succ r ih =>
    intro k F v hk hF
    obtain ⟨F, rfl⟩ : ∃ F', F = F' + 1 := ⟨F - 1, by omega⟩
    have hk6 : k < 6 := by omega
    rw [fL_X3_howManyOn_4, zs2, ← Int32.add_assoc]
    simp only [zi_6 hk6, if_false, zi_cl (show k < 2 ^ 31 by omega), zi_ck hk6 (by decide), gx_lt, zi_s, hB.1 k hk6]
    rcases hB.2.1 k hk6 with q | ⟨e, q1, q2, -⟩
    · simp only [zsl, q, if_true, Int32.add_zero]
      exact ih (k + 1) F v (by omega) (by omega)
    · simp only [zsl, q2, zi_n9 (show e < 2 ^ 31 by omega), if_false, zi_cl (show e < 2 ^ 31 by omega), zi_nn (show e < 12 by omega), zc_on hC hn q1, hC.2.2.2.1 e q1, hT.2.1, Option.bind_some]
      rcases zp_on01 (zn m e) (m 9 e) (nI T) with p | p
      · simp only [p, if_true, Int32.add_zero]
        exact ih (k + 1) F v (by omega) (by omega)
      · simp only [p, zi_10, if_false]
        exact ih (k + 1) F (v + 1) (by omega) (by omega)
theorem zs_hmOnm {n T K w h M : Nat} {c m : gx_St} (hR : zR n T K w h M c m) : ∀ (r k F : Nat) (v : Int32), k + r = n → r < F → fL_X4_manyOn_4 F m v (nI k) = some (v + zs2 (fun e => zp_on (zn m e) (m 9 e) (nI T)) k r) := by
  obtain ⟨hA, hB, hC, -⟩ := id hR
  have hn := hA.1.1
  have hT := hA.2.1
  intro r
  induction r with
  | zero =>
    intro k F v hk hF
    have hk : k = n := by omega
    subst hk
    obtain ⟨F, rfl⟩ : ∃ F', F = F' + 1 := ⟨F - 1, by omega⟩
    rw [fL_X4_manyOn_4]
    simp only [hA.1.2.2, zi_lee, if_true, zs2, Int32.add_zero]
  | succ r ih =>
    intro k F v hk hF
    obtain ⟨F, rfl⟩ : ∃ F', F = F' + 1 := ⟨F - 1, by omega⟩
    rw [fL_X4_manyOn_4, zs2, ← Int32.add_assoc]
    simp only [hA.1.2.2, zi_le (show k < n by omega) (show n < 2 ^ 31 by omega), if_false, zi_cl (show k < 2 ^ 31 by omega), zi_ck (show k < 12 by omega) (by decide), gx_lt, zi_s, zm_on (show k < 12 by omega), hT.2.2, Option.bind_some]
    rcases zp_on01 (zn m k) (m 9 k) (nI T) with p | p
    · simp only [p, if_true, Int32.add_zero]
      exact ih (k + 1) F v (by omega) (by omega)
    · simp only [p, zi_10, if_false]
      exact ih (k + 1) F (v + 1) (by omega) (by omega)
theorem zs_hmOn {n T K w h M : Nat} {c m : gx_St} (hR : zR n T K w h M c m) : ∃ r, f_X3_howManyOn c = some r ∧ f_X4_manyOn m = some r := by
  obtain ⟨hA, hB, hC, -⟩ := id hR
  have hn := hA.1.1
  refine ⟨zsum (fun e => zp_on (zn m e) (m 9 e) (nI T)) n, ?_, ?_⟩
  · have h1 : f_X3_howManyOn c = _ := zs_hmOnc hR 6 0 7 0 rfl (by decide)
    rw [h1, zs2_0, zsum_p hB hn hA.2.2.1.2.1]
    intro e he q
    have h2 : m 9 e = -9 := by
      rw [← hC.2.2.2.1 e he]
      rcases hC.2.2.2.2 e (by omega) with z | ⟨-, z⟩
      · exact z
      · exact absurd q z
    rw [h2, zp_on9]
  · have h1 : f_X4_manyOn m = _ := zs_hmOnm hR n 0 13 0 (by omega) (by omega)
    rw [h1, zs2_0]
theorem zs_hmL {n T K w h M : Nat} {c m : gx_St} (hR : zR n T K w h M c m) : ∀ (r k F : Nat) (v : Int32), k + r = 6 → r < F → ∃ x, fL_X3_howManyLoaded_4 F c v (nI k) = some x ∧ fL_X4_manyLoaded_4 F m v (nI k) = some x := by
  obtain ⟨hA, hB, hC, -⟩ := id hR
  have hn := hA.1.1
  intro r
  induction r with
  | zero =>
    intro k F v hk hF
    have hk : k = 6 := by omega
    subst hk
    obtain ⟨F, rfl⟩ : ∃ F', F = F' + 1 := ⟨F - 1, by omega⟩
    refine ⟨v, ?_, ?_⟩
    · rw [fL_X3_howManyLoaded_4]
      simp only [zi_6e, if_true]
    · rw [fL_X4_manyLoaded_4]
      simp only [zi_6e, if_true]
  | succ r ih =>
    intro k F v hk hF
    obtain ⟨F, rfl⟩ : ∃ F', F = F' + 1 := ⟨F - 1, by omega⟩
    have hk6 : k < 6 := by omega
    rw [fL_X3_howManyLoaded_4, fL_X4_manyLoaded_4]
    simp only [zi_6 hk6, if_false, zi_cl (show k < 2 ^ 31 by omega), zi_ck hk6 (by decide), gx_lt, zi_s, hB.1 k hk6, Int32.add_zero]
    rcases hB.2.1 k hk6 with q | ⟨e, q1, q2, -⟩
    · simp only [q, if_true]
      exact ih (k + 1) F v (by omega) (by omega)
    · simp only [q2, zi_n9 (show e < 2 ^ 31 by omega), if_false, zi_cl (show e < 2 ^ 31 by omega), zi_nn (show e < 12 by omega)]
      exact ih (k + 1) F (v + 1) (by omega) (by omega)
theorem zs_hmH {n T K w h M : Nat} {c m : gx_St} (hR : zR n T K w h M c m) : ∀ (r k F : Nat) (v : Int32), k + r = 4 → r < F → ∃ x, fL_X3_howManyHeld_4 F c v (nI k) = some x ∧ fL_X4_manyHeld_4 F m v (nI k) = some x := by
  obtain ⟨hA, hB, hC, hD, -⟩ := id hR
  have hT := hA.2.1
  intro r
  induction r with
  | zero =>
    intro k F v hk hF
    have hk : k = 4 := by omega
    subst hk
    obtain ⟨F, rfl⟩ : ∃ F', F = F' + 1 := ⟨F - 1, by omega⟩
    refine ⟨v, ?_, ?_⟩
    · rw [fL_X3_howManyHeld_4]
      simp only [zi_4e, if_true]
    · rw [fL_X4_manyHeld_4]
      simp only [zi_4e, if_true]
  | succ r ih =>
    intro k F v hk hF
    obtain ⟨F, rfl⟩ : ∃ F', F = F' + 1 := ⟨F - 1, by omega⟩
    have hk6 : k < 4 := by omega
    rw [fL_X3_howManyHeld_4, fL_X4_manyHeld_4]
    simp only [zi_4 hk6, if_false, zi_cl (show k < 2 ^ 31 by omega), zi_ck hk6 (by decide), gx_lt, zi_s, Int32.add_zero]
    rcases hD.1 k hk6 with ⟨q1, q2⟩ | ⟨q1, P, q3, q4, q5⟩
    · simp only [q1, q2, if_true]
      exact ih (k + 1) F v (by omega) (by omega)
    · simp only [q1, q5, zi_n9 (show P < 2 ^ 31 by omega), zi_10, if_false]
      exact ih (k + 1) F (v + 1) (by omega) (by omega)
theorem zz_many {c m : gx_St} (h : zz_R c m) (a1 : Int32) : ∃ r : Int32, f_X3_many c a1 = some r ∧ f_X4_many m a1 = some r := by
  obtain ⟨n, T, K, w, h, M, hR⟩ := id h
  obtain ⟨hA, hB, hC, hD, hE⟩ := id hR
  obtain ⟨r1, p1, q1⟩ := zs_hmL hR 6 0 7 0 rfl (by decide)
  have p1 : f_X3_howManyLoaded c = some r1 := p1
  have q1 : f_X4_manyLoaded m = some r1 := q1
  obtain ⟨r2, p2, q2⟩ := zs_hmPlay hR
  obtain ⟨r3, p3, q3⟩ := zs_hmOn hR
  obtain ⟨r5, p5, q5⟩ := zs_hmH hR 4 0 5 0 rfl (by decide)
  have p5 : f_X3_howManyHeld c = some r5 := p5
  have q5 : f_X4_manyHeld m = some r5 := q5
  have hl : (c 0 10 = 0) = (m 0 18 = 0) := by
    rcases hA.2.2.2.2.2.2.2.2 with ⟨l1, l2, -⟩ | ⟨l1, l2, -⟩ <;> rw [l1, l2]
  obtain ⟨g, -, g1, g2⟩ := hA.2.2.2.2.2.2.1
  obtain ⟨y, -, -, y1, y2⟩ := hA.2.2.2.2.2.2.2.1
  simp only [f_X3_many, f_X4_many, p1, q1, p2, q2, p3, q3, p5, q5, Option.bind_some, hl, g1, g2, y1, y2, hA.1.2.1, hA.1.2.2, hA.2.1.2.1, hA.2.1.2.2, hA.2.2.1.2.2.1, hA.2.2.1.2.2.2, hA.2.2.2.1.2.1, hA.2.2.2.1.2.2]
  repeat' split
  all_goals exact ⟨_, rfl, rfl⟩
