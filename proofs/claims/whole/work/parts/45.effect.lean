theorem zi_if0 {p : Prop} [Decidable p] : ((if p then (0 : Int32) else 1) = 0) = p := by
  by_cases h : p
  · simp [h]
  · simp only [h, if_false, zi_10]
theorem zi_eq (a b : Int32) : a = b ↔ a.toInt = b.toInt := Int32.toInt_inj.symm
theorem zc_sn {c : gx_St} {k w : Nat} (hk : k < 7) (hw : w < 4) (v : Int32) : f_X3_isShapeNumber c (nI k) (nI w) v = some (if v < gx_tv 0 (4 * k + w) ∨ gx_tv 1 (4 * k + w) < v then 0 else 1) := by
  have e : (4 : Int32) * nI k + nI w = nI (4 * k + w) := by rw [show (4 : Int32) = nI 4 from rfl, pk_mul, nI_add]
  unfold f_X3_isShapeNumber
  simp only [gx_lt, e, zi_cl (show 4 * k + w < 2 ^ 31 by omega), zi_ck (show 4 * k + w < 28 by omega) (by decide), if_false, zi_w, zi_wb]
theorem zc_s0 {c : gx_St} {k : Nat} (hk : k < 7) (v : Int32) : f_X3_isShapeNumber c (nI k) 0 v = some (if v < gx_tv 0 (4 * k + 0) ∨ gx_tv 1 (4 * k + 0) < v then 0 else 1) := zc_sn (w := 0) hk (by decide) v
theorem zc_s1 {c : gx_St} {k : Nat} (hk : k < 7) (v : Int32) : f_X3_isShapeNumber c (nI k) 1 v = some (if v < gx_tv 0 (4 * k + 1) ∨ gx_tv 1 (4 * k + 1) < v then 0 else 1) := zc_sn (w := 1) hk (by decide) v
theorem zc_s2 {c : gx_St} {k : Nat} (hk : k < 7) (v : Int32) : f_X3_isShapeNumber c (nI k) 2 v = some (if v < gx_tv 0 (4 * k + 2) ∨ gx_tv 1 (4 * k + 2) < v then 0 else 1) := zc_sn (w := 2) hk (by decide) v
theorem zc_s3 {c : gx_St} {k : Nat} (hk : k < 7) (v : Int32) : f_X3_isShapeNumber c (nI k) 3 v = some (if v < gx_tv 0 (4 * k + 3) ∨ gx_tv 1 (4 * k + 3) < v then 0 else 1) := zc_sn (w := 3) hk (by decide) v
theorem zi_m1000 : (-1000 : Int32).toInt = -1000 := by decide
theorem zi_1000 : (1000 : Int32).toInt = 1000 := by decide
theorem zi_t0 : (0 : Int32).toInt = 0 := by decide
theorem zi_t1 : (1 : Int32).toInt = 1 := by decide
theorem zi_t2 : (2 : Int32).toInt = 2 := by decide
theorem zi_2000 : (2000 : Int32).toInt = 2000 := by decide
theorem zi_1999 : (1999 : Int32).toInt = 1999 := by decide
theorem zi_m100 : (-100 : Int32).toInt = -100 := by decide
theorem zi_100 : (100 : Int32).toInt = 100 := by decide
theorem zi_9999 : (9999 : Int32).toInt = 9999 := by decide
theorem zi_sub1 {x : Int32} (h : 2 ≤ x.toInt) : (x - 1).toInt = x.toInt - 1 := by
  have h2 := x.toInt_lt
  rw [Int32.toInt_sub, zi_t1]
  have : (x.toInt - 1).bmod (2 ^ 32) = x.toInt - 1 := by
    rw [Int.bmod_eq_of_le (by omega) (by omega)]
  exact this
/-- what a shape must be, in whole numbers -/
def zQ (k : Nat) (a b c d : Int) : Prop :=
  (k = 0 ∧ -1000 ≤ a ∧ a ≤ 1000 ∧ b = 0 ∧ c = 0 ∧ d = 0) ∨ ((k = 1 ∨ k = 2) ∧ 0 ≤ a ∧ a ≤ 1000 ∧ -1000 ≤ b ∧ b ≤ 1000 ∧ 2 ≤ c ∧ c ≤ 2000 ∧ 0 ≤ d ∧ d < c) ∨ (k = 3 ∧ -1000 ≤ a ∧ a ≤ 1000 ∧ -1000 ≤ b ∧ b ≤ 1000 ∧ c = 0 ∧ d = 0) ∨ (k = 4 ∧ -100 ≤ a ∧ a ≤ 100 ∧ -1000 ≤ b ∧ b ≤ 1000 ∧ 0 ≤ c ∧ c ≤ 1000 ∧ 0 ≤ d ∧ d ≤ 1000) ∨ (k = 5 ∧ -100 ≤ a ∧ a ≤ 100 ∧ b = 0 ∧ 0 ≤ c ∧ c ≤ 9999 ∧ 0 ≤ d ∧ d ≤ 1000) ∨ (k = 6 ∧ 1 ≤ a ∧ a ≤ 1000 ∧ -1000 ≤ b ∧ b ≤ 1000 ∧ 0 ≤ c ∧ c ≤ 1 ∧ 0 ≤ d ∧ d ≤ 1000)
theorem zi_l7 {k : Nat} (h : k < 7) : (nI k < (7 : Int32)) = True := eq_true (nI_lt (b := 7) h (by decide))
theorem zc_shape {c : gx_St} {k : Nat} (hk : k < 7) (a b cc d : Int32) : (zQ k a.toInt b.toInt cc.toInt d.toInt ∧ f_X3_isShape c (nI k) a b cc d = some 1) ∨ (¬ zQ k a.toInt b.toInt cc.toInt d.toInt ∧ f_X3_isShape c (nI k) a b cc d = some 0) := by
  have h1 : (nI k = 1) = (k = 1) := propext (nI_eq (b := 1) (by omega) (by decide))
  have h2 : (nI k = 2) = (k = 2) := propext (nI_eq (b := 2) (by omega) (by decide))
  unfold f_X3_isShape
  simp only [zi_n0 (show k < 2 ^ 31 by omega), if_false, zi_l7 hk, if_true, zc_s0 hk, zc_s1 hk, zc_s2 hk, zc_s3 hk, Option.bind_some, zi_if0, h1, h2]
  rcases (show k = 0 ∨ k = 1 ∨ k = 2 ∨ k = 3 ∨ k = 4 ∨ k = 5 ∨ k = 6 by omega) with rfl | rfl | rfl | rfl | rfl | rfl | rfl
  · have g0 : gx_tv 0 (4 * 0 + 0) = -1000 := rfl
    have g1 : gx_tv 1 (4 * 0 + 0) = 1000 := rfl
    have g2 : gx_tv 0 (4 * 0 + 1) = 0 := rfl
    have g3 : gx_tv 1 (4 * 0 + 1) = 0 := rfl
    have g4 : gx_tv 0 (4 * 0 + 2) = 0 := rfl
    have g5 : gx_tv 1 (4 * 0 + 2) = 0 := rfl
    have g6 : gx_tv 0 (4 * 0 + 3) = 0 := rfl
    have g7 : gx_tv 1 (4 * 0 + 3) = 0 := rfl
    simp only [g0, g1, g2, g3, g4, g5, g6, g7, zi_lt, zi_lei, zi_m1000, zi_1000, zi_t0]
    repeat' split
    all_goals first | (refine Or.inr ⟨?_, rfl⟩; unfold zQ; omega) | (refine Or.inl ⟨?_, rfl⟩; unfold zQ; omega) | omega | exact absurd True.intro (by assumption) | exact absurd rfl (by assumption)
  · have g0 : gx_tv 0 (4 * 1 + 0) = 0 := rfl
    have g1 : gx_tv 1 (4 * 1 + 0) = 1000 := rfl
    have g2 : gx_tv 0 (4 * 1 + 1) = -1000 := rfl
    have g3 : gx_tv 1 (4 * 1 + 1) = 1000 := rfl
    have g4 : gx_tv 0 (4 * 1 + 2) = 2 := rfl
    have g5 : gx_tv 1 (4 * 1 + 2) = 2000 := rfl
    have g6 : gx_tv 0 (4 * 1 + 3) = 0 := rfl
    have g7 : gx_tv 1 (4 * 1 + 3) = 1999 := rfl
    simp only [g0, g1, g2, g3, g4, g5, g6, g7, zi_lt, zi_lei, zi_m1000, zi_1000, zi_t0, zi_t2, zi_2000, zi_1999]
    repeat' split
    all_goals first | (refine Or.inr ⟨?_, rfl⟩; unfold zQ; omega) | (refine Or.inl ⟨?_, rfl⟩; unfold zQ; omega) | omega | exact absurd True.intro (by assumption) | exact absurd rfl (by assumption)
  · have g0 : gx_tv 0 (4 * 2 + 0) = 0 := rfl
    have g1 : gx_tv 1 (4 * 2 + 0) = 1000 := rfl
    have g2 : gx_tv 0 (4 * 2 + 1) = -1000 := rfl
    have g3 : gx_tv 1 (4 * 2 + 1) = 1000 := rfl
    have g4 : gx_tv 0 (4 * 2 + 2) = 2 := rfl
    have g5 : gx_tv 1 (4 * 2 + 2) = 2000 := rfl
    have g6 : gx_tv 0 (4 * 2 + 3) = 0 := rfl
    have g7 : gx_tv 1 (4 * 2 + 3) = 1999 := rfl
    simp only [g0, g1, g2, g3, g4, g5, g6, g7, zi_lt, zi_lei, zi_m1000, zi_1000, zi_t0, zi_t2, zi_2000, zi_1999]
    repeat' split
    all_goals first | (refine Or.inr ⟨?_, rfl⟩; unfold zQ; omega) | (refine Or.inl ⟨?_, rfl⟩; unfold zQ; omega) | omega | exact absurd True.intro (by assumption) | exact absurd rfl (by assumption)
  · have g0 : gx_tv 0 (4 * 3 + 0) = -1000 := rfl
    have g1 : gx_tv 1 (4 * 3 + 0) = 1000 := rfl
    have g2 : gx_tv 0 (4 * 3 + 1) = -1000 := rfl
    have g3 : gx_tv 1 (4 * 3 + 1) = 1000 := rfl
    have g4 : gx_tv 0 (4 * 3 + 2) = 0 := rfl
    have g5 : gx_tv 1 (4 * 3 + 2) = 0 := rfl
    have g6 : gx_tv 0 (4 * 3 + 3) = 0 := rfl
    have g7 : gx_tv 1 (4 * 3 + 3) = 0 := rfl
    simp only [g0, g1, g2, g3, g4, g5, g6, g7, zi_lt, zi_lei, zi_m1000, zi_1000, zi_t0]
    repeat' split
    all_goals first | (refine Or.inr ⟨?_, rfl⟩; unfold zQ; omega) | (refine Or.inl ⟨?_, rfl⟩; unfold zQ; omega) | omega | exact absurd True.intro (by assumption) | exact absurd rfl (by assumption)
  · have g0 : gx_tv 0 (4 * 4 + 0) = -100 := rfl
    have g1 : gx_tv 1 (4 * 4 + 0) = 100 := rfl
    have g2 : gx_tv 0 (4 * 4 + 1) = -1000 := rfl
    have g3 : gx_tv 1 (4 * 4 + 1) = 1000 := rfl
    have g4 : gx_tv 0 (4 * 4 + 2) = 0 := rfl
    have g5 : gx_tv 1 (4 * 4 + 2) = 1000 := rfl
    have g6 : gx_tv 0 (4 * 4 + 3) = 0 := rfl
    have g7 : gx_tv 1 (4 * 4 + 3) = 1000 := rfl
    simp only [g0, g1, g2, g3, g4, g5, g6, g7, zi_lt, zi_lei, zi_m1000, zi_1000, zi_t0, zi_m100, zi_100]
    repeat' split
    all_goals first | (refine Or.inr ⟨?_, rfl⟩; unfold zQ; omega) | (refine Or.inl ⟨?_, rfl⟩; unfold zQ; omega) | omega | exact absurd True.intro (by assumption) | exact absurd rfl (by assumption)
  · have g0 : gx_tv 0 (4 * 5 + 0) = -100 := rfl
    have g1 : gx_tv 1 (4 * 5 + 0) = 100 := rfl
    have g2 : gx_tv 0 (4 * 5 + 1) = 0 := rfl
    have g3 : gx_tv 1 (4 * 5 + 1) = 0 := rfl
    have g4 : gx_tv 0 (4 * 5 + 2) = 0 := rfl
    have g5 : gx_tv 1 (4 * 5 + 2) = 9999 := rfl
    have g6 : gx_tv 0 (4 * 5 + 3) = 0 := rfl
    have g7 : gx_tv 1 (4 * 5 + 3) = 1000 := rfl
    simp only [g0, g1, g2, g3, g4, g5, g6, g7, zi_lt, zi_lei, zi_m1000, zi_1000, zi_t0, zi_m100, zi_100, zi_9999]
    repeat' split
    all_goals first | (refine Or.inr ⟨?_, rfl⟩; unfold zQ; omega) | (refine Or.inl ⟨?_, rfl⟩; unfold zQ; omega) | omega | exact absurd True.intro (by assumption) | exact absurd rfl (by assumption)
  · have g0 : gx_tv 0 (4 * 6 + 0) = 1 := rfl
    have g1 : gx_tv 1 (4 * 6 + 0) = 1000 := rfl
    have g2 : gx_tv 0 (4 * 6 + 1) = -1000 := rfl
    have g3 : gx_tv 1 (4 * 6 + 1) = 1000 := rfl
    have g4 : gx_tv 0 (4 * 6 + 2) = 0 := rfl
    have g5 : gx_tv 1 (4 * 6 + 2) = 1 := rfl
    have g6 : gx_tv 0 (4 * 6 + 3) = 0 := rfl
    have g7 : gx_tv 1 (4 * 6 + 3) = 1000 := rfl
    simp only [g0, g1, g2, g3, g4, g5, g6, g7, zi_lt, zi_lei, zi_m1000, zi_1000, zi_t0, zi_t1]
    repeat' split
    all_goals first | (refine Or.inr ⟨?_, rfl⟩; unfold zQ; omega) | (refine Or.inl ⟨?_, rfl⟩; unfold zQ; omega) | omega | exact absurd True.intro (by assumption) | exact absurd rfl (by assumption)
theorem zm_shape {k : Nat} (hk : k < 7) (a b cc d : Int32) : (zQ k a.toInt b.toInt cc.toInt d.toInt ∧ f_X4_mayBe (nI k) a b cc d = some 1) ∨ (¬ zQ k a.toInt b.toInt cc.toInt d.toInt ∧ f_X4_mayBe (nI k) a b cc d = some 0) := by
  have e0 : (nI k = 0) = (k = 0) := propext (nI_eq (b := 0) (by omega) (by decide))
  have e1 : (nI k = 1) = (k = 1) := propext (nI_eq (b := 1) (by omega) (by decide))
  have e2 : (nI k = 2) = (k = 2) := propext (nI_eq (b := 2) (by omega) (by decide))
  have e3 : (nI k = 3) = (k = 3) := propext (nI_eq (b := 3) (by omega) (by decide))
  have e4 : (nI k = 4) = (k = 4) := propext (nI_eq (b := 4) (by omega) (by decide))
  have e5 : (nI k = 5) = (k = 5) := propext (nI_eq (b := 5) (by omega) (by decide))
  have e6 : (nI k = 6) = (k = 6) := propext (nI_eq (b := 6) (by omega) (by decide))
  unfold f_X4_mayBe
  simp only [zi_win, Option.bind_some, zi_if0, e0, e1, e2, e3, e4, e5, e6]
  by_cases hc : 2 ≤ cc.toInt
  · have hs := zi_sub1 hc
    simp only [zi_lt, zi_lei, zi_eq, hs, zi_m1000, zi_1000, zi_t0, zi_t1, zi_t2, zi_2000, zi_m100, zi_100, zi_9999]
    repeat' split
    all_goals first | (refine Or.inr ⟨?_, rfl⟩; unfold zQ; omega) | (refine Or.inl ⟨?_, rfl⟩; unfold zQ; omega) | omega | exact absurd True.intro (by assumption) | exact absurd rfl (by assumption)
  · have hq : ∀ x y : Option Int32, (if cc < 2 ∨ 2000 < cc then x else y) = x := fun x y => if_pos (Or.inl (by rw [zi_lt, zi_t2]; omega))
    simp only [hq]
    simp only [zi_lt, zi_lei, zi_eq, zi_m1000, zi_1000, zi_t0, zi_t1, zi_t2, zi_2000, zi_m100, zi_100, zi_9999]
    repeat' split
    all_goals first | (refine Or.inr ⟨?_, rfl⟩; unfold zQ; omega) | (refine Or.inl ⟨?_, rfl⟩; unfold zQ; omega) | omega | exact absurd True.intro (by assumption) | exact absurd rfl (by assumption)
