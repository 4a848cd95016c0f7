/-! The relation between the class's rows c and the reference's rows m. -/
theorem zi_n9 {e : Nat} (h : e < 2 ^ 31) : ¬ nI e = -9 := fun q => by
  have h1 := congrArg Int32.toInt q
  rw [nI_toInt h] at h1
  have h2 : (-9 : Int32).toInt = -9 := by decide
  omega
theorem zi_ix (e j : Nat) : (12 : Int32) * nI e + nI j = nI (12 * e + j) := by rw [show (12 : Int32) = nI 12 from rfl, pk_mul, nI_add]
theorem zi_chk {k N : Nat} (h : k < N) (hN : N < 2 ^ 31) : (nI k < 0 ∨ N ≤ (nI k).toNatClampNeg) = False := eq_false (nI_in h hN)
theorem zi_4 {k : Nat} (h : k < 4) : ((4 : Int32) ≤ nI k) = False := eq_false (nI_ge (b := 4) h (by decide))
theorem zi_6 {k : Nat} (h : k < 6) : ((6 : Int32) ≤ nI k) = False := eq_false (nI_ge (b := 6) h (by decide))
theorem zi_12 {k : Nat} (h : k < 12) : ((12 : Int32) ≤ nI k) = False := eq_false (nI_ge (b := 12) h (by decide))
theorem zi_4e : ((4 : Int32) ≤ nI 4) = True := eq_true (by decide)
theorem zi_6e : ((6 : Int32) ≤ nI 6) = True := eq_true (by decide)
theorem zi_12e : ((12 : Int32) ≤ nI 12) = True := eq_true (by decide)
theorem zi_le {k n : Nat} (h : k < n) (hn : n < 2 ^ 31) : (nI n ≤ nI k) = False := eq_false (nI_ge h hn)
theorem zi_lee (n : Nat) : (nI n ≤ nI n) = True := eq_true (Int32.le_refl _)
theorem zi_cl {k : Nat} (h : k < 2 ^ 31) : (nI k).toNatClampNeg = k := nI_clamp h
theorem zi_s (k : Nat) : nI k + 1 = nI (k + 1) := nI_1 k
theorem zi_lt (a b : Int32) : a < b ↔ a.toInt < b.toInt := Int32.lt_iff_toInt_lt
theorem zi_lei (a b : Int32) : a ≤ b ↔ a.toInt ≤ b.toInt := Int32.le_iff_toInt_le
/-- an int that is an index below n, or not -/
theorem zi_dec (x : Int32) (n : Nat) (hn : n < 2 ^ 31) : (∃ k, k < n ∧ x = nI k) ∨ (x < 0 ∨ nI n ≤ x) := by
  rcases pk_ix x hn with h | h | ⟨k, h1, h2⟩
  · exact Or.inr (Or.inl h)
  · exact Or.inr (Or.inr h)
  · exact Or.inl ⟨k, h1, h2⟩
theorem zi_w : f_X3_isWithin = f_X4_within := rfl
theorem zi_q : f_X3_noFarther = f_X4_held := rfl
/-- within: what it answers -/
theorem zi_win (x a b : Int32) : f_X4_within x a b = some (if x < a ∨ b < x then 0 else 1) := by
  unfold f_X4_within
  by_cases h1 : x < a
  · simp [h1]
  · by_cases h2 : b < x
    · simp [h1, h2]
    · simp [h1, h2]
theorem zi_win0 {x a b : Int32} (h : x < a ∨ b < x) : f_X4_within x a b = some 0 := by rw [zi_win, if_pos h]
theorem zi_win1 {x a b : Int32} (h : ¬ (x < a ∨ b < x)) : f_X4_within x a b = some 1 := by rw [zi_win, if_neg h]
def zA (n T K w h M : Nat) (c m : gx_St) : Prop :=
  (n ≤ 12 ∧ c 0 1 = nI n ∧ m 0 4 = nI n) ∧ (T ≤ 10000000 ∧ c 0 7 = nI T ∧ m 0 0 = nI T) ∧ (1 ≤ K ∧ K ≤ 6 ∧ c 0 3 = nI K ∧ m 0 12 = nI K) ∧ (w ≤ 10000 ∧ c 0 8 = nI w ∧ m 0 16 = nI w) ∧ (h ≤ T ∧ c 0 9 = nI h ∧ m 0 17 = nI h) ∧ (M ≤ T ∧ c 0 5 = nI M ∧ m 0 1 = nI M) ∧ (∃ g, g ≤ 100 ∧ c 0 11 = nI g ∧ m 0 19 = nI g) ∧ (∃ r, 1 ≤ r ∧ r ≤ 1000 ∧ c 0 12 = nI r ∧ m 0 20 = nI r) ∧ ((c 0 10 = 0 ∧ m 0 18 = 0 ∧ (0 < w → T < h + w)) ∨ (c 0 10 = 1 ∧ m 0 18 = 1 ∧ ∀ b, b < 4 → m 11 b = -9))
def zB (n K : Nat) (c m : gx_St) : Prop :=
  (∀ k, k < 6 → c 2 k = m 10 k) ∧ (∀ k, k < 6 → m 10 k = -9 ∨ ∃ e, e < n ∧ m 10 k = nI e ∧ c (8 + 3 * e) 7 = nI k) ∧ (∀ e, e < 12 → c (8 + 3 * e) 7 = -9 ∨ ∃ k, k < K ∧ c (8 + 3 * e) 7 = nI k ∧ m 10 k = nI e)
def zSh (k a b c d : Int32) : Prop := (0 ≤ k.toInt ∧ k.toInt ≤ 6) ∧ (k = 1 ∨ k = 2 → 2 ≤ c.toInt) ∧ (k = 4 ∨ k = 5 ∨ k = 6 → 0 ≤ c.toInt ∧ 0 ≤ d.toInt ∧ d.toInt ≤ 1000) ∧ (k = 6 → 1 ≤ a.toInt ∧ a.toInt ≤ 1000 ∧ -1000 ≤ b.toInt ∧ b.toInt ≤ 1000)
def zNu (u : Nat → Int32) : Prop := (u 0 = -9 ∨ ∃ L, 1 ≤ L ∧ L ≤ 60000 ∧ u 0 = nI L) ∧ (∃ D, D ≤ 5000 ∧ u 1 = nI D) ∧ ((∃ D, D ≤ 5000 ∧ u 2 = nI D) ∧ ∃ D, D ≤ 100 ∧ u 3 = nI D) ∧ (∃ D, D ≤ 5000 ∧ u 4 = nI D) ∧ (∃ D, D ≤ 9 ∧ u 9 = nI D) ∧ ∃ D, D ≤ 5000 ∧ u 11 = nI D
def zC (n T : Nat) (c m : gx_St) : Prop :=
  (∀ e, e < 12 → c (8 + 3 * e) 0 = nI e) ∧ (∀ e, e < n → (∀ j, j < 5 → c (8 + 3 * e) (1 + j) = m (3 + j) e) ∧ zSh (m 3 e) (m 4 e) (m 5 e) (m 6 e) (m 7 e)) ∧ (∀ e, e < n → (∀ j, j < 12 → c (8 + 3 * e + 1) j = m 8 (12 * e + j)) ∧ zNu (fun j => m 8 (12 * e + j))) ∧ (∀ e, e < n → c (8 + 3 * e) 8 = m 9 e) ∧ (∀ e, e < 12 → c (8 + 3 * e) 8 = -9 ∨ ((∃ S, S ≤ T ∧ c (8 + 3 * e) 8 = nI S) ∧ ¬ c (8 + 3 * e) 7 = -9))
def zD (T : Nat) (c m : gx_St) : Prop :=
  (∀ b, b < 4 → (c (46 + 1 * b) 0 = 0 ∧ m 11 b = -9) ∨ (c (46 + 1 * b) 0 = 1 ∧ ∃ P, P ≤ T ∧ c (46 + 1 * b) 1 = nI P ∧ m 11 b = nI P)) ∧ ∀ b e, b < 4 → e < 12 → c (8 + 3 * e + 2) b = m 12 (12 * b + e) ∧ ∃ B, B ≤ 5000 ∧ m 12 (12 * b + e) = nI B ∧ (0 < B → ¬ m 11 b = -9 ∧ ¬ c (8 + 3 * e) 7 = -9)
def zE (c m : gx_St) : Prop := ∀ a, a < 2 → c (44 + 1 * a) 0 = nI (6 + a) ∧ c (44 + 1 * a) 1 = m 1 a ∧ c (44 + 1 * a) 2 = m 2 a ∧ -1000 ≤ (m 1 a).toInt ∧ (m 1 a).toInt ≤ 1000
def zR (n T K w h M : Nat) (c m : gx_St) : Prop := zA n T K w h M c m ∧ zB n K c m ∧ zC n T c m ∧ zD T c m ∧ zE c m
def zz_R (c m : gx_St) : Prop := ∃ n T K w h M : Nat, zR n T K w h M c m
theorem zi_w2 (σ : gx_St) (k j : Nat) (v : Int32) (k' j' : Nat) : gx_w2 σ k j v k' j' = if k' = k ∧ j' = j then v else σ k' j' := by
  unfold gx_w2
  by_cases h : k' = k
  · subst h
    by_cases h2 : j' = j
    · subst h2; simp [upd]
    · simp [upd, h2]
  · simp [h]
theorem zi_we (σ : gx_St) (k j : Nat) (v : Int32) : gx_w2 σ k j v k j = v := by rw [zi_w2, if_pos ⟨rfl, rfl⟩]
theorem zi_wk {σ : gx_St} {k j : Nat} {v : Int32} {k' j' : Nat} (h : ¬ k' = k) : gx_w2 σ k j v k' j' = σ k' j' := by rw [zi_w2, if_neg (fun q => h q.1)]
theorem zi_wj {σ : gx_St} {k j : Nat} {v : Int32} {k' j' : Nat} (h : ¬ j' = j) : gx_w2 σ k j v k' j' = σ k' j' := by rw [zi_w2, if_neg (fun q => h q.2)]
/-- the start -/
theorem zz_0 : zz_R gz_c0 gz_m0 := by
  refine ⟨0, 0, 4, 0, 0, 0, ⟨⟨by omega, rfl, rfl⟩, ⟨by omega, rfl, rfl⟩, ⟨by omega, by omega, rfl, rfl⟩, ⟨by omega, rfl, rfl⟩, ⟨by omega, rfl, rfl⟩, ⟨by omega, rfl, rfl⟩, ⟨100, by omega, rfl, rfl⟩, ⟨250, by omega, by omega, rfl, rfl⟩, Or.inl ⟨rfl, rfl, fun h => absurd h (Nat.lt_irrefl 0)⟩⟩, ⟨?_, ?_, ?_⟩, ⟨?_, ?_, ?_, ?_, ?_⟩, ⟨?_, ?_⟩, ?_⟩
  · intro k hk
    rcases (show k = 0 ∨ k = 1 ∨ k = 2 ∨ k = 3 ∨ k = 4 ∨ k = 5 by omega) with rfl | rfl | rfl | rfl | rfl | rfl <;> rfl
  · intro k hk
    refine Or.inl ?_
    rcases (show k = 0 ∨ k = 1 ∨ k = 2 ∨ k = 3 ∨ k = 4 ∨ k = 5 by omega) with rfl | rfl | rfl | rfl | rfl | rfl <;> rfl
  · intro e he
    refine Or.inl ?_
    rcases (show e = 0 ∨ e = 1 ∨ e = 2 ∨ e = 3 ∨ e = 4 ∨ e = 5 ∨ e = 6 ∨ e = 7 ∨ e = 8 ∨ e = 9 ∨ e = 10 ∨ e = 11 by omega) with rfl | rfl | rfl | rfl | rfl | rfl | rfl | rfl | rfl | rfl | rfl | rfl <;> rfl
  · intro e he
    rcases (show e = 0 ∨ e = 1 ∨ e = 2 ∨ e = 3 ∨ e = 4 ∨ e = 5 ∨ e = 6 ∨ e = 7 ∨ e = 8 ∨ e = 9 ∨ e = 10 ∨ e = 11 by omega) with rfl | rfl | rfl | rfl | rfl | rfl | rfl | rfl | rfl | rfl | rfl | rfl <;> rfl
  · intro e he; omega
  · intro e he; omega
  · intro e he; omega
  · intro e he
    refine Or.inl ?_
    rcases (show e = 0 ∨ e = 1 ∨ e = 2 ∨ e = 3 ∨ e = 4 ∨ e = 5 ∨ e = 6 ∨ e = 7 ∨ e = 8 ∨ e = 9 ∨ e = 10 ∨ e = 11 by omega) with rfl | rfl | rfl | rfl | rfl | rfl | rfl | rfl | rfl | rfl | rfl | rfl <;> rfl
  · intro b hb
    refine Or.inl ?_
    rcases (show b = 0 ∨ b = 1 ∨ b = 2 ∨ b = 3 by omega) with rfl | rfl | rfl | rfl <;> exact ⟨rfl, rfl⟩
  · intro b e hb he
    refine ⟨?_, 0, by omega, rfl, fun h => absurd h (Nat.lt_irrefl 0)⟩
    rcases (show e = 0 ∨ e = 1 ∨ e = 2 ∨ e = 3 ∨ e = 4 ∨ e = 5 ∨ e = 6 ∨ e = 7 ∨ e = 8 ∨ e = 9 ∨ e = 10 ∨ e = 11 by omega) with rfl | rfl | rfl | rfl | rfl | rfl | rfl | rfl | rfl | rfl | rfl | rfl <;> rfl
  · intro a ha
    rcases (show a = 0 ∨ a = 1 by omega) with rfl | rfl <;> exact ⟨rfl, rfl, rfl, by decide, by decide⟩
