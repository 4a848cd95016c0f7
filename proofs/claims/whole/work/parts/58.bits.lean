def zP (q : Nat → Bool) : Nat → Nat
  | 0 => 0
  | e + 1 => zP q e + (if q e = true then 1 else 0)
def zAl (q : Nat → Bool) : Nat → Nat
  | 0 => 0
  | e + 1 => zAl q e + (if q e = true then 2 ^ e else 0)
def zph (q : Nat → Bool) : Nat → Nat → Nat
  | 0, _ => 0
  | e + 1, s => if q e = true ∧ 2 ^ zP q e ≤ s then zph q e (s - 2 ^ zP q e) + 2 ^ e else zph q e s
def zpop : Nat → Nat → Nat
  | 0, _ => 0
  | k + 1, X => X % 2 + zpop k (X / 2)
theorem zP_m (q : Nat → Bool) : ∀ {e e' : Nat}, e ≤ e' → zP q e ≤ zP q e'
  | e, 0, h => by
    have : e = 0 := by omega
    subst this
    exact Nat.le_refl _
  | e, e' + 1, h => by
    rcases Nat.eq_or_lt_of_le h with z | z
    · rw [z]; exact Nat.le_refl _
    · exact Nat.le_trans (zP_m q (show e ≤ e' by omega)) (by rw [zP]; omega)
theorem zAl_lt (q : Nat → Bool) : ∀ e, zAl q e < 2 ^ e
  | 0 => by rw [zAl]; decide
  | e + 1 => by
    have h := zAl_lt q e
    rw [zAl, Nat.pow_succ]
    split <;> omega
theorem zAl_bit (q : Nat → Bool) (i : Nat) : ∀ e, (zAl q e).testBit i = (decide (i < e) && q i)
  | 0 => by rw [zAl, Nat.zero_testBit]; simp
  | e + 1 => by
    have h := zAl_bit q i e
    have hl := zAl_lt q e
    rw [zAl]
    by_cases qe : q e = true
    · rw [if_pos qe, Nat.add_comm]
      rcases Nat.lt_trichotomy i e with z | z | z
      · rw [Nat.testBit_two_pow_add_gt z, h]
        simp [z, show i < e + 1 by omega]
      · subst z
        rw [Nat.testBit_two_pow_add_eq, Nat.testBit_lt_two_pow hl]
        simp [qe]
      · rw [Nat.testBit_lt_two_pow]
        · simp [show ¬ i < e + 1 by omega]
        · exact Nat.lt_of_lt_of_le (show 2 ^ e + zAl q e < 2 ^ (e + 1) by rw [Nat.pow_succ]; omega) (Nat.pow_le_pow_right (by decide) z)
    · rw [if_neg qe, Nat.add_zero, h]
      rcases Nat.lt_trichotomy i e with z | z | z
      · simp [z, show i < e + 1 by omega]
      · subst z
        simp [qe]
      · simp [show ¬ i < e by omega, show ¬ i < e + 1 by omega]
theorem zph_1 {q : Nat → Bool} {e s : Nat} (h1 : q e = true) (h2 : 2 ^ zP q e ≤ s) : zph q (e + 1) s = zph q e (s - 2 ^ zP q e) + 2 ^ e := by rw [zph, if_pos ⟨h1, h2⟩]
theorem zph_0 {q : Nat → Bool} {e s : Nat} (h : ¬ (q e = true ∧ 2 ^ zP q e ≤ s)) : zph q (e + 1) s = zph q e s := by rw [zph, if_neg h]
theorem zP_1 {q : Nat → Bool} {e : Nat} (h1 : q e = true) : zP q (e + 1) = zP q e + 1 := by rw [zP, if_pos h1]
theorem zP_0 {q : Nat → Bool} {e : Nat} (h1 : ¬ q e = true) : zP q (e + 1) = zP q e := by rw [zP, if_neg h1]; rfl
theorem zph_c {q : Nat → Bool} {e s : Nat} (h : s < 2 ^ zP q (e + 1)) : (q e = true ∧ 2 ^ zP q e ≤ s ∧ s - 2 ^ zP q e < 2 ^ zP q e) ∨ (¬ (q e = true ∧ 2 ^ zP q e ≤ s) ∧ s < 2 ^ zP q e) := by
  by_cases h1 : q e = true
  · rw [zP_1 h1, Nat.pow_succ] at h
    by_cases h2 : 2 ^ zP q e ≤ s
    · exact Or.inl ⟨h1, h2, by omega⟩
    · exact Or.inr ⟨fun z => h2 z.2, by omega⟩
  · rw [zP_0 h1] at h
    exact Or.inr ⟨fun z => h1 z.1, h⟩
theorem zph_lt (q : Nat → Bool) : ∀ {e s : Nat}, s < 2 ^ zP q e → zph q e s < 2 ^ e
  | 0, _, _ => by rw [zph]; decide
  | e + 1, s, h => by
    rw [Nat.pow_succ]
    rcases zph_c h with ⟨h1, h2, h3⟩ | ⟨h1, h2⟩
    · have := zph_lt q h3
      rw [zph_1 h1 h2]
      omega
    · have := zph_lt q h2
      rw [zph_0 h1]
      omega
theorem zph_mono (q : Nat → Bool) : ∀ {e s s' : Nat}, s < s' → s' < 2 ^ zP q e → zph q e s < zph q e s'
  | 0, s, s', h, h' => by
    rw [zP] at h'
    omega
  | e + 1, s, s', h, h' => by
    rcases zph_c h' with ⟨h1, h2, h3⟩ | ⟨h1, h2⟩
    · rw [zph_1 h1 h2]
      by_cases z : 2 ^ zP q e ≤ s
      · rw [zph_1 h1 z]
        have := zph_mono q (e := e) (s := s - 2 ^ zP q e) (s' := s' - 2 ^ zP q e) (by omega) h3
        omega
      · rw [zph_0 (fun y => z y.2)]
        have := zph_lt q (e := e) (s := s) (by omega)
        omega
    · rw [zph_0 h1, zph_0 (fun y => h1 ⟨y.1, by omega⟩)]
      exact zph_mono q h h2
theorem zph_sur (q : Nat → Bool) : ∀ {e X : Nat}, X < 2 ^ e → (∀ i, X.testBit i = true → q i = true) → ∃ s, s < 2 ^ zP q e ∧ zph q e s = X
  | 0, X, h, _ => ⟨0, by rw [zP]; decide, by rw [zph]; omega⟩
  | e + 1, X, h, hb => by
    by_cases z : X < 2 ^ e
    · obtain ⟨s, s1, s2⟩ := zph_sur q z hb
      refine ⟨s, Nat.lt_of_lt_of_le s1 (Nat.pow_le_pow_right (by decide) (zP_m q (by omega))), ?_⟩
      rw [zph_0 (fun y => by omega), s2]
    · obtain ⟨Y, rfl⟩ : ∃ Y, X = 2 ^ e + Y := ⟨X - 2 ^ e, by omega⟩
      rw [Nat.pow_succ] at h
      have hY : Y < 2 ^ e := by omega
      have he : q e = true := by
        refine hb e ?_
        rw [Nat.testBit_two_pow_add_eq, Nat.testBit_lt_two_pow hY]
        rfl
      obtain ⟨s, s1, s2⟩ := zph_sur q hY (fun i hi => by
        refine hb i ?_
        rcases Nat.lt_or_ge i e with y | y
        · rw [Nat.testBit_two_pow_add_gt y]
          exact hi
        · rw [Nat.testBit_lt_two_pow (Nat.lt_of_lt_of_le hY (Nat.pow_le_pow_right (by decide) y))] at hi
          exact absurd hi (by decide))
      refine ⟨s + 2 ^ zP q e, ?_, ?_⟩
      · rw [zP_1 he, Nat.pow_succ]
        omega
      · rw [zph_1 he (by omega), Nat.add_sub_cancel, s2, Nat.add_comm]
theorem zph_bit (q : Nat → Bool) : ∀ {e s : Nat}, s < 2 ^ zP q e → ∀ i, (zph q e s).testBit i = true → i < e ∧ q i = true
  | 0, s, _, i, h => by
    rw [zph, Nat.zero_testBit] at h
    exact absurd h (by decide)
  | e + 1, s, h, i, hi => by
    rcases zph_c h with ⟨h1, h2, h3⟩ | ⟨h1, h2⟩
    · have hl := zph_lt q h3
      rw [zph_1 h1 h2, Nat.add_comm] at hi
      rcases Nat.lt_trichotomy i e with z | z | z
      · rw [Nat.testBit_two_pow_add_gt z] at hi
        exact ⟨by omega, (zph_bit q h3 i hi).2⟩
      · subst z
        exact ⟨by omega, h1⟩
      · rw [Nat.testBit_lt_two_pow (Nat.lt_of_lt_of_le (show 2 ^ e + zph q e (s - 2 ^ zP q e) < 2 ^ (e + 1) by rw [Nat.pow_succ]; omega) (Nat.pow_le_pow_right (by decide) z))] at hi
        exact absurd hi (by decide)
    · rw [zph_0 h1] at hi
      have := zph_bit q h2 i hi
      exact ⟨by omega, this.2⟩
theorem zph_le (q : Nat → Bool) : ∀ {e s : Nat}, s < 2 ^ zP q e → zph q e s ≤ zAl q e
  | 0, _, _ => by rw [zph]; exact Nat.zero_le _
  | e + 1, s, h => by
    rw [zAl]
    rcases zph_c h with ⟨h1, h2, h3⟩ | ⟨h1, h2⟩
    · have := zph_le q h3
      rw [zph_1 h1 h2, if_pos h1]
      omega
    · have := zph_le q h2
      rw [zph_0 h1]
      omega
theorem zpop_a : ∀ {k e X : Nat}, e < k → X < 2 ^ e → zpop k (X + 2 ^ e) = zpop k X + 1
  | 0, _, _, h, _ => absurd h (Nat.not_lt_zero _)
  | k + 1, 0, X, _, h => by
    have : X = 0 := by omega
    subst this
    show (0 + 2 ^ 0) % 2 + zpop k ((0 + 2 ^ 0) / 2) = 0 % 2 + zpop k (0 / 2) + 1
    rw [show (0 + 2 ^ 0) % 2 = 1 by decide, show (0 + 2 ^ 0) / 2 = 0 by decide, show 0 % 2 = 0 by decide]
    omega
  | k + 1, e + 1, X, h, hX => by
    rw [Nat.pow_succ] at hX
    have h1 := zpop_a (k := k) (e := e) (X := X / 2) (by omega) (by omega)
    show (X + 2 ^ (e + 1)) % 2 + zpop k ((X + 2 ^ (e + 1)) / 2) = X % 2 + zpop k (X / 2) + 1
    rw [Nat.pow_succ, show (X + 2 ^ e * 2) % 2 = X % 2 by omega, show (X + 2 ^ e * 2) / 2 = X / 2 + 2 ^ e by omega, h1]
    omega
theorem zpop_0 : ∀ k, zpop k 0 = 0
  | 0 => rfl
  | k + 1 => by
    show 0 % 2 + zpop k (0 / 2) = 0
    rw [show 0 / 2 = 0 by decide, zpop_0 k]
theorem zph_pop (q : Nat → Bool) : ∀ {e s : Nat}, s < 2 ^ zP q e → e ≤ 12 → zP q e ≤ 6 → zpop 12 (zph q e s) = zpop 6 s
  | 0, s, h, _, _ => by
    rw [zP] at h
    have : s = 0 := by omega
    subst this
    rw [zph, zpop_0, zpop_0]
  | e + 1, s, h, h12, h6 => by
    have hm := zP_m q (show e ≤ e + 1 by omega)
    rcases zph_c h with ⟨h1, h2, h3⟩ | ⟨h1, h2⟩
    · have hl := zph_lt q h3
      rw [zP_1 h1] at h6
      rw [zph_1 h1 h2, zpop_a (by omega) hl, zph_pop q h3 (by omega) (by omega), ← zpop_a (by omega) h3]
      congr 1
      omega
    · rw [zph_0 h1]
      exact zph_pop q h2 (by omega) (by omega)
/-- bits of ints -/
theorem zi_sub {X A : Nat} (hX : X < 2 ^ 12) (hA : A < 2 ^ 12) : (nI X &&& (nI A ^^^ (-1 : Int32)) = 0) ↔ ∀ i, X.testBit i = true → A.testBit i = true := by
  have key : ∀ i, i < 32 → (nI X &&& (nI A ^^^ (-1 : Int32))).toBitVec.getLsbD i = (X.testBit i && !A.testBit i) := fun i hi => by
    show (BitVec.ofNat 32 X &&& (BitVec.ofNat 32 A ^^^ BitVec.allOnes 32)).getLsbD i = _
    rw [BitVec.getLsbD_and, BitVec.getLsbD_xor, BitVec.getLsbD_ofNat, BitVec.getLsbD_ofNat, BitVec.getLsbD_allOnes]
    simp [hi]
  refine ⟨fun h i hi => ?_, fun h => ?_⟩
  · have hi2 : i < 32 := by
      rcases Nat.lt_or_ge i 32 with z | z
      · exact z
      · rw [Nat.testBit_lt_two_pow (Nat.lt_of_lt_of_le hX (Nat.pow_le_pow_right (by decide) (by omega)))] at hi
        exact absurd hi (by decide)
    have k := key i hi2
    rw [h, hi] at k
    have k0 : (0 : Int32).toBitVec.getLsbD i = false := by
      show (BitVec.ofNat 32 0).getLsbD i = false
      simp
    rw [k0] at k
    revert k
    cases A.testBit i <;> simp
  · refine Int32.toBitVec_inj.mp (BitVec.eq_of_getLsbD_eq fun i hi => ?_)
    rw [key i hi]
    have k0 : (0 : Int32).toBitVec.getLsbD i = false := by
      show (BitVec.ofNat 32 0).getLsbD i = false
      simp
    rw [k0]
    cases hx : X.testBit i
    · rfl
    · rw [h i hx]; rfl
theorem zi_and31 {e : Nat} (he : e < 12) : nI e &&& 31 = nI e := by
  rw [pk_andN (by omega) 5 (by decide), Nat.mod_eq_of_lt (by omega)]
theorem zi_smod {e : Nat} (he : e < 12) : ((nI e).toBitVec.smod 32).toNat = e := by
  rcases (show e = 0 ∨ e = 1 ∨ e = 2 ∨ e = 3 ∨ e = 4 ∨ e = 5 ∨ e = 6 ∨ e = 7 ∨ e = 8 ∨ e = 9 ∨ e = 10 ∨ e = 11 by omega) with rfl | rfl | rfl | rfl | rfl | rfl | rfl | rfl | rfl | rfl | rfl | rfl <;> decide
theorem zi_bit {X e : Nat} (hX : X < 2 ^ 12) (he : e < 12) : (((nI X >>> (nI e &&& 31)) &&& (1 : Int32)) = 1) = (X.testBit e = true) := by
  have h1 : X / 2 ^ e ≤ X := Nat.div_le_self _ _
  rw [zi_and31 he, pk_shrN (by omega) _ e (zi_smod he), pk_andN (by omega) 1 (by decide)]
  refine propext ?_
  rw [show (1 : Int32) = nI 1 from rfl, nI_eq (by omega) (by decide), Nat.testBit_eq_decide_div_mod_eq, decide_eq_true_iff]
theorem zi_or (X Y : Nat) : nI X ||| nI Y = nI (X ||| Y) := Int32.toBitVec_inj.mp (by
  show BitVec.ofNat 32 X ||| BitVec.ofNat 32 Y = BitVec.ofNat 32 (X ||| Y)
  rw [BitVec.ofNat_or])
theorem zi_shl {e : Nat} (he : e < 12) : (1 : Int32) <<< (nI e &&& 31) = nI (2 ^ e) := by
  have h : 2 ^ e ≤ 2 ^ 12 := Nat.pow_le_pow_right (by decide) (by omega)
  rw [zi_and31 he, show (1 : Int32) = nI 1 from rfl, pk_shlN _ e (zi_smod he) (by omega), Nat.one_mul]
theorem zi_orp {X e : Nat} (h : X < 2 ^ e) : X ||| 2 ^ e = X + 2 ^ e := by
  have h1 := Nat.two_pow_add_eq_or_of_lt h 1
  rw [Nat.mul_one] at h1
  rw [Nat.or_comm, ← h1, Nat.add_comm]
theorem zi_bc : ∀ s, s < 64 → f_J6_bitCount_0f7a4 (nI s) = some (nI (zpop 6 s)) := by decide
theorem zm_moL : ∀ (k : Nat) (X F a : Nat), X < 2 ^ k → k < F → k ≤ 12 → fL_X4_manyOf_4 F (nI a) (nI X) = some (nI (a + zpop k X)) := by
  intro k
  induction k with
  | zero =>
    intro X F a hX hF _
    have : X = 0 := by omega
    subst this
    obtain ⟨F, rfl⟩ : ∃ F', F = F' + 1 := ⟨F - 1, by omega⟩
    rw [fL_X4_manyOf_4, if_pos (show nI 0 ≤ 0 by decide)]
    rfl
  | succ k ih =>
    intro X F a hX hF h12
    obtain ⟨F, rfl⟩ : ∃ F', F = F' + 1 := ⟨F - 1, by omega⟩
    have hp : 2 ^ (k + 1) ≤ 2 ^ 12 := Nat.pow_le_pow_right (by decide) h12
    rw [fL_X4_manyOf_4]
    rcases Nat.eq_zero_or_pos X with z | z
    · subst z
      rw [if_pos (show nI 0 ≤ 0 by decide), zpop_0]
      rfl
    · rw [if_neg (nI_nle z (by omega))]
      have s1 : nI X &&& (1 : Int32) = nI (X % 2) := pk_andN (by omega) 1 (by decide)
      have s2 : nI X >>> ((1 : Int32) &&& 31) = nI (X / 2) := by
        rw [pk_shrN (by omega) _ 1 (by decide)]
      simp only [gx_lt, s1, s2, nI_add]
      rw [ih (X / 2) F (a + X % 2) (by rw [Nat.pow_succ] at hX; omega) (by omega) (by omega), Nat.add_assoc]
      rfl
theorem zm_mo {X : Nat} (h : X < 2 ^ 12) : f_X4_manyOf (nI X) = some (nI (zpop 12 X)) := by
  have h1 := zm_moL 12 X 33 0 h (by decide) (by decide)
  rw [Nat.zero_add] at h1
  exact h1
