/-! BITS OF SMALL WHOLE NUMBERS -/
theorem jnn {n : Nat} : Int32.ofInt (n : Int) = nI n := Int32.ofInt_eq_ofNat
theorem jOr_nat {a b : Nat} (ha : a < 2 ^ 31) (hb : b < 2 ^ 31) : jOr (a : Int) (b : Int) = ((a ||| b : Nat) : Int) := by
  unfold jOr
  rw [jnn, jnn, fa_or, nI_toInt (Nat.or_lt_two_pow ha hb)]
theorem jAnd_nat {a b : Nat} (ha : a < 2 ^ 31) : jAnd (a : Int) (b : Int) = ((a &&& b : Nat) : Int) := by
  unfold jAnd
  rw [jnn, jnn, fa_and, nI_toInt (Nat.lt_of_le_of_lt Nat.and_le_left ha)]
theorem jShl_nat {q : Nat} (hq : q < 31) : jShl 1 (q : Int) = ((2 ^ q : Nat) : Int) := by
  unfold jShl
  rw [show (Int32.ofInt 1) = nI 1 from rfl, jnn, pk_shlN (n := 1) (nI q &&& 31) q (s_l q (by omega)) (by rw [Nat.one_mul]; exact Nat.lt_trans (Nat.pow_lt_pow_right (by decide) hq) (by decide)), Nat.one_mul, nI_toInt (Nat.pow_lt_pow_right (by decide) hq)]
theorem jShr_nat {a q : Nat} (ha : a < 2 ^ 31) (hq : q < 31) : jShr (a : Int) (q : Int) = ((a / 2 ^ q : Nat) : Int) := by
  unfold jShr
  rw [jnn, jnn, pk_shrN ha (nI q &&& 31) q (s_l q (by omega)), nI_toInt (Nat.lt_of_le_of_lt (Nat.div_le_self _ _) ha)]
theorem jbit_nat {a q : Nat} (ha : a < 2 ^ 31) (hq : q < 31) : jbit (a : Int) (q : Int) ↔ a.testBit q = true := by
  have h1 : a / 2 ^ q < 2 ^ 31 := Nat.lt_of_le_of_lt (Nat.div_le_self _ _) ha
  have e : jAnd (jShr (a : Int) (q : Int)) 1 = ((a / 2 ^ q % 2 : Nat) : Int) := by
    rw [jShr_nat ha hq, show (1 : Int) = ((1 : Nat) : Int) from rfl, jAnd_nat h1, Nat.and_one_is_mod]
  show jAnd _ _ = 1 ↔ _
  rw [e, Nat.testBit_eq_decide_div_mod_eq, decide_eq_true_eq]
  omega
/-- a set within the first 8 -/
theorem jOr_set {a b : Int} (ha : 0 ≤ a ∧ a < 256) (hb : 0 ≤ b ∧ b < 256) : (0 ≤ jOr a b ∧ jOr a b < 256) ∧ a ≤ jOr a b ∧ ∀ p : Int, 0 ≤ p → p < 31 → (jbit (jOr a b) p ↔ jbit a p ∨ jbit b p) := by
  obtain ⟨m, rfl⟩ := Int.eq_ofNat_of_zero_le ha.1
  obtain ⟨n, rfl⟩ := Int.eq_ofNat_of_zero_le hb.1
  have h1 : m < 2 ^ 8 := by omega
  have h2 : n < 2 ^ 8 := by omega
  have h3 : m ||| n < 2 ^ 8 := Nat.or_lt_two_pow h1 h2
  rw [jOr_nat (by omega) (by omega)]
  refine ⟨⟨by omega, by omega⟩, by have : m ≤ m ||| n := Nat.left_le_or; omega, fun p hp0 hp1 => ?_⟩
  obtain ⟨q, rfl⟩ := Int.eq_ofNat_of_zero_le hp0
  rw [jbit_nat (by omega) (by omega), jbit_nat (by omega) (by omega), jbit_nat (by omega) (by omega), Nat.testBit_or, Bool.or_eq_true]
theorem jShl_set {p : Int} (h0 : 0 ≤ p) (h1 : p < 8) : (0 < jShl 1 p ∧ jShl 1 p < 256) ∧ ∀ q : Int, 0 ≤ q → q < 31 → (jbit (jShl 1 p) q ↔ q = p) := by
  obtain ⟨n, rfl⟩ := Int.eq_ofNat_of_zero_le h0
  have e : 2 ^ n < 2 ^ 8 := Nat.pow_lt_pow_right (by decide) (by omega)
  have e0 : 0 < 2 ^ n := Nat.pow_pos (by decide)
  rw [jShl_nat (by omega)]
  refine ⟨⟨by omega, by omega⟩, fun q hq0 hq1 => ?_⟩
  obtain ⟨k, rfl⟩ := Int.eq_ofNat_of_zero_le hq0
  rw [jbit_nat (by omega) (by omega), Nat.testBit_two_pow, decide_eq_true_eq]
  omega
theorem jbit_0 {p : Int} (h0 : 0 ≤ p) (h1 : p < 31) : ¬ jbit 0 p := by
  obtain ⟨q, rfl⟩ := Int.eq_ofNat_of_zero_le h0
  rw [show (0 : Int) = ((0 : Nat) : Int) from rfl, jbit_nat (by decide) (by omega), Nat.zero_testBit]
  decide
/-- sets are known by their bits -/
theorem jset_ext {a b : Int} (ha : 0 ≤ a ∧ a < 256) (hb : 0 ≤ b ∧ b < 256) (h : ∀ p : Int, 0 ≤ p → p < 8 → (jbit a p ↔ jbit b p)) : a = b := by
  obtain ⟨m, rfl⟩ := Int.eq_ofNat_of_zero_le ha.1
  obtain ⟨n, rfl⟩ := Int.eq_ofNat_of_zero_le hb.1
  have : m = n := by
    apply Nat.eq_of_testBit_eq
    intro i
    by_cases hi : i < 8
    · have := h (i : Int) (by omega) (by omega)
      rw [jbit_nat (by omega) (by omega), jbit_nat (by omega) (by omega)] at this
      cases h1 : m.testBit i <;> cases h2 : n.testBit i <;> simp_all
    · rw [Nat.testBit_lt_two_pow (x := m) (Nat.lt_of_lt_of_le (show m < 2 ^ 8 by omega) (Nat.pow_le_pow_right (by decide) (by omega))), Nat.testBit_lt_two_pow (x := n) (Nat.lt_of_lt_of_le (show n < 2 ^ 8 by omega) (Nat.pow_le_pow_right (by decide) (by omega)))]
  rw [this]
theorem jAnd_set {a b : Int} (ha : 0 ≤ a ∧ a < 256) (hb : 0 ≤ b ∧ b < 2147483648) : (0 ≤ jAnd a b ∧ jAnd a b ≤ a) ∧ ∀ p : Int, 0 ≤ p → p < 31 → (jbit (jAnd a b) p ↔ jbit a p ∧ jbit b p) := by
  obtain ⟨m, rfl⟩ := Int.eq_ofNat_of_zero_le ha.1
  obtain ⟨n, rfl⟩ := Int.eq_ofNat_of_zero_le hb.1
  have h3 : m &&& n ≤ m := Nat.and_le_left
  rw [jAnd_nat (by omega)]
  refine ⟨⟨by omega, by omega⟩, fun p hp0 hp1 => ?_⟩
  obtain ⟨q, rfl⟩ := Int.eq_ofNat_of_zero_le hp0
  rw [jbit_nat (by omega) (by omega), jbit_nat (by omega) (by omega), jbit_nat (by omega) (by omega), Nat.testBit_and, Bool.and_eq_true]
theorem mAlive_set {w : Int → Int} (hP : 0 ≤ aPe w ∧ aPe w ≤ 8) : (0 ≤ mAlive w ∧ mAlive w < 256) ∧ ∀ p : Int, 0 ≤ p → p < 31 → (jbit (mAlive w) p ↔ p < aPe w ∧ aOf w p 3 = 0) := by
  have := jfold_ind (f := fun p a => jOr a (if aOf w p 3 = 0 then jShl 1 p else 0)) (a := 0) (fun k a => (0 ≤ a ∧ a < 256) ∧ ∀ p : Int, 0 ≤ p → p < 31 → (jbit a p ↔ p < k ∧ aOf w p 3 = 0)) ⟨by decide, fun p h0 h1 => ⟨fun q => absurd q (jbit_0 h0 h1), fun q => by omega⟩⟩ (n := (aPe w).toNat) (fun k x h0 h1 q => by
    have hx : 0 ≤ (if aOf w k 3 = 0 then jShl 1 k else 0) ∧ (if aOf w k 3 = 0 then jShl 1 k else 0) < 256 := by
      have := (jShl_set h0 (by omega)).1
      split <;> omega
    have h2 := jOr_set q.1 hx
    refine ⟨h2.1, fun p hp0 hp1 => ?_⟩
    rw [h2.2.2 p hp0 hp1, q.2 p hp0 hp1]
    by_cases e : aOf w k 3 = 0
    · rw [if_pos e, (jShl_set h0 (by omega)).2 p hp0 hp1]
      constructor
      · rintro (⟨a, b⟩ | rfl)
        · exact ⟨by omega, b⟩
        · exact ⟨by omega, e⟩
      · rintro ⟨a, b⟩
        by_cases e2 : p = k
        · exact Or.inr e2
        · exact Or.inl ⟨by omega, b⟩
    · rw [if_neg e]
      constructor
      · rintro (⟨a, b⟩ | b)
        · exact ⟨by omega, b⟩
        · exact absurd b (jbit_0 hp0 hp1)
      · rintro ⟨a, b⟩
        by_cases e2 : p = k
        · subst e2; exact absurd b e
        · exact Or.inl ⟨by omega, b⟩)
  rw [show (((aPe w).toNat : Nat) : Int) = aPe w by omega] at this
  exact this
