/-! ints of bit rows lie in their bounds -/
theorem jAnd_in (a b : Int) : jin (jAnd a b) := jn_rng _
theorem jOr_in (a b : Int) : jin (jOr a b) := jn_rng _
theorem jXor_in (a b : Int) : jin (jXor a b) := jn_rng _
theorem jShl_in (a b : Int) : jin (jShl a b) := jn_rng _
theorem jShr_in (a b : Int) : jin (jShr a b) := jn_rng _
theorem jUshr_in (a b : Int) : jin (jUshr a b) := jn_rng _
theorem jDiv_in (a b : Int) : jin (jDiv a b) := jn_rng _
theorem jRem_in (a b : Int) : jin (jRem a b) := jn_rng _
section Rows5
variable {G : jzG} {M : jzM} {d pc rc rs : Nat} {Q : jzO → jzH → Prop} {L : List (Option jzV)} {S : List jzV} {h : jzH}
theorem r_iand {a b : Int} (hd : decode M.2.1 pc = .ok (.iand, 1)) (k : jin (jAnd a b) → jW G M d Q (pc + 1) L (jI (jAnd a b) :: S) h rc rs) : jW G M d Q pc L (jI b :: jI a :: S) h rc rs := j_iand hd (k (jAnd_in a b))
theorem r_ior {a b : Int} (hd : decode M.2.1 pc = .ok (.ior, 1)) (k : jin (jOr a b) → jW G M d Q (pc + 1) L (jI (jOr a b) :: S) h rc rs) : jW G M d Q pc L (jI b :: jI a :: S) h rc rs := j_ior hd (k (jOr_in a b))
theorem r_ixor {a b : Int} (hd : decode M.2.1 pc = .ok (.ixor, 1)) (k : jin (jXor a b) → jW G M d Q (pc + 1) L (jI (jXor a b) :: S) h rc rs) : jW G M d Q pc L (jI b :: jI a :: S) h rc rs := j_ixor hd (k (jXor_in a b))
theorem r_ishl {a b : Int} (hd : decode M.2.1 pc = .ok (.ishl, 1)) (k : jin (jShl a b) → jW G M d Q (pc + 1) L (jI (jShl a b) :: S) h rc rs) : jW G M d Q pc L (jI b :: jI a :: S) h rc rs := j_ishl hd (k (jShl_in a b))
theorem r_ishr {a b : Int} (hd : decode M.2.1 pc = .ok (.ishr, 1)) (k : jin (jShr a b) → jW G M d Q (pc + 1) L (jI (jShr a b) :: S) h rc rs) : jW G M d Q pc L (jI b :: jI a :: S) h rc rs := j_ishr hd (k (jShr_in a b))
theorem r_iushr {a b : Int} (hd : decode M.2.1 pc = .ok (.iushr, 1)) (k : jin (jUshr a b) → jW G M d Q (pc + 1) L (jI (jUshr a b) :: S) h rc rs) : jW G M d Q pc L (jI b :: jI a :: S) h rc rs := j_iushr hd (k (jUshr_in a b))
/-- division and remainder of whole numbers, as Int has them -/
theorem jDiv_nn {a b : Int} (h0 : 0 ≤ a) (h1 : a < 2147483648) (h2 : 0 < b) (h3 : b < 2147483648) : jDiv a b = a / b := by
  obtain ⟨n, rfl⟩ := Int.eq_ofNat_of_zero_le h0
  obtain ⟨m, rfl⟩ := Int.eq_ofNat_of_zero_le (Int.le_of_lt h2)
  unfold jDiv
  rw [Int32.ofInt_eq_ofNat, Int32.ofInt_eq_ofNat]
  show (nI n / nI m).toInt = _
  rw [pk_div (by omega) (by omega) (by omega), nI_toInt (Nat.lt_of_le_of_lt (Nat.div_le_self n m) (by omega))]
  exact Int.natCast_ediv n m
theorem jRem_nn {a b : Int} (h0 : 0 ≤ a) (h1 : a < 2147483648) (h2 : 0 < b) (h3 : b < 2147483648) : jRem a b = a % b := by
  obtain ⟨n, rfl⟩ := Int.eq_ofNat_of_zero_le h0
  obtain ⟨m, rfl⟩ := Int.eq_ofNat_of_zero_le (Int.le_of_lt h2)
  unfold jRem
  rw [Int32.ofInt_eq_ofNat, Int32.ofInt_eq_ofNat]
  show (nI n - nI n / nI m * nI m).toInt = _
  rw [pk_rem (by omega) (by omega) (by omega), nI_toInt (Nat.lt_of_lt_of_le (Nat.mod_lt n (by omega)) (by omega))]
  exact Int.natCast_emod n m
theorem r_idivN {a b : Int} (hd : decode M.2.1 pc = .ok (.idiv, 1)) (h0 : 0 ≤ a ∧ a < 2147483648) (h2 : 0 < b ∧ b < 2147483648) (k : jW G M d Q (pc + 1) L (jI (a / b) :: S) h rc rs) : jW G M d Q pc L (jI b :: jI a :: S) h rc rs := j_idiv hd ⟨by omega, by omega⟩ (by omega) (by rw [jDiv_nn h0.1 h0.2 h2.1 h2.2]; exact k)
theorem r_iremN {a b : Int} (hd : decode M.2.1 pc = .ok (.irem, 1)) (h0 : 0 ≤ a ∧ a < 2147483648) (h2 : 0 < b ∧ b < 2147483648) (k : jW G M d Q (pc + 1) L (jI (a % b) :: S) h rc rs) : jW G M d Q pc L (jI b :: jI a :: S) h rc rs := j_irem hd ⟨by omega, by omega⟩ (by omega) (by rw [jRem_nn h0.1 h0.2 h2.1 h2.2]; exact k)
end Rows5
theorem jin_lit0 : jin 0 := ⟨by decide, by decide⟩
/-- a bit of a set -/
abbrev jbit (w p : Int) : Prop := jAnd (jShr w p) 1 = 1
