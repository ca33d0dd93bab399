/-! ALL IS NEW: what holds between calls holds -/
def shN : List (Nat × Nat) := mmS ([] ++ [(8, 0)] ++ [(11, 400)] ++ [(6, 0)] ++ [(11, 8)] ++ [(11, 56)] ++ [(11, 8)] ++ [(11, 8)] ++ [(11, 8)] ++ [(11, 8)] ++ [(11, 64)] ++ [(4, 0)] ++ [(11, 240)] ++ [(6, 0)] ++ [(11, 8)] ++ [(11, 56)] ++ [(11, 8)] ++ [(11, 8)] ++ [(11, 8)] ++ [(11, 8)] ++ [(11, 64)] ++ [(4, 0)] ++ [(11, 240)] ++ [(6, 0)] ++ [(11, 8)] ++ [(11, 56)] ++ [(11, 8)] ++ [(11, 8)] ++ [(11, 8)] ++ [(11, 8)] ++ [(11, 64)] ++ [(4, 0)] ++ [(11, 240)] ++ [(5, 0)]) 12 ++ [(7, 0)] ++ [(11, 400)] ++ [(3, 0)] ++ [(11, 400)] ++ [(11, 12)] ++ [(11, 13)] ++ [(0, 0)] ++ [(11, 8)] ++ [(11, 8)] ++ [(11, 8)] ++ [(11, 8)] ++ [(11, 64)] ++ [(1, 0)] ++ [(11, 8)] ++ [(11, 256)] ++ [(11, 256)]
def shN2 : List (Nat × Nat) := shN ++ [(9, 0)] ++ [(11, 2118)] ++ [(11, 1269)] ++ [(11, 1269)] ++ [(11, 420)] ++ [(11, 5040)] ++ [(10, 400)] ++ [(11, 5)] ++ [(11, 400)] ++ [(11, 8)] ++ [(11, 8)] ++ [(11, 8)] ++ [(11, 8)] ++ [(11, 256)]
def I0 : Nat → Int → Int := fun _ _ => 0
def F00 : Nat → Int → Option Nat := fun _ _ => none
def IN : Nat → Int → Int := moI (bkI I0 0) 170
def FN : Nat → Int → Option Nat := moF (bkF F00 0) 170
theorem shN_eq : shN2 ++ [(13, 1)] = shB := by decide +kernel
theorem shN_len : shN.length = 170 := by decide +kernel
theorem shN2_len : shN2.length = 184 := by decide +kernel
theorem FN_fx : ∀ q ∈ fxB, FN q.1 q.2.1 = some q.2.2 := by decide +kernel
theorem FN_ok : FxOK FN := by
  intro a k b h
  unfold fxL at h
  cases e : fxB.find? (fun q => q.1 == a && q.2.1 == k) with
  | none => rw [e] at h; cases h
  | some q =>
    rw [e] at h
    have h1 := List.mem_of_find?_eq_some e
    have h2 := List.find?_some e
    have h3 := Bool.and_eq_true_iff.mp h2
    have h4 : q.1 = a := beq_iff_eq.mp h3.1
    have h5 : q.2.1 = k := beq_iff_eq.mp h3.2
    have h6 : q.2.2 = b := Option.some.inj h
    rw [← h4, ← h5, ← h6]
    exact FN_fx q h1
theorem shB_st : ∀ s ∈ [2, 12, 22, 34, 44, 54, 64, 74, 84, 94, 104, 114, 124, 134, 144], shB[s]? = some (6, 0) ∧ shB[s + 1]? = some (11, 8) ∧ shB[s + 2]? = some (11, 56) ∧ shB[s + 3]? = some (11, 8) ∧ shB[s + 4]? = some (11, 8) ∧ shB[s + 5]? = some (11, 8) ∧ shB[s + 6]? = some (11, 8) ∧ shB[s + 7]? = some (11, 64) ∧ shB[s + 8]? = some (4, 0) ∧ shB[s + 9]? = some (11, 240) ∧
  FN s 2 = some (s + 1) ∧ FN s 3 = some (s + 2) ∧ FN s 4 = some (s + 3) ∧ FN s 5 = some (s + 4) ∧ FN s 6 = some (s + 5) ∧ FN s 7 = some (s + 6) ∧ FN s 8 = some (s + 7) ∧ FN s 19 = some (s + 8) ∧ FN (s + 8) 0 = some (s + 9) := by decide +kernel
theorem FN_33 : ∀ n : Nat, n < 12 → FN 33 (n : Int) = some (34 + 10 * n) ∧ 34 + 10 * n ∈ [2, 12, 22, 34, 44, 54, 64, 74, 84, 94, 104, 114, 124, 134, 144] := by decide +kernel
theorem FN_Pl : Pl shB FN := by
  refine ⟨fun i v h => h, FN_ok, fun x x0 x1 => ?_, shB_st 2 (by decide), shB_st 12 (by decide), shB_st 22 (by decide)⟩
  obtain ⟨n, rfl⟩ := Int.eq_ofNat_of_zero_le x0
  have h := FN_33 n (by omega)
  exact ⟨h.1, shB_st _ h.2⟩
theorem zN_1 (k : Int) : IN 1 k = 0 := rfl
theorem zN_5 (k : Int) : IN 5 k = 0 := rfl
theorem zN_6 (k : Int) : IN 6 k = 0 := rfl
theorem zN_8 (k : Int) : IN 8 k = 0 := rfl
theorem zN_9 (k : Int) : IN 9 k = 0 := rfl
theorem zN_176 (k : Int) : IN 176 k = 0 := rfl
theorem eN_0 : IN 171 0 = 0 := by decide +kernel
theorem eN_10 : IN 171 10 = 0 := by decide +kernel
theorem eN_7 : IN 170 7 = 0 := by decide +kernel
theorem eN_9 : IN 170 9 = 0 := by decide +kernel
theorem eN_6 : IN 170 6 = 0 := by decide +kernel
theorem IN_Sr : Sr shB IN FN 2 (IN 171) := by
  refine ⟨⟨by decide +kernel, by decide +kernel, fun p p0 p1 => ?_, fun p q p0 p1 q0 q1 => ?_, by decide +kernel, by decide +kernel, by decide +kernel, by decide +kernel, by decide +kernel, by decide +kernel, by decide +kernel, by decide +kernel, ⟨fun x _ _ => ⟨zN_5 x, zN_6 x, zN_8 x⟩, fun p q _ _ _ _ _ => zN_9 _⟩, by decide +kernel⟩, ⟨by decide +kernel, by decide +kernel, by decide +kernel, fun ago c a0 a1 _ _ => ?_⟩, by decide +kernel, Or.inl ⟨by decide +kernel, by decide +kernel⟩⟩
  · have := eN_0; exact absurd p1 (by show ¬ p < IN 171 0; omega)
  · have := eN_0; exact absurd p1 (by show ¬ p < IN 171 0; omega)
  · have := eN_10; exact absurd a1 (by omega)
theorem IN_CR : CR shB IN FN IN := by
  refine ⟨IN_Sr, by decide +kernel, fun z => absurd z (by rw [eN_6]; decide), ⟨by decide +kernel, by rw [eN_7]; decide, by decide +kernel, fun j j0 j1 => ?_⟩, by decide +kernel, by rw [eN_9]; decide, by decide +kernel, fun k _ _ => ?_⟩
  · have := eN_7; omega
  · rw [zN_1, zN_176]; decide
theorem IN_OK : OKw 0 (IN 171) := by
  have e := eN_0
  refine ⟨⟨by decide +kernel, ⟨by decide +kernel, by decide +kernel, fun p p0 p1 => ?_⟩, ⟨Or.inl (by decide +kernel), fun z => absurd z (by decide +kernel)⟩, Or.inl (by decide +kernel), by decide +kernel, by decide +kernel⟩, by decide +kernel, by decide +kernel, by decide +kernel, fun p p0 p1 => ?_, fun p q p0 p1 _ _ => ?_, by decide +kernel⟩
  · exact absurd p1 (by show ¬ p < IN 171 0; omega)
  · exact absurd p1 (by show ¬ p < IN 171 0; omega)
  · exact absurd p1 (by show ¬ p < IN 171 0; omega)
theorem IN_MI : MI 0 IN := ⟨IN_OK, Or.inl eN_6, fun z => absurd z (by rw [eN_6]; decide), by rw [eN_7]; decide, fun j j0 j1 => by have := eN_7; omega⟩
theorem IN_INV : INV 0 (shN2 ++ [(13, 1)]) IN FN := by
  rw [shN_eq]
  exact ⟨FN_Pl, IN_CR, IN_MI, by decide +kernel⟩
