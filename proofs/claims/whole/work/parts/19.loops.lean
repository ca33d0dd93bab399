/-! LOOPS THAT COUNT UP -/
def jfold {α : Type} (f : Int → α → α) (a : α) : Nat → α
  | 0 => a
  | n + 1 => f (n : Int) (jfold f a n)
theorem jfold_0 {α : Type} (f : Int → α → α) (a : α) : jfold f a 0 = a := rfl
theorem jfold_z {α : Type} (f : Int → α → α) (a : α) {z : Int} (h : z = 0) : jfold f a z.toNat = a := by subst h; rfl
theorem jfold_s {α : Type} (f : Int → α → α) (a : α) {z : Int} (h : 0 ≤ z) : jfold f a (z + 1).toNat = f z (jfold f a z.toNat) := by
  obtain ⟨n, rfl⟩ := Int.eq_ofNat_of_zero_le h
  rw [show ((n : Int) + 1).toNat = n + 1 by omega, show ((n : Int)).toNat = n by omega]
  rfl
theorem jfold_cong {α : Type} {f g : Int → α → α} {a : α} : ∀ {n : Nat}, (∀ k : Int, 0 ≤ k → k < n → ∀ x, f k x = g k x) → jfold f a n = jfold g a n
  | 0, _ => rfl
  | n + 1, h => by
    show f n (jfold f a n) = g n (jfold g a n)
    rw [jfold_cong (fun k h0 h1 => h k h0 (by omega)), h n (by omega) (by omega)]
theorem jfold_ind {α : Type} {f : Int → α → α} {a : α} (P : Int → α → Prop) (h0 : P 0 a) {n : Nat} (hs : ∀ (k : Int) x, 0 ≤ k → k < n → P k x → P (k + 1) (f k x)) : P n (jfold f a n) := by
  induction n with
  | zero => exact h0
  | succ n ih =>
    have := hs n _ (by omega) (by omega) (ih (fun k x h1 h2 h3 => hs k x h1 (by omega) h3))
    exact this
/-- a relation of two folds -/
theorem jfold_rel {α β : Type} {f : Int → α → α} {g : Int → β → β} {a : α} {b : β} (P : Int → α → β → Prop) (h0 : P 0 a b) {n : Nat} (hs : ∀ (k : Int) x y, 0 ≤ k → k < n → P k x y → P (k + 1) (f k x) (g k y)) : P n (jfold f a n) (jfold g b n) := by
  induction n with
  | zero => exact h0
  | succ n ih =>
    have := hs n _ _ (by omega) (by omega) (ih (fun k x y h1 h2 h3 => hs k x y h1 (by omega) h3))
    exact this
/-- sums -/
def jsum (f : Int → Int) (n : Nat) : Int := jfold (fun k a => a + f k) 0 n
theorem jsum_le {f : Int → Int} {n : Nat} {c : Int} (h : ∀ k : Int, 0 ≤ k → k < n → 0 ≤ f k ∧ f k ≤ c) : 0 ≤ jsum f n ∧ jsum f n ≤ n * c := by
  have := jfold_ind (f := fun k a => a + f k) (a := 0) (fun k a => 0 ≤ a ∧ a ≤ k * c) (by simp) (n := n) (fun k x h0 h1 q => by
    have := h k h0 h1
    refine ⟨by omega, ?_⟩
    rw [Int.add_mul, Int.one_mul]
    omega)
  exact this
/-- a loop from 0 to N, its state by a fold -/
theorem jW_loop {α : Type} {G : jzG} {M : jzM} {d : Nat} {Q : jzO → jzH → Prop} {rc rs : Nat} (head : Nat) (P : Int → α → Prop) (f : Int → α → α) (a0 : α) (N : Int) (Lf : Int → α → List (Option jzV)) (Hf : Int → α → jzH) (hN : 0 ≤ N) (h0 : P 0 a0) (hs : ∀ z a, 0 ≤ z → z < N → P z a → P (z + 1) (f z a))
    (hexit : ∀ a, a = jfold f a0 N.toNat → P N a → jW G M d Q head (Lf N a) [] (Hf N a) rc rs)
    (hstep : ∀ z a, 0 ≤ z → z < N → P z a → jW G M d Q head (Lf (z + 1) (f z a)) [] (Hf (z + 1) (f z a)) rc rs → jW G M d Q head (Lf z a) [] (Hf z a) rc rs) : jW G M d Q head (Lf 0 a0) [] (Hf 0 a0) rc rs := by
  have key : ∀ (n : Nat) (z : Int) (a : α), 0 ≤ z → z + n = N → P z a → a = jfold f a0 z.toNat → jW G M d Q head (Lf z a) [] (Hf z a) rc rs := by
    intro n
    induction n with
    | zero =>
      intro z a hz hn hP ha
      have e : z = N := by omega
      subst e
      exact hexit a ha hP
    | succ n ih =>
      intro z a hz hn hP ha
      exact hstep z a hz (by omega) hP (ih (z + 1) _ (by omega) (by omega) (hs z a hz (by omega) hP) (by rw [jfold_s _ _ hz, ← ha]))
  exact key N.toNat 0 a0 (by omega) (by omega) h0 rfl
theorem ite0 {P : Prop} [Decidable P] : (if P then (1 : Int) else 0) = 0 ↔ ¬ P := by split <;> simp [*]
theorem ite1 {P : Prop} [Decidable P] : (if P then (1 : Int) else 0) = 1 ↔ P := by split <;> simp [*]
