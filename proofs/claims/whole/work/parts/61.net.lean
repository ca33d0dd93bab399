/-! WHAT IS OWED IS NETTED: SUMS -/
def ksum (g : Int → Int) (n : Nat) : Int := jfold (fun p a => a + g p) 0 n
theorem ksum_s (g : Int → Int) (n : Nat) : ksum g (n + 1) = ksum g n + g n := rfl
theorem ksum_0 (g : Int → Int) : ksum g 0 = 0 := rfl
theorem ksum_cong {f g : Int → Int} {n : Nat} (h : ∀ k : Int, 0 ≤ k → k < n → f k = g k) : ksum f n = ksum g n := jfold_cong (fun k h0 h1 x => by rw [h k h0 h1])
theorem ksum_add (f g : Int → Int) (n : Nat) : ksum (fun p => f p + g p) n = ksum f n + ksum g n := by
  induction n with
  | zero => rfl
  | succ n ih => rw [ksum_s, ksum_s, ksum_s, ih]; omega
theorem ksum_sub (f g : Int → Int) (n : Nat) : ksum (fun p => f p - g p) n = ksum f n - ksum g n := by
  induction n with
  | zero => rfl
  | succ n ih => rw [ksum_s, ksum_s, ksum_s, ih]; omega
theorem ksum_le {f g : Int → Int} {n : Nat} (h : ∀ k : Int, 0 ≤ k → k < n → f k ≤ g k) : ksum f n ≤ ksum g n := by
  induction n with
  | zero => exact Int.le_refl _
  | succ n ih =>
    have h1 := ih (fun k k0 k1 => h k k0 (by omega))
    have h2 := h n (by omega) (by omega)
    rw [ksum_s, ksum_s]; omega
theorem ksum_z (n : Nat) : ksum (fun _ => 0) n = 0 := by
  induction n with
  | zero => rfl
  | succ n ih => rw [ksum_s, ih]; rfl
theorem ksum_nn {f : Int → Int} {n : Nat} (h : ∀ k : Int, 0 ≤ k → k < n → 0 ≤ f k) : 0 ≤ ksum f n := by
  have := ksum_le (f := fun _ => 0) (g := f) h
  rw [ksum_z] at this
  exact this
theorem ksum_one {f : Int → Int} {n : Nat} (h : ∀ k : Int, 0 ≤ k → k < n → 0 ≤ f k) {j : Int} (h0 : 0 ≤ j) (h1 : j < n) : f j ≤ ksum f n := by
  induction n with
  | zero => omega
  | succ n ih =>
    rw [ksum_s]
    by_cases e : j = n
    · subst e
      have := ksum_nn (f := f) (n := n) (fun k k0 k1 => h k k0 (by omega))
      omega
    · have h2 := ih (fun k k0 k1 => h k k0 (by omega)) (by omega)
      have h3 := h n (by omega) (by omega)
      omega
theorem ksum_up {f : Int → Int} {n : Nat} {j v : Int} (h0 : 0 ≤ j) (h1 : j < n) : ksum (wup f j v) n = ksum f n - f j + v := by
  induction n with
  | zero => omega
  | succ n ih =>
    rw [ksum_s, ksum_s]
    by_cases e : j = n
    · subst e
      rw [wup_same, ksum_cong (g := f) (fun k k0 k1 => wup_ne _ _ (by omega))]
      omega
    · rw [ih (by omega), wup_ne _ _ (by omega)]
      omega
theorem ksum_swap (g : Int → Int → Int) (m : Nat) : ∀ n : Nat, ksum (fun p => ksum (fun q => g p q) m) n = ksum (fun q => ksum (fun p => g p q) n) m := by
  intro n
  induction n with
  | zero => exact (ksum_z m).symm
  | succ n ih =>
    rw [ksum_s, ih]
    have := ksum_add (fun q => ksum (fun p => g p q) n) (fun q => g n q) m
    exact this.symm
theorem wup_map (h : Int → Int) (f : Int → Int) (j v : Int) : (fun p => h (wup f j v p)) = wup (fun p => h (f p)) j (h v) := by
  funext p
  unfold wup
  split <;> rfl
/-! ### the nets -/
abbrev nInd (x : Int) : Int := if x = 0 then 0 else 1
def nFrom (N : Int → Int) (m : Nat) : Int := jfold (fun e a => if N (e + 1) < N a then e + 1 else a) 0 m
def nTo (N : Int → Int) (m : Nat) : Int := jfold (fun e a => if N a < N (e + 1) then e + 1 else a) 0 m
theorem nFrom_ok (N : Int → Int) (m : Nat) : (0 ≤ nFrom N m ∧ nFrom N m ≤ m) ∧ ∀ k : Int, 0 ≤ k → k ≤ m → N (nFrom N m) ≤ N k := by
  have := jfold_ind (f := fun e a => if N (e + 1) < N a then e + 1 else a) (a := (0 : Int)) (fun z a => (0 ≤ a ∧ a ≤ z) ∧ ∀ k, 0 ≤ k → k ≤ z → N a ≤ N k) ⟨by omega, fun k k0 k1 => by rw [show k = 0 by omega]; exact Int.le_refl _⟩ (n := m) (fun z a z0 z1 ih => by
    by_cases e : N (z + 1) < N a
    · rw [if_pos e]
      refine ⟨by omega, fun k k0 k1 => ?_⟩
      by_cases e2 : k = z + 1
      · subst e2; exact Int.le_refl _
      · have := ih.2 k k0 (by omega); omega
    · rw [if_neg e]
      refine ⟨by omega, fun k k0 k1 => ?_⟩
      by_cases e2 : k = z + 1
      · subst e2; omega
      · exact ih.2 k k0 (by omega))
  exact this
theorem nTo_ok (N : Int → Int) (m : Nat) : (0 ≤ nTo N m ∧ nTo N m ≤ m) ∧ ∀ k : Int, 0 ≤ k → k ≤ m → N k ≤ N (nTo N m) := by
  have := jfold_ind (f := fun e a => if N a < N (e + 1) then e + 1 else a) (a := (0 : Int)) (fun z a => (0 ≤ a ∧ a ≤ z) ∧ ∀ k, 0 ≤ k → k ≤ z → N k ≤ N a) ⟨by omega, fun k k0 k1 => by rw [show k = 0 by omega]; exact Int.le_refl _⟩ (n := m) (fun z a z0 z1 ih => by
    by_cases e : N a < N (z + 1)
    · rw [if_pos e]
      refine ⟨by omega, fun k k0 k1 => ?_⟩
      by_cases e2 : k = z + 1
      · subst e2; exact Int.le_refl _
      · have := ih.2 k k0 (by omega); omega
    · rw [if_neg e]
      refine ⟨by omega, fun k k0 k1 => ?_⟩
      by_cases e2 : k = z + 1
      · subst e2; omega
      · exact ih.2 k k0 (by omega))
  exact this
abbrev nPay (N : Int → Int) (m : Nat) : Int := min (-(N (nFrom N m))) (N (nTo N m))
/-- nets and rows; m + 1 are there -/
abbrev nS : Type := (Int → Int) × (Int → Int)
def nStep (m : Nat) (S : nS) : nS := (wup (wup S.1 (nFrom S.1 m) (S.1 (nFrom S.1 m) + nPay S.1 m)) (nTo S.1 m) (S.1 (nTo S.1 m) - nPay S.1 m), wup S.2 (116 + 8 * nFrom S.1 m + nTo S.1 m) (nPay S.1 m))
def nIt (m : Nat) (S : nS) (k : Nat) : nS := jfold (fun _ S => nStep m S) S k
theorem nIt_s (m : Nat) (S : nS) {z : Int} (h : 0 ≤ z) : nIt m S (z + 1).toNat = nStep m (nIt m S z.toNat) := jfold_s _ _ h
noncomputable def nK (m : Nat) (S : nS) : Int := jfirst (fun k => nPay (nIt m S k.toNat).1 m ≤ 0) 9
/-- what the nets keep to: c is what all of them may come to -/
def nOK (m : Nat) (c : Int) (N : Int → Int) : Prop := ksum N (m + 1) = 0 ∧ ksum (fun p => max 0 (N p)) (m + 1) ≤ c
theorem nOK_in {m : Nat} {c : Int} {N : Int → Int} (h : nOK m c N) : ∀ p : Int, 0 ≤ p → p ≤ m → -c ≤ N p ∧ N p ≤ c := by
  intro p p0 p1
  have h1 := ksum_one (f := fun p => max 0 (N p)) (n := m + 1) (fun k _ _ => by show 0 ≤ max 0 (N k); omega) p0 (by omega)
  have e : ksum (fun p => max 0 (-(N p))) (m + 1) = ksum (fun p => max 0 (N p)) (m + 1) - ksum N (m + 1) := by
    rw [← ksum_sub]
    exact ksum_cong (fun k k0 k1 => by show max 0 (-(N k)) = max 0 (N k) - N k; omega)
  have h2 := ksum_one (f := fun p => max 0 (-(N p))) (n := m + 1) (fun k _ _ => by show 0 ≤ max 0 (-(N k)); omega) p0 (by omega)
  have h3 : max 0 (N p) ≤ ksum (fun p => max 0 (N p)) (m + 1) := h1
  have h4 : max 0 (-(N p)) ≤ ksum (fun p => max 0 (-(N p))) (m + 1) := h2
  have h5 := h.1
  have h6 := h.2
  omega
theorem nPay_iff {m : Nat} {c : Int} {N : Int → Int} (h : nOK m c N) : nPay N m ≤ 0 ↔ N (nTo N m) ≤ 0 := by
  constructor
  · intro hp
    by_cases e : N (nTo N m) ≤ 0
    · exact e
    · have hf : 0 ≤ N (nFrom N m) := by
        have : min (-(N (nFrom N m))) (N (nTo N m)) ≤ 0 := hp
        omega
      have ha := (nFrom_ok N m).2
      have ht := (nTo_ok N m).1
      have := ksum_one (f := N) (n := m + 1) (fun k k0 k1 => Int.le_trans hf (ha k k0 (by omega))) ht.1 (by omega)
      have h5 := h.1
      omega
  · intro ht
    show min (-(N (nFrom N m))) (N (nTo N m)) ≤ 0
    omega
theorem nStep_ok {m : Nat} {c : Int} {S : nS} (h : nOK m c S.1) (hp : 0 < nPay S.1 m) : nOK m (c - nPay S.1 m) (nStep m S).1 ∧ ksum (fun p => nInd ((nStep m S).1 p)) (m + 1) + 1 ≤ ksum (fun p => nInd (S.1 p)) (m + 1) := by
  obtain ⟨N, v⟩ := S
  have hf := (nFrom_ok N m).1
  have ht := (nTo_ok N m).1
  have hp1 : 0 < min (-(N (nFrom N m))) (N (nTo N m)) := hp
  have hne : nTo N m ≠ nFrom N m := fun e => by rw [e] at hp1; omega
  show nOK m (c - nPay N m) (wup (wup N (nFrom N m) (N (nFrom N m) + nPay N m)) (nTo N m) (N (nTo N m) - nPay N m)) ∧ ksum (fun p => nInd (wup (wup N (nFrom N m) (N (nFrom N m) + nPay N m)) (nTo N m) (N (nTo N m) - nPay N m) p)) (m + 1) + 1 ≤ ksum (fun p => nInd (N p)) (m + 1)
  have hP : nPay N m = min (-(N (nFrom N m))) (N (nTo N m)) := rfl
  generalize nPay N m = y at *
  generalize hF : nFrom N m = i at *
  generalize hT : nTo N m = j at *
  obtain ⟨h1, h2⟩ := h
  refine ⟨⟨?_, ?_⟩, ?_⟩
  · rw [ksum_up ht.1 (by omega), ksum_up hf.1 (by omega), wup_ne _ _ hne]
    have : ksum N (m + 1) = 0 := h1
    omega
  · rw [wup_map (fun x => max 0 x), wup_map (fun x => max 0 x), ksum_up ht.1 (by omega), ksum_up hf.1 (by omega), wup_ne _ _ hne]
    have : ksum (fun p => max 0 (N p)) (m + 1) ≤ c := h2
    show _ - max 0 (N i) + max 0 (N i + y) - max 0 (N j) + max 0 (N j - y) ≤ c - y
    omega
  · rw [wup_map nInd, wup_map nInd, ksum_up ht.1 (by omega), ksum_up hf.1 (by omega), wup_ne _ _ hne]
    show ksum (fun p => nInd (N p)) (m + 1) - nInd (N i) + nInd (N i + y) - nInd (N j) + nInd (N j - y) + 1 ≤ _
    unfold nInd
    rw [if_neg (show ¬ N i = 0 by omega), if_neg (show ¬ N j = 0 by omega)]
    split <;> split <;> omega
/-- as long as payments are made the nets shrink -/
theorem nIt_ok {m : Nat} (hm : m ≤ 7) {c : Int} {S : nS} (h : nOK m c S.1) : ∀ k : Nat, (∀ j : Nat, j < k → 0 < nPay (nIt m S j).1 m) → nOK m c (nIt m S k).1 ∧ ksum (fun p => nInd ((nIt m S k).1 p)) (m + 1) + k ≤ m + 1 := by
  intro k
  induction k with
  | zero =>
    intro _
    refine ⟨h, ?_⟩
    have h1 := ksum_le (f := fun p => nInd (S.1 p)) (g := fun _ => 1) (n := m + 1) (fun k k0 k1 => by show nInd (S.1 k) ≤ 1; unfold nInd; split <;> omega)
    have h2 : ∀ n : Nat, ksum (fun _ => 1) n = n := by
      intro n
      induction n with
      | zero => rfl
      | succ n ih => rw [ksum_s, ih]; omega
    rw [h2] at h1
    show ksum (fun p => nInd (S.1 p)) (m + 1) + ((0 : Nat) : Int) ≤ m + 1
    omega
  | succ k ih =>
    intro hj
    obtain ⟨i1, i2⟩ := ih (fun j hj2 => hj j (by omega))
    have hp := hj k (by omega)
    have := nStep_ok i1 hp
    refine ⟨⟨this.1.1, Int.le_trans this.1.2 (by omega)⟩, ?_⟩
    show ksum (fun p => nInd ((nStep m (nIt m S k)).1 p)) (m + 1) + ((k + 1 : Nat) : Int) ≤ m + 1
    have := this.2
    omega
theorem nK_ok {m : Nat} (hm : m ≤ 7) {c : Int} {S : nS} (h : nOK m c S.1) : (0 ≤ nK m S ∧ nK m S ≤ 8) ∧ nPay (nIt m S (nK m S).toNat).1 m ≤ 0 ∧ ∀ j : Nat, (j : Int) < nK m S → 0 < nPay (nIt m S j).1 m := by
  have hex : ∃ k : Int, (0 ≤ k ∧ k ≤ 8) ∧ nPay (nIt m S k.toNat).1 m ≤ 0 ∧ ∀ j, 0 ≤ j → j < k → ¬ nPay (nIt m S j.toNat).1 m ≤ 0 := by
    have key : ∀ n : Nat, n ≤ 9 → (∃ k : Int, (0 ≤ k ∧ k < n) ∧ nPay (nIt m S k.toNat).1 m ≤ 0 ∧ ∀ j, 0 ≤ j → j < k → ¬ nPay (nIt m S j.toNat).1 m ≤ 0) ∨ ∀ j : Nat, j < n → 0 < nPay (nIt m S j).1 m := by
      intro n
      induction n with
      | zero => intro _; exact Or.inr (fun j hj => by omega)
      | succ n ih =>
        intro hn
        rcases ih (by omega) with ⟨k, h1, h2, h3⟩ | h1
        · exact Or.inl ⟨k, by omega, h2, h3⟩
        · by_cases e : nPay (nIt m S n).1 m ≤ 0
          · refine Or.inl ⟨n, by omega, e, fun j j0 j1 => ?_⟩
            have := h1 j.toNat (by omega)
            omega
          · refine Or.inr (fun j hj => ?_)
            by_cases e2 : j = n
            · subst e2; omega
            · exact h1 j (by omega)
    rcases key 9 (by omega) with ⟨k, h1, h2, h3⟩ | h1
    · exact ⟨k, by omega, h2, h3⟩
    · have h2 := (nIt_ok hm h 9 h1).2
      have h3 := ksum_nn (f := fun p => nInd ((nIt m S 9).1 p)) (n := m + 1) (fun k _ _ => by show 0 ≤ nInd _; unfold nInd; split <;> omega)
      omega
  obtain ⟨k, h1, h2, h3⟩ := hex
  have hk : nK m S = k := jfirst_hit (P := fun k => nPay (nIt m S k.toNat).1 m ≤ 0) h1.1 (by omega) h2 h3
  rw [hk]
  refine ⟨h1, h2, fun j hj => ?_⟩
  have := h3 j (by omega) hj
  rw [show ((j : Int)).toNat = j by omega] at this
  omega
/-! ### the rows -/
def mZer (w : Int → Int) (z : Int) : Int → Int := fun k => if 116 ≤ k ∧ k < 116 + z then 0 else w k
def nN (w : Int → Int) : Int → Int := fun p => mNet w p
theorem mTot_sum (w : Int → Int) : mTot w = ksum (fun p => ksum (fun q => aOw w p q) (aPe w).toNat) (aPe w).toNat := rfl
theorem mNet_sum (w : Int → Int) (p : Int) : mNet w p = ksum (fun q => aOw w q p - aOw w p q) (aPe w).toNat := rfl
theorem nOK_0 {w : Int → Int} {m : Nat} {B : Int} (hm : aPe w = m + 1) (hn : ∀ p q, 0 ≤ p → p < aPe w → 0 ≤ q → q < aPe w → 0 ≤ aOw w p q) (hB : mTot w ≤ B) : nOK m B (nN w) := by
  have e : (aPe w).toNat = m + 1 := by omega
  have hs : ksum (nN w) (m + 1) = 0 := by
    have h1 : ksum (nN w) (m + 1) = ksum (fun p => ksum (fun q => aOw w q p) (m + 1) - ksum (fun q => aOw w p q) (m + 1)) (m + 1) := ksum_cong (fun p p0 p1 => by
      show mNet w p = _
      rw [mNet_sum, e]
      exact ksum_sub (fun q => aOw w q p) (fun q => aOw w p q) (m + 1))
    have h2 := ksum_sub (fun p => ksum (fun q => aOw w q p) (m + 1)) (fun p => ksum (fun q => aOw w p q) (m + 1)) (m + 1)
    have h3 := ksum_swap (fun p q => aOw w q p) (m + 1) (m + 1)
    rw [h1, h2, h3]
    omega
  refine ⟨hs, ?_⟩
  have e2 : ksum (fun p => max 0 (nN w p)) (m + 1) = ksum (fun p => max 0 (-(nN w p))) (m + 1) + ksum (nN w) (m + 1) := by
    rw [← ksum_add]
    exact ksum_cong (fun k k0 k1 => by show max 0 (nN w k) = max 0 (-(nN w k)) + nN w k; omega)
  rw [e2, hs, Int.add_zero]
  refine Int.le_trans (ksum_le (g := fun p => ksum (fun q => aOw w p q) (m + 1)) (fun p p0 p1 => ?_)) (by rw [mTot_sum, e] at hB; exact hB)
  show max 0 (-(nN w p)) ≤ ksum (fun q => aOw w p q) (m + 1)
  have h1 : nN w p = ksum (fun q => aOw w q p) (m + 1) - ksum (fun q => aOw w p q) (m + 1) := by
    show mNet w p = _
    rw [mNet_sum, e]
    exact ksum_sub (fun q => aOw w q p) (fun q => aOw w p q) (m + 1)
  have h2 := ksum_nn (f := fun q => aOw w q p) (n := m + 1) (fun k k0 k1 => hn k p k0 (by omega) p0 (by omega))
  have h3 := ksum_nn (f := fun q => aOw w p q) (n := m + 1) (fun k k0 k1 => hn p k p0 (by omega) k0 (by omega))
  omega
/-- the total with one place changed -/
theorem mTot_up {w : Int → Int} {i j v : Int} (hP : aPe w ≤ 8) (hi : 0 ≤ i ∧ i < aPe w) (hj : 0 ≤ j ∧ j < aPe w) : mTot (wup w (116 + 8 * i + j) v) = mTot w - aOw w i j + v := by
  have e0 : aPe (wup w (116 + 8 * i + j) v) = aPe w := wup_ne _ _ (by omega)
  rw [mTot_sum, mTot_sum, e0]
  have h1 : ksum (fun p => ksum (fun q => aOw (wup w (116 + 8 * i + j) v) p q) (aPe w).toNat) (aPe w).toNat = ksum (wup (fun p => ksum (fun q => aOw w p q) (aPe w).toNat) i (ksum (fun q => aOw w i q) (aPe w).toNat - aOw w i j + v)) (aPe w).toNat := ksum_cong (fun p p0 p1 => by
    by_cases e : p = i
    · subst e
      rw [wup_same]
      have h2 := ksum_up (f := fun q => aOw w p q) (n := (aPe w).toNat) (j := j) (v := v) hj.1 (by omega)
      refine Eq.trans (ksum_cong (fun q q0 q1 => ?_)) h2
      by_cases e2 : q = j
      · subst e2; rw [wup_same]; exact wup_same _ _ _
      · rw [wup_ne _ _ e2]; exact wup_ne _ _ (by omega)
    · rw [wup_ne _ _ e]
      exact ksum_cong (fun q q0 q1 => wup_ne _ _ (by omega)))
  rw [h1, ksum_up hi.1 (by omega)]
  omega
/-- all that is owed, netted -/
noncomputable def wNet (w : Int → Int) : Int → Int := if aPe w ≤ 0 then mZer w 64 else (nIt (aPe w - 1).toNat (nN w, mZer w 64) (nK (aPe w - 1).toNat (nN w, mZer w 64)).toNat).2
noncomputable def vNet (w : Int → Int) : Int := if aPe w ≤ 0 then 0 else nK (aPe w - 1).toNat (nN w, mZer w 64)
theorem mZer_o {w : Int → Int} {k z : Int} (h : k < 116 ∨ 116 + z ≤ k) : mZer w z k = w k := if_neg (by omega)
theorem mZer_i {w : Int → Int} {k z : Int} (h : 116 ≤ k ∧ k < 116 + z) : mZer w z k = 0 := if_pos h
/-- the rows as payments are made -/
theorem nIt_w {m : Nat} (hm : m ≤ 7) {w : Int → Int} {N : Int → Int} {B : Int} (hw : aPe w = m + 1) (h : nOK m B N) : ∀ k : Nat, (∀ j : Nat, j < k → 0 < nPay (nIt m (N, mZer w 64) j).1 m) → (∀ x, x < 116 ∨ 180 ≤ x → (nIt m (N, mZer w 64) k).2 x = w x) ∧ (∀ p q, 0 ≤ p → p < aPe w → 0 ≤ q → q < aPe w → 0 ≤ aOw (nIt m (N, mZer w 64) k).2 p q) ∧ (∃ c, nOK m c (nIt m (N, mZer w 64) k).1 ∧ mTot (nIt m (N, mZer w 64) k).2 + c ≤ B) := by
  intro k
  induction k with
  | zero =>
    intro _
    refine ⟨fun x hx => mZer_o (by omega), fun p q p0 p1 q0 q1 => by rw [show aOw (nIt m (N, mZer w 64) 0).2 p q = 0 from mZer_i (by omega)]; exact Int.le_refl _, B, h, ?_⟩
    have e0 : aPe (mZer w 64) = aPe w := mZer_o (by omega)
    have : mTot (mZer w 64) = 0 := by
      rw [mTot_sum, e0]
      rw [ksum_cong (g := fun _ => 0) (fun p p0 p1 => by
        rw [ksum_cong (g := fun _ => 0) (fun q q0 q1 => mZer_i (by omega)), ksum_z]), ksum_z]
    show mTot (mZer w 64) + B ≤ B
    omega
  | succ k ih =>
    intro hj
    obtain ⟨i1, i2, c, i3, i4⟩ := ih (fun j hj2 => hj j (by omega))
    have hp := hj k (by omega)
    have hs := nStep_ok i3 hp
    have hf := (nFrom_ok (nIt m (N, mZer w 64) k).1 m).1
    have ht := (nTo_ok (nIt m (N, mZer w 64) k).1 m).1
    have e0 : aPe (nIt m (N, mZer w 64) k).2 = aPe w := i1 0 (by omega)
    have hS : nIt m (N, mZer w 64) (k + 1) = nStep m (nIt m (N, mZer w 64) k) := rfl
    rw [hS]
    generalize nIt m (N, mZer w 64) k = S at *
    refine ⟨fun x hx => (wup_ne _ _ (by omega)).trans (i1 x hx), fun p q p0 p1 q0 q1 => ?_, c - nPay S.1 m, hs.1, ?_⟩
    · show 0 ≤ wup S.2 (116 + 8 * nFrom S.1 m + nTo S.1 m) (nPay S.1 m) (116 + 8 * p + q)
      by_cases e : 116 + 8 * p + q = 116 + 8 * nFrom S.1 m + nTo S.1 m
      · rw [e, wup_same]; omega
      · rw [wup_ne _ _ e]; exact i2 p q p0 p1 q0 q1
    · show mTot (wup S.2 (116 + 8 * nFrom S.1 m + nTo S.1 m) (nPay S.1 m)) + (c - nPay S.1 m) ≤ B
      rw [mTot_up (by omega) (by omega) (by omega)]
      have := i2 (nFrom S.1 m) (nTo S.1 m) hf.1 (by omega) ht.1 (by omega)
      omega
theorem wNet_ok {w : Int → Int} {B : Int} (h : OKw B w) : OKw B (wNet w) ∧ ∀ x, x < 116 ∨ 180 ≤ x → wNet w x = w x := by
  obtain ⟨h1, h2, h3, h4, h5, h6, h7⟩ := h
  have g8 := h1.1
  have key : (∀ x, x < 116 ∨ 180 ≤ x → wNet w x = w x) ∧ (∀ p q, 0 ≤ p → p < aPe w → 0 ≤ q → q < aPe w → 0 ≤ aOw (wNet w) p q) ∧ mTot (wNet w) ≤ B := by
    unfold wNet
    by_cases e : aPe w ≤ 0
    · rw [if_pos e]
      refine ⟨fun x hx => mZer_o (by omega), fun p q p0 p1 => by omega, ?_⟩
      have e0 : aPe (mZer w 64) = aPe w := mZer_o (by omega)
      rw [mTot_sum, e0, show (aPe w).toNat = 0 by omega, ksum_0]
      omega
    · rw [if_neg e]
      have hm : aPe w = ((aPe w - 1).toNat : Int) + 1 := by omega
      have hO := nOK_0 hm h6 h7
      have hK := nK_ok (m := (aPe w - 1).toNat) (by omega) (S := (nN w, mZer w 64)) hO
      obtain ⟨a1, a2, c, a3, a4⟩ := nIt_w (m := (aPe w - 1).toNat) (by omega) hm hO (nK (aPe w - 1).toNat (nN w, mZer w 64)).toNat (fun j hj => hK.2.2 j (by omega))
      refine ⟨a1, a2, ?_⟩
      have := ksum_nn (f := fun p => max 0 ((nIt (aPe w - 1).toNat (nN w, mZer w 64) (nK (aPe w - 1).toNat (nN w, mZer w 64)).toNat).1 p)) (n := (aPe w - 1).toNat + 1) (fun k _ _ => by show 0 ≤ max 0 _; omega)
      have := a3.2
      omega
  obtain ⟨k1, k2, k3⟩ := key
  have e0 : aPe (wNet w) = aPe w := k1 0 (by omega)
  refine ⟨⟨WF_cong (fun k hk => k1 k (by omega)) h1, by rw [k1 9 (by omega)]; exact h2, by rw [k1 1 (by omega)]; exact h3, by rw [k1 10 (by omega)]; exact h4, fun p p0 p1 => ?_, fun p q p0 p1 q0 q1 => k2 p q p0 (by omega) q0 (by omega), k3⟩, k1⟩
  rw [show aOf (wNet w) p 4 = aOf w p 4 from k1 _ (by omega)]
  exact h5 p p0 (by omega)
