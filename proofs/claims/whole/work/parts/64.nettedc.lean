/-! THE FEWEST PAYMENTS: BOTH SIDES -/
theorem sub_pred : ∀ (k x s q : Nat), s < k → s &&& x = s → q &&& x = q → q < s → q ≤ (s - 1) &&& x := by
  intro k
  induction k with
  | zero => intro x s q h; omega
  | succ k ih =>
    intro x s q hk hs hq hlt
    have odd : ∀ a b : Nat, (a &&& b) % 2 = 1 ↔ a % 2 = 1 ∧ b % 2 = 1 := fun a b => by
      have := Nat.testBit_and a b 0
      rw [Nat.testBit_zero, Nat.testBit_zero, Nat.testBit_zero] at this
      by_cases h1 : a % 2 = 1 <;> by_cases h2 : b % 2 = 1 <;> simp [h1, h2] at this ⊢ <;> omega
    have hs2 : s / 2 &&& x / 2 = s / 2 := by rw [← Nat.and_div_two, hs]
    have hq2 : q / 2 &&& x / 2 = q / 2 := by rw [← Nat.and_div_two, hq]
    have h2 : ((s - 1) &&& x) / 2 = (s - 1) / 2 &&& x / 2 := Nat.and_div_two
    have ho := odd (s - 1) x
    have hqo := odd q x
    rw [hq] at hqo
    by_cases e : s % 2 = 1
    · have e1 : (s - 1) / 2 = s / 2 := by omega
      rw [e1, hs2] at h2
      omega
    · have e1 : (s - 1) / 2 = s / 2 - 1 := by omega
      rw [e1] at h2
      by_cases e2 : q / 2 < s / 2
      · have := ih (x / 2) (s / 2) (q / 2) (by omega) hs2 hq2 e2
        omega
      · omega
/-- the next part below -/
theorem sub_next {x y q : Int} (hx : 0 ≤ x ∧ x < 256) (hy : 1 ≤ y ∧ y < 256) (hs : jAnd y x = y) (h1 : jAnd (y - 1) x < q) (h2 : q < y) : ¬ jAnd q x = q := by
  intro hq
  obtain ⟨a, rfl⟩ := Int.eq_ofNat_of_zero_le hx.1
  obtain ⟨b, hb⟩ : ∃ b : Nat, y = (b : Int) := ⟨y.toNat, by omega⟩
  have h0 : 0 ≤ jAnd (y - 1) a := by rw [hb, show (b : Int) - 1 = ((b - 1 : Nat) : Int) by omega, jAnd_nat (by omega)]; omega
  obtain ⟨c, hc⟩ : ∃ c : Nat, q = (c : Int) := ⟨q.toNat, by omega⟩
  rw [hb] at hs
  rw [hc] at hq
  rw [hb, show (b : Int) - 1 = ((b - 1 : Nat) : Int) by omega, jAnd_nat (by omega), hc] at h1
  rw [jAnd_nat (by omega)] at hs hq
  have := sub_pred (b + 1) a b c (by omega) (by omega) (by omega) (by omega)
  omega
theorem sub_is {x y : Int} (hx : 0 ≤ x ∧ x < 256) (hy : 0 ≤ y ∧ y < 256) : jAnd y x = y ↔ Sub8 y x := by
  have h := jAnd_set hy (b := x) (by omega)
  constructor
  · intro e q q0 q1 hq
    rw [← e, h.2 q q0 (by omega)] at hq
    exact hq.2
  · intro hs
    exact jset_ext (by omega) hy (fun q q0 q1 => by
      rw [h.2 q q0 (by omega)]
      exact ⟨fun k => k.1, fun k => ⟨k, hs q q0 q1 k⟩⟩)
theorem and_sub {x y : Int} (hx : 0 ≤ x ∧ x < 256) (hy : 0 ≤ y ∧ y < 256) : (0 ≤ jAnd y x ∧ jAnd y x ≤ y) ∧ jAnd (jAnd y x) x = jAnd y x := by
  have h := jAnd_set hy (b := x) (by omega)
  refine ⟨h.1, (sub_is hx (by omega)).2 (fun q q0 q1 hq => ((h.2 q q0 (by omega)).1 hq).2)⟩
/-! ### the model's table -/
abbrev zC (Z : Int → Int) (x q : Int) : Prop := jAnd q x = q ∧ 0 < Z q ∧ 0 < Z (mDif x q)
def zB (Z : Int → Int) (x : Int) (k : Nat) : Int := jfold (fun t a => if zC Z x (x - 1 - t) then max a (Z (x - 1 - t) + Z (mDif x (x - 1 - t))) else a) 1 k
def zV (N Z : Int → Int) (n : Nat) (x : Int) : Int := if sS N n x = 0 then zB Z x (x - 1).toNat else -1
def zT (N : Int → Int) (n : Nat) (k : Nat) : Int → Int := jfold (fun t T => wup T (t + 1) (zV N T n (t + 1))) (fun _ => 0) k
def zG (N : Int → Int) (n : Nat) (x : Int) : Int := zT N n x.toNat x
theorem zB_skip {Z : Int → Int} {x : Int} {k k' : Nat} (h : k ≤ k') (hs : ∀ t : Nat, k ≤ t → t < k' → ¬ zC Z x (x - 1 - t)) : zB Z x k' = zB Z x k := by
  induction k' with
  | zero => rw [show k = 0 by omega]
  | succ k' ih =>
    by_cases e : k = k' + 1
    · rw [e]
    · show (if zC Z x (x - 1 - k') then _ else zB Z x k') = _
      rw [if_neg (hs k' (by omega) (by omega))]
      exact ih (by omega) (fun t t0 t1 => hs t t0 (by omega))
theorem zB_ok {Z : Int → Int} {x : Int} (k : Nat) : 1 ≤ zB Z x k ∧ (∀ q, x - 1 - k < q → q ≤ x - 1 → zC Z x q → Z q + Z (mDif x q) ≤ zB Z x k) ∧ (zB Z x k = 1 ∨ ∃ q, (x - 1 - k < q ∧ q ≤ x - 1) ∧ zC Z x q ∧ zB Z x k = Z q + Z (mDif x q)) := by
  induction k with
  | zero => exact ⟨Int.le_refl _, fun q h0 h1 => by omega, Or.inl rfl⟩
  | succ k ih =>
    obtain ⟨i1, i2, i3⟩ := ih
    have hd : zB Z x (k + 1) = if zC Z x (x - 1 - k) then max (zB Z x k) (Z (x - 1 - k) + Z (mDif x (x - 1 - k))) else zB Z x k := rfl
    by_cases e : zC Z x (x - 1 - k)
    · rw [hd, if_pos e]
      refine ⟨by omega, fun q h0 h1 hq => ?_, ?_⟩
      · by_cases e2 : q = x - 1 - k
        · subst e2; omega
        · have := i2 q (by omega) h1 hq; omega
      · by_cases e3 : zB Z x k ≤ Z (x - 1 - k) + Z (mDif x (x - 1 - k))
        · exact Or.inr ⟨x - 1 - k, by omega, e, by omega⟩
        · rcases i3 with i3 | ⟨q, h1, h2, h3⟩
          · exact Or.inl (by omega)
          · exact Or.inr ⟨q, by omega, h2, by omega⟩
    · rw [hd, if_neg e]
      refine ⟨i1, fun q h0 h1 hq => ?_, ?_⟩
      · by_cases e2 : q = x - 1 - k
        · subst e2; exact absurd hq e
        · exact i2 q (by omega) h1 hq
      · rcases i3 with i3 | ⟨q, h1, h2, h3⟩
        · exact Or.inl i3
        · exact Or.inr ⟨q, by omega, h2, h3⟩
theorem mDif_in {x q : Int} (hx : 0 ≤ x ∧ x < 256) (hq : 1 ≤ q ∧ q < x) (h : jAnd q x = q) : 0 ≤ mDif x q ∧ mDif x q < x := by
  have hd := mDif_b hx (y := q) (by omega)
  have hs := (sub_is hx (y := q) (by omega)).1 h
  by_cases e : mDif x q = x
  · obtain ⟨r, r1, r2⟩ := jbit_ex (x := q) (by omega)
    have hr := hs r r1.1 r1.2 r2
    rw [← e] at hr
    exact absurd r2 ((hd.2 r r1.1 r1.2).1 hr).2
  · omega
theorem zB_cong {Z U : Int → Int} {x : Int} (hx : 0 ≤ x ∧ x < 256) (h : ∀ y, 0 ≤ y → y < x → Z y = U y) : ∀ k : Nat, (k : Int) ≤ x - 1 → zB Z x k = zB U x k := by
  intro k
  induction k with
  | zero => intro _; rfl
  | succ k ih =>
    intro hk
    show (if zC Z x (x - 1 - k) then max (zB Z x k) _ else zB Z x k) = (if zC U x (x - 1 - k) then max (zB U x k) _ else zB U x k)
    rw [ih (by omega)]
    by_cases e : jAnd (x - 1 - k) x = x - 1 - k
    · have e1 := h (x - 1 - k) (by omega) (by omega)
      have hd := mDif_in hx (q := x - 1 - k) (by omega) e
      have e2 := h (mDif x (x - 1 - k)) hd.1 hd.2
      unfold zC
      rw [e1, e2]
    · rw [if_neg (fun q => e q.1), if_neg (fun q => e q.1)]
theorem zT_st {N : Int → Int} {n : Nat} : ∀ (k : Nat) (x : Int), 0 ≤ x → x ≤ k → zT N n k x = zG N n x := by
  intro k
  induction k with
  | zero =>
    intro x h0 h1
    have : x = 0 := by omega
    subst this
    rfl
  | succ k ih =>
    intro x h0 h1
    by_cases e : x = (k : Int) + 1
    · subst e
      unfold zG
      rw [show ((k : Int) + 1).toNat = k + 1 by omega]
    · rw [← ih x h0 (by omega)]
      show wup (zT N n k) ((k : Int) + 1) _ x = _
      exact wup_ne _ _ e
theorem zG_0 {N : Int → Int} {n : Nat} : zG N n 0 = 0 := rfl
theorem zG_v {N : Int → Int} {n : Nat} {x : Int} (hx : 1 ≤ x ∧ x < 256) : zG N n x = zV N (zG N n) n x := by
  obtain ⟨k, rfl⟩ : ∃ k : Nat, x = (k : Int) + 1 := ⟨(x - 1).toNat, by omega⟩
  show zT N n ((k : Int) + 1).toNat ((k : Int) + 1) = _
  rw [show ((k : Int) + 1).toNat = k + 1 by omega]
  show wup (zT N n k) ((k : Int) + 1) (zV N (zT N n k) n ((k : Int) + 1)) ((k : Int) + 1) = _
  rw [wup_same]
  unfold zV
  rw [zB_cong (Z := zT N n k) (U := zG N n) (by omega) (fun y y0 y1 => zT_st k y y0 (by omega)) _ (by omega)]
theorem zG_all {N : Int → Int} {n : Nat} (hn : n ≤ 8) {S : Int} (h1 : 1 ≤ S) (hS : Mk n S) (hs : sS N n S = 0) : zG N n S = gG N n S := by
  refine zG_eq (b := 255) hn (fun S h1 h2 hS hs => ?_) (fun S h1 h2 hS hs => by rw [zG_v (by omega)]; exact if_neg hs) 256 S (by have := hS.1; omega) h1 (by have := hS.1; omega) hS hs
  have h8 := hS.1
  have hv : zG N n S = zB (zG N n) S (S - 1).toNat := by rw [zG_v (by omega)]; exact if_pos hs
  obtain ⟨a1, a2, a3⟩ := zB_ok (Z := zG N n) (x := S) (S - 1).toNat
  rw [hv]
  refine ⟨a1, fun P p1 p2 p3 p4 p5 => a2 P (by omega) (by omega) ⟨(sub_is h8 (by omega)).2 p3, p4, p5⟩, ?_⟩
  rcases a3 with e | ⟨q, q1, q2, q3⟩
  · exact Or.inl e
  · exact Or.inr ⟨q, by omega, (sub_is h8 (by omega)).1 q2.1, q2.2.1, q2.2.2, q3⟩
theorem zG_in {N : Int → Int} {n : Nat} (hn : n ≤ 8) {x : Int} (hx : Mk n x) : -1 ≤ zG N n x ∧ zG N n x ≤ 256 := by
  have h8 := hx.1
  by_cases e0 : x = 0
  · subst e0; rw [zG_0]; decide
  · by_cases e : sS N n x = 0
    · rw [zG_all hn (by omega) hx e]
      have hk : ∀ (k : Nat) (x : Int), x < k → Mk n x → 0 ≤ gG N n x ∧ gG N n x ≤ x := by
        intro k
        induction k with
        | zero => intro x hk hx; have := hx.1; omega
        | succ k ih =>
          intro x hk hx
          have h8 := hx.1
          by_cases c : x = 0
          · subst c; rw [gG_0]; decide
          · obtain ⟨p, p1, p2, p3⟩ := gG_att (N := N) hn hx (by omega)
            have d1 := mDel_b hx.1 p1
            have d2 := mDel_lt hx.1 p1 p2
            have := ih (mDel x p) (by omega) (Mk_sub hx (by omega) (fun q q0 q1 h => ((d1.2 q q0 q1).1 h).1))
            split at p3 <;> omega
      have := hk 256 x (by omega) hx
      omega
    · rw [zG_v (by omega), show zV N (zG N n) n x = -1 from if_neg e]
      omega
/-! ### alike -/
def nNd (N : Int → Int) (n : Nat) : Int := jfold (fun p a => jOr a (if N p = 0 then 0 else jShl 1 p)) 0 n
theorem nNd_b {N : Int → Int} {n : Nat} (hn : n ≤ 8) : (0 ≤ nNd N n ∧ nNd N n < 256) ∧ ∀ q, 0 ≤ q → q < 8 → (jbit (nNd N n) q ↔ q < n ∧ N q ≠ 0) := by
  have h := jorfold (g := fun p => if N p = 0 then 0 else jShl 1 p) (a0 := 0) (by omega) (n := n) (fun k k0 k1 => by
    have := (jShl_set k0 (show k < 8 by omega)).1
    show 0 ≤ (if N k = 0 then 0 else jShl 1 k) ∧ (if N k = 0 then 0 else jShl 1 k) < 256
    split <;> omega)
  refine ⟨h.1, fun q q0 q1 => ?_⟩
  unfold nNd
  rw [h.2 q q0 (by omega)]
  constructor
  · intro h2
    rcases h2 with h2 | ⟨k, k0, k1, k2⟩
    · exact absurd h2 (jbit_0 q0 (by omega))
    · by_cases e : N k = 0
      · have k3 : jbit (if N k = 0 then 0 else jShl 1 k) q := k2
        rw [if_pos e] at k3
        exact absurd k3 (jbit_0 q0 (by omega))
      · have k3 : jbit (if N k = 0 then 0 else jShl 1 k) q := k2
        rw [if_neg e] at k3
        have := ((jShl_set k0 (show k < 8 by omega)).2 q q0 (by omega)).1 k3
        subst this
        exact ⟨k1, e⟩
  · intro h2
    refine Or.inr ⟨q, q0, h2.1, ?_⟩
    show jbit (if N q = 0 then 0 else jShl 1 q) q
    rw [if_neg h2.2]
    exact ((jShl_set q0 q1).2 q q0 (by omega)).2 rfl
theorem zBc : ∀ x : Fin 256, jBc (x.val : Int) = ksum (fun p => if jbit (x.val : Int) p then 1 else 0) 8 := by decide +kernel
theorem zBc' {x : Int} (hx : 0 ≤ x ∧ x < 256) : jBc x = ksum (fun p => if jbit x p then 1 else 0) 8 := by
  obtain ⟨m, rfl⟩ := Int.eq_ofNat_of_zero_le hx.1
  exact zBc ⟨m, by omega⟩
theorem ksum_cut {f : Int → Int} {n : Nat} : ∀ m : Nat, n ≤ m → (∀ k : Int, (n : Int) ≤ k → k < m → f k = 0) → ksum f m = ksum f n := by
  intro m
  induction m with
  | zero => intro h _; rw [show n = 0 by omega]
  | succ m ih =>
    intro h hz
    by_cases e : n = m + 1
    · rw [e]
    · rw [ksum_s, ih (by omega) (fun k k0 k1 => hz k k0 (by omega)), hz m (by omega) (by omega), Int.add_zero]
/-- those whose nets are nothing, one after the other -/
theorem gG_all {N : Int → Int} {n : Nat} (hn : n ≤ 8) {all : Int} (ha : 0 ≤ all ∧ all < 256) (hb : ∀ q, 0 ≤ q → q < 8 → (jbit all q ↔ q < n)) : (n : Int) - gG N n all = jBc (nNd N n) - gG N n (nNd N n) := by
  have hd := nNd_b (N := N) hn
  have key : ∀ k : Nat, k ≤ n → ∃ A, Mk n A ∧ (∀ q, 0 ≤ q → q < 8 → (jbit A q ↔ jbit (nNd N n) q ∨ (q < k ∧ N q = 0))) ∧ gG N n A = gG N n (nNd N n) + ksum (fun p => if N p = 0 then 1 else 0) k := by
    intro k
    induction k with
    | zero => intro _; exact ⟨nNd N n, ⟨hd.1, fun q q0 q1 h => ((hd.2 q q0 q1).1 h).1⟩, fun q q0 q1 => ⟨Or.inl, fun h => by rcases h with h | h; exact h; omega⟩, by rw [ksum_0, Int.add_zero]⟩
    | succ k ih =>
      intro hk
      obtain ⟨A, a1, a2, a3⟩ := ih (by omega)
      by_cases e : N k = 0
      · have hs := jShl_set (p := k) (by omega) (by omega)
        have ho := jOr_set a1.1 (b := jShl 1 k) (by omega)
        have hb2 : ∀ q, 0 ≤ q → q < 8 → (jbit (jOr A (jShl 1 k)) q ↔ q = k ∨ jbit A q) := fun q q0 q1 => by
          rw [ho.2.2 q q0 (by omega), hs.2 q q0 (by omega)]
          exact ⟨fun h => h.symm, fun h => h.symm⟩
        have hM : Mk n (jOr A (jShl 1 k)) := ⟨ho.1, fun q q0 q1 h => by
          rcases (hb2 q q0 q1).1 h with h | h
          · omega
          · exact a1.2 q q0 q1 h⟩
        refine ⟨jOr A (jShl 1 k), hM, fun q q0 q1 => ?_, ?_⟩
        · rw [hb2 q q0 q1, a2 q q0 q1]
          constructor
          · intro h
            rcases h with h | h | h
            · subst h; exact Or.inr ⟨by omega, e⟩
            · exact Or.inl h
            · exact Or.inr ⟨by omega, h.2⟩
          · intro h
            rcases h with h | h
            · exact Or.inr (Or.inl h)
            · by_cases c : q = k
              · exact Or.inl c
              · exact Or.inr (Or.inr ⟨by omega, h.2⟩)
        · rw [gG_one (N := N) hn (p := k) (by omega) e 256 A _ (by have := a1.1; omega) hM a1.1 hb2 (fun h => by
            rcases (a2 k (by omega) (by omega)).1 h with h | h
            · exact ((hd.2 k (by omega) (by omega)).1 h).2 e
            · omega), a3, ksum_s, if_pos e]
          omega
      · refine ⟨A, a1, fun q q0 q1 => ?_, by rw [a3, ksum_s, if_neg e, Int.add_zero]⟩
        rw [a2 q q0 q1]
        constructor
        · intro h
          rcases h with h | h
          · exact Or.inl h
          · exact Or.inr ⟨by omega, h.2⟩
        · intro h
          rcases h with h | h
          · exact Or.inl h
          · by_cases c : q = k
            · subst c; exact absurd h.2 e
            · exact Or.inr ⟨by omega, h.2⟩
  obtain ⟨A, a1, a2, a3⟩ := key n (by omega)
  have eA : A = all := jset_ext a1.1 ha (fun q q0 q1 => by
    rw [a2 q q0 q1, hb q q0 q1, hd.2 q q0 q1]
    constructor
    · intro h
      rcases h with h | h
      · exact h.1
      · exact h.1
    · intro h
      by_cases c : N q = 0
      · exact Or.inr ⟨h, c⟩
      · exact Or.inl ⟨h, c⟩)
  have h1 : jBc (nNd N n) = ksum (fun p => if N p = 0 then 0 else 1) n := by
    rw [zBc' hd.1, ksum_cut (n := n) 8 hn (fun k k0 k1 => if_neg (fun h => by have := ((hd.2 k (by omega) (by omega)).1 h).1; omega))]
    refine ksum_cong (fun k k0 k1 => ?_)
    by_cases c : N k = 0
    · rw [if_pos c, if_neg (fun h => ((hd.2 k k0 (by omega)).1 h).2 c)]
    · rw [if_neg c, if_pos ((hd.2 k k0 (by omega)).2 ⟨k1, c⟩)]
  have h2 : ksum (fun p => if N p = 0 then 0 else 1) n + ksum (fun p => if N p = 0 then 1 else 0) n = n := by
    rw [← ksum_add]
    have : ∀ m : Nat, ksum (fun p => (if N p = 0 then 0 else 1) + (if N p = 0 then (1 : Int) else 0)) m = m := by
      intro m
      induction m with
      | zero => rfl
      | succ m ih => rw [ksum_s, ih]; split <;> omega
    exact this n
  rw [← eA, a3, h1]
  omega
/-- all who are there -/
theorem aAll_b {w : Int → Int} (hP : 0 ≤ aPe w ∧ aPe w ≤ 8) : (0 ≤ aAllS w ∧ aAllS w < 256) ∧ ∀ q, 0 ≤ q → q < 8 → (jbit (aAllS w) q ↔ q < ((aPe w).toNat : Int)) := by
  have h : ∀ n : Fin 9, (0 ≤ jShl 1 (n.val : Int) - 1 ∧ jShl 1 (n.val : Int) - 1 < 256) ∧ ∀ q : Fin 8, (jbit (jShl 1 (n.val : Int) - 1) (q.val : Int) ↔ (q.val : Int) < (n.val : Int)) := by decide +kernel
  obtain ⟨n, hn⟩ : ∃ n : Nat, aPe w = n := ⟨(aPe w).toNat, by omega⟩
  have h2 := h ⟨n, by omega⟩
  unfold aAllS
  rw [hn]
  refine ⟨h2.1, fun q q0 q1 => ?_⟩
  obtain ⟨k, rfl⟩ := Int.eq_ofNat_of_zero_le q0
  have := h2.2 ⟨k, by omega⟩
  rw [show (((n : Int).toNat : Nat) : Int) = n by omega]
  exact this
def vNtd (w : Int → Int) : Int := aPe w - gG (nN w) (aPe w).toNat (aAllS w)
theorem vNtd_need {w : Int → Int} {B : Int} (h : OKw B w) : vNtd w = if nNd (nN w) (aPe w).toNat = 0 then 0 else jBc (nNd (nN w) (aPe w).toNat) - zG (nN w) (aPe w).toNat (nNd (nN w) (aPe w).toNat) := by
  obtain ⟨h1, h2, h3, h4, h5, h6, h7⟩ := h
  have g8 := h1.1
  have ha := aAll_b g8
  have hg := gG_all (N := nN w) (n := (aPe w).toNat) (by omega) ha.1 ha.2
  rw [show (((aPe w).toNat : Nat) : Int) = aPe w by omega] at hg
  have hd := nNd_b (N := nN w) (n := (aPe w).toNat) (by omega)
  unfold vNtd
  rw [hg]
  by_cases e : nNd (nN w) (aPe w).toNat = 0
  · rw [if_pos e, e, gG_0]; decide
  · have hp : 0 < aPe w := by
      obtain ⟨q, q1, q2⟩ := jbit_ex (x := nNd (nN w) (aPe w).toNat) (by omega)
      have := ((hd.2 q q1.1 q1.2).1 q2).1
      omega
    have hO := nOK_0 (m := (aPe w - 1).toNat) (by omega) h6 h7
    have hs : sS (nN w) (aPe w).toNat (nNd (nN w) (aPe w).toNat) = 0 := by
      have : sS (nN w) (aPe w).toNat (nNd (nN w) (aPe w).toNat) = ksum (nN w) (aPe w).toNat := ksum_cong (fun k k0 k1 => by
        by_cases c : nN w k = 0
        · rw [if_neg (fun h => ((hd.2 k k0 (by omega)).1 h).2 c), c]
        · rw [if_pos ((hd.2 k k0 (by omega)).2 ⟨k1, c⟩)])
      rw [this, show (aPe w).toNat = (aPe w - 1).toNat + 1 by omega]
      exact hO.1
    rw [if_neg e, zG_all (by omega) (by omega) ⟨hd.1, fun q q0 q1 h => ((hd.2 q q0 q1).1 h).1⟩ hs]
section
variable {G : jzG} {d : Nat} {sh : List (Nat × Nat)} {I : Nat → Int → Int} {F : Nat → Int → Option Nat} {s : Nat} {w : Int → Int}
theorem sS_del {N : Int → Int} {n : Nat} (hn : n ≤ 8) {x p : Int} (hx : 0 ≤ x ∧ x < 256) (hp : 0 ≤ p ∧ p < n) (h : jbit x p) : sS N n x = sS N n (mDel x p) + N p := by
  have h1 := jShl_set hp.1 (show p < 8 by omega)
  have h2 := sS_dif (N := N) hn hx (y := jShl 1 p) (by omega) (fun q q0 q1 hq => by rw [(h1.2 q q0 (by omega)).1 hq]; exact h)
  rw [sS_one hn hp] at h2
  have e : mDif x (jShl 1 p) = mDel x p := rfl
  rw [e] at h2
  omega
theorem sc_fewestPayments (hsh : ShOK sh) (hfx : FxOK F) (hs : StAt sh F s) (hs9 : s + 9 < 154) (hR : Rp I s w) {B : Int} (hB : B ≤ 900000000) (hO : OKw B w) : jS G (d + 2) mX4_fewestPayments [jR (some 166), jR (some s)] (sh, I, F) 0 0 (rEI (vNtd w) sh F (fun J => ∀ a, a ≠ 167 → a ≠ 168 → a ≠ 169 → J a = I a)) := by
  obtain ⟨g0, g1, g2, g3, g4, g5, g6, g7, g8, g9, e1, e2, e3, e4, e5, e6, e7, e8, e9⟩ := id hs
  obtain ⟨o1, o2, o3, o4, o5, o6, o7⟩ := hO
  have r1 := hR.2.1
  have nk : 0 < aPe w → nOK (aPe w - 1).toNat B (nN w) := fun h => nOK_0 (by omega) o6 o7
  have ji : ∀ p, 0 ≤ p → p < aPe w → jin (mNet w p) := fun p p0 p1 => by
    have := nOK_in (nk (by omega)) p p0 (by omega)
    have e : nN w p = mNet w p := rfl
    omega
  obtain ⟨n, hn⟩ : ∃ n : Nat, aPe w = n := ⟨(aPe w).toNat, by omega⟩
  have en : (aPe w).toNat = n := by omega
  have ha := aAll_b (w := w) r1
  rw [en] at ha
  have eAl : aAllS w = jShl 1 (aPe w) - 1 := rfl
  have hAl := ha.1
  rw [eAl] at hAl
  have sin : ∀ x, -900000000 ≤ sS (nN w) n x ∧ sS (nN w) n x ≤ 900000000 := fun x => by
    by_cases c : 0 < aPe w
    · have := sS_in (nk c) x
      rw [show (aPe w - 1).toNat + 1 = n by omega] at this
      omega
    · rw [show n = 0 by omega]; show -900000000 ≤ (0 : Int) ∧ (0 : Int) ≤ 900000000; decide
  have gin : ∀ x, 0 ≤ x → x ≤ aAllS w → 0 ≤ gG (nN w) n x ∧ gG (nN w) n x ≤ 256 := fun x x0 x1 => by
    have hk : ∀ (k : Nat) (x : Int), x < k → 0 ≤ x ∧ x < 256 → 0 ≤ gG (nN w) n x ∧ gG (nN w) n x ≤ x := by
      intro k
      induction k with
      | zero => intro x hk hx; omega
      | succ k ih =>
        intro x hk hx
        by_cases c : x = 0
        · subst c; rw [gG_0]; decide
        · have h0 := gG_nn (N := nN w) (n := n) (by omega) hx
          refine ⟨h0, ?_⟩
          rw [gG_v (by omega) (by omega)]
          unfold gV
          rcases (gB_ok (T := gG (nN w) n) (n := n) (x := x)).2.2 with e | ⟨p, p1, p2, p3⟩
          · rw [e]; split <;> omega
          · have d2 := mDel_lt hx (p := p) (by omega) p2
            have d1 := mDel_b hx (p := p) (by omega)
            have := ih (mDel x p) (by omega) (by omega)
            rw [p3]; split <;> omega
    have := hk 256 x (by omega) (by omega)
    omega
  refine jS_go [some (jR (some 166)), some (jR (some s)), none, none, none, none] (by decide +kernel) rfl (by simp [jone]) (Nat.le_of_ble_eq_true rfl) rfl (fun hok => ?_)
  generalize hQ : rEI (vNtd w) sh F (fun J => ∀ a, a ≠ 167 → a ≠ 168 → a ≠ 169 → J a = I a) = Q9
  have hv : vNtd w = aPe w - gG (nN w) n (aAllS w) := by unfold vNtd; rw [en]
  have key : ∀ (m : Nat) (x : Int) (J : Nat → Int → Int) (o3 o4 o5 : Option jzV), x + m = aAllS w + 1 → 1 ≤ x → (∀ y, 0 ≤ y → y < x → J 168 y = sS (nN w) n y ∧ J 169 y = gG (nN w) n y) → (∀ p, 0 ≤ p → p < aPe w → J 167 p = nN w p) → (∀ a, a ≠ 167 → a ≠ 168 → a ≠ 169 → J a = I a) → jW G mX4_fewestPayments (d + 2) Q9 21 [some (jR (some 166)), some (jR (some s)), some (jI x), o3, o4, o5] [] (sh, J, F) 0 0 := by
    intro m
    induction m with
    | zero =>
      intro x J o3 o4 o5 hx hx1 ht hnt hfr
      have hRJ : Rp J s w := Rp_fr hR (fun a a0 a1 => hfr a (by omega) (by omega) (by omega))
      have r0 := hRJ.1
      have qg := (ht (aAllS w) ha.1.1 (by omega)).2
      have bg := gin (aAllS w) ha.1.1 (Int.le_refl _)
      have se := sc_everybody (G := G) (d := d + 1) hs hRJ
      refine j_iload_n dX4_fewestPayments_21 rfl ?_
      refine j_aload_n dX4_fewestPayments_22 rfl ?_
      refine r_cv0I dX4_fewestPayments_23 cvX4_25 (by decide) (by first | assumption | exact hsh _ _ rfl) (Nat.le_of_ble_eq_true rfl) (Nat.le_of_eq (Nat.zero_add _)) (Nat.le_of_eq (Nat.zero_add _)) (se) ?_
      refine j_icmp_gt (tgt := 130) dX4_fewestPayments_26 rfl (by first | omega | (split <;> omega)) (by first | omega | (split <;> omega)) (fun c_26 => ?_) (fun c_26 => by exact absurd (by unfold aAllS at hx; omega) c_26)
      refine j_aload_n dX4_fewestPayments_130 rfl ?_
      refine r_getIE dX4_fewestPayments_131 flX4_31 (by first | assumption | exact hsh _ _ rfl) r0 (fun b_131 => ?_)
      refine j_aload_n dX4_fewestPayments_134 rfl ?_
      refine r_getS dX4_fewestPayments_135 flX4_18 (by first | assumption | exact hsh _ _ rfl) (fx_166_2 hfx) ?_
      refine j_aload_n dX4_fewestPayments_138 rfl ?_
      refine r_cv0I dX4_fewestPayments_139 cvX4_25 (by decide) (by first | assumption | exact hsh _ _ rfl) (Nat.le_of_ble_eq_true rfl) (Nat.le_of_eq (Nat.zero_add _)) (Nat.le_of_eq (Nat.zero_add _)) (se) ?_
      refine r_ialoadE dX4_fewestPayments_142 (by first | assumption | exact hsh _ _ rfl) (by first | omega | (split <;> omega)) (by first | omega | (split <;> omega)) qg (fun b_142 => ?_)
      refine j_isub dX4_fewestPayments_143 ?_
      refine j_iret dX4_fewestPayments_144 rfl ?_
      rw [← hQ]
      exact rEI_of hv.symm hfr
    | succ m ih =>
      intro x J o3 o4 o5 hx hx1 ht hnt hfr
      have hx8 : 0 ≤ x ∧ x < 256 := by omega
      have hRJ : Rp J s w := Rp_fr hR (fun a a0 a1 => hfr a (by omega) (by omega) (by omega))
      have se := sc_everybody (G := G) (d := d + 1) hs hRJ
      have hMk : Mk n x := ⟨hx8, fun q q0 q1 hq => by
        by_cases c : q < (n : Int)
        · exact c
        · exfalso
          have hpow : ∀ (k : Fin 9) (y : Fin 256) (q : Fin 8), (y.val : Int) ≤ jShl 1 (k.val : Int) - 1 → jbit (y.val : Int) (q.val : Int) → q.val < k.val := by decide +kernel
          have h5 := hpow ⟨n, by omega⟩ ⟨x.toNat, by omega⟩ ⟨q.toNat, by omega⟩ (by
            show ((x.toNat : Nat) : Int) ≤ jShl 1 ((n : Nat) : Int) - 1
            have : aAllS w = jShl 1 ((n : Nat) : Int) - 1 := by unfold aAllS; rw [hn]
            omega) (by
            show jbit ((x.toNat : Nat) : Int) ((q.toNat : Nat) : Int)
            rw [show ((x.toNat : Nat) : Int) = x by omega, show ((q.toNat : Nat) : Int) = q by omega]; exact hq)
          have h6 : q.toNat < n := h5
          omega⟩
      have hgv := gG_v (N := nN w) (n := n) (by omega) (x := x) (by omega)
      -- one after the other
      have inn : ∀ (m2 : Nat) (z b : Int) (K : Nat → Int → Int) (o5 : Option jzV), z + m2 = aPe w → 0 ≤ z → b = jfold (fun p a => if jbit x p then max a (gG (nN w) n (mDel x p)) else a) 0 z.toNat → (0 ≤ b ∧ b ≤ 256) → ((∃ q, (0 ≤ q ∧ q < z) ∧ jbit x q) → K 168 x = sS (nN w) n x) → (∀ y, y ≠ x → K 168 y = J 168 y) → (∀ a, a ≠ 168 → K a = J a) → jW G mX4_fewestPayments (d + 2) Q9 34 [some (jR (some 166)), some (jR (some s)), some (jI x), some (jI b), some (jI z), o5] [] (sh, K, F) 0 0 := by
        intro m2
        induction m2 with
        | zero =>
          intro z b K o5 hz hz0 hb bb hk hky hkf
          have r0 : K s 0 = aPe w := by rw [hkf s (by omega)]; exact hRJ.1
          have hB : b = gB (gG (nN w) n) n x := by rw [hb, show z.toNat = n by omega]; rfl
          obtain ⟨q, q1, q2⟩ := jbit_ex (x := x) (by omega)
          have q112 : K 168 x = sS (nN w) n x := hk ⟨q, ⟨q1.1, by have := hMk.2 q q1.1 q1.2 q2; omega⟩, q2⟩
          have hval : gG (nN w) n x = b + (if sS (nN w) n x = 0 then 1 else 0) := by rw [hgv]; unfold gV; rw [hB]
          have bs := sin x
          have ih2 := fun v (hv2 : v = gG (nN w) n x) o3 o4 o5 => ih (x + 1) (jup K 169 x v) o3 o4 o5 (by omega) (by omega) (fun y y0 y1 => by
            by_cases ey : y = x
            · subst ey
              exact ⟨by rw [jup_ne _ _ _ (by decide)]; exact q112, by rw [jup_same]; exact hv2⟩
            · have := ht y y0 (by omega)
              exact ⟨by rw [jup_ne _ _ _ (by decide), hky y ey]; exact this.1, by rw [jup_row _ _ _ ey, hkf 169 (by decide)]; exact this.2⟩) (fun p p0 p1 => by rw [jup_ne _ _ _ (by decide), hkf 167 (by decide)]; exact hnt p p0 p1) (fun a h1 h2 h3 => by rw [jup_ne _ _ _ h3, hkf a h2]; exact hfr a h1 h2 h3)
          refine j_iload dX4_fewestPayments_34 rfl ?_
          refine j_aload_n dX4_fewestPayments_36 rfl ?_
          refine r_getIE dX4_fewestPayments_37 flX4_31 (by first | assumption | exact hsh _ _ rfl) r0 (fun b_37 => ?_)
          refine j_icmp_ge (tgt := 102) dX4_fewestPayments_40 rfl (by first | omega | (split <;> omega)) (by first | omega | (split <;> omega)) (fun c_40 => ?_) (fun c_40 => by exact absurd (by omega) c_40)
          refine j_aload_n dX4_fewestPayments_102 rfl ?_
          refine r_getS dX4_fewestPayments_103 flX4_18 (by first | assumption | exact hsh _ _ rfl) (fx_166_2 hfx) ?_
          refine j_iload_n dX4_fewestPayments_106 rfl ?_
          refine j_aload_n dX4_fewestPayments_107 rfl ?_
          refine r_getS dX4_fewestPayments_108 flX4_15 (by first | assumption | exact hsh _ _ rfl) (fx_166_1 hfx) ?_
          refine j_iload_n dX4_fewestPayments_111 rfl ?_
          refine r_ialoadE dX4_fewestPayments_112 (by first | assumption | exact hsh _ _ rfl) (by first | omega | (split <;> omega)) (by first | omega | (split <;> omega)) q112 (fun b_112 => ?_)
          refine j_if_ne (tgt := 122) dX4_fewestPayments_113 rfl (by first | omega | (split <;> omega)) (fun c_113 => ?_) (fun c_113 => ?_)
          · refine j_iload_n dX4_fewestPayments_122 rfl ?_
            refine r_iastore dX4_fewestPayments_123 (by first | assumption | exact hsh _ _ rfl) (by first | omega | (split <;> omega)) (by first | omega | (split <;> omega)) (by first | omega | (split <;> omega)) ?_
            refine j_iinc dX4_fewestPayments_124 rfl (by decide) ?_
            refine j_goto (tgt := 21) dX4_fewestPayments_127 rfl ?_
            first | exact ih2 _ (by rw [hval, if_neg c_113, Int.add_zero]) _ _ _ | exact ih2 _ (by rw [hval, if_pos (Classical.not_not.1 c_113)]) _ _ _
          · refine j_iload_n dX4_fewestPayments_116 rfl ?_
            refine j_iconst dX4_fewestPayments_117 ?_
            refine j_iadd dX4_fewestPayments_118 ?_
            refine j_goto (tgt := 123) dX4_fewestPayments_119 rfl ?_
            refine r_iastore dX4_fewestPayments_123 (by first | assumption | exact hsh _ _ rfl) (by first | omega | (split <;> omega)) (by first | omega | (split <;> omega)) (by first | omega | (split <;> omega)) ?_
            refine j_iinc dX4_fewestPayments_124 rfl (by decide) ?_
            refine j_goto (tgt := 21) dX4_fewestPayments_127 rfl ?_
            first | exact ih2 _ (by rw [hval, if_neg c_113, Int.add_zero]) _ _ _ | exact ih2 _ (by rw [hval, if_pos (Classical.not_not.1 c_113)]) _ _ _
        | succ m2 ih2 =>
          intro z b K o5 hz hz0 hb bb hk hky hkf
          have r0 : K s 0 = aPe w := by rw [hkf s (by omega)]; exact hRJ.1
          have hstep : jfold (fun p a => if jbit x p then max a (gG (nN w) n (mDel x p)) else a) 0 (z + 1).toNat = if jbit x z then max b (gG (nN w) n (mDel x z)) else b := by rw [hb]; exact jfold_s _ _ hz0
          by_cases e : jbit x z
          · have d1 := mDel_b hx8 (p := z) (by omega)
            have d2 := mDel_lt hx8 (p := z) (by omega) e
            have d3 : 0 ≤ jAnd x (jXor (jShl 1 z) (-1)) ∧ jAnd x (jXor (jShl 1 z) (-1)) ≤ x := d1.1
            have hr := ht (mDel x z) d1.1.1 d2
            have q70 : K 169 (mDel x z) = gG (nN w) n (mDel x z) := by rw [hkf 169 (by decide)]; exact hr.2
            have q86 : K 168 (mDel x z) = sS (nN w) n (mDel x z) := by rw [hky _ (by omega)]; exact hr.1
            have q93 : K 167 z = nN w z := by rw [hkf 167 (by decide)]; exact hnt z hz0 (by omega)
            have bg := gin (mDel x z) d1.1.1 (by omega)
            have bs := sin x
            have bs2 := sin (mDel x z)
            have hsd := sS_del (N := nN w) (n := n) (by omega) hx8 (p := z) (by omega) e
            rw [if_pos e] at hstep
            have ih3 := fun o5 => ih2 (z + 1) (max b (gG (nN w) n (mDel x z))) (jup K 168 x (sS (nN w) n (mDel x z) + nN w z)) o5 (by omega) (by omega) hstep.symm (by omega) (fun _ => by rw [jup_same]; exact hsd.symm) (fun y hy => by rw [jup_row _ _ _ hy]; exact hky y hy) (fun a h => by rw [jup_ne _ _ _ h]; exact hkf a h)
            refine j_iload dX4_fewestPayments_34 rfl ?_
            refine j_aload_n dX4_fewestPayments_36 rfl ?_
            refine r_getIE dX4_fewestPayments_37 flX4_31 (by first | assumption | exact hsh _ _ rfl) r0 (fun b_37 => ?_)
            refine j_icmp_ge (tgt := 102) dX4_fewestPayments_40 rfl (by first | omega | (split <;> omega)) (by first | omega | (split <;> omega)) (fun c_40 => by exact absurd c_40 (by omega)) (fun c_40 => ?_)
            refine j_iload_n dX4_fewestPayments_43 rfl ?_
            refine j_iload dX4_fewestPayments_44 rfl ?_
            refine r_ishr dX4_fewestPayments_46 (fun b_46 => ?_)
            refine j_iconst dX4_fewestPayments_47 ?_
            refine r_iand dX4_fewestPayments_48 (fun b_48 => ?_)
            refine j_iconst dX4_fewestPayments_49 ?_
            refine j_icmp_ne (tgt := 96) dX4_fewestPayments_50 rfl (by first | omega | (split <;> omega)) (by first | omega | (split <;> omega)) (fun c_50 => by exact absurd e c_50) (fun c_50 => ?_)
            refine j_iload_n dX4_fewestPayments_53 rfl ?_
            refine j_iconst dX4_fewestPayments_54 ?_
            refine j_iload dX4_fewestPayments_55 rfl ?_
            refine r_ishl dX4_fewestPayments_57 (fun b_57 => ?_)
            refine j_iconst dX4_fewestPayments_58 ?_
            refine r_ixor dX4_fewestPayments_59 (fun b_59 => ?_)
            refine r_iand dX4_fewestPayments_60 (fun b_60 => ?_)
            refine j_istore dX4_fewestPayments_61 (by decide) ?_
            refine j_iload_n dX4_fewestPayments_63 rfl ?_
            refine j_aload_n dX4_fewestPayments_64 rfl ?_
            refine r_getS dX4_fewestPayments_65 flX4_18 (by first | assumption | exact hsh _ _ rfl) (fx_166_2 hfx) ?_
            refine j_iload dX4_fewestPayments_68 rfl ?_
            refine r_ialoadE dX4_fewestPayments_70 (by first | assumption | exact hsh _ _ rfl) (by first | omega | (split <;> omega)) (by first | omega | (split <;> omega)) q70 (fun b_70 => ?_)
            refine r_max dX4_fewestPayments_71 lmX4_35 (Nat.le_of_ble_eq_true rfl) (by first | omega | (split <;> omega)) (by first | omega | (split <;> omega)) ?_
            refine j_istore_n dX4_fewestPayments_74 (by decide) ?_
            refine j_aload_n dX4_fewestPayments_75 rfl ?_
            refine r_getS dX4_fewestPayments_76 flX4_15 (by first | assumption | exact hsh _ _ rfl) (fx_166_1 hfx) ?_
            refine j_iload_n dX4_fewestPayments_79 rfl ?_
            refine j_aload_n dX4_fewestPayments_80 rfl ?_
            refine r_getS dX4_fewestPayments_81 flX4_15 (by first | assumption | exact hsh _ _ rfl) (fx_166_1 hfx) ?_
            refine j_iload dX4_fewestPayments_84 rfl ?_
            refine r_ialoadE dX4_fewestPayments_86 (by first | assumption | exact hsh _ _ rfl) (by first | omega | (split <;> omega)) (by first | omega | (split <;> omega)) q86 (fun b_86 => ?_)
            refine j_aload_n dX4_fewestPayments_87 rfl ?_
            refine r_getS dX4_fewestPayments_88 flX4_9 (by first | assumption | exact hsh _ _ rfl) (fx_166_0 hfx) ?_
            refine j_iload dX4_fewestPayments_91 rfl ?_
            refine r_ialoadE dX4_fewestPayments_93 (by first | assumption | exact hsh _ _ rfl) (by first | omega | (split <;> omega)) (by first | omega | (split <;> omega)) q93 (fun b_93 => ?_)
            refine j_iadd dX4_fewestPayments_94 ?_
            refine r_iastore dX4_fewestPayments_95 (by first | assumption | exact hsh _ _ rfl) (by first | omega | (split <;> omega)) (by first | omega | (split <;> omega)) (by first | omega | (split <;> omega)) ?_
            refine j_iinc dX4_fewestPayments_96 rfl (by decide) ?_
            refine j_goto (tgt := 34) dX4_fewestPayments_99 rfl ?_
            exact ih3 _
          · rw [if_neg e] at hstep
            have ih3 := fun o5 => ih2 (z + 1) b K o5 (by omega) (by omega) hstep.symm bb (fun ⟨q, q1, q2⟩ => hk ⟨q, ⟨q1.1, by
              by_cases c : q = z
              · subst c; exact absurd q2 e
              · omega⟩, q2⟩) hky hkf
            refine j_iload dX4_fewestPayments_34 rfl ?_
            refine j_aload_n dX4_fewestPayments_36 rfl ?_
            refine r_getIE dX4_fewestPayments_37 flX4_31 (by first | assumption | exact hsh _ _ rfl) r0 (fun b_37 => ?_)
            refine j_icmp_ge (tgt := 102) dX4_fewestPayments_40 rfl (by first | omega | (split <;> omega)) (by first | omega | (split <;> omega)) (fun c_40 => by exact absurd c_40 (by omega)) (fun c_40 => ?_)
            refine j_iload_n dX4_fewestPayments_43 rfl ?_
            refine j_iload dX4_fewestPayments_44 rfl ?_
            refine r_ishr dX4_fewestPayments_46 (fun b_46 => ?_)
            refine j_iconst dX4_fewestPayments_47 ?_
            refine r_iand dX4_fewestPayments_48 (fun b_48 => ?_)
            refine j_iconst dX4_fewestPayments_49 ?_
            refine j_icmp_ne (tgt := 96) dX4_fewestPayments_50 rfl (by first | omega | (split <;> omega)) (by first | omega | (split <;> omega)) (fun c_50 => ?_) (fun c_50 => by exact absurd (Classical.not_not.1 c_50) e)
            refine j_iinc dX4_fewestPayments_96 rfl (by decide) ?_
            refine j_goto (tgt := 34) dX4_fewestPayments_99 rfl ?_
            exact ih3 _
      refine j_iload_n dX4_fewestPayments_21 rfl ?_
      refine j_aload_n dX4_fewestPayments_22 rfl ?_
      refine r_cv0I dX4_fewestPayments_23 cvX4_25 (by decide) (by first | assumption | exact hsh _ _ rfl) (Nat.le_of_ble_eq_true rfl) (Nat.le_of_eq (Nat.zero_add _)) (Nat.le_of_eq (Nat.zero_add _)) (se) ?_
      refine j_icmp_gt (tgt := 130) dX4_fewestPayments_26 rfl (by first | omega | (split <;> omega)) (by first | omega | (split <;> omega)) (fun c_26 => by exact absurd c_26 (by unfold aAllS at hx; omega)) (fun c_26 => ?_)
      refine j_iconst dX4_fewestPayments_29 ?_
      refine j_istore_n dX4_fewestPayments_30 (by decide) ?_
      refine j_iconst dX4_fewestPayments_31 ?_
      refine j_istore dX4_fewestPayments_32 (by decide) ?_
      exact inn (aPe w).toNat 0 0 J _ (by omega) (by omega) rfl (by decide) (fun ⟨q, q1, q2⟩ => by omega) (fun _ _ => rfl) (fun _ _ => rfl)
  refine j_aload_n dX4_fewestPayments_0 rfl ?_
  refine j_aload_n dX4_fewestPayments_1 rfl ?_
  refine r_cv1EV dX4_fewestPayments_2 cvX4_21 (by decide) (by first | assumption | exact hsh _ _ rfl) (Nat.le_of_ble_eq_true rfl) (Nat.le_of_eq (Nat.zero_add _)) (Nat.le_of_eq (Nat.zero_add _)) (sc_findNets hsh hfx hs hs9 hR ji) (fun J0 hJ0 => ?_)
  refine j_aload_n dX4_fewestPayments_5 rfl ?_
  refine r_getS dX4_fewestPayments_6 flX4_15 (by first | assumption | exact hsh _ _ rfl) (fx_166_1 hfx) ?_
  refine j_iconst dX4_fewestPayments_9 ?_
  refine j_iconst dX4_fewestPayments_10 ?_
  refine r_iastore dX4_fewestPayments_11 (by first | assumption | exact hsh _ _ rfl) (by first | omega | (split <;> omega)) (by first | omega | (split <;> omega)) (by first | omega | (split <;> omega)) ?_
  refine j_aload_n dX4_fewestPayments_12 rfl ?_
  refine r_getS dX4_fewestPayments_13 flX4_18 (by first | assumption | exact hsh _ _ rfl) (fx_166_2 hfx) ?_
  refine j_iconst dX4_fewestPayments_16 ?_
  refine j_iconst dX4_fewestPayments_17 ?_
  refine r_iastore dX4_fewestPayments_18 (by first | assumption | exact hsh _ _ rfl) (by first | omega | (split <;> omega)) (by first | omega | (split <;> omega)) (by first | omega | (split <;> omega)) ?_
  refine j_iconst dX4_fewestPayments_19 ?_
  refine j_istore_n dX4_fewestPayments_20 (by decide) ?_
  refine key (aAllS w).toNat 1 _ none none none (by omega) (by omega) (fun y y0 y1 => ?_) (fun p p0 p1 => ?_) (fun a h1 h2 h3 => ?_)
  · have ey : y = 0 := by omega
    subst ey
    exact ⟨by rw [jup_ne _ _ _ (by decide), jup_same, sS_0 (by omega)], by rw [jup_same, gG_0]⟩
  · rw [jup_ne _ _ _ (by decide), jup_ne _ _ _ (by decide)]; exact hJ0.1 p p0 p1
  · rw [jup_ne _ _ _ h3, jup_ne _ _ _ h2]; exact hJ0.2 a h1
theorem cp_netted (hsh : ShOK sh) (hfx : FxOK F) (hst : StAt sh F 2) (hR : Rp I 2 w) {B : Int} (hB : B ≤ 900000000) (hO : OKw B w) : jS G (d + 6) mX11_netted [jR (some 0)] (sh, I, F) 0 0 (rEI (vNtd w) sh F (fun J => ∀ a, a ≠ 167 → a ≠ 168 → a ≠ 169 → J a = I a)) := by
  refine jS_go [some (jR (some 0))] (by decide +kernel) rfl (by simp [jone]) (Nat.le_of_ble_eq_true rfl) rfl (fun hok => ?_)
  refine j_aload_n dX11_netted_0 rfl ?_
  refine r_getS dX11_netted_1 flX11_61 (by first | assumption | exact hsh _ _ rfl) (fx_0_11 hfx) ?_
  refine j_aload_n dX11_netted_4 rfl ?_
  refine r_getS dX11_netted_5 flX11_20 (by first | assumption | exact hsh _ _ rfl) (fx_0_3 hfx) ?_
  refine r_cv1EI dX11_netted_8 cvX11_258 (by decide) (by first | assumption | exact hsh _ _ rfl) (Nat.le_of_ble_eq_true rfl) (Nat.le_of_eq (Nat.zero_add _)) (Nat.le_of_eq (Nat.zero_add _)) (sc_fewestPayments hsh hfx hst (by decide) hR hB hO) (fun J hJ => ?_)
  refine j_iret dX11_netted_11 rfl ?_
  exact rEI_of rfl hJ
end
