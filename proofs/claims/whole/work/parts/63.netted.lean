/-! THE FEWEST PAYMENTS: SETS THAT COME TO NOTHING -/
/-- a set of the first n -/
def Mk (n : Int) (x : Int) : Prop := (0 ≤ x ∧ x < 256) ∧ ∀ q, 0 ≤ q → q < 8 → jbit x q → q < n
abbrev mDel (x p : Int) : Int := jAnd x (jXor (jShl 1 p) (-1))
abbrev mDif (x y : Int) : Int := jAnd x (jXor y (-1))
abbrev Sub8 (x y : Int) : Prop := ∀ q, 0 ≤ q → q < 8 → jbit x q → jbit y q
theorem mDif_b {x y : Int} (hx : 0 ≤ x ∧ x < 256) (hy : 0 ≤ y ∧ y < 256) : (0 ≤ mDif x y ∧ mDif x y ≤ x) ∧ ∀ q, 0 ≤ q → q < 8 → (jbit (mDif x y) q ↔ jbit x q ∧ ¬ jbit y q) := ⟨(jandn_set hx hy).1, fun q q0 q1 => (jandn_set hx hy).2 q q0 (by omega)⟩
theorem mDel_b {x p : Int} (hx : 0 ≤ x ∧ x < 256) (hp : 0 ≤ p ∧ p < 8) : (0 ≤ mDel x p ∧ mDel x p ≤ x) ∧ ∀ q, 0 ≤ q → q < 8 → (jbit (mDel x p) q ↔ jbit x q ∧ q ≠ p) := by
  have h1 := jShl_set hp.1 hp.2
  have h2 := jandn_set hx (x := jShl 1 p) (by omega)
  exact ⟨h2.1, fun q q0 q1 => by rw [h2.2 q q0 (by omega), h1.2 q q0 (by omega)]⟩
theorem mDel_lt {x p : Int} (hx : 0 ≤ x ∧ x < 256) (hp : 0 ≤ p ∧ p < 8) (h : jbit x p) : mDel x p < x := by
  have h1 := mDel_b hx hp
  by_cases e : mDel x p = x
  · have := (h1.2 p hp.1 hp.2).1 (by rw [e]; exact h)
    exact absurd rfl this.2
  · omega
theorem Sub8_le {x y : Int} (hx : 0 ≤ x ∧ x < 256) (hy : 0 ≤ y ∧ y < 256) (h : Sub8 x y) : x ≤ y := by
  have h1 := jAnd_set hy (b := x) (by omega)
  have : jAnd y x = x := jset_ext (by omega) hx (fun q q0 q1 => by
    rw [h1.2 q q0 (by omega)]
    exact ⟨fun k => k.2, fun k => ⟨h q q0 q1 k, k⟩⟩)
  omega
theorem Mk_sub {n x y : Int} (hy : Mk n y) (hx : 0 ≤ x ∧ x < 256) (h : Sub8 x y) : Mk n x := ⟨hx, fun q q0 q1 hq => hy.2 q q0 q1 (h q q0 q1 hq)⟩
theorem jbit_ex {x : Int} (hx : 0 < x ∧ x < 256) : ∃ q, (0 ≤ q ∧ q < 8) ∧ jbit x q := by
  by_cases e : ∃ q, (0 ≤ q ∧ q < 8) ∧ jbit x q
  · exact e
  · have : x = 0 := jset_ext (by omega) (by omega) (fun q q0 q1 => ⟨fun h => absurd ⟨q, ⟨q0, q1⟩, h⟩ e, fun h => absurd h (jbit_0 q0 (by omega))⟩)
    omega
/-- what a set comes to -/
def sS (N : Int → Int) (n : Nat) (x : Int) : Int := ksum (fun p => if jbit x p then N p else 0) n
theorem sS_0 {N : Int → Int} {n : Nat} (hn : n ≤ 8) : sS N n 0 = 0 := by
  unfold sS
  rw [ksum_cong (g := fun _ => 0) (fun k k0 k1 => if_neg (jbit_0 k0 (by omega))), ksum_z]
theorem sS_add {N : Int → Int} {n : Nat} (hn : n ≤ 8) {x y z : Int} (h : ∀ q, 0 ≤ q → q < 8 → (jbit z q ↔ jbit x q ∨ jbit y q) ∧ ¬ (jbit x q ∧ jbit y q)) : sS N n z = sS N n x + sS N n y := by
  unfold sS
  rw [← ksum_add]
  refine ksum_cong (fun k k0 k1 => ?_)
  have := h k k0 (by omega)
  by_cases e1 : jbit x k
  · have e2 : ¬ jbit y k := fun e => this.2 ⟨e1, e⟩
    rw [if_pos (this.1.2 (Or.inl e1)), if_pos e1, if_neg e2, Int.add_zero]
  · by_cases e2 : jbit y k
    · rw [if_pos (this.1.2 (Or.inr e2)), if_neg e1, if_pos e2, Int.zero_add]
    · rw [if_neg (fun e => by rcases this.1.1 e with h | h; exact e1 h; exact e2 h), if_neg e1, if_neg e2]; rfl
theorem sS_dif {N : Int → Int} {n : Nat} (hn : n ≤ 8) {x y : Int} (hx : 0 ≤ x ∧ x < 256) (hy : 0 ≤ y ∧ y < 256) (h : Sub8 y x) : sS N n x = sS N n y + sS N n (mDif x y) := by
  have hd := mDif_b hx hy
  refine sS_add hn (fun q q0 q1 => ⟨?_, fun e => ((hd.2 q q0 q1).1 e.2).2 e.1⟩)
  rw [hd.2 q q0 q1]
  constructor
  · intro e
    by_cases e2 : jbit y q
    · exact Or.inl e2
    · exact Or.inr ⟨e, e2⟩
  · intro e
    rcases e with e | e
    · exact h q q0 q1 e
    · exact e.1
theorem sS_one {N : Int → Int} {n : Nat} (hn : n ≤ 8) {p : Int} (hp : 0 ≤ p ∧ p < n) : sS N n (jShl 1 p) = N p := by
  have h1 := jShl_set hp.1 (show p < 8 by omega)
  unfold sS
  have h2 := ksum_up (f := fun _ => 0) (n := n) (j := p) (v := N p) hp.1 hp.2
  rw [ksum_z] at h2
  rw [ksum_cong (g := wup (fun _ => 0) p (N p)) (fun k k0 k1 => by
    by_cases e : k = p
    · subst e; rw [if_pos ((h1.2 k k0 (by omega)).2 rfl), wup_same]
    · rw [if_neg (fun q => e ((h1.2 k k0 (by omega)).1 q)), wup_ne _ _ e]), h2]
  omega
theorem sS_in {N : Int → Int} {m : Nat} {c : Int} (h : nOK m c N) (x : Int) : -c ≤ sS N (m + 1) x ∧ sS N (m + 1) x ≤ c := by
  have h1 := ksum_le (f := fun p => if jbit x p then N p else 0) (g := fun p => max 0 (N p)) (n := m + 1) (fun k k0 k1 => by show (if _ then _ else _) ≤ max 0 (N k); split <;> omega)
  have e : ksum (fun p => max 0 (-(N p))) (m + 1) = ksum (fun p => max 0 (N p)) (m + 1) - ksum N (m + 1) := by
    rw [← ksum_sub]
    exact ksum_cong (fun k k0 k1 => by show max 0 (-(N k)) = max 0 (N k) - N k; omega)
  have h2 := ksum_le (f := fun p => -(max 0 (-(N p)))) (g := fun p => if jbit x p then N p else 0) (n := m + 1) (fun k k0 k1 => by show -(max 0 (-(N k))) ≤ (if _ then _ else _); split <;> omega)
  have e2 : ksum (fun p => -(max 0 (-(N p)))) (m + 1) = -(ksum (fun p => max 0 (-(N p))) (m + 1)) := by
    have := ksum_sub (fun _ => 0) (fun p => max 0 (-(N p))) (m + 1)
    rw [ksum_z] at this
    rw [ksum_cong (g := fun p => 0 - max 0 (-(N p))) (fun k k0 k1 => by show -(max 0 (-(N k))) = 0 - max 0 (-(N k)); omega), this]
    omega
  have h3 := h.1
  have h4 := h.2
  unfold sS
  omega
/-! ### groups, as the class counts them -/
def gB (T : Int → Int) (n : Nat) (x : Int) : Int := jfold (fun p a => if jbit x p then max a (T (mDel x p)) else a) 0 n
def gV (N : Int → Int) (T : Int → Int) (n : Nat) (x : Int) : Int := gB T n x + (if sS N n x = 0 then 1 else 0)
def gT (N : Int → Int) (n : Nat) (k : Nat) : Int → Int := jfold (fun t T => wup T (t + 1) (gV N T n (t + 1))) (fun _ => 0) k
def gG (N : Int → Int) (n : Nat) (x : Int) : Int := gT N n x.toNat x
theorem gB_cong {T U : Int → Int} {n : Nat} {x : Int} (hn : n ≤ 8) (hx : 0 ≤ x ∧ x < 256) (h : ∀ y, 0 ≤ y → y < x → T y = U y) : gB T n x = gB U n x := by
  unfold gB
  refine jfold_cong (fun p p0 p1 a => ?_)
  by_cases e : jbit x p
  · rw [if_pos e, if_pos e, h _ (mDel_b hx ⟨p0, by omega⟩).1.1 (mDel_lt hx ⟨p0, by omega⟩ e)]
  · rw [if_neg e, if_neg e]
theorem gT_st {N : Int → Int} {n : Nat} : ∀ (k : Nat) (x : Int), 0 ≤ x → x ≤ k → gT N n k x = gG N n x := by
  intro k
  induction k with
  | zero =>
    intro x h0 h1
    have : x = 0 := by omega
    subst this
    rfl
  | succ k ih =>
    intro x h0 h1
    by_cases e : x = (k : Int) + 1
    · subst e
      unfold gG
      rw [show ((k : Int) + 1).toNat = k + 1 by omega]
    · rw [← ih x h0 (by omega)]
      show wup (gT N n k) ((k : Int) + 1) _ x = _
      exact wup_ne _ _ e
theorem gG_0 {N : Int → Int} {n : Nat} : gG N n 0 = 0 := rfl
theorem gG_v {N : Int → Int} {n : Nat} (hn : n ≤ 8) {x : Int} (hx : 1 ≤ x ∧ x < 256) : gG N n x = gV N (gG N n) n x := by
  obtain ⟨k, rfl⟩ : ∃ k : Nat, x = (k : Int) + 1 := ⟨(x - 1).toNat, by omega⟩
  show gT N n ((k : Int) + 1).toNat ((k : Int) + 1) = _
  rw [show ((k : Int) + 1).toNat = k + 1 by omega]
  show wup (gT N n k) ((k : Int) + 1) (gV N (gT N n k) n ((k : Int) + 1)) ((k : Int) + 1) = _
  rw [wup_same]
  unfold gV
  rw [gB_cong hn (by omega) (fun y y0 y1 => gT_st k y y0 (by omega))]
theorem gB_ok {T : Int → Int} {n : Nat} {x : Int} : 0 ≤ gB T n x ∧ (∀ p, 0 ≤ p → p < (n : Int) → jbit x p → T (mDel x p) ≤ gB T n x) ∧ (gB T n x = 0 ∨ ∃ p, (0 ≤ p ∧ p < (n : Int)) ∧ jbit x p ∧ gB T n x = T (mDel x p)) := by
  have := jfold_ind (f := fun p a => if jbit x p then max a (T (mDel x p)) else a) (a := (0 : Int)) (fun z a => 0 ≤ a ∧ (∀ p, 0 ≤ p → p < z → jbit x p → T (mDel x p) ≤ a) ∧ (a = 0 ∨ ∃ p, (0 ≤ p ∧ p < z) ∧ jbit x p ∧ a = T (mDel x p))) ⟨Int.le_refl _, fun p p0 p1 => by omega, Or.inl rfl⟩ (n := n) (fun z a z0 z1 ih => by
    obtain ⟨i1, i2, i3⟩ := ih
    by_cases e : jbit x z
    · rw [if_pos e]
      refine ⟨by omega, fun p p0 p1 hp => ?_, ?_⟩
      · by_cases e2 : p = z
        · subst e2; omega
        · have := i2 p p0 (by omega) hp; omega
      · by_cases e3 : a ≤ T (mDel x z)
        · exact Or.inr ⟨z, by omega, e, by omega⟩
        · rcases i3 with i3 | ⟨p, h1, h2, h3⟩
          · exact Or.inl (by omega)
          · exact Or.inr ⟨p, by omega, h2, by omega⟩
    · rw [if_neg e]
      refine ⟨i1, fun p p0 p1 hp => ?_, ?_⟩
      · by_cases e2 : p = z
        · subst e2; exact absurd hp e
        · exact i2 p p0 (by omega) hp
      · rcases i3 with i3 | ⟨p, h1, h2, h3⟩
        · exact Or.inl i3
        · exact Or.inr ⟨p, by omega, h2, h3⟩)
  exact this
theorem gG_nn {N : Int → Int} {n : Nat} (hn : n ≤ 8) {x : Int} (hx : 0 ≤ x ∧ x < 256) : 0 ≤ gG N n x := by
  by_cases e : x = 0
  · subst e; exact Int.le_refl _
  · rw [gG_v hn (by omega)]
    have := (gB_ok (T := gG N n) (n := n) (x := x)).1
    unfold gV
    split <;> omega
theorem gG_step {N : Int → Int} {n : Nat} (hn : n ≤ 8) {x p : Int} (hx : Mk n x) (hp : 0 ≤ p ∧ p < 8) (h : jbit x p) : gG N n (mDel x p) + (if sS N n x = 0 then 1 else 0) ≤ gG N n x := by
  have hx0 : 1 ≤ x := by have := mDel_lt hx.1 hp h; have := (mDel_b hx.1 hp).1; omega
  rw [gG_v hn (x := x) ⟨hx0, hx.1.2⟩]
  have := (gB_ok (T := gG N n) (n := n) (x := x)).2.1 p hp.1 (hx.2 p hp.1 hp.2 h) h
  unfold gV
  omega
/-- its best way down -/
theorem gG_att {N : Int → Int} {n : Nat} (hn : n ≤ 8) {x : Int} (hx : Mk n x) (h1 : 1 ≤ x) : ∃ p, (0 ≤ p ∧ p < 8) ∧ jbit x p ∧ gG N n x = gG N n (mDel x p) + (if sS N n x = 0 then 1 else 0) := by
  have hb := gB_ok (T := gG N n) (n := n) (x := x)
  have hv := gG_v (N := N) hn (x := x) ⟨h1, hx.1.2⟩
  rcases hb.2.2 with e | ⟨p, p1, p2, p3⟩
  · obtain ⟨q, q1, q2⟩ := jbit_ex (x := x) ⟨by omega, hx.1.2⟩
    refine ⟨q, q1, q2, ?_⟩
    have h2 := hb.2.1 q q1.1 (hx.2 q q1.1 q1.2 q2) q2
    have h3 := gG_nn (N := N) hn (x := mDel x q) ⟨(mDel_b hx.1 q1).1.1, by have := (mDel_b hx.1 q1).1; have := hx.1; omega⟩
    rw [hv]
    unfold gV
    omega
  · exact ⟨p, by omega, p2, by rw [hv]; unfold gV; rw [p3]⟩
/-- A: sets apart -/
theorem gG_sup {N : Int → Int} {n : Nat} (hn : n ≤ 8) {P : Int} (hP : sS N n P = 0) : ∀ (k : Nat) (Q U : Int), Q < k → Mk n U → (0 ≤ P ∧ P < 256) → (0 ≤ Q ∧ Q < 256) → (∀ q, 0 ≤ q → q < 8 → (jbit U q ↔ jbit P q ∨ jbit Q q) ∧ ¬ (jbit P q ∧ jbit Q q)) → gG N n P + gG N n Q ≤ gG N n U := by
  intro k
  induction k with
  | zero => intro Q U hk _ _ hQ; omega
  | succ k ih =>
    intro Q U hk hU hP2 hQ hb
    by_cases e : Q = 0
    · subst e
      have : U = P := jset_ext hU.1 hP2 (fun q q0 q1 => by
        rw [(hb q q0 q1).1]
        exact ⟨fun h => by rcases h with h | h; exact h; exact absurd h (jbit_0 q0 (by omega)), Or.inl⟩)
      rw [this, gG_0]
      omega
    · have hQU : Sub8 Q U := fun q q0 q1 h => (hb q q0 q1).1.2 (Or.inr h)
      have hMQ := Mk_sub hU hQ hQU
      obtain ⟨p, p1, p2, p3⟩ := gG_att (N := N) hn hMQ (by omega)
      have dQ := mDel_b hQ p1
      have dU := mDel_b hU.1 p1
      have hUp := hQU p p1.1 p1.2 p2
      have ih2 := ih (mDel Q p) (mDel U p) (by have := mDel_lt hQ p1 p2; omega) (Mk_sub hU (by have := hU.1; omega) (fun q q0 q1 h => ((dU.2 q q0 q1).1 h).1)) hP2 (by omega) (fun q q0 q1 => by
        have h1 := hb q q0 q1
        rw [dU.2 q q0 q1, dQ.2 q q0 q1, h1.1]
        refine ⟨⟨fun h => ?_, fun h => ?_⟩, fun h => h1.2 ⟨h.1, h.2.1⟩⟩
        · rcases h.1 with h2 | h2
          · exact Or.inl h2
          · exact Or.inr ⟨h2, h.2⟩
        · rcases h with h2 | h2
          · refine ⟨Or.inl h2, fun e2 => ?_⟩
            subst e2
            exact h1.2 ⟨h2, p2⟩
          · exact ⟨Or.inr h2.1, h2.2⟩)
      have hst := gG_step (N := N) hn hU p1 hUp
      have hs : sS N n U = sS N n Q := by rw [sS_add hn hb, hP, Int.zero_add]
      rw [hs] at hst
      omega
/-- B: what counts of a set comes to nothing -/
theorem gG_core {N : Int → Int} {n : Nat} (hn : n ≤ 8) : ∀ (k : Nat) (S : Int), S < k → Mk n S → ∃ T, (0 ≤ T ∧ T < 256) ∧ Sub8 T S ∧ gG N n S = gG N n T ∧ sS N n T = 0 := by
  intro k
  induction k with
  | zero => intro S hk hS; have := hS.1; omega
  | succ k ih =>
    intro S hk hS
    by_cases e0 : S = 0
    · subst e0; exact ⟨0, by omega, fun q q0 q1 h => h, rfl, sS_0 hn⟩
    · by_cases e : sS N n S = 0
      · exact ⟨S, hS.1, fun q q0 q1 h => h, rfl, e⟩
      · have h8 := hS.1
        obtain ⟨p, p1, p2, p3⟩ := gG_att (N := N) hn hS (by omega)
        have dS := mDel_b hS.1 p1
        obtain ⟨T, t1, t2, t3, t4⟩ := ih (mDel S p) (by have := mDel_lt hS.1 p1 p2; omega) (Mk_sub hS (by omega) (fun q q0 q1 h => ((dS.2 q q0 q1).1 h).1))
        rw [if_neg e, Int.add_zero] at p3
        exact ⟨T, t1, fun q q0 q1 h => ((dS.2 q q0 q1).1 (t2 q q0 q1 h)).1, p3.trans t3, t4⟩
/-- C: as the model counts them -/
theorem zG_eq {N : Int → Int} {n : Nat} (hn : n ≤ 8) {Z : Int → Int} {b : Int}
    (h1 : ∀ S, 1 ≤ S → S ≤ b → Mk n S → sS N n S = 0 → 1 ≤ Z S ∧ (∀ P, 1 ≤ P → P < S → Sub8 P S → 0 < Z P → 0 < Z (mDif S P) → Z P + Z (mDif S P) ≤ Z S) ∧ (Z S = 1 ∨ ∃ P, (1 ≤ P ∧ P < S) ∧ Sub8 P S ∧ 0 < Z P ∧ 0 < Z (mDif S P) ∧ Z S = Z P + Z (mDif S P)))
    (h2 : ∀ S, 1 ≤ S → S ≤ b → Mk n S → ¬ sS N n S = 0 → Z S = -1) : ∀ (k : Nat) (S : Int), S < k → 1 ≤ S → S ≤ b → Mk n S → sS N n S = 0 → Z S = gG N n S := by
  intro k
  induction k with
  | zero => intro S hk h0; omega
  | succ k ih =>
    intro S hk hS1 hSb hS hs
    have h8 := hS.1
    obtain ⟨a1, a2, a3⟩ := h1 S hS1 hSb hS hs
    have part : ∀ P, 1 ≤ P → P < S → Sub8 P S → Mk n P ∧ Mk n (mDif S P) ∧ (1 ≤ mDif S P ∧ mDif S P < S) ∧ sS N n S = sS N n P + sS N n (mDif S P) ∧ ∀ q, 0 ≤ q → q < 8 → (jbit S q ↔ jbit P q ∨ jbit (mDif S P) q) ∧ ¬ (jbit P q ∧ jbit (mDif S P) q) := fun P p1 p2 p3 => by
      have hP : 0 ≤ P ∧ P < 256 := by omega
      have hd := mDif_b hS.1 hP
      have hb : ∀ q, 0 ≤ q → q < 8 → (jbit S q ↔ jbit P q ∨ jbit (mDif S P) q) ∧ ¬ (jbit P q ∧ jbit (mDif S P) q) := fun q q0 q1 => by
        rw [hd.2 q q0 q1]
        refine ⟨⟨fun e => ?_, fun e => ?_⟩, fun e => e.2.2 e.1⟩
        · by_cases e2 : jbit P q
          · exact Or.inl e2
          · exact Or.inr ⟨e, e2⟩
        · rcases e with e | e
          · exact p3 q q0 q1 e
          · exact e.1
      refine ⟨Mk_sub hS hP p3, Mk_sub hS (by omega) (fun q q0 q1 h => ((hd.2 q q0 q1).1 h).1), ⟨?_, ?_⟩, sS_dif hn hS.1 hP p3, hb⟩
      · by_cases e : mDif S P = 0
        · have : S = P := jset_ext hS.1 hP (fun q q0 q1 => by
            rw [(hb q q0 q1).1, e]
            exact ⟨fun h => by rcases h with h | h; exact h; exact absurd h (jbit_0 q0 (by omega)), Or.inl⟩)
          omega
        · omega
      · by_cases e : mDif S P = S
        · obtain ⟨q, q1, q2⟩ := jbit_ex (x := P) (by omega)
          have hq := p3 q q1.1 q1.2 q2
          rw [← e] at hq
          exact absurd q2 ((hd.2 q q1.1 q1.2).1 hq).2
        · omega
    -- a set with a positive count comes to nothing
    have pos : ∀ P, 1 ≤ P → P ≤ b → Mk n P → 0 < Z P → sS N n P = 0 := fun P p1 p2 p3 p4 => by
      by_cases e : sS N n P = 0
      · exact e
      · have := h2 P p1 p2 p3 e; omega
    have hle : Z S ≤ gG N n S := by
      rcases a3 with e | ⟨P, p1, p2, p3, p4, p5⟩
      · obtain ⟨p, q1, q2, q3⟩ := gG_att (N := N) hn hS hS1
        have d1 := mDel_b hS.1 q1
        have := gG_nn (N := N) hn (x := mDel S p) (by omega)
        rw [if_pos hs] at q3
        omega
      · obtain ⟨m1, m2, m3, m4, m5⟩ := part P p1.1 p1.2 p2
        have s1 := pos P p1.1 (by omega) m1 p3
        have s2 := pos (mDif S P) m3.1 (by omega) m2 p4
        have z1 := ih P (by omega) p1.1 (by omega) m1 s1
        have z2 := ih (mDif S P) (by omega) m3.1 (by omega) m2 s2
        have := gG_sup (N := N) hn s1 256 (mDif S P) S (by omega) hS (by omega) (by omega) m5
        omega
    have hge : gG N n S ≤ Z S := by
      obtain ⟨p, q1, q2, q3⟩ := gG_att (N := N) hn hS hS1
      rw [if_pos hs] at q3
      have d1 := mDel_b hS.1 q1
      have d2 := mDel_lt hS.1 q1 q2
      obtain ⟨T, t1, t2, t3, t4⟩ := gG_core (N := N) hn 256 (mDel S p) (by omega) (Mk_sub hS (by omega) (fun q q0 q1 h => ((d1.2 q q0 q1).1 h).1))
      by_cases e : T = 0
      · rw [e, gG_0] at t3; omega
      · have tS : Sub8 T S := fun q q0 q1 h => ((d1.2 q q0 q1).1 (t2 q q0 q1 h)).1
        have tl := Sub8_le t1 (y := mDel S p) (by omega) t2
        obtain ⟨m1, m2, m3, m4, m5⟩ := part T (by omega) (by omega) tS
        have s2 : sS N n (mDif S T) = 0 := by omega
        have z1 := ih T (by omega) (by omega) (by omega) m1 t4
        have z2 := ih (mDif S T) (by omega) m3.1 (by omega) m2 s2
        have p1 := (h1 T (by omega) (by omega) m1 t4).1
        have p2 := (h1 (mDif S T) m3.1 (by omega) m2 s2).1
        have := a2 T (by omega) (by omega) tS (by omega) (by omega)
        omega
    omega
/-- D: one whose net is nothing is a group alone -/
theorem gG_one {N : Int → Int} {n : Nat} (hn : n ≤ 8) {p : Int} (hp : 0 ≤ p ∧ p < n) (h0 : N p = 0) : ∀ (k : Nat) (S U : Int), S < k → Mk n U → (0 ≤ S ∧ S < 256) → (∀ q, 0 ≤ q → q < 8 → (jbit U q ↔ q = p ∨ jbit S q)) → ¬ jbit S p → gG N n U = gG N n S + 1 := by
  intro k
  induction k with
  | zero => intro S U hk _ hS; omega
  | succ k ih =>
    intro S U hk hU hS hb hnp
    have hP := jShl_set hp.1 (show p < 8 by omega)
    have s0 : sS N n (jShl 1 p) = 0 := by rw [sS_one hn hp]; exact h0
    have hUb : ∀ q, 0 ≤ q → q < 8 → (jbit U q ↔ jbit (jShl 1 p) q ∨ jbit S q) ∧ ¬ (jbit (jShl 1 p) q ∧ jbit S q) := fun q q0 q1 => by
      rw [hP.2 q q0 (by omega)]
      exact ⟨hb q q0 q1, fun h => hnp (by rw [← h.1]; exact h.2)⟩
    have hSU : Sub8 S U := fun q q0 q1 h => (hb q q0 q1).2 (Or.inr h)
    have hMS := Mk_sub hU hS hSU
    have hUp : jbit U p := (hb p hp.1 (by omega)).2 (Or.inl rfl)
    have hU8 := hU.1
    have hU1 : 1 ≤ U := by have := mDel_lt hU.1 ⟨hp.1, by omega⟩ hUp; have := (mDel_b hU.1 ⟨hp.1, show p < 8 by omega⟩).1; omega
    have hsU : sS N n U = sS N n S := by rw [sS_add hn hUb, s0, Int.zero_add]
    have h1 : gG N n (jShl 1 p) = 1 := by
      have hM1 : Mk n (jShl 1 p) := ⟨by omega, fun q q0 q1 h => by rw [(hP.2 q q0 (by omega)).1 h]; exact hp.2⟩
      obtain ⟨r, r1, r2, r3⟩ := gG_att (N := N) hn hM1 (by omega)
      rw [if_pos s0] at r3
      have er : r = p := (hP.2 r r1.1 (by omega)).1 r2
      have dr := mDel_b hM1.1 r1
      have : mDel (jShl 1 p) r = 0 := jset_ext (by omega) (by omega) (fun q q0 q1 => by
        rw [dr.2 q q0 q1, hP.2 q q0 (by omega)]
        exact ⟨fun h => absurd (h.1.trans er.symm) h.2, fun h => absurd h (jbit_0 q0 (by omega))⟩)
      rw [this, gG_0] at r3
      omega
    have hge := gG_sup (N := N) hn s0 256 S U (by omega) hU (by omega) hS hUb
    have hle : gG N n U ≤ gG N n S + 1 := by
      obtain ⟨r, r1, r2, r3⟩ := gG_att (N := N) hn hU hU1
      rw [hsU] at r3
      by_cases er : r = p
      · subst er
        have dr := mDel_b hU.1 r1
        have : mDel U r = S := jset_ext (by omega) hS (fun q q0 q1 => by
          rw [dr.2 q q0 q1, hb q q0 q1]
          exact ⟨fun h => by rcases h.1 with h2 | h2; exact absurd h2 h.2; exact h2, fun h => ⟨Or.inr h, fun e => hnp (by rw [← e]; exact h)⟩⟩)
        rw [this] at r3
        split at r3 <;> omega
      · have rS : jbit S r := by rcases (hb r r1.1 r1.2).1 r2 with h | h; exact absurd h er; exact h
        have dU := mDel_b hU.1 r1
        have dS := mDel_b hS r1
        have ih2 := ih (mDel S r) (mDel U r) (by have := mDel_lt hS r1 rS; omega) (Mk_sub hU (by omega) (fun q q0 q1 h => ((dU.2 q q0 q1).1 h).1)) (by omega) (fun q q0 q1 => by
          rw [dU.2 q q0 q1, dS.2 q q0 q1, hb q q0 q1]
          refine ⟨fun h => ?_, fun h => ?_⟩
          · rcases h.1 with h2 | h2
            · exact Or.inl h2
            · exact Or.inr ⟨h2, h.2⟩
          · rcases h with h2 | h2
            · exact ⟨Or.inl h2, fun e => er (e.symm.trans h2)⟩
            · exact ⟨Or.inr h2.1, h2.2⟩) (fun h => hnp ((dS.2 p hp.1 (by omega)).1 h).1)
        have hst := gG_step (N := N) hn hMS r1 rS
        omega
    omega
