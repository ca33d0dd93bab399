/-! WHAT A LINE LEAVES IS WELL FORMED -/
theorem WF_set {w : Int → Int} {c x : Int} (h : WF w) (hc : (c = 4) ∨ (c = 5 ∧ 0 ≤ x ∧ x ≤ 20) ∨ (c = 6 ∧ 0 ≤ x ∧ x ≤ 100) ∨ (c = 7 ∧ 0 ≤ x ∧ x ≤ 100)) : WF (wup w c x) := by
  rcases hc with rfl | ⟨rfl, hx⟩ | ⟨rfl, hx⟩ | ⟨rfl, hx⟩
  · exact WF_4 h
  all_goals
    obtain ⟨h1, ⟨o1, o2, o3⟩, h3, h4, h5, h6⟩ := h
    have e : ∀ c x k : Int, k ≠ c → wup w c x k = w k := fun c x k hk => wup_ne _ _ hk
    have eo : ∀ c x p k : Int, c < 12 → 0 ≤ p → 0 ≤ k → aOf (wup w c x) p k = aOf w p k := fun c x p k hc p0 k0 => wup_ne _ _ (by omega)
    refine ⟨by rw [show aPe (wup w _ x) = aPe w from e _ _ 0 (by decide)]; exact h1, ⟨by rw [e _ _ 3 (by decide)]; exact o1, ?_, fun p p0 p1 => ?_⟩, WfLw_cong (e _ _ 2 (by decide)) (fun k hk => e _ _ k (by omega)) h3, by rw [e _ _ 8 (by decide)]; exact h4, ?_, ?_⟩
    · first | (rw [wup_same]; exact hx) | (rw [e _ _ 5 (by decide)]; exact o2)
    · rw [show aPe (wup w _ x) = aPe w from e _ _ 0 (by decide)] at p1 ⊢
      have := o3 p p0 p1
      rw [eo _ _ p 0 (by decide) p0 (by decide), eo _ _ p 1 (by decide) p0 (by decide), eo _ _ p 2 (by decide) p0 (by decide), eo _ _ p 3 (by decide) p0 (by decide), eo _ _ p 4 (by decide) p0 (by decide), eo _ _ p 5 (by decide) p0 (by decide)]
      exact ⟨this.1, this.2.1, this.2.2.1, this.2.2.2.1, this.2.2.2.2.1, this.2.2.2.2.2.1, fun k k0 k1 => by rw [eo _ _ p _ (by decide) p0 (by omega)]; exact this.2.2.2.2.2.2 k k0 k1⟩
    · first | (rw [wup_same]; exact hx) | (rw [e _ _ 6 (by decide)]; exact h5)
    · first | (rw [wup_same]; exact hx) | (rw [e _ _ 7 (by decide)]; exact h6)
theorem OKw_set {b : Int} {w : Int → Int} {c x : Int} (h : OKw b w) (hc : (c = 4) ∨ (c = 5 ∧ 0 ≤ x ∧ x ≤ 20) ∨ (c = 6 ∧ 0 ≤ x ∧ x ≤ 100) ∨ (c = 7 ∧ 0 ≤ x ∧ x ≤ 100)) : OKw b (wup w c x) := by
  have hW := WF_set (x := x) h.1 hc
  obtain ⟨h1, h2, h3, h4, h5, h6, h7⟩ := h
  have e : ∀ k, k < 4 ∨ 7 < k → wup w c x k = w k := fun k hk => wup_ne _ _ (by omega)
  have e0 : aPe (wup w c x) = aPe w := e 0 (by omega)
  have eo : ∀ p q, 0 ≤ p → p < aPe w → 0 ≤ q → q < aPe w → aOw (wup w c x) p q = aOw w p q := fun p q p0 p1 q0 q1 => e _ (by omega)
  exact ⟨hW, by rw [e 9 (by omega)]; exact h2, by rw [e 1 (by omega)]; exact h3, by rw [e 10 (by omega)]; exact h4, fun p p0 p1 => by rw [show aOf (wup w c x) p 4 = aOf w p 4 from e _ (by omega)]; exact h5 p p0 (by omega), fun p q p0 p1 q0 q1 => by rw [eo p q p0 (by omega) q0 (by omega)]; exact h6 p q p0 (by omega) q0 (by omega), by rw [mTot_cong e0 eo]; exact h7⟩
theorem wAF_f {w : Int → Int} {p x : Int} : wup w (12 + 13 * p + 2) x = wAF w p (aOf w p 1) x := by
  have e : wAF w p (aOf w p 1) x = wup (wup w (12 + 13 * p + 1) (aOf w p 1)) (12 + 13 * p + 2) x := (wup_comm _ _ _ (by omega)).symm
  rw [e]
  congr 1
  funext k
  by_cases c : k = 12 + 13 * p + 1
  · subst c; rw [wup_same]
  · rw [wup_ne _ _ c]
theorem OKw_one {b : Int} {B : Int → Int} {n q : Int} {w : Int → Int} {c : Int} (h : OKw b w) (hc : c = 1 ∨ c = 2 ∨ c = 3) : OKw b (bOne B n w q c).2.2 := by
  have g8 := h.1.1
  unfold bOne
  by_cases hv : vPn B n w (tkN B n q)
  · rw [if_pos hv]
    have pv := vPn_in hv
    generalize tV B n (tkN B n q) = p at *
    have hq := h.1.2.1.2.2 p pv.1 pv.2
    by_cases c3 : c = 3
    · rw [if_pos c3]
      exact OKw_wf h (WF_row h.1 pv (Or.inl ⟨rfl, Or.inr rfl⟩)) (fun k hk => wup_ne _ _ (by omega))
    · rw [if_neg c3]
      by_cases hv2 : vNm B n (tkN B n (tkN B n q)) 5 0 (if c = 2 then aOf w p 1 else 99999)
      · rw [if_pos hv2]
        have hx := tV_in hv2
        generalize tV B n (tkN B n (tkN B n q)) = x at *
        by_cases c2 : c = 2
        · rw [if_pos c2] at hx
          rw [if_pos c2]
          refine OKw_wf h ?_ (fun k hk => wup_ne _ _ (by omega))
          rw [wAF_f]
          exact WF_AF h.1 pv hq.2.1 hx
        · rw [if_neg c2] at hx
          rw [if_neg c2]
          refine OKw_wf h ?_ (fun k hk => (wup_ne _ _ (by omega)).trans (wup_ne _ _ (by omega)))
          rw [wup_comm _ _ _ (by omega)]
          exact WF_AF h.1 pv hx (by omega)
      · rw [if_neg hv2]; exact h
  · rw [if_neg hv]; exact h
theorem OKw_two {b : Int} {B : Int → Int} {n q : Int} {w : Int → Int} {c : Int} (h : OKw b w) : OKw (b + 9999) (bTwo B n w q c).2.2 := by
  have g8 := h.1.1
  have hB := OKw_B h (show b ≤ b + 9999 by omega)
  unfold bTwo
  by_cases hv : vPn B n w (tkN B n q)
  · rw [if_pos hv]
    have pv := vPn_in hv
    generalize tV B n (tkN B n q) = p at *
    have hq := h.1.2.1.2.2 p pv.1 pv.2
    by_cases hu : vPn B n w (tkN B n (tkN B n q)) ∧ ¬ tV B n (tkN B n (tkN B n q)) = p
    · rw [if_pos hu]
      have pu := vPn_in hu.1
      have hne := hu.2
      generalize tV B n (tkN B n (tkN B n q)) = r at *
      by_cases c4 : c = 4
      · rw [if_pos c4]
        have hW := WF_row (c := 4) (x := r) h.1 pv (Or.inr (Or.inr ⟨rfl, by omega, by omega⟩))
        obtain ⟨h1, h2, h3, h4, h5, h6, h7⟩ := hB
        have e : ∀ k, k ≠ 12 + 13 * p + 4 → wup w (12 + 13 * p + 4) r k = w k := fun k hk => wup_ne _ _ hk
        have e0 : aPe (wup w (12 + 13 * p + 4) r) = aPe w := e 0 (by omega)
        have eo : ∀ p' q, 0 ≤ p' → p' < aPe w → 0 ≤ q → q < aPe w → aOw (wup w (12 + 13 * p + 4) r) p' q = aOw w p' q := fun p' q p0 p1 q0 q1 => e _ (by omega)
        show OKw (b + 9999) (wup w (12 + 13 * p + 4) r)
        refine ⟨hW, by rw [e 9 (by omega)]; exact h2, by rw [e 1 (by omega)]; exact h3, by rw [e 10 (by omega)]; exact h4, fun s s0 s1 => ?_, fun p q p0 p1 q0 q1 => by rw [eo p q p0 (by omega) q0 (by omega)]; exact h6 p q p0 (by omega) q0 (by omega), by rw [mTot_cong e0 eo]; exact h7⟩
        by_cases es : s = p
        · subst es
          rw [show aOf (wup w (12 + 13 * s + 4) r) s 4 = r from wup_same _ _ _]
          exact hne
        · rw [show aOf (wup w (12 + 13 * p + 4) r) s 4 = aOf w s 4 from e _ (by omega)]
          exact h5 s s0 (by omega)
      · rw [if_neg c4]
        by_cases c5 : c = 5
        · rw [if_pos c5]
          have hs := (jShl_set (p := r) pu.1 (by omega)).1
          have ho := (jOr_set (a := aOf w p 5) (b := jShl 1 r) hq.2.2.2.2.2.1 (by omega)).1
          exact OKw_wf hB (WF_row h.1 pv (Or.inr (Or.inl ⟨rfl, ho⟩))) (fun k hk => wup_ne _ _ (by omega))
        · rw [if_neg c5]
          by_cases hv2 : vNm B n (tkN B n (tkN B n (tkN B n q))) 5 0 9999
          · rw [if_pos hv2]
            have hx := tV_in hv2
            generalize tV B n (tkN B n (tkN B n (tkN B n q))) = x at *
            have ht := aOw_tot h pv pu
            obtain ⟨h1, h2, h3, h4, h5, h6, h7⟩ := h
            have e : ∀ k, k < 116 ∨ 180 ≤ k → wup w (116 + 8 * p + r) x k = w k := fun k hk => wup_ne _ _ (by omega)
            have e0 : aPe (wup w (116 + 8 * p + r) x) = aPe w := e 0 (by omega)
            show OKw (b + 9999) (wup w (116 + 8 * p + r) x)
            refine ⟨WF_cong (fun k hk => e k (by omega)) h1, by rw [e 9 (by omega)]; omega, by rw [e 1 (by omega)]; exact h3, by rw [e 10 (by omega)]; exact h4, fun s s0 s1 => by rw [show aOf (wup w (116 + 8 * p + r) x) s 4 = aOf w s 4 from e _ (by omega)]; exact h5 s s0 (by omega), fun a b a0 a1 b0 b1 => ?_, ?_⟩
            · show 0 ≤ wup w (116 + 8 * p + r) x (116 + 8 * a + b)
              by_cases c : 116 + 8 * a + b = 116 + 8 * p + r
              · rw [c, wup_same]; omega
              · rw [wup_ne _ _ c]; exact h6 a b a0 (by omega) b0 (by omega)
            · show mTot (wup w (116 + 8 * p + r) x) ≤ _
              rw [mTot_up g8.2 pv pu]; omega
          · rw [if_neg hv2]; exact hB
    · rw [if_neg hu]; exact hB
  · rw [if_neg hv]; exact hB
theorem OKw_pern {b : Int} {B : Int → Int} {q be : Int} {w : Int → Int} (h : OKw b w) (h8 : aPe w < 8) (hb : 1 ≤ be ∧ be ≤ 99) (hd : ∀ k : Nat, k < 7 → 48 ≤ B (q + k) ∧ B (q + k) ≤ 57) : OKw b (wPer B w be q) := by
  have g8 := h.1.1
  have hw : 0 ≤ aPe w ∧ aPe w < 8 := ⟨g8.1, h8⟩
  obtain ⟨⟨a1, ⟨o1, o2, o3⟩, a3, a4, a5, a6⟩, h2, h3, h4, h5, h6, h7⟩ := h
  have hl : ∀ k, 0 < k → k < 12 ∨ 180 ≤ k → wPer B w be q k = w k := fun k k0 k1 => wPer_o (by omega) (by omega) (by omega)
  have n0 : aOf (wPer B w be q) (aPe w) 0 = be := wPer_n (k := 0) hw (by omega)
  have n1 : aOf (wPer B w be q) (aPe w) 1 = 0 := wPer_n (k := 1) hw (by omega)
  have n2 : aOf (wPer B w be q) (aPe w) 2 = 0 := wPer_n (k := 2) hw (by omega)
  have n3 : aOf (wPer B w be q) (aPe w) 3 = 0 := wPer_n (k := 3) hw (by omega)
  have n4 : aOf (wPer B w be q) (aPe w) 4 = -1 := wPer_n (k := 4) hw (by omega)
  have n5 : aOf (wPer B w be q) (aPe w) 5 = 0 := wPer_n (k := 5) hw (by omega)
  refine ⟨⟨by rw [wPer_0]; omega, ⟨by rw [hl 3 (by omega) (by omega)]; exact o1, by rw [hl 5 (by omega) (by omega)]; exact o2, fun p p0 p1 => ?_⟩, WfLw_cong (hl 2 (by omega) (by omega)) (fun k hk => hl k (by omega) (by omega)) a3, by rw [hl 8 (by omega) (by omega)]; exact a4, by rw [hl 6 (by omega) (by omega)]; exact a5, by rw [hl 7 (by omega) (by omega)]; exact a6⟩, by rw [hl 9 (by omega) (by omega)]; exact h2, by rw [hl 1 (by omega) (by omega)]; exact h3, by rw [hl 10 (by omega) (by omega)]; exact h4, fun p p0 p1 => ?_, fun p r p0 p1 r0 r1 => ?_, ?_⟩
  · rw [wPer_0] at p1 ⊢
    by_cases e : p = aPe w
    · subst e
      rw [n0, n1, n2, n3, n4, n5]
      refine ⟨hb, by omega, by omega, Or.inl rfl, by omega, by omega, fun k k0 k1 => ?_⟩
      rw [wPer_n hw (by omega), if_neg (by omega), if_neg (by omega), if_neg (by omega), show (6 + k - 6 : Int) = k by omega]
      obtain ⟨u, rfl⟩ := Int.eq_ofNat_of_zero_le k0
      have := hd u (by omega)
      omega
    · have hp : 0 ≤ p ∧ p < aPe w := by omega
      obtain ⟨i0, i1, i2, i3, i4, i5, i6⟩ := o3 p p0 hp.2
      rw [wPer_p hw hp (by omega), wPer_p hw hp (by omega), wPer_p hw hp (by omega), wPer_p hw hp (by omega), wPer_p hw hp (by omega), wPer_p hw hp (by omega)]
      exact ⟨i0, i1, i2, i3, by omega, i5, fun k k0 k1 => by rw [wPer_p hw hp (by omega)]; exact i6 k k0 k1⟩
  · rw [wPer_0] at p1
    by_cases e : p = aPe w
    · subst e; rw [n4]; omega
    · rw [wPer_p hw (by omega) (by omega)]; exact h5 p p0 (by omega)
  · rw [wPer_0] at p1 r1
    rw [wPer_w hw (by omega) (by omega)]
    by_cases e : p = aPe w ∨ r = aPe w
    · rw [if_pos e]; exact Int.le_refl _
    · rw [if_neg e]; exact h6 p r p0 (by omega) r0 (by omega)
  · have : mTot (wPer B w be q) = mTot w := by
      rw [mTot_sum, mTot_sum, wPer_0, show (aPe w + 1).toNat = (aPe w).toNat + 1 by omega, ksum_s]
      have z : ksum (fun r => aOw (wPer B w be q) (((aPe w).toNat : Nat) : Int) r) ((aPe w).toNat + 1) = 0 := by
        rw [← ksum_z ((aPe w).toNat + 1)]
        refine ksum_cong (fun r r0 r1 => ?_)
        rw [show (((aPe w).toNat : Nat) : Int) = aPe w by omega, wPer_w hw (by omega) (by omega), if_pos (Or.inl rfl)]
      rw [show ksum (fun p => ksum (fun r => aOw (wPer B w be q) p r) ((aPe w).toNat + 1)) (aPe w).toNat = ksum (fun p => ksum (fun r => aOw w p r) (aPe w).toNat) (aPe w).toNat from ksum_cong (fun p p0 p1 => by
        rw [ksum_s]
        rw [wPer_w hw (by omega) (by omega), if_pos (Or.inr (by omega))]
        rw [show ksum (fun r => aOw (wPer B w be q) p r) (aPe w).toNat = ksum (fun r => aOw w p r) (aPe w).toNat from ksum_cong (fun r r0 r1 => by rw [wPer_w hw (by omega) (by omega), if_neg (by omega)])]
        omega)]
      omega
    omega
theorem OKw_line {b : Int} {B : Int → Int} {n q : Int} {w : Int → Int} (h : OKw b w) (hq : q ≤ n) : OKw (b + 9999) (bLine B n w q).2.2 := by
  have hB := OKw_B h (show b ≤ b + 9999 by omega)
  rcases bLine_c B n w q with ⟨-, e⟩ | ⟨c, hc, e⟩ | ⟨c, hc, e⟩ | ⟨c, hc, e⟩ | ⟨-, e⟩ <;> rw [e]
  · unfold bPer
    by_cases c8 : 8 ≤ aPe w
    · rw [if_pos c8]; exact hB
    · rw [if_neg c8]
      split
      · split
        · rename_i h2
          split
          · split
            · rename_i h4
              have i1 := tkN_in (B := B) (n := n) (q := q) hq
              have i2 := tkN_in (B := B) (n := n) (q := tkN B n q) i1.2
              have i3 := tkN_in (B := B) (n := n) i2.2
              have i4 := tkN_in (B := B) (n := n) i3.2
              exact OKw_pern hB (by omega) (tV_in h2) (fun k hk => figs i4.2 h4.1.1 (by omega))
            · exact hB
          · exact hB
        · exact hB
      · exact hB
  · exact OKw_one hB (by omega)
  · exact OKw_two h
  · unfold bSet
    split
    · rename_i hv
      have hx := tV_in hv
      refine OKw_set hB ?_
      rcases hc with ⟨rfl, -⟩ | ⟨rfl, -⟩ | ⟨rfl, -⟩ | ⟨rfl, -⟩
      · exact Or.inl rfl
      · exact Or.inr (Or.inl ⟨rfl, hx⟩)
      · exact Or.inr (Or.inr (Or.inl ⟨rfl, hx⟩))
      · exact Or.inr (Or.inr (Or.inr ⟨rfl, hx⟩))
    · exact hB
  · exact hB
/-- where a line ends, and what it leaves alone -/
theorem bLine_q {B : Int → Int} {n q : Int} {w : Int → Int} (hq : q ≤ n) : q ≤ (bLine B n w q).2.1 ∧ (bLine B n w q).2.1 ≤ n := by
  have i1 := tkN_in (B := B) (n := n) (q := q) hq
  have i2 := tkN_in (B := B) (n := n) (q := tkN B n q) i1.2
  have i3 := tkN_in (B := B) (n := n) i2.2
  have i4 := tkN_in (B := B) (n := n) i3.2
  have i5 := tkN_in (B := B) (n := n) i4.2
  rcases bLine_c B n w q with ⟨-, e⟩ | ⟨c, hc, e⟩ | ⟨c, hc, e⟩ | ⟨c, hc, e⟩ | ⟨-, e⟩ <;> rw [e]
  · unfold bPer; repeat' split
    all_goals (dsimp only; omega)
  · unfold bOne; repeat' split
    all_goals (dsimp only; omega)
  · unfold bTwo; repeat' split
    all_goals (dsimp only; omega)
  · unfold bSet; repeat' split
    all_goals (dsimp only; omega)
  · exact ⟨Int.le_refl _, hq⟩
theorem bLine_o {B : Int → Int} {n q : Int} {w : Int → Int} (h8 : 0 ≤ aPe w ∧ aPe w ≤ 8) {k : Int} (hk : k < 0 ∨ 180 ≤ k ∨ (1 ≤ k ∧ k ≤ 3) ∨ (8 ≤ k ∧ k < 12)) : (bLine B n w q).2.2 k = w k := by
  rcases bLine_c B n w q with ⟨-, e⟩ | ⟨c, hc, e⟩ | ⟨c, hc, e⟩ | ⟨c, hc, e⟩ | ⟨-, e⟩ <;> rw [e]
  · unfold bPer; repeat' split
    all_goals first | rfl | exact wPer_o (by omega) (by omega) (by omega)
  · unfold bOne
    split
    · rename_i hv
      have pv := vPn_in hv
      generalize tV B n (tkN B n q) = p at *
      repeat' split
      all_goals first | rfl | exact wup_ne _ _ (by omega) | exact (wup_ne _ _ (by omega)).trans (wup_ne _ _ (by omega))
    · rfl
  · unfold bTwo
    split
    · rename_i hv
      have pv := vPn_in hv
      generalize tV B n (tkN B n q) = p at *
      split
      · rename_i hu
        have pu := vPn_in hu.1
        generalize tV B n (tkN B n (tkN B n q)) = r at *
        repeat' split
        all_goals first | rfl | exact wup_ne _ _ (by omega)
      · rfl
    · rfl
  · unfold bSet; repeat' split
    all_goals first | rfl | exact wup_ne _ _ (by omega)
theorem bAll_ok {b : Int} {B : Int → Int} {n : Int} : ∀ (m : Nat) {w : Int → Int} {q : Int} {b : Int}, OKw b w → q ≤ n → OKw (b + 9999 * m) (bAll B n m w q).2.2 ∧ (∀ k, (k < 0 ∨ 180 ≤ k ∨ (1 ≤ k ∧ k ≤ 3) ∨ (8 ≤ k ∧ k < 12)) → (bAll B n m w q).2.2 k = w k) ∧ ((bAll B n m w q).1 = 0 ∨ (bAll B n m w q).1 = 1) := by
  intro m
  induction m with
  | zero => intro w q b h hq; exact ⟨OKw_B h (by omega), fun _ _ => rfl, Or.inl rfl⟩
  | succ m ih =>
    intro w q b h hq
    have hl := OKw_line (B := B) (n := n) h hq
    have hlq := bLine_q (B := B) (n := n) (w := w) hq
    have h01 := bLine_01 B n w q
    have ho : ∀ k, (k < 0 ∨ 180 ≤ k ∨ (1 ≤ k ∧ k ≤ 3) ∨ (8 ≤ k ∧ k < 12)) → (bLine B n w q).2.2 k = w k := fun k hk => bLine_o h.1.1 hk
    unfold bAll
    generalize bLine B n w q = R at *
    by_cases c1 : R.1 = 0
    · rw [if_pos c1]; exact ⟨OKw_B hl (by omega), ho, h01⟩
    · rw [if_neg c1]
      by_cases c2 : tkK B n R.2.1 = 0
      · rw [if_pos c2]; exact ⟨OKw_B hl (by omega), ho, h01⟩
      · rw [if_neg c2]
        by_cases c3 : vSg B n R.2.1 59
        · rw [if_pos c3]
          have hn := tkN_in (B := B) (n := n) hlq.2
          obtain ⟨i1, i2, i3⟩ := ih hl hn.2
          exact ⟨OKw_B i1 (by omega), fun k hk => (i2 k hk).trans (ho k hk), i3⟩
        · rw [if_neg c3]; exact ⟨OKw_B hl (by omega), ho, Or.inl rfl⟩
theorem bTxt_ok {b : Int} {B : Int → Int} {n q : Int} {w : Int → Int} (h : OKw b w) (hq : q ≤ n) : OKw (b + 139986) (bTxt B n w q).2.2 ∧ (∀ k, (k < 0 ∨ 180 ≤ k ∨ (1 ≤ k ∧ k ≤ 3) ∨ (8 ≤ k ∧ k < 12)) → (bTxt B n w q).2.2 k = w k) ∧ ((bTxt B n w q).1 = 0 ∨ (bTxt B n w q).1 = 1) := by
  unfold bTxt
  by_cases c : tkK B n q = 0
  · rw [if_pos c]; exact ⟨OKw_B h (by omega), fun _ _ => rfl, Or.inr rfl⟩
  · rw [if_neg c]
    obtain ⟨i1, i2, i3⟩ := bAll_ok (b := b) (B := B) (n := n) 14 h hq
    exact ⟨OKw_B i1 (by omega), i2, i3⟩
section
variable {G : jzG} {d : Nat} {sh : List (Nat × Nat)} {I : Nat → Int → Int} {F : Nat → Int → Option Nat} {B : Int → Int} {n q : Int} {w : Int → Int}
theorem sb_read {b : Int} (hsh : ShOK sh) (hfx : FxOK F) (h12 : StAt sh F 12) (hT : Tx I B n q) (hR : Rp I 12 w) (hw : OKw b w) : jS G (d + 8) mX0_read [jR (some 154), jR (some 12)] (sh, I, F) 0 0 (rEI (bTxt B n w q).1 sh F (bCl I B n (bTxt B n w q))) := by
  have sE := st_isEnd (G := G) (d := d + 7) (F := F) hsh hT
  refine jS_go [some (jR (some 154)), some (jR (some 12)), none] (by decide +kernel) rfl (by simp [jone]) (Nat.le_of_ble_eq_true rfl) rfl (fun hok => ?_)
  by_cases c : tkK B n q = 0
  · have hb : bTxt B n w q = (1, q, w) := if_pos c
    rw [if_pos c] at sE
    rw [hb]
    refine j_aload_n dX0_read_0 rfl ?_
    refine r_cv0I dX0_read_1 cvX0_9 (by decide) (by first | assumption | exact hsh _ _ rfl) (Nat.le_of_ble_eq_true rfl) (Nat.le_of_eq (Nat.zero_add _)) (Nat.le_of_eq (Nat.zero_add _)) (sE) ?_
    refine j_if_eq (tgt := 9) dX0_read_4 rfl (by first | omega | (split <;> omega)) (fun c_4 => by exact absurd c_4 (by decide)) (fun c_4 => ?_)
    refine j_iconst dX0_read_7 ?_
    refine j_zret dX0_read_8 rfl (by omega) ?_
    exact rEI_of rfl ⟨hT, hR, ⟨fun _ _ _ => rfl, rfl⟩⟩
  · have hb : bTxt B n w q = bAll B n 14 w q := if_neg c
    rw [if_neg c] at sE
    rw [hb]
    have key : ∀ (m : Nat) (z : Int) (b : Int) (w : Int → Int) (q : Int) (J : Nat → Int → Int), z + m = 14 → 0 ≤ z → OKw b w → Tx J B n q → Rp J 12 w → FrB I J → jW G mX0_read (d + 8) (rEI (bAll B n m w q).1 sh F (bCl I B n (bAll B n m w q))) 11 [some (jR (some 154)), some (jR (some 12)), some (jI z)] [] (sh, J, F) 0 0 := by
      intro m
      induction m with
      | zero =>
        intro z b w q J hz hz0 hw hT hR hf
        refine j_iload_n dX0_read_11 rfl ?_
        refine j_bipush dX0_read_12 (by decide) ?_
        refine j_icmp_ge (tgt := 53) dX0_read_14 rfl (by first | omega | (split <;> omega)) (by first | omega | (split <;> omega)) (fun c_14 => ?_) (fun c_14 => by exact absurd (by omega) c_14)
        refine j_iconst dX0_read_53 ?_
        refine j_zret dX0_read_54 rfl (by omega) ?_
        exact rEI_of rfl ⟨hT, hR, hf⟩
      | succ m ih =>
        intro z b w q J hz hz0 hw hT hR hf
        have hq : q ≤ n := hT.2.2.2.2.2.2.2.1.2
        have sL := sb_readLine (G := G) (d := d) hsh hfx h12 hT hR (WF_A hw.1)
        have hl := OKw_line (B := B) (n := n) hw hq
        have hlq := bLine_q (B := B) (n := n) (w := w) hq
        have h01 := bLine_01 B n w q
        have hb : bAll B n (m + 1) w q = if (bLine B n w q).1 = 0 then bLine B n w q else if tkK B n (bLine B n w q).2.1 = 0 then bLine B n w q else if vSg B n (bLine B n w q).2.1 59 then bAll B n m (bLine B n w q).2.2 (tkN B n (bLine B n w q).2.1) else (0, (bLine B n w q).2) := rfl
        rw [hb]
        generalize bLine B n w q = R at *
        have sEn := fun (K : Nat → Int → Int) (hK : Tx K B n R.2.1) => st_isEnd (G := G) (d := d + 7) (F := F) hsh hK
        by_cases c1 : R.1 = 0
        · rw [if_pos c1]
          rw [c1] at sL ⊢
          refine j_iload_n dX0_read_11 rfl ?_
          refine j_bipush dX0_read_12 (by decide) ?_
          refine j_icmp_ge (tgt := 53) dX0_read_14 rfl (by first | omega | (split <;> omega)) (by first | omega | (split <;> omega)) (fun c_14 => by exact absurd c_14 (by omega)) (fun c_14 => ?_)
          refine j_aload_n dX0_read_17 rfl ?_
          refine j_aload_n dX0_read_18 rfl ?_
          refine r_cs2EI dX0_read_19 csX0_15 (Nat.le_of_ble_eq_true rfl) (Nat.le_of_eq (Nat.zero_add _)) (Nat.le_of_eq (Nat.zero_add _)) (sL) (fun K hK => ?_)
          refine j_if_ne (tgt := 27) dX0_read_22 rfl (by first | omega | (split <;> omega)) (fun c_22 => by exact absurd c_22 (by decide)) (fun c_22 => ?_)
          refine j_iconst dX0_read_25 ?_
          refine j_zret dX0_read_26 rfl (by omega) ?_
          exact rEI_of rfl ⟨hK.1, hK.2.1, FrB_tr hf hK.2.2⟩
        · rw [if_neg c1]
          have c1' : R.1 = 1 := by omega
          by_cases c2 : tkK B n R.2.1 = 0
          · rw [if_pos c2, c1']
            rw [c1'] at sL
            rw [if_pos c2] at sEn
            refine j_iload_n dX0_read_11 rfl ?_
            refine j_bipush dX0_read_12 (by decide) ?_
            refine j_icmp_ge (tgt := 53) dX0_read_14 rfl (by first | omega | (split <;> omega)) (by first | omega | (split <;> omega)) (fun c_14 => by exact absurd c_14 (by omega)) (fun c_14 => ?_)
            refine j_aload_n dX0_read_17 rfl ?_
            refine j_aload_n dX0_read_18 rfl ?_
            refine r_cs2EI dX0_read_19 csX0_15 (Nat.le_of_ble_eq_true rfl) (Nat.le_of_eq (Nat.zero_add _)) (Nat.le_of_eq (Nat.zero_add _)) (sL) (fun K hK => ?_)
            refine j_if_ne (tgt := 27) dX0_read_22 rfl (by first | omega | (split <;> omega)) (fun c_22 => ?_) (fun c_22 => by exact absurd c_22 (by decide))
            refine j_aload_n dX0_read_27 rfl ?_
            refine r_cv0I dX0_read_28 cvX0_9 (by decide) (by first | assumption | exact hsh _ _ rfl) (Nat.le_of_ble_eq_true rfl) (Nat.le_of_eq (Nat.zero_add _)) (Nat.le_of_eq (Nat.zero_add _)) (sEn K hK.1) ?_
            refine j_if_eq (tgt := 36) dX0_read_31 rfl (by first | omega | (split <;> omega)) (fun c_31 => by exact absurd c_31 (by decide)) (fun c_31 => ?_)
            refine j_iconst dX0_read_34 ?_
            refine j_zret dX0_read_35 rfl (by omega) ?_
            exact rEI_of rfl ⟨hK.1, hK.2.1, FrB_tr hf hK.2.2⟩
          · rw [if_neg c2]
            rw [c1'] at sL
            rw [if_neg c2] at sEn
            by_cases c3 : vSg B n R.2.1 59
            · rw [if_pos c3]
              have sS := fun (K : Nat → Int → Int) (hK : Tx K B n R.2.1) => st_takesSign1 (G := G) (d := d + 2) (F := F) hsh hfx hK (c := 59) (by decide) c3
              refine j_iload_n dX0_read_11 rfl ?_
              refine j_bipush dX0_read_12 (by decide) ?_
              refine j_icmp_ge (tgt := 53) dX0_read_14 rfl (by first | omega | (split <;> omega)) (by first | omega | (split <;> omega)) (fun c_14 => by exact absurd c_14 (by omega)) (fun c_14 => ?_)
              refine j_aload_n dX0_read_17 rfl ?_
              refine j_aload_n dX0_read_18 rfl ?_
              refine r_cs2EI dX0_read_19 csX0_15 (Nat.le_of_ble_eq_true rfl) (Nat.le_of_eq (Nat.zero_add _)) (Nat.le_of_eq (Nat.zero_add _)) (sL) (fun K hK => ?_)
              refine j_if_ne (tgt := 27) dX0_read_22 rfl (by first | omega | (split <;> omega)) (fun c_22 => ?_) (fun c_22 => by exact absurd c_22 (by decide))
              refine j_aload_n dX0_read_27 rfl ?_
              refine r_cv0I dX0_read_28 cvX0_9 (by decide) (by first | assumption | exact hsh _ _ rfl) (Nat.le_of_ble_eq_true rfl) (Nat.le_of_eq (Nat.zero_add _)) (Nat.le_of_eq (Nat.zero_add _)) (sEn K hK.1) ?_
              refine j_if_eq (tgt := 36) dX0_read_31 rfl (by first | omega | (split <;> omega)) (fun c_31 => ?_) (fun c_31 => by exact absurd c_31 (by decide))
              refine j_aload_n dX0_read_36 rfl ?_
              refine j_bipush dX0_read_37 (by decide) ?_
              refine r_cv1EI dX0_read_39 cvX0_21 (by decide) (by first | assumption | exact hsh _ _ rfl) (Nat.le_of_ble_eq_true rfl) (Nat.le_of_eq (Nat.zero_add _)) (Nat.le_of_eq (Nat.zero_add _)) (sS K hK.1) (fun L hL => ?_)
              refine j_if_ne (tgt := 47) dX0_read_42 rfl (by first | omega | (split <;> omega)) (fun c_42 => ?_) (fun c_42 => by exact absurd c_42 (by decide))
              refine j_iinc dX0_read_47 rfl (by decide) ?_
              refine j_goto (tgt := 11) dX0_read_50 rfl ?_
              exact ih (z + 1) _ _ _ L (by omega) (by omega) hl hL.1 (Rp_154 hK.2.1 hL.2) (FrB_tr (FrB_tr hf hK.2.2) (FrB_154 hL.2))
            · rw [if_neg c3]
              have sS := fun (K : Nat → Int → Int) (hK : Tx K B n R.2.1) => st_takesSign0 (G := G) (d := d + 2) (F := F) hsh hfx hK (c := 59) (by decide) c3
              refine j_iload_n dX0_read_11 rfl ?_
              refine j_bipush dX0_read_12 (by decide) ?_
              refine j_icmp_ge (tgt := 53) dX0_read_14 rfl (by first | omega | (split <;> omega)) (by first | omega | (split <;> omega)) (fun c_14 => by exact absurd c_14 (by omega)) (fun c_14 => ?_)
              refine j_aload_n dX0_read_17 rfl ?_
              refine j_aload_n dX0_read_18 rfl ?_
              refine r_cs2EI dX0_read_19 csX0_15 (Nat.le_of_ble_eq_true rfl) (Nat.le_of_eq (Nat.zero_add _)) (Nat.le_of_eq (Nat.zero_add _)) (sL) (fun K hK => ?_)
              refine j_if_ne (tgt := 27) dX0_read_22 rfl (by first | omega | (split <;> omega)) (fun c_22 => ?_) (fun c_22 => by exact absurd c_22 (by decide))
              refine j_aload_n dX0_read_27 rfl ?_
              refine r_cv0I dX0_read_28 cvX0_9 (by decide) (by first | assumption | exact hsh _ _ rfl) (Nat.le_of_ble_eq_true rfl) (Nat.le_of_eq (Nat.zero_add _)) (Nat.le_of_eq (Nat.zero_add _)) (sEn K hK.1) ?_
              refine j_if_eq (tgt := 36) dX0_read_31 rfl (by first | omega | (split <;> omega)) (fun c_31 => ?_) (fun c_31 => by exact absurd c_31 (by decide))
              refine j_aload_n dX0_read_36 rfl ?_
              refine j_bipush dX0_read_37 (by decide) ?_
              refine r_cv1I dX0_read_39 cvX0_21 (by decide) (by first | assumption | exact hsh _ _ rfl) (Nat.le_of_ble_eq_true rfl) (Nat.le_of_eq (Nat.zero_add _)) (Nat.le_of_eq (Nat.zero_add _)) (sS K hK.1) ?_
              refine j_if_ne (tgt := 47) dX0_read_42 rfl (by first | omega | (split <;> omega)) (fun c_42 => by exact absurd c_42 (by decide)) (fun c_42 => ?_)
              refine j_iconst dX0_read_45 ?_
              refine j_zret dX0_read_46 rfl (by omega) ?_
              exact rEI_of rfl ⟨hK.1, hK.2.1, FrB_tr hf hK.2.2⟩
    refine j_aload_n dX0_read_0 rfl ?_
    refine r_cv0I dX0_read_1 cvX0_9 (by decide) (by first | assumption | exact hsh _ _ rfl) (Nat.le_of_ble_eq_true rfl) (Nat.le_of_eq (Nat.zero_add _)) (Nat.le_of_eq (Nat.zero_add _)) (sE) ?_
    refine j_if_eq (tgt := 9) dX0_read_4 rfl (by first | omega | (split <;> omega)) (fun c_4 => ?_) (fun c_4 => by exact absurd c_4 (by decide))
    refine j_iconst dX0_read_9 ?_
    refine j_istore_n dX0_read_10 (by decide) ?_
    exact key 14 0 b w q I (by omega) (by omega) hw hT hR ⟨fun _ _ _ => rfl, rfl⟩
end
