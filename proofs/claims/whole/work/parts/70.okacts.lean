/-! WHAT ACTS LEAVE IS WELL FORMED -/
theorem OKw_wf {B : Int} {w v : Int → Int} (h : OKw B w) (hW : WF v) (hv : ∀ k, (k < 8 ∨ (9 ≤ k ∧ k < 11) ∨ 116 ≤ k ∨ (k - 12) % 13 = 4) → v k = w k) : OKw B v := by
  obtain ⟨h1, h2, h3, h4, h5, h6, h7⟩ := h
  have g8 := h1.1
  have e0 : aPe v = aPe w := hv 0 (by omega)
  have eo : ∀ p q, 0 ≤ p → p < aPe w → 0 ≤ q → q < aPe w → aOw v p q = aOw w p q := fun p q p0 p1 q0 q1 => hv _ (by omega)
  exact ⟨hW, by rw [hv 9 (by omega)]; exact h2, by rw [hv 1 (by omega)]; exact h3, by rw [hv 10 (by omega)]; exact h4, fun p p0 p1 => by rw [show aOf v p 4 = aOf w p 4 from hv _ (by omega)]; exact h5 p p0 (by omega), fun p q p0 p1 q0 q1 => by rw [eo p q p0 (by omega) q0 (by omega)]; exact h6 p q p0 (by omega) q0 (by omega), by rw [mTot_cong e0 eo]; exact h7⟩
theorem WF_row {w : Int → Int} {p c x : Int} (hW : WF w) (hp : 0 ≤ p ∧ p < aPe w) (hc : (c = 3 ∧ (x = 0 ∨ x = 1)) ∨ (c = 5 ∧ 0 ≤ x ∧ x < 256) ∨ (c = 4 ∧ -1 ≤ x ∧ x < aPe w)) : WF (wup w (12 + 13 * p + c) x) := by
  have h8 := hW.1
  have h : ∀ k, k ≠ 12 + 13 * p + c → wup w (12 + 13 * p + c) x k = w k := fun k hk => wup_ne _ _ hk
  obtain ⟨h1, ⟨o1, o2, o3⟩, h3, h4, h5, h6⟩ := hW
  have e0 : aPe (wup w (12 + 13 * p + c) x) = aPe w := h 0 (by omega)
  refine ⟨by rw [e0]; exact h1, ⟨by rw [h 3 (by omega)]; exact o1, by rw [h 5 (by omega)]; exact o2, fun q hq0 hq1 => ?_⟩, WfLw_cong (h 2 (by omega)) (fun k hk => h k (by omega)) h3, by rw [h 8 (by omega)]; exact h4, by rw [h 6 (by omega)]; exact h5, by rw [h 7 (by omega)]; exact h6⟩
  rw [e0] at hq1
  obtain ⟨i0, i1, i2, i3, i4, i5, i6⟩ := o3 q hq0 hq1
  have e : ∀ k, 0 ≤ k → k < 13 → ¬ (q = p ∧ k = c) → aOf (wup w (12 + 13 * p + c) x) q k = aOf w q k := fun k k0 k1 hn => h _ (by omega)
  have es : q = p → aOf (wup w (12 + 13 * p + c) x) q c = x := fun hq => by rw [hq]; exact wup_same _ _ _
  rw [e0]
  refine ⟨by rw [e 0 (by omega) (by omega) (by omega)]; exact i0, by rw [e 1 (by omega) (by omega) (by omega)]; exact i1, by rw [e 1 (by omega) (by omega) (by omega), e 2 (by omega) (by omega) (by omega)]; exact i2, ?_, ?_, ?_, fun k k0 k1 => by rw [e _ (by omega) (by omega) (by omega)]; exact i6 k k0 k1⟩
  · by_cases c1 : q = p ∧ c = 3
    · have := es c1.1
      rw [c1.2] at this
      rw [show (12 + 13 * p + c : Int) = 12 + 13 * p + 3 by omega, this]
      omega
    · rw [e 3 (by omega) (by omega) (by omega)]; exact i3
  · by_cases c1 : q = p ∧ c = 4
    · have := es c1.1
      rw [c1.2] at this
      rw [show (12 + 13 * p + c : Int) = 12 + 13 * p + 4 by omega, this]
      omega
    · rw [e 4 (by omega) (by omega) (by omega)]; exact i4
  · by_cases c1 : q = p ∧ c = 5
    · have := es c1.1
      rw [c1.2] at this
      rw [show (12 + 13 * p + c : Int) = 12 + 13 * p + 5 by omega, this]
      omega
    · rw [e 5 (by omega) (by omega) (by omega)]; exact i5
theorem jAnd_le {m : Int} (hm : 0 ≤ m ∧ m < 256) (x : Int) : 0 ≤ jAnd x m ∧ jAnd x m ≤ m := by
  have e : Int32.ofInt x = nI (Int32.ofInt x).toBitVec.toNat := by
    apply Int32.toBitVec_inj.1
    show (Int32.ofInt x).toBitVec = BitVec.ofNat 32 _
    rw [BitVec.ofNat_toNat, BitVec.setWidth_eq]
  obtain ⟨k, rfl⟩ := Int.eq_ofNat_of_zero_le hm.1
  have h1 : (Int32.ofInt x).toBitVec.toNat &&& k ≤ k := Nat.and_le_right
  unfold jAnd
  rw [e, jnn, fa_and, nI_toInt (by omega)]
  omega
theorem OKw_put {B : Int} {w : Int → Int} {p n : Int} (h : OKw B w) (hp : 0 ≤ p ∧ p < aPe w) (hn : 1 ≤ n) (h1 : aOf w p 1 + n ≤ 99999) : OKw B (wPut w p n) := by
  have g8 := h.1.1
  have hq := (h.1.2.1.2.2 p hp.1 hp.2).2
  exact OKw_wf h (WF_1 h.1 hp (by omega)) (fun k hk => wup_ne _ _ (by omega))
theorem OKw_draw {B : Int} {w : Int → Int} {p n : Int} (h : OKw B w) (hp : 0 ≤ p ∧ p < aPe w) (hn : 1 ≤ n ∧ n ≤ aOf w p 1) : OKw B (wDraw w p n) := by
  have g8 := h.1.1
  have hq := (h.1.2.1.2.2 p hp.1 hp.2).2
  exact OKw_wf h (WF_AF h.1 hp (by omega) (by omega)) (fun k hk => wAF_o (by omega) (by omega))
theorem wCheq_eq {w : Int → Int} {p q n : Int} (hpq : p ≠ q) : wCheq w p q n = wAF (wAF w p (aOf w p 1 - n) (aOf w p 2 - mMv w p n)) q (aOf w q 1 + n) (aOf w q 2 + mMv w p n) := by
  unfold wCheq wAF
  rw [wup_comm (wup w (12 + 13 * p + 1) (aOf w p 1 - n)) (aOf w q 1 + n) (aOf w p 2 - mMv w p n) (by omega), wup_comm w (aOf w p 1 - n) (aOf w p 2 - mMv w p n) (by omega), wup_comm _ (aOf w q 1 + n) (aOf w q 2 + mMv w p n) (by omega)]
theorem OKw_cheq {B : Int} {w : Int → Int} {p q n : Int} (h : OKw B w) (hp : 0 ≤ p ∧ p < aPe w) (hq : 0 ≤ q ∧ q < aPe w) (hpq : ¬ p = q) (hn : 1 ≤ n ∧ n ≤ aOf w p 1) (h1 : aOf w q 1 + n ≤ 99999) : OKw B (wCheq w p q n) := by
  have g8 := h.1.1
  have a1 := (h.1.2.1.2.2 p hp.1 hp.2).2
  have a2 := (h.1.2.1.2.2 q hq.1 hq.2).2
  have hm : mMv w p n = max 0 (aOf w p 2 - (aOf w p 1 - n)) := rfl
  have hW1 : WF (wAF w p (aOf w p 1 - n) (aOf w p 2 - mMv w p n)) := WF_AF h.1 hp (by omega) (by omega)
  have e0 : aPe (wAF w p (aOf w p 1 - n) (aOf w p 2 - mMv w p n)) = aPe w := wAF_o (by omega) (by omega)
  refine OKw_wf h (by rw [wCheq_eq hpq]; exact WF_AF hW1 (by omega) (by omega) (by omega)) (fun k hk => ?_)
  exact (wup_ne _ _ (by omega)).trans ((wup_ne _ _ (by omega)).trans ((wup_ne _ _ (by omega)).trans (wup_ne _ _ (by omega))))
theorem OKw_hear {B : Int} {w : Int → Int} {p x : Int} (h : OKw B w) (hp : 0 ≤ p ∧ p < aPe w) : OKw B (wHear w p x) := by
  have g8 := h.1.1
  have ha := (aAll_b (w := w) g8).1
  have hs := jShl_set hp.1 (show p < 8 by omega)
  have h1 := jAnd_le (m := aAllS w) ha x
  have h2 := jandn_set (a := jAnd x (aAllS w)) (x := jShl 1 p) (by omega) (by omega)
  have e : mHr w p x = jAnd (jAnd x (aAllS w)) (jXor (jShl 1 p) (-1)) := rfl
  exact OKw_wf h (WF_row h.1 hp (Or.inr (Or.inl ⟨rfl, by rw [e]; omega, by rw [e]; omega⟩))) (fun k hk => wup_ne _ _ (by omega))
theorem OKw_found {B : Int} {w : Int → Int} (h : OKw B w) : OKw B (wup w 8 0) := OKw_wf h (WF_fail h.1 (Or.inl rfl)) (fun k hk => wup_ne _ _ (by omega))
theorem OKw_seed {B : Int} {w : Int → Int} {n : Int} (h : OKw B w) : OKw B (wup w 11 n) := OKw_wf h (WF_11 h.1) (fun k hk => wup_ne _ _ (by omega))
theorem OKw_die {B : Int} {w : Int → Int} {p : Int} (h : OKw B w) (hp : 0 ≤ p ∧ p < aPe w) : OKw B (wDie w p) := by
  have g8 := h.1.1
  have a1 := (h.1.2.1.2.2 p hp.1 hp.2).2
  have key : ∀ v, WF v → aPe v = aPe w → WF (wDie2 v p) := fun v hv e0 => by
    have e : wup (wup v (12 + 13 * p + 1) 0) (12 + 13 * p + 2) 0 = wAF v p 0 0 := wup_comm _ _ _ (by omega)
    unfold wDie2
    rw [e]
    exact WF_row (WF_AF hv (by omega) (by omega) (by omega)) (by rw [show aPe (wAF v p 0 0) = aPe v from wAF_o (by omega) (by omega)]; omega) (Or.inl ⟨rfl, Or.inr rfl⟩)
  refine OKw_wf h ?_ (fun k hk => wDie_o (by omega) (by omega) (by
    by_cases c : (k - 12) % 13 = 4
    · exact Or.inr (Or.inr ⟨(k - 12) / 13, by omega⟩)
    · omega))
  unfold wDie
  by_cases c : mHeOk w p
  · rw [if_pos c]
    have c1 := c.1
    have hx : 0 ≤ aOf w p 4 ∧ aOf w p 4 < aPe w := by omega
    generalize aOf w p 4 = x at *
    have a2 := (h.1.2.1.2.2 x hx.1 hx.2).2
    have hma : mHa w p x = min 99999 (aOf w x 1 + aOf w p 1) := rfl
    have hmf : mHf w p x = min (mHa w p x) (aOf w x 2 + aOf w p 2) := rfl
    have e : wDie1 w p x = wAF w x (mHa w p x) (mHf w p x) := wup_comm _ _ _ (by omega)
    rw [e]
    exact key _ (WF_AF h.1 hx (by omega) (by omega)) (wAF_o (by omega) (by omega))
  · rw [if_neg c]
    exact key _ h.1 rfl
theorem aOw_tot {B : Int} {w : Int → Int} (h : OKw B w) {p q : Int} (hp : 0 ≤ p ∧ p < aPe w) (hq : 0 ≤ q ∧ q < aPe w) : 0 ≤ aOw w p q ∧ aOw w p q ≤ mTot w := by
  have h6 := h.2.2.2.2.2.1
  refine ⟨h6 p q hp.1 hp.2 hq.1 hq.2, ?_⟩
  have s1 := ksum_one (f := fun q => aOw w p q) (n := (aPe w).toNat) (fun k k0 k1 => h6 p k hp.1 hp.2 k0 (by omega)) hq.1 (by omega)
  have s2 := ksum_one (f := fun p => ksum (fun q => aOw w p q) (aPe w).toNat) (n := (aPe w).toNat) (fun k k0 k1 => ksum_nn (fun j j0 j1 => h6 k j k0 (by omega) j0 (by omega))) hp.1 (by omega)
  rw [mTot_sum]
  exact Int.le_trans s1 s2
theorem OKw_owe {B : Int} {w : Int → Int} {p q n : Int} (h : OKw B w) (hB : 0 ≤ B ∧ B ≤ 900000000) (hp : 0 ≤ p ∧ p < aPe w) (hq : 0 ≤ q ∧ q < aPe w) (hn : 1 ≤ n ∧ n ≤ 999) : OKw (B + 999) (wOwe w p q n) := by
  have ht := aOw_tot h hp hq
  obtain ⟨h1, h2, h3, h4, h5, h6, h7⟩ := h
  have g8 := h1.1
  have hj : jwr (aOw w p q + n) = aOw w p q + n := jwr_eq (by omega)
  have el : ∀ k, k < 116 ∨ 180 ≤ k → wOwe w p q n k = w k := fun k hk => wup_ne _ _ (by omega)
  have e0 : aPe (wOwe w p q n) = aPe w := el 0 (by omega)
  refine ⟨WF_cong (fun k hk => el k (by omega)) h1, by rw [el 9 (by omega)]; omega, by rw [el 1 (by omega)]; exact h3, by rw [el 10 (by omega)]; exact h4, fun r r0 r1 => by rw [show aOf (wOwe w p q n) r 4 = aOf w r 4 from el _ (by omega)]; exact h5 r r0 (by omega), fun a b a0 a1 b0 b1 => ?_, ?_⟩
  · show 0 ≤ wup w (116 + 8 * p + q) (jwr (aOw w p q + n)) (116 + 8 * a + b)
    by_cases c : 116 + 8 * a + b = 116 + 8 * p + q
    · rw [c, wup_same, hj]; omega
    · rw [wup_ne _ _ c]; exact h6 a b a0 (by omega) b0 (by omega)
  · show mTot (wup w (116 + 8 * p + q) (jwr (aOw w p q + n))) ≤ B + 999
    rw [mTot_up g8.2 hp hq, hj]; omega
