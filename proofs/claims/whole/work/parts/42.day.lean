/-! A DAY OF THE MODEL -/
theorem WF_cong {w v : Int → Int} (h : ∀ k, (k < 4 ∨ (5 ≤ k ∧ k ≤ 8) ∨ (12 ≤ k ∧ k < 116) ∨ 420 ≤ k) → v k = w k) (hW : WF w) : WF v := by
  obtain ⟨h1, ⟨o1, o2, o3⟩, h3, h4, h5, h6⟩ := hW
  have e0 : aPe v = aPe w := h 0 (by omega)
  refine ⟨by rw [e0]; exact h1, ⟨by rw [h 3 (by omega)]; exact o1, by rw [h 5 (by omega)]; exact o2, fun q hq0 hq1 => ?_⟩, WfLw_cong (h 2 (by omega)) (fun k hk => h k (by omega)) h3, by rw [h 8 (by omega)]; exact h4, by rw [h 6 (by omega)]; exact h5, by rw [h 7 (by omega)]; exact h6⟩
  rw [e0] at hq1
  have e : ∀ k, 0 ≤ k → k < 13 → aOf v q k = aOf w q k := fun k k0 k1 => h _ (by omega)
  obtain ⟨i0, i1, i2, i3, i4, i5, i6⟩ := o3 q hq0 hq1
  rw [e 0 (by omega) (by omega), e 1 (by omega) (by omega), e 2 (by omega) (by omega), e 3 (by omega) (by omega), e 4 (by omega) (by omega), e 5 (by omega) (by omega), e0]
  exact ⟨i0, i1, i2, i3, i4, i5, fun k k0 k1 => by rw [e _ (by omega) (by omega)]; exact i6 k k0 k1⟩
theorem WF_day {w : Int → Int} {x : Int} (hW : WF w) (hx : 0 ≤ x ∧ x ≤ 9999) : WF (wup w 3 x) := by
  have h : ∀ k, k ≠ 3 → wup w 3 x k = w k := fun k hk => wup_ne _ _ hk
  obtain ⟨h1, ⟨o1, o2, o3⟩, h3, h4, h5, h6⟩ := hW
  have e0 : aPe (wup w 3 x) = aPe w := h 0 (by omega)
  refine ⟨by rw [e0]; exact h1, ⟨by rw [wup_same]; exact hx, by rw [h 5 (by omega)]; exact o2, fun q hq0 hq1 => ?_⟩, WfLw_cong (h 2 (by omega)) (fun k hk => h k (by omega)) h3, by rw [h 8 (by omega)]; exact h4, by rw [h 6 (by omega)]; exact h5, by rw [h 7 (by omega)]; exact h6⟩
  rw [e0] at hq1
  have e : ∀ k, 0 ≤ k → k < 13 → aOf (wup w 3 x) q k = aOf w q k := fun k k0 k1 => h _ (by omega)
  obtain ⟨i0, i1, i2, i3, i4, i5, i6⟩ := o3 q hq0 hq1
  rw [e 0 (by omega) (by omega), e 1 (by omega) (by omega), e 2 (by omega) (by omega), e 3 (by omega) (by omega), e 4 (by omega) (by omega), e 5 (by omega) (by omega), e0]
  exact ⟨i0, i1, i2, i3, i4, i5, fun k k0 k1 => by rw [e _ (by omega) (by omega)]; exact i6 k k0 k1⟩
theorem WF_fail {w : Int → Int} {x : Int} (hW : WF w) (hx : x = 0 ∨ x = 1) : WF (wup w 8 x) := by
  have h : ∀ k, k ≠ 8 → wup w 8 x k = w k := fun k hk => wup_ne _ _ hk
  obtain ⟨h1, ⟨o1, o2, o3⟩, h3, h4, h5, h6⟩ := hW
  have e0 : aPe (wup w 8 x) = aPe w := h 0 (by omega)
  refine ⟨by rw [e0]; exact h1, ⟨by rw [h 3 (by omega)]; exact o1, by rw [h 5 (by omega)]; exact o2, fun q hq0 hq1 => ?_⟩, WfLw_cong (h 2 (by omega)) (fun k hk => h k (by omega)) h3, by rw [wup_same]; exact hx, by rw [h 6 (by omega)]; exact h5, by rw [h 7 (by omega)]; exact h6⟩
  rw [e0] at hq1
  have e : ∀ k, 0 ≤ k → k < 13 → aOf (wup w 8 x) q k = aOf w q k := fun k k0 k1 => h _ (by omega)
  obtain ⟨i0, i1, i2, i3, i4, i5, i6⟩ := o3 q hq0 hq1
  rw [e 0 (by omega) (by omega), e 1 (by omega) (by omega), e 2 (by omega) (by omega), e 3 (by omega) (by omega), e 4 (by omega) (by omega), e 5 (by omega) (by omega), e0]
  exact ⟨i0, i1, i2, i3, i4, i5, fun k k0 k1 => by rw [e _ (by omega) (by omega)]; exact i6 k k0 k1⟩
theorem wup_comm (f : Int → Int) {k j : Int} (v u : Int) (h : k ≠ j) : wup (wup f k v) j u = wup (wup f j u) k v := by
  funext i
  unfold wup
  by_cases e : i = j
  · rw [if_pos e, if_neg (by omega), if_pos e]
  · rw [if_neg e]
    by_cases e2 : i = k
    · rw [if_pos e2, if_pos e2]
    · rw [if_neg e2, if_neg e2, if_neg e]
/-! ### the steps of a day -/
abbrev dX : Type := (Int → Int) × (Int → Int) × (Int → Int) × (Int → Int)
def dSeed (calm : Int) (w : Int → Int) : Int → Int := if calm = 0 then wup w 11 (sNext (w 11)) else w
def dFl (calm : Int) (w : Int → Int) (b : Int) : Int := if calm = 0 ∧ sDraw (w 11) < b then 1 else 0
abbrev dPn (calm : Int) (w : Int → Int) (p : Int) : Int := mPain (dSeed calm w) p (dFl calm (dSeed calm w) (w 7))
def dOne (calm wet p : Int) (X : dX) : dX := if aOf X.1 p 3 = 0 then (mLive (dSeed calm X.1) p (dPn calm X.1 p) wet, wup X.2.1 p (mPut (dSeed calm X.1) p (dPn calm X.1 p) wet), wup X.2.2.1 p (mDrw (dSeed calm X.1) p (dPn calm X.1 p) wet), wup X.2.2.2 p (mFeltV (dSeed calm X.1) p (dPn calm X.1 p) wet)) else (X.1, X.2.1, X.2.2.1, wup X.2.2.2 p 0)
def dInt (p : Int) (w : Int → Int) : Int → Int := if aOf w p 3 = 0 ∧ (w 3 + 1) % 10 = 0 then wup w (12 + 13 * p + 1) (aRate w (aOf w p 1)) else w
def dBrk (p : Int) (X : (Int → Int) × (Int → Int)) : (Int → Int) × (Int → Int) := if aOf X.1 p 3 = 0 then (wAF X.1 p 0 0, wup X.2 p (X.2 p + (aOf X.1 p 1 - aOf X.1 p 2))) else X
def dBreak (w f : Int → Int) : (Int → Int) × (Int → Int) := jfold dBrk (wup w 8 1, f) (aPe w).toNat
def mSh (w : Int → Int) (z : Int) : Int → Int := fun j => if 180 + z < j ∧ j < 420 then w (j - 4) else w j
def mTell (w : Int → Int) (p v : Int) : Int → Int := wup (wup (wup (wup (wup (wup (mSh w 3) 180 (w 3)) 181 p) 182 v) 183 (aOf w p 0)) 10 (min 60 (w 10 + 1))) 9 (w 9 + 1)
def dTell (f : Int → Int) (p : Int) (w : Int → Int) : Int → Int := if aOf w p 3 = 0 ∧ aOf w p 0 < f p then mTell w p (f p) else w
/-- the day without the log -/
def dCore (calm : Int) (w a b f : Int → Int) : dX := jfold (dOne calm (dFl calm (dSeed calm w) (w 6))) (dSeed calm w, a, b, f) (aPe w).toNat
def dRate (calm : Int) (w a b f : Int → Int) : Int → Int := jfold dInt (dCore calm w a b f).1 (aPe w).toNat
def dEnd (calm : Int) (w a b f : Int → Int) : (Int → Int) × (Int → Int) := if dRate calm w a b f 4 < mAll (dRate calm w a b f) 1 then dBreak (dRate calm w a b f) (dCore calm w a b f).2.2.2 else (dRate calm w a b f, (dCore calm w a b f).2.2.2)
def dTold (calm : Int) (w a b f : Int → Int) : Int → Int := jfold (dTell (dEnd calm w a b f).2) (dEnd calm w a b f).1 (aPe w).toNat
def mDay (calm : Int) (w a b f : Int → Int) : Int → Int := wup (dTold calm w a b f) 3 (min 9999 (dTold calm w a b f 3 + 1))
theorem dSeed_o {calm : Int} {w : Int → Int} {k : Int} (h : k ≠ 11) : dSeed calm w k = w k := by
  unfold dSeed
  split
  · exact wup_ne _ _ h
  · rfl
theorem WF_seed {calm : Int} {w : Int → Int} (h : WF w) : WF (dSeed calm w) := WF_cong (fun k hk => dSeed_o (by omega)) h
theorem dFl_in {calm b : Int} {w : Int → Int} : dFl calm w b = 0 ∨ dFl calm w b = 1 := by
  unfold dFl
  split <;> omega
/-- one's felt pains are small -/
def vFe (f : Int → Int) (n : Int) : Prop := ∀ p, 0 ≤ p → p < n → 0 ≤ f p ∧ f p ≤ 200000
theorem vFe_up {f : Int → Int} {n v : Int} (h : vFe f n) (hv : 0 ≤ v ∧ v ≤ 200000) : vFe (wup f n v) (n + 1) := fun p h0 h1 => by
  by_cases e : p = n
  · subst e; rw [wup_same]; exact hv
  · rw [wup_ne _ _ e]; exact h p h0 (by omega)
/-- what a row of a day's loop keeps -/
theorem dOne_ok {calm wet p : Int} {X : dX} (hW : WF X.1) (hp : 0 ≤ p ∧ p < aPe X.1) (hf : vFe X.2.2.2 p) : WF (dOne calm wet p X).1 ∧ vFe (dOne calm wet p X).2.2.2 (p + 1) ∧ ∀ k, (k < 11 ∨ 116 ≤ k ∨ (∃ q, k = 12 + 13 * q ∨ k = 12 + 13 * q + 3)) → (dOne calm wet p X).1 k = X.1 k := by
  unfold dOne
  by_cases e : aOf X.1 p 3 = 0
  · rw [if_pos e]
    have hS := WF_seed (calm := calm) hW
    have e0 : aPe (dSeed calm X.1) = aPe X.1 := dSeed_o (by decide)
    have h8 := hW.1
    have hpn : 0 ≤ dPn calm X.1 p ∧ dPn calm X.1 p ≤ 14 := mPain_in hS (by omega)
    refine ⟨WF_live hS (by omega) (by omega), vFe_up hf (mFeltV_in hS (by omega) (by omega)), fun k hk => ?_⟩
    show mLive _ _ _ _ k = _
    unfold mLive
    rw [wAF_o (by omega) (by omega), dSeed_o (by omega)]
  · rw [if_neg e]
    exact ⟨hW, vFe_up hf (by omega), fun k _ => rfl⟩
theorem dCore_ok {calm : Int} {w a b f : Int → Int} (hW : WF w) : WF (dCore calm w a b f).1 ∧ vFe (dCore calm w a b f).2.2.2 (aPe w) ∧ ∀ k, (k < 11 ∨ 116 ≤ k ∨ (∃ q, k = 12 + 13 * q ∨ k = 12 + 13 * q + 3)) → (dCore calm w a b f).1 k = w k := by
  have h8 := hW.1
  have := jfold_ind (f := dOne calm (dFl calm (dSeed calm w) (w 6))) (a := (dSeed calm w, a, b, f)) (fun z X => WF X.1 ∧ vFe X.2.2.2 z ∧ ∀ k, (k < 11 ∨ 116 ≤ k ∨ (∃ q, k = 12 + 13 * q ∨ k = 12 + 13 * q + 3)) → X.1 k = w k) ⟨WF_seed hW, fun p h0 h1 => by omega, fun k hk => dSeed_o (by omega)⟩ (n := (aPe w).toNat) (fun z X h0 h1 ih => by
    have e0 : aPe X.1 = aPe w := ih.2.2 0 (by omega)
    have := dOne_ok (calm := calm) (wet := dFl calm (dSeed calm w) (w 6)) ih.1 (p := z) (by omega) ih.2.1
    exact ⟨this.1, this.2.1, fun k hk => (this.2.2 k hk).trans (ih.2.2 k hk)⟩)
  rw [show (((aPe w).toNat : Nat) : Int) = aPe w by omega] at this
  exact this
theorem WF_1 {w : Int → Int} {p a : Int} (h : WF w) (hp : 0 ≤ p ∧ p < aPe w) (ha : aOf w p 2 ≤ a ∧ a ≤ 99999) : WF (wup w (12 + 13 * p + 1) a) := by
  have h4 := h.2.1.2.2 p hp.1 hp.2
  have e : wup w (12 + 13 * p + 1) a = wAF w p a (aOf w p 2) := by
    funext j
    unfold wAF
    by_cases e1 : j = 12 + 13 * p + 1
    · subst e1; rw [wup_same, wup_same]
    · rw [wup_ne _ _ e1, wup_ne _ _ e1]
      by_cases e2 : j = 12 + 13 * p + 2
      · subst e2; rw [wup_same]
      · rw [wup_ne _ _ e2]
  rw [e]
  exact WF_AF h hp (by omega) (by omega)
theorem dInt_ok {p : Int} {w : Int → Int} (hW : WF w) (hp : 0 ≤ p ∧ p < aPe w) : WF (dInt p w) ∧ ∀ k, (k < 12 ∨ 116 ≤ k ∨ (∃ q, k = 12 + 13 * q ∨ k = 12 + 13 * q + 2 ∨ k = 12 + 13 * q + 3)) → dInt p w k = w k := by
  unfold dInt
  have h8 := hW.1
  by_cases e : aOf w p 3 = 0 ∧ (w 3 + 1) % 10 = 0
  · rw [if_pos e]
    have h4 := hW.2.1.2.2 p hp.1 hp.2
    have hr := aRate_in (w := w) h4.2.1 hW.2.1.2.1
    have hm : 0 ≤ aOf w p 1 * w 5 := Int.mul_nonneg h4.2.1.1 hW.2.1.2.1.1
    exact ⟨WF_1 hW hp (by unfold aRate; omega), fun k hk => wup_ne _ _ (by omega)⟩
  · rw [if_neg e]; exact ⟨hW, fun _ _ => rfl⟩
theorem dRate_ok {calm : Int} {w a b f : Int → Int} (hW : WF w) : WF (dRate calm w a b f) ∧ ∀ k, (k < 11 ∨ 116 ≤ k ∨ (∃ q, k = 12 + 13 * q ∨ k = 12 + 13 * q + 3)) → dRate calm w a b f k = w k := by
  have h8 := hW.1
  have hc := dCore_ok (calm := calm) (a := a) (b := b) (f := f) hW
  have := jfold_ind (f := dInt) (a := (dCore calm w a b f).1) (fun z v => WF v ∧ ∀ k, (k < 11 ∨ 116 ≤ k ∨ (∃ q, k = 12 + 13 * q ∨ k = 12 + 13 * q + 3)) → v k = w k) ⟨hc.1, hc.2.2⟩ (n := (aPe w).toNat) (fun z v h0 h1 ih => by
    have e0 : aPe v = aPe w := ih.2 0 (by omega)
    have := dInt_ok ih.1 (p := z) (by omega)
    exact ⟨this.1, fun k hk => (this.2 k (by rcases hk with hk | hk | ⟨q, hk⟩; exact Or.inl (by omega); exact Or.inr (Or.inl hk); exact Or.inr (Or.inr ⟨q, by omega⟩))).trans (ih.2 k hk)⟩)
  exact this
theorem dBrk_ok {p n : Int} {X : (Int → Int) × (Int → Int)} (hW : WF X.1) (hp : 0 ≤ p ∧ p < aPe X.1) : WF (dBrk p X).1 ∧ (∀ q, q ≠ p → (dBrk p X).2 q = X.2 q) ∧ (0 ≤ X.2 p ∧ X.2 p ≤ 200000 → 0 ≤ (dBrk p X).2 p ∧ (dBrk p X).2 p ≤ 300000) ∧ ∀ k, (k < 12 ∨ 116 ≤ k ∨ (∃ q, k = 12 + 13 * q ∨ k = 12 + 13 * q + 3)) → (dBrk p X).1 k = X.1 k := by
  unfold dBrk
  have h8 := hW.1
  have h4 := hW.2.1.2.2 p hp.1 hp.2
  by_cases e : aOf X.1 p 3 = 0
  · rw [if_pos e]
    refine ⟨WF_AF hW hp (by omega) (by omega), fun q hq => wup_ne _ _ hq, fun hx => ?_, fun k hk => wAF_o (by omega) (by omega)⟩
    show 0 ≤ wup _ _ _ _ ∧ wup _ _ _ _ ≤ _
    rw [wup_same]; omega
  · rw [if_neg e]; exact ⟨hW, fun _ _ => rfl, fun hx => by omega, fun _ _ => rfl⟩
def vFe3 (f : Int → Int) (n : Int) : Prop := ∀ p, 0 ≤ p → p < n → 0 ≤ f p ∧ f p ≤ 300000
theorem dBreak_ok {w f : Int → Int} (hW : WF w) (hf : vFe f (aPe w)) : WF (dBreak w f).1 ∧ vFe3 (dBreak w f).2 (aPe w) ∧ ∀ k, ((k < 12 ∧ k ≠ 8) ∨ 116 ≤ k ∨ (∃ q, 0 ≤ q ∧ (k = 12 + 13 * q ∨ k = 12 + 13 * q + 3))) → (dBreak w f).1 k = w k := by
  have h8 := hW.1
  have := jfold_ind (f := dBrk) (a := (wup w 8 1, f)) (fun z X => WF X.1 ∧ (∀ p, 0 ≤ p → p < aPe w → 0 ≤ X.2 p ∧ X.2 p ≤ 300000 ∧ (z ≤ p → X.2 p ≤ 200000)) ∧ ∀ k, ((k < 12 ∧ k ≠ 8) ∨ 116 ≤ k ∨ (∃ q, 0 ≤ q ∧ (k = 12 + 13 * q ∨ k = 12 + 13 * q + 3))) → X.1 k = w k) ⟨WF_fail hW (Or.inr rfl), fun p h0 h1 => by have := hf p h0 h1; exact ⟨this.1, Int.le_trans this.2 (by decide), fun _ => this.2⟩, fun k hk => wup_ne _ _ (by omega)⟩ (n := (aPe w).toNat) (fun z X h0 h1 ih => by
    have e0 : aPe X.1 = aPe w := ih.2.2 0 (by omega)
    have hx := ih.2.1 z h0 (by omega)
    have := dBrk_ok (n := 0) ih.1 (p := z) (by omega)
    have h3 := this.2.2.1 ⟨hx.1, hx.2.2 (by omega)⟩
    refine ⟨this.1, fun p p0 p1 => ?_, fun k hk => (this.2.2.2 k (by rcases hk with hk | hk | ⟨q, hk⟩; exact Or.inl hk.1; exact Or.inr (Or.inl hk); exact Or.inr (Or.inr ⟨q, hk.2⟩))).trans (ih.2.2 k hk)⟩
    by_cases e : p = z
    · subst e; exact ⟨h3.1, h3.2, fun q => by omega⟩
    · rw [this.2.1 p e]
      have := ih.2.1 p p0 p1
      exact ⟨this.1, this.2.1, fun q => this.2.2 (by omega)⟩)
  exact ⟨this.1, fun p h0 h1 => ⟨(this.2.1 p h0 h1).1, (this.2.1 p h0 h1).2.1⟩, this.2.2⟩
theorem dEnd_ok {calm : Int} {w a b f : Int → Int} (hW : WF w) : WF (dEnd calm w a b f).1 ∧ vFe3 (dEnd calm w a b f).2 (aPe w) ∧ ∀ k, ((k < 11 ∧ k ≠ 8) ∨ 116 ≤ k ∨ (∃ q, 0 ≤ q ∧ (k = 12 + 13 * q ∨ k = 12 + 13 * q + 3))) → (dEnd calm w a b f).1 k = w k := by
  have hr := dRate_ok (calm := calm) (a := a) (b := b) (f := f) hW
  have hc := dCore_ok (calm := calm) (a := a) (b := b) (f := f) hW
  have e0 : aPe (dRate calm w a b f) = aPe w := hr.2 0 (by omega)
  unfold dEnd
  split
  · have hb := dBreak_ok (w := dRate calm w a b f) (f := (dCore calm w a b f).2.2.2) hr.1 (by rw [e0]; exact hc.2.1)
    rw [e0] at hb
    exact ⟨hb.1, hb.2.1, fun k hk => (hb.2.2 k (by rcases hk with hk | hk | ⟨q, hk⟩; exact Or.inl (by omega); exact Or.inr (Or.inl hk); exact Or.inr (Or.inr ⟨q, hk⟩))).trans (hr.2 k (by rcases hk with hk | hk | ⟨q, hk⟩; exact Or.inl hk.1; exact Or.inr (Or.inl hk); exact Or.inr (Or.inr ⟨q, hk.2⟩)))⟩
  · exact ⟨hr.1, fun p h0 h1 => by have := hc.2.1 p h0 h1; exact ⟨this.1, Int.le_trans this.2 (by decide)⟩, fun k hk => hr.2 k (by rcases hk with hk | hk | ⟨q, hk⟩; exact Or.inl hk.1; exact Or.inr (Or.inl hk); exact Or.inr (Or.inr ⟨q, hk.2⟩))⟩
theorem mTell_o {w : Int → Int} {p v k : Int} (h : k < 9 ∨ (11 ≤ k ∧ k < 180) ∨ 420 ≤ k) : mTell w p v k = w k := by
  unfold mTell mSh
  rw [wup_ne _ _ (by omega), wup_ne _ _ (by omega), wup_ne _ _ (by omega), wup_ne _ _ (by omega), wup_ne _ _ (by omega), wup_ne _ _ (by omega), if_neg (by omega)]
theorem mTell_9 {w : Int → Int} {p v : Int} : mTell w p v 9 = w 9 + 1 := wup_same _ _ _
theorem mTell_10 {w : Int → Int} {p v : Int} : mTell w p v 10 = min 60 (w 10 + 1) := by
  unfold mTell
  rw [wup_ne _ _ (by decide), wup_same]
theorem dTell_ok {f : Int → Int} {p : Int} {w : Int → Int} (hW : WF w) (h9 : 0 ≤ w 9) (h10 : 0 ≤ w 10 ∧ w 10 ≤ 60) : WF (dTell f p w) ∧ (w 9 ≤ dTell f p w 9 ∧ dTell f p w 9 ≤ w 9 + 1) ∧ (0 ≤ dTell f p w 10 ∧ dTell f p w 10 ≤ 60) ∧ ∀ k, (k < 9 ∨ (11 ≤ k ∧ k < 180) ∨ 420 ≤ k) → dTell f p w k = w k := by
  unfold dTell
  split
  · rw [mTell_9, mTell_10]
    exact ⟨WF_cong (fun k hk => mTell_o (by omega)) hW, by omega, by omega, fun k hk => mTell_o hk⟩
  · exact ⟨hW, by omega, h10, fun _ _ => rfl⟩
theorem dTold_ok {calm : Int} {w a b f : Int → Int} (hW : WF w) (h9 : 0 ≤ w 9) (h10 : 0 ≤ w 10 ∧ w 10 ≤ 60) : WF (dTold calm w a b f) ∧ (w 9 ≤ dTold calm w a b f 9 ∧ dTold calm w a b f 9 ≤ w 9 + 8) ∧ (0 ≤ dTold calm w a b f 10 ∧ dTold calm w a b f 10 ≤ 60) ∧ ∀ k, (k < 9 ∨ (11 ≤ k ∧ k < 180) ∨ 420 ≤ k) → dTold calm w a b f k = (dEnd calm w a b f).1 k := by
  have h8 := hW.1
  have he := dEnd_ok (calm := calm) (a := a) (b := b) (f := f) hW
  have e9 := he.2.2 9 (by omega)
  have e10 := he.2.2 10 (by omega)
  have := jfold_ind (f := dTell (dEnd calm w a b f).2) (a := (dEnd calm w a b f).1) (fun z v => WF v ∧ (w 9 ≤ v 9 ∧ v 9 ≤ w 9 + z) ∧ (0 ≤ v 10 ∧ v 10 ≤ 60) ∧ ∀ k, (k < 9 ∨ (11 ≤ k ∧ k < 180) ∨ 420 ≤ k) → v k = (dEnd calm w a b f).1 k) ⟨he.1, by omega, by omega, fun _ _ => rfl⟩ (n := (aPe w).toNat) (fun z v h0 h1 ih => by
    have := dTell_ok (f := (dEnd calm w a b f).2) (p := z) ih.1 (by omega) ih.2.2.1
    exact ⟨this.1, by omega, this.2.2.1, fun k hk => (this.2.2.2 k hk).trans (ih.2.2.2 k hk)⟩)
  exact ⟨this.1, by have := this.2.1; unfold dTold; omega, this.2.2.1, this.2.2.2⟩
theorem mDay_ok {calm : Int} {w a b f : Int → Int} (hW : WF w) (h9 : 0 ≤ w 9) (h10 : 0 ≤ w 10 ∧ w 10 ≤ 60) : WF (mDay calm w a b f) ∧ (w 9 ≤ mDay calm w a b f 9 ∧ mDay calm w a b f 9 ≤ w 9 + 8) ∧ (0 ≤ mDay calm w a b f 10 ∧ mDay calm w a b f 10 ≤ 60) ∧ aPe (mDay calm w a b f) = aPe w := by
  have ht := dTold_ok (calm := calm) (a := a) (b := b) (f := f) hW h9 h10
  have he := dEnd_ok (calm := calm) (a := a) (b := b) (f := f) hW
  have hd := ht.1.2.1.1
  refine ⟨WF_day ht.1 (by omega), ?_, ?_, ?_⟩
  · show _ ≤ wup _ _ _ _ ∧ wup _ _ _ _ ≤ _
    rw [wup_ne _ _ (by decide)]; exact ht.2.1
  · show _ ≤ wup _ _ _ _ ∧ wup _ _ _ _ ≤ _
    rw [wup_ne _ _ (by decide)]; exact ht.2.2.1
  · show wup _ _ _ _ = _
    rw [wup_ne _ _ (by decide), ht.2.2.2 0 (by omega), he.2.2 0 (by omega)]
