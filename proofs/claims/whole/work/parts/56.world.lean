/-! THE CLASS AND THE MODEL STAND ALIKE -/
/-- the row of an act that is remembered -/
abbrev mRow (M : Nat → Int → Int) (j : Int) : Int → Int := mCpy (M 171) (fun k => M 175 (420 * j + k)) 420
def MemR (sh : List (Nat × Nat)) (I : Nat → Int → Int) (F : Nat → Int → Option Nat) (M : Nat → Int → Int) : Prop := I 32 1 = M 170 7 ∧ (0 ≤ M 170 7 ∧ M 170 7 ≤ 12) ∧ (0 ≤ I 32 2 ∧ I 32 2 < 12) ∧ ∀ j, 0 ≤ j → j < M 170 7 → Sr sh I F (mPl ((I 32 2 + 12 - M 170 7 + j) % 12)) (mRow M j)
def TpR (I M : Nat → Int → Int) : Prop := I 0 1 = M 170 9 ∧ (0 ≤ M 170 9 ∧ M 170 9 ≤ 400) ∧ I 0 2 = M 170 14 ∧ ∀ k, 0 ≤ k → k < 400 → (0 ≤ I 1 k ∧ I 1 k ≤ 255) ∧ M 176 k = (if I 1 k < 128 then I 1 k else I 1 k - 256)
def CR (sh : List (Nat × Nat)) (I : Nat → Int → Int) (F : Nat → Int → Option Nat) (M : Nat → Int → Int) : Prop := Sr sh I F 2 (M 171) ∧ I 0 6 = M 170 6 ∧ (M 170 6 = 1 → Sr sh I F 22 (M 172)) ∧ MemR sh I F M ∧ TpR I M
/-- all that is owed -/
def mTot (w : Int → Int) : Int := jfold (fun p a => a + jfold (fun q b => b + aOw w p q) 0 (aPe w).toNat) 0 (aPe w).toNat
theorem mTot_cong {w v : Int → Int} (e0 : aPe v = aPe w) (h : ∀ p q, 0 ≤ p → p < aPe w → 0 ≤ q → q < aPe w → aOw v p q = aOw w p q) : mTot v = mTot w := by
  unfold mTot
  rw [e0]
  refine jfold_cong (fun p p0 p1 a => ?_)
  rw [jfold_cong (fun q q0 q1 b => by rw [h p q p0 (by omega) q0 (by omega)])]
def OKw (B : Int) (w : Int → Int) : Prop := WF w ∧ (0 ≤ w 9 ∧ w 9 ≤ B) ∧ (0 ≤ w 1 ∧ w 1 ≤ 12) ∧ (0 ≤ w 10 ∧ w 10 ≤ 60) ∧ (∀ p, 0 ≤ p → p < aPe w → aOf w p 4 ≠ p) ∧ (∀ p q, 0 ≤ p → p < aPe w → 0 ≤ q → q < aPe w → 0 ≤ aOw w p q) ∧ mTot w ≤ B
def MI (B : Int) (M : Nat → Int → Int) : Prop := OKw B (M 171) ∧ (M 170 6 = 0 ∨ M 170 6 = 1) ∧ (M 170 6 = 1 → OKw B (M 172)) ∧ (0 ≤ M 170 7 ∧ M 170 7 ≤ 12) ∧ ∀ j, 0 ≤ j → j < M 170 7 → OKw B (mRow M j)
/-- where all lies -/
def Pl (sh : List (Nat × Nat)) (F : Nat → Int → Option Nat) : Prop := ShOK sh ∧ FxOK F ∧ MmF sh F ∧ StAt sh F 2 ∧ StAt sh F 12 ∧ StAt sh F 22
theorem Pl_F {sh : List (Nat × Nat)} {F : Nat → Int → Option Nat} {e : Nat} {r : Option Nat} (h : Pl sh F) : Pl sh (jup F e 18 r) := ⟨h.1, FxOK_F h.2.1, MmF_F h.2.2.1, StAt_F h.2.2.2.1, StAt_F h.2.2.2.2.1, StAt_F h.2.2.2.2.2⟩
theorem OKw_B {B C : Int} {w : Int → Int} (h : OKw B w) (hb : B ≤ C) : OKw C w := ⟨h.1, ⟨h.2.1.1, Int.le_trans h.2.1.2 hb⟩, h.2.2.1, h.2.2.2.1, h.2.2.2.2.1, h.2.2.2.2.2.1, Int.le_trans h.2.2.2.2.2.2 hb⟩
theorem OKw_w {B : Int} {w v : Int → Int} (h : OKw B w) (hv : ∀ k, 0 ≤ k → k < 1269 → v k = w k) : OKw B v := by
  obtain ⟨h1, h2, h3, h4, h5, h6, h7⟩ := h
  have g8 := h1.1
  have eo : ∀ p q, 0 ≤ p → p < aPe w → 0 ≤ q → q < aPe w → aOw v p q = aOw w p q := fun p q p0 p1 q0 q1 => hv _ (by omega) (by omega)
  have e0 : aPe v = aPe w := hv 0 (by omega) (by omega)
  refine ⟨WF_congB hv h1, ?_, ?_, ?_, fun p p0 p1 => by rw [show aOf v p 4 = aOf w p 4 from hv _ (by omega) (by omega)]; exact h5 p p0 (by omega), fun p q p0 p1 q0 q1 => by rw [eo p q p0 (by omega) q0 (by omega)]; exact h6 p q p0 (by omega) q0 (by omega), by rw [mTot_cong e0 eo]; exact h7⟩
  · rw [hv 9 (by omega) (by omega)]; exact h2
  · rw [hv 1 (by omega) (by omega)]; exact h3
  · rw [hv 10 (by omega) (by omega)]; exact h4
theorem MI_B {B C : Int} {M : Nat → Int → Int} (h : MI B M) (hb : B ≤ C) : MI C M := ⟨OKw_B h.1 hb, h.2.1, fun q => OKw_B (h.2.2.1 q) hb, h.2.2.2.1, fun j j0 j1 => OKw_B (h.2.2.2.2 j j0 j1) hb⟩
/-- what of the model counts -/
def MEq (M J : Nat → Int → Int) : Prop := J 171 = M 171 ∧ J 172 = M 172 ∧ J 175 = M 175 ∧ J 176 = M 176 ∧ J 170 6 = M 170 6 ∧ J 170 7 = M 170 7 ∧ J 170 9 = M 170 9 ∧ J 170 14 = M 170 14
theorem MEq_0 {M : Nat → Int → Int} : MEq M M := ⟨rfl, rfl, rfl, rfl, rfl, rfl, rfl, rfl⟩
theorem mRow_eq {M J : Nat → Int → Int} (h : MEq M J) (j : Int) : mRow J j = mRow M j := by unfold mRow; rw [h.1, h.2.2.1]
theorem CR_M {sh : List (Nat × Nat)} {I M J : Nat → Int → Int} {F : Nat → Int → Option Nat} (e : MEq M J) (h : CR sh I F M) : CR sh I F J := by
  have er := mRow_eq e
  obtain ⟨e1, e2, e3, e4, e5, e6, e7, e8⟩ := e
  obtain ⟨h1, h2, h3, ⟨m1, m2, m3, m4⟩, t1, t2, t3, t4⟩ := h
  refine ⟨by rw [e1]; exact h1, by rw [e5]; exact h2, by rw [e5, e2]; exact h3, ⟨by rw [e6]; exact m1, by rw [e6]; exact m2, m3, ?_⟩, by rw [e7]; exact t1, by rw [e7]; exact t2, by rw [e8]; exact t3, by rw [e4]; exact t4⟩
  rw [e6]
  exact fun j j0 j1 => by rw [er j]; exact m4 j j0 j1
theorem MI_M {B : Int} {M J : Nat → Int → Int} (e : MEq M J) (h : MI B M) : MI B J := by
  have er := mRow_eq e
  obtain ⟨e1, e2, e3, e4, e5, e6, e7, e8⟩ := e
  obtain ⟨h1, h2, h3, h4, h5⟩ := h
  refine ⟨by rw [e1]; exact h1, by rw [e5]; exact h2, by rw [e5, e2]; exact h3, by rw [e6]; exact h4, ?_⟩
  rw [e6]
  exact fun j j0 j1 => by rw [er j]; exact h5 j j0 j1
theorem CR_fr {sh : List (Nat × Nat)} {I J M : Nat → Int → Int} {F : Nat → Int → Option Nat} (h : CR sh I F M) (hf : ∀ a, (a < 12 ∨ (22 ≤ a ∧ a < 154) ∨ 185 ≤ a) → J a = I a) : CR sh J F M := by
  obtain ⟨h1, h2, h3, ⟨m1, m2, m3, m4⟩, t1, t2, t3, t4⟩ := h
  refine ⟨Sr_fr h1 (fun a a0 a1 => hf a (by omega)) (fun a ha => hf a (by omega)), by rw [hf 0 (by omega)]; exact h2, fun q => Sr_fr (h3 q) (fun a a0 a1 => hf a (by omega)) (fun a ha => hf a (by omega)), ⟨by rw [hf 32 (by omega)]; exact m1, m2, by rw [hf 32 (by omega)]; exact m3, ?_⟩, by rw [hf 0 (by omega)]; exact t1, t2, by rw [hf 0 (by omega)]; exact t3, by rw [hf 1 (by omega)]; exact t4⟩
  rw [hf 32 (by omega)]
  intro j j0 j1
  have hp : mPl ((I 32 2 + 12 - M 170 7 + j) % 12) = 34 + 10 * ((I 32 2 + 12 - M 170 7 + j) % 12).toNat := rfl
  exact Sr_fr (m4 j j0 j1) (fun a a0 a1 => hf a (by omega)) (fun a ha => hf a (by omega))
theorem CR_F12 {sh : List (Nat × Nat)} {I M : Nat → Int → Int} {F : Nat → Int → Option Nat} {r : Option Nat} (h : CR sh I F M) : CR sh I (jup F 12 18 r) M := by
  obtain ⟨h1, h2, h3, ⟨m1, m2, m3, m4⟩, t⟩ := h
  refine ⟨Sr_F (by decide) h1, h2, fun q => Sr_F (by decide) (h3 q), ⟨m1, m2, m3, fun j j0 j1 => ?_⟩, t⟩
  have hp : mPl ((I 32 2 + 12 - M 170 7 + j) % 12) = 34 + 10 * ((I 32 2 + 12 - M 170 7 + j) % 12).toNat := rfl
  exact Sr_F (by omega) (m4 j j0 j1)
/-- the model, an act more remembered -/
def mzR (M : Nat → Int → Int) : Nat → Int → Int := fun a => if a = 175 then mRem (M 175) (M 171) (M 170 7) else if a = 170 then wup (M 170) 7 (min 12 (M 170 7 + 1)) else M a
def mzW (M : Nat → Int → Int) (w : Int → Int) : Nat → Int → Int := fun a => if a = 171 then w else M a
theorem mzR_171 {M : Nat → Int → Int} : mzR M 171 = M 171 := rfl
theorem mzR_7 {M : Nat → Int → Int} : mzR M 170 7 = min 12 (M 170 7 + 1) := rfl
theorem mzR_k {M : Nat → Int → Int} {k : Int} (h : k ≠ 7) : mzR M 170 k = M 170 k := wup_ne (M 170) _ h
theorem mzR_new {M : Nat → Int → Int} {j : Int} (h : 0 ≤ M 170 7 ∧ M 170 7 ≤ 12) (hj : j = min 12 (M 170 7 + 1) - 1) : mRow (mzR M) j = M 171 := by
  funext k
  show mCpy (M 171) (fun k => mRem (M 175) (M 171) (M 170 7) (420 * j + k)) 420 k = _
  unfold mCpy
  by_cases e : 0 ≤ k ∧ k < 420
  · rw [if_pos e]
    show mRem (M 175) (M 171) (M 170 7) (420 * j + k) = _
    unfold mRem mPst
    by_cases e2 : M 170 7 = 12
    · rw [if_pos e2]
      show (if _ then _ else _) = _
      rw [if_pos (by omega)]; congr 1; omega
    · rw [if_neg e2]
      show (if _ then _ else _) = _
      rw [if_pos (by omega)]; congr 1; omega
  · rw [if_neg e]
theorem mzR_old {M : Nat → Int → Int} {j : Int} (h : 0 ≤ M 170 7 ∧ M 170 7 ≤ 12) (h0 : 0 ≤ j) (hj : j < min 12 (M 170 7 + 1) - 1) : mRow (mzR M) j = mRow M (if M 170 7 = 12 then j + 1 else j) := by
  funext k
  show mCpy (M 171) (fun k => mRem (M 175) (M 171) (M 170 7) (420 * j + k)) 420 k = _
  unfold mRow mCpy
  by_cases e : 0 ≤ k ∧ k < 420
  · rw [if_pos e, if_pos e]
    show mRem (M 175) (M 171) (M 170 7) (420 * j + k) = M 175 (420 * _ + k)
    unfold mRem mPst mSft
    by_cases e2 : M 170 7 = 12
    · rw [if_pos e2, if_pos e2]
      show (if _ then _ else if _ then _ else _) = _
      rw [if_neg (by omega), if_pos (by omega)]; congr 1; omega
    · rw [if_neg e2, if_neg e2]
      show (if _ then _ else _) = _
      rw [if_neg (by omega)]
  · rw [if_neg e, if_neg e]
theorem CR_rem {sh : List (Nat × Nat)} {I J J1 M : Nat → Int → Int} {F : Nat → Int → Option Nat} {x : Int} (h : CR sh I F M) (hx : I 32 2 = x) (hT : TkA I (mPl x) 2 J1) (h1 : J 32 1 = min 12 (M 170 7 + 1)) (h2 : J 32 2 = (x + 1) % 12) (h3 : ∀ a, a ≠ 32 → J a = J1 a) : CR sh J (jup F (mPl x) 18 (F 2 18)) (mzR M) := by
  obtain ⟨a1, a2, a3, ⟨m1, m2, m3, m4⟩, t1, t2, t3, t4⟩ := h
  rw [hx] at m3 m4
  have hpx : mPl x = 34 + 10 * x.toNat := rfl
  have hf := TkA_fr hT
  have hJ : ∀ a, a ≠ 32 → (a < mPl x ∨ mPl x + 9 < a) → J a = I a := fun a ha hb => (h3 a ha).trans (hf a hb)
  have oth : ∀ s v, (s + 9 < 32 ∨ 32 < s) → (s + 9 < mPl x ∨ mPl x + 9 < s) → Sr sh I F s v → Sr sh J (jup F (mPl x) 18 (F 2 18)) s v := fun s v hs hs2 hS => Sr_fr (TkA_oth (by omega) hT hs2 hS) (fun a b0 b1 => h3 a (by omega)) (fun a ha => h3 a (by omega))
  refine ⟨oth 2 _ (by omega) (by omega) a1, ?_, fun q => oth 22 _ (by omega) (by omega) (a3 (by rw [mzR_k (by decide)] at q; exact q)), ⟨by rw [mzR_7]; exact h1, by rw [mzR_7]; omega, by rw [h2]; omega, fun j j0 j1 => ?_⟩, ?_, ?_, ?_, ?_⟩
  · rw [hJ 0 (by decide) (by omega), mzR_k (by decide)]; exact a2
  · rw [mzR_7] at j1 ⊢
    rw [h2]
    by_cases e : j = min 12 (M 170 7 + 1) - 1
    · rw [mzR_new m2 e, show ((x + 1) % 12 + 12 - min 12 (M 170 7 + 1) + j) % 12 = x by omega]
      exact Sr_fr (TkA_Sr (by omega) hT a1) (fun a b0 b1 => h3 a (by omega)) (fun a ha => h3 a (by omega))
    · rw [mzR_old m2 j0 (by omega)]
      have e2 : ((x + 1) % 12 + 12 - min 12 (M 170 7 + 1) + j) % 12 = (x + 12 - M 170 7 + (if M 170 7 = 12 then j + 1 else j)) % 12 := by split <;> omega
      have e3 : (x + 12 - M 170 7 + (if M 170 7 = 12 then j + 1 else j)) % 12 ≠ x := by split <;> omega
      have e4 := m4 (if M 170 7 = 12 then j + 1 else j) (by split <;> omega) (by split <;> omega)
      rw [e2]
      generalize (if M 170 7 = 12 then j + 1 else j) = i at *
      have hp : mPl ((x + 12 - M 170 7 + i) % 12) = 34 + 10 * ((x + 12 - M 170 7 + i) % 12).toNat := rfl
      exact oth _ _ (by omega) (by omega) e4
  · rw [hJ 0 (by decide) (by omega), mzR_k (by decide)]; exact t1
  · rw [mzR_k (by decide)]; exact t2
  · rw [hJ 0 (by decide) (by omega), mzR_k (by decide)]; exact t3
  · rw [hJ 1 (by decide) (by omega)]; exact t4
theorem MI_rem {B : Int} {M : Nat → Int → Int} (h : MI B M) : MI B (mzR M) := by
  obtain ⟨h1, h2, h3, h4, h5⟩ := h
  refine ⟨h1, by rw [mzR_k (by decide)]; exact h2, fun q => h3 (by rw [mzR_k (by decide)] at q; exact q), by rw [mzR_7]; omega, fun j j0 j1 => ?_⟩
  rw [mzR_7] at j1
  by_cases e : j = min 12 (M 170 7 + 1) - 1
  · rw [mzR_new h4 e]; exact h1
  · rw [mzR_old h4 j0 (by omega)]
    exact h5 _ (by split <;> omega) (by split <;> omega)
theorem mzW_row {M : Nat → Int → Int} {w : Int → Int} (hw : ∀ k, k < 0 ∨ 420 ≤ k → w k = M 171 k) (j : Int) : mRow (mzW M w) j = mRow M j := by
  funext k
  show mCpy w (fun k => M 175 (420 * j + k)) 420 k = mCpy (M 171) (fun k => M 175 (420 * j + k)) 420 k
  unfold mCpy
  by_cases e : 0 ≤ k ∧ k < 420
  · rw [if_pos e, if_pos e]
  · rw [if_neg e, if_neg e]; exact hw k (by omega)
/-- only the state itself has changed -/
theorem CR_now {sh : List (Nat × Nat)} {I J M : Nat → Int → Int} {F : Nat → Int → Option Nat} {w : Int → Int} (h : CR sh I F M) (hs : Sr sh J F 2 w) (hf : ∀ a, (a < 2 ∨ 11 < a) → (a < 160 ∨ 165 < a) → J a = I a) (hw : ∀ k, k < 0 ∨ 420 ≤ k → w k = M 171 k) : CR sh J F (mzW M w) := by
  obtain ⟨a1, a2, a3, ⟨m1, m2, m3, m4⟩, t1, t2, t3, t4⟩ := h
  refine ⟨hs, by rw [hf 0 (by omega) (by omega)]; exact a2, fun q => Sr_fr (a3 q) (fun a b0 b1 => hf a (by omega) (by omega)) (fun a ha => hf a (by omega) (by omega)), ⟨by rw [hf 32 (by omega) (by omega)]; exact m1, m2, by rw [hf 32 (by omega) (by omega)]; exact m3, ?_⟩, by rw [hf 0 (by omega) (by omega)]; exact t1, t2, by rw [hf 0 (by omega) (by omega)]; exact t3, by rw [hf 1 (by omega) (by omega)]; exact t4⟩
  rw [hf 32 (by omega) (by omega)]
  intro j j0 j1
  rw [mzW_row hw]
  have hp : mPl ((I 32 2 + 12 - M 170 7 + j) % 12) = 34 + 10 * ((I 32 2 + 12 - M 170 7 + j) % 12).toNat := rfl
  have hm : (mzW M w) 170 7 = M 170 7 := rfl
  rw [hm] at j1 ⊢
  exact Sr_fr (m4 j j0 j1) (fun a b0 b1 => hf a (by omega) (by omega)) (fun a ha => hf a (by omega) (by omega))
theorem MI_now {B : Int} {M : Nat → Int → Int} {w : Int → Int} (h : MI B M) (hs : OKw B w) (hw : ∀ k, k < 0 ∨ 420 ≤ k → w k = M 171 k) : MI B (mzW M w) := by
  obtain ⟨h1, h2, h3, h4, h5⟩ := h
  exact ⟨hs, h2, h3, h4, fun j j0 j1 => by rw [mzW_row hw]; exact h5 j j0 j1⟩
section
variable {G : jzG} {d : Nat} {sh : List (Nat × Nat)} {I : Nat → Int → Int} {F : Nat → Int → Option Nat}
/-- the class remembers -/
theorem cr_remember (hP : Pl sh F) {M : Nat → Int → Int} (hC : CR sh I F M) (hw : WF (M 171)) : jS G (d + 2) mX8_remember [jR (some 32), jR (some 2)] (sh, I, F) 0 0 (fun o h => ∃ J F', o = .inl none ∧ h = (sh, J, F') ∧ Pl sh F' ∧ CR sh J F' (mzR M) ∧ (∀ a, a < 32 → J a = I a) ∧ (∀ a, 154 ≤ a → J a = I a) ∧ F' 2 18 = F 2 18) := by
  obtain ⟨p1, p2, p3, p4, p5, p6⟩ := id hP
  obtain ⟨a1, a2, a3, ⟨m1, m2, m3, m4⟩, t⟩ := id hC
  have h17 : I 2 17 = 0 ∨ I 2 17 = 1 := by rw [a1.1.2.2.2.2.2.2.2.2.2.2.2.2.2]; exact hw.2.2.2.1
  refine jS_mono (cs_remember (G := G) (d := d) p1 p2 p3 p4 rfl m3 m1 m2 h17) (fun o h ⟨J, k1, k2, J1, k3, k4, k5, k6⟩ => ⟨J, _, k1, k2, Pl_F hP, CR_rem hC rfl k3 k4 k5 k6, fun a ha => ?_, fun a ha => ?_, ?_⟩)
  · have hp : mPl (I 32 2) = 34 + 10 * (I 32 2).toNat := rfl
    rw [k6 a (by omega), TkA_fr k3 a (by omega)]
  · have hp : mPl (I 32 2) = 34 + 10 * (I 32 2).toNat := rfl
    rw [k6 a (by omega), TkA_fr k3 a (by omega)]
  · have hp : mPl (I 32 2) = 34 + 10 * (I 32 2).toNat := rfl
    rw [jup_cell _ _ _ _ (by omega)]
end
