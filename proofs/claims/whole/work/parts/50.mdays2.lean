/-! DAYS AHEAD: MORE OF THE MODEL'S METHODS -/
abbrev mPkS (p k : Int) (a : dX × Int × Int) : dX × Int × Int := (dStep 1 a.1, max a.2.1 ((dStep 1 a.1).2.2.2 p), if a.2.1 < (dStep 1 a.1).2.2.2 p then k else a.2.2)
def mPk (X : dX) (p : Int) (n : Nat) : dX × Int × Int := jfold (mPkS p) (X, -1, 0) n
theorem mPk_s (X : dX) (p : Int) {z : Int} (h : 0 ≤ z) : mPk X p (z + 1).toNat = mPkS p z (mPk X p z.toNat) := jfold_s _ _ h
abbrev mNdS (a : dX × Int) : dX × Int := (dStep 1 a.1, max a.2 (mAll (dStep 1 a.1).1 1))
def mNd (X : dX) (n : Nat) : dX × Int := jfold (fun _ a => mNdS a) (X, 0) n
theorem mNd_s (X : dX) {z : Int} (h : 0 ≤ z) : mNd X (z + 1).toNat = mNdS (mNd X z.toNat) := jfold_s _ _ h
theorem WF_A1 {w : Int → Int} (h : WF w) : WfA w := fun p p0 p1 => (h.2.1.2.2 p p0 p1).2.1
theorem WF_4 {w : Int → Int} {v : Int} (h : WF w) : WF (wup w 4 v) := WF_cong (fun k hk => wup_ne _ _ (by omega)) h
theorem WF_11 {w : Int → Int} {v : Int} (h : WF w) : WF (wup w 11 v) := WF_cong (fun k hk => wup_ne _ _ (by omega)) h
/-- one seed's days -/
abbrev mSpX (w : Int → Int) (n : Int) (k : Int) (a : Int × (Int → Int) × (Int → Int) × (Int → Int)) : dX := mDays 0 (wup w 11 (k + 1), a.2.1, a.2.2.1, a.2.2.2) n.toNat
abbrev mSpS (w : Int → Int) (n b : Int) (k : Int) (a : Int × (Int → Int) × (Int → Int) × (Int → Int)) : Int × (Int → Int) × (Int → Int) × (Int → Int) := (if a.1 < 0 then (mSpX w n k a).1 9 - w 9 else if b = 0 then min a.1 ((mSpX w n k a).1 9 - w 9) else max a.1 ((mSpX w n k a).1 9 - w 9), (mSpX w n k a).2)
def mSp (X : dX) (n b : Int) (m : Nat) : Int × (Int → Int) × (Int → Int) × (Int → Int) := jfold (mSpS X.1 n b) (-1, X.2) m
theorem mSp_s (X : dX) (n b : Int) {z : Int} (h : 0 ≤ z) : mSp X n b (z + 1).toNat = mSpS X.1 n b z (mSp X n b z.toNat) := jfold_s _ _ h
/-- the first day on which it is too much -/
abbrev vOv (X : dX) (k : Int) : Prop := 0 < mOver (mDays 1 X k.toNat).1 (mDays 1 X (k + 1).toNat).2.2.2
noncomputable def dFst (X : dX) : Int := jfirst (vOv X) 60
noncomputable def mFO (w f : Int → Int) : Int := jfirst (fun p => aOf w p 0 < f p) (aPe w)
noncomputable def vFst (X : dX) (b : Int) : Int := if dFst X < 0 then -1 else if b = 0 then dFst X + 1 else mFO (mDays 1 X (dFst X).toNat).1 (mDays 1 X (dFst X + 1).toNat).2.2.2
theorem mOver_iff {w f : Int → Int} (hp : 0 ≤ aPe w) : 0 < mOver w f ↔ ∃ q, (0 ≤ q ∧ q < aPe w) ∧ aOf w q 0 < f q := by
  have := jfold_ind (f := fun p a => if aOf w p 0 < f p then a + 1 else a) (a := (0 : Int)) (fun k a => 0 ≤ a ∧ (0 < a ↔ ∃ q, (0 ≤ q ∧ q < k) ∧ aOf w q 0 < f q)) ⟨Int.le_refl _, by constructor; (intro h; omega); (intro ⟨q, h, _⟩; omega)⟩ (n := (aPe w).toNat) (fun k y h0 h1 ih => by
    by_cases e : aOf w k 0 < f k
    · rw [if_pos e]
      exact ⟨by omega, fun _ => ⟨k, by omega, e⟩, fun _ => by omega⟩
    · rw [if_neg e]
      refine ⟨ih.1, fun h => ?_, fun ⟨q, hq, h⟩ => ?_⟩
      · obtain ⟨q, hq, h⟩ := ih.2.1 h
        exact ⟨q, by omega, h⟩
      · by_cases e2 : q = k
        · subst e2; exact absurd h e
        · exact ih.2.2 ⟨q, by omega, h⟩)
  rw [show (((aPe w).toNat : Nat) : Int) = aPe w by omega] at this
  exact this.2
/-- the least so far, from behind -/
def vFd (w f : Int → Int) (p r : Int) : Prop := (r = -1 ∧ ∀ q, p < q → q < aPe w → ¬ aOf w q 0 < f q) ∨ ((p < r ∧ r < aPe w) ∧ aOf w r 0 < f r ∧ ∀ q, p < q → q < r → ¬ aOf w q 0 < f q)
theorem vFd_s1 {w f : Int → Int} {p r : Int} (hp : p < aPe w) (h : vFd w f p r) (e : aOf w p 0 < f p) : vFd w f (p - 1) p := Or.inr ⟨by omega, e, fun q q0 q1 => by omega⟩
theorem vFd_s0 {w f : Int → Int} {p r : Int} (h : vFd w f p r) (e : ¬ aOf w p 0 < f p) : vFd w f (p - 1) r := by
  rcases h with ⟨h1, h2⟩ | ⟨h1, h2, h3⟩
  · exact Or.inl ⟨h1, fun q q0 q1 => by
      by_cases e2 : q = p
      · subst e2; exact e
      · exact h2 q (by omega) q1⟩
  · exact Or.inr ⟨by omega, h2, fun q q0 q1 => by
      by_cases e2 : q = p
      · subst e2; exact e
      · exact h3 q (by omega) q1⟩
theorem vFd_end {w f : Int → Int} {r : Int} (hp : 0 ≤ aPe w) (h : vFd w f (-1) r) : (r = -1 ∧ ¬ 0 < mOver w f) ∨ (0 ≤ r ∧ r < 100000 + aPe w ∧ 0 < mOver w f ∧ r = mFO w f) := by
  rw [mOver_iff hp]
  rcases h with ⟨h1, h2⟩ | ⟨h1, h2, h3⟩
  · exact Or.inl ⟨h1, fun ⟨q, hq, h⟩ => h2 q (by omega) hq.2 h⟩
  · exact Or.inr ⟨by omega, by omega, ⟨r, by omega, h2⟩, (jfirst_hit (P := fun p => aOf w p 0 < f p) (k := r) (by omega) (by omega) h2 (fun j j0 j1 => h3 j (by omega) j1)).symm⟩
theorem DX_back {I I1 J K L : Nat → Int → Int} {X : dX} (hJ : J 174 = mCpy (I1 174) (I1 171) 420 ∧ Fr1 174 I1 J) (hw0 : I1 171 = I 171) (hD : DX J K X) (hX : ∀ k, k < 0 ∨ 420 ≤ k → X.1 k = I 171 k) (h3 : L 171 = mCpy (K 171) (K 174) 420) (h4 : Fr1 171 K L) : DX J L (I 171, X.2) := by
  obtain ⟨d1, d2, d3, d4, d5, d6⟩ := hD
  refine ⟨?_, ?_, ?_, ?_, fun a n0 n1 n2 n3 n4 n5 => ?_, fun k k1 k2 => ?_⟩
  · rw [h3, d1, d5 174 (by decide) (by decide) (by decide) (by decide) (by decide) (by decide), hJ.1, hw0]
    exact mCpy_back hX
  · rw [h4 179 (by decide), d2]
  · rw [h4 180 (by decide), d3]
  · rw [h4 181 (by decide), d4]
  · rw [h4 a n1, d5 a n0 n1 n2 n3 n4 n5]
  · rw [h4 170 (by decide), d6 k k1 k2]
section
variable {G : jzG} {d : Nat} {sh : List (Nat × Nat)} {I : Nat → Int → Int} {F : Nat → Int → Option Nat} {w : Int → Int}
/-! ### peak -/
theorem mp_peak_1 (hsh : ShOK sh) (hfx : FxOK F) (hP : WfP (I 171)) {p n b : Int} (h1 : jin p) (h2 : ¬ gP (I 171) p) : jS G (d + 8) mX12_peak [jR (some 170), jI p, jI n, jI b] (sh, I, F) 0 0 (rI 0 (sh, jup I 170 0 1, F)) := by
  refine jS_go [some (jR (some 170)), some (jI p), some (jI n), some (jI b), none, none, none] (by decide +kernel) rfl (by simp [jone]) (Nat.le_of_ble_eq_true rfl) rfl (fun hok => ?_)
  refine j_aload_n dX12_peak_0 rfl ?_
  refine j_iconst dX12_peak_1 ?_
  refine r_putI dX12_peak_2 flX12_3 rfl (by first | assumption | exact hsh _ _ rfl) (by first | omega | (split <;> omega)) (fun q => by cases q) ?_
  skip
  have hok1 : jzok (sh, jup I 170 0 0, F) := jzok_I hok jin_lit0
  have hw0 : (jup I 170 0 0) 171 = I 171 := jup_ne _ _ _ (by decide)
  clear hok
  rw [← jup_up I 170 0 0 1]
  rw [← hw0] at hP h2
  try rw [← hw0]
  obtain ⟨I1, hI1⟩ : ∃ J, J = jup I 170 0 0 := ⟨_, rfl⟩
  rw [← hI1] at hok1 hw0 hP h2 ⊢
  have hok := hok1
  refine j_aload_n dX12_peak_5 rfl ?_
  refine j_aload_n dX12_peak_6 rfl ?_
  refine j_iload_n dX12_peak_7 rfl ?_
  refine r_cv1I dX12_peak_8 cvX12_335 (by decide) (by first | assumption | exact hsh _ _ rfl) (Nat.le_of_ble_eq_true rfl) (Nat.le_of_eq (Nat.zero_add _)) (Nat.le_of_eq (Nat.zero_add _)) (sm_noP1 hsh hfx hok (by omega) hP h2) ?_
  refine j_iconst dX12_peak_11 ?_
  refine r_cv2I dX12_peak_12 cvX12_253 (by decide) (by first | assumption | exact hsh _ _ rfl) (Nat.le_of_ble_eq_true rfl) (Nat.le_of_eq (Nat.zero_add _)) (Nat.le_of_eq (Nat.zero_add _)) (sm_thr1 hsh (by omega)) ?_
  refine j_if_ne (tgt := 62) dX12_peak_15 rfl (by first | omega | (split <;> omega)) (fun c_15 => ?_) (fun c_15 => by exact absurd c_15 (by decide))
  refine j_iconst dX12_peak_62 ?_
  refine j_iret dX12_peak_63 rfl ?_
  exact rI_of rfl rfl
theorem mp_peak_2 (hsh : ShOK sh) (hfx : FxOK F) (hP : WfP (I 171)) {p n b : Int} (h1 : gP (I 171) p) (hn : jin n) (h3 : ¬ (1 ≤ n ∧ n ≤ 60)) : jS G (d + 8) mX12_peak [jR (some 170), jI p, jI n, jI b] (sh, I, F) 0 0 (rI 0 (sh, jup I 170 0 2, F)) := by
  have g8 : aPe (I 171) ≤ 8 := hP.2
  have g1 : 0 ≤ p ∧ p < 8 := by have := h1.1; have := h1.2; omega
  refine jS_go [some (jR (some 170)), some (jI p), some (jI n), some (jI b), none, none, none] (by decide +kernel) rfl (by simp [jone]) (Nat.le_of_ble_eq_true rfl) rfl (fun hok => ?_)
  refine j_aload_n dX12_peak_0 rfl ?_
  refine j_iconst dX12_peak_1 ?_
  refine r_putI dX12_peak_2 flX12_3 rfl (by first | assumption | exact hsh _ _ rfl) (by first | omega | (split <;> omega)) (fun q => by cases q) ?_
  skip
  have hok1 : jzok (sh, jup I 170 0 0, F) := jzok_I hok jin_lit0
  have hw0 : (jup I 170 0 0) 171 = I 171 := jup_ne _ _ _ (by decide)
  clear hok
  rw [← jup_up I 170 0 0 2]
  rw [← hw0] at hP h1
  try rw [← hw0]
  obtain ⟨I1, hI1⟩ : ∃ J, J = jup I 170 0 0 := ⟨_, rfl⟩
  rw [← hI1] at hok1 hw0 hP h1 ⊢
  have hok := hok1
  refine j_aload_n dX12_peak_5 rfl ?_
  refine j_aload_n dX12_peak_6 rfl ?_
  refine j_iload_n dX12_peak_7 rfl ?_
  refine r_cv1I dX12_peak_8 cvX12_335 (by decide) (by first | assumption | exact hsh _ _ rfl) (Nat.le_of_ble_eq_true rfl) (Nat.le_of_eq (Nat.zero_add _)) (Nat.le_of_eq (Nat.zero_add _)) (sm_noP0 hsh hfx hok (by omega) hP h1) ?_
  refine j_iconst dX12_peak_11 ?_
  refine r_cv2I dX12_peak_12 cvX12_253 (by decide) (by first | assumption | exact hsh _ _ rfl) (Nat.le_of_ble_eq_true rfl) (Nat.le_of_eq (Nat.zero_add _)) (Nat.le_of_eq (Nat.zero_add _)) (sm_thr0 hsh) ?_
  refine j_if_ne (tgt := 62) dX12_peak_15 rfl (by first | omega | (split <;> omega)) (fun c_15 => by exact absurd c_15 (by decide)) (fun c_15 => ?_)
  refine j_aload_n dX12_peak_18 rfl ?_
  refine j_iload_n dX12_peak_19 rfl ?_
  refine j_iconst dX12_peak_20 ?_
  refine j_bipush dX12_peak_21 (by decide) ?_
  refine r_cs3I dX12_peak_23 csX12_78 (Nat.le_of_ble_eq_true rfl) (Nat.le_of_eq (Nat.zero_add _)) (Nat.le_of_eq (Nat.zero_add _)) (sm_in0 (by omega) (by omega) (by omega) h3) ?_
  refine j_if_ne (tgt := 33) dX12_peak_26 rfl (by first | omega | (split <;> omega)) (fun c_26 => by exact absurd c_26 (by decide)) (fun c_26 => ?_)
  refine j_iconst dX12_peak_29 ?_
  refine j_goto (tgt := 34) dX12_peak_30 rfl ?_
  refine j_iconst dX12_peak_34 ?_
  refine r_cv2I dX12_peak_35 cvX12_253 (by decide) (by first | assumption | exact hsh _ _ rfl) (Nat.le_of_ble_eq_true rfl) (Nat.le_of_eq (Nat.zero_add _)) (Nat.le_of_eq (Nat.zero_add _)) (sm_thr1 hsh (by omega)) ?_
  refine j_if_ne (tgt := 62) dX12_peak_38 rfl (by first | omega | (split <;> omega)) (fun c_38 => ?_) (fun c_38 => by exact absurd c_38 (by decide))
  refine j_iconst dX12_peak_62 ?_
  refine j_iret dX12_peak_63 rfl ?_
  exact rI_of rfl rfl
theorem mp_peak_3 (hsh : ShOK sh) (hfx : FxOK F) (hP : WfP (I 171)) {p n b : Int} (h1 : gP (I 171) p) (h3 : 1 ≤ n ∧ n ≤ 60) (h2 : ¬ aOf (I 171) p 3 = 0) : jS G (d + 8) mX12_peak [jR (some 170), jI p, jI n, jI b] (sh, I, F) 0 0 (rI 0 (sh, jup I 170 0 3, F)) := by
  have g8 : aPe (I 171) ≤ 8 := hP.2
  have g1 : 0 ≤ p ∧ p < 8 := by have := h1.1; have := h1.2; omega
  refine jS_go [some (jR (some 170)), some (jI p), some (jI n), some (jI b), none, none, none] (by decide +kernel) rfl (by simp [jone]) (Nat.le_of_ble_eq_true rfl) rfl (fun hok => ?_)
  refine j_aload_n dX12_peak_0 rfl ?_
  refine j_iconst dX12_peak_1 ?_
  refine r_putI dX12_peak_2 flX12_3 rfl (by first | assumption | exact hsh _ _ rfl) (by first | omega | (split <;> omega)) (fun q => by cases q) ?_
  skip
  have hok1 : jzok (sh, jup I 170 0 0, F) := jzok_I hok jin_lit0
  have hw0 : (jup I 170 0 0) 171 = I 171 := jup_ne _ _ _ (by decide)
  clear hok
  rw [← jup_up I 170 0 0 3]
  rw [← hw0] at hP h1 h2
  try rw [← hw0]
  obtain ⟨I1, hI1⟩ : ∃ J, J = jup I 170 0 0 := ⟨_, rfl⟩
  rw [← hI1] at hok1 hw0 hP h1 h2 ⊢
  have hok := hok1
  refine j_aload_n dX12_peak_5 rfl ?_
  refine j_aload_n dX12_peak_6 rfl ?_
  refine j_iload_n dX12_peak_7 rfl ?_
  refine r_cv1I dX12_peak_8 cvX12_335 (by decide) (by first | assumption | exact hsh _ _ rfl) (Nat.le_of_ble_eq_true rfl) (Nat.le_of_eq (Nat.zero_add _)) (Nat.le_of_eq (Nat.zero_add _)) (sm_noP0 hsh hfx hok (by omega) hP h1) ?_
  refine j_iconst dX12_peak_11 ?_
  refine r_cv2I dX12_peak_12 cvX12_253 (by decide) (by first | assumption | exact hsh _ _ rfl) (Nat.le_of_ble_eq_true rfl) (Nat.le_of_eq (Nat.zero_add _)) (Nat.le_of_eq (Nat.zero_add _)) (sm_thr0 hsh) ?_
  refine j_if_ne (tgt := 62) dX12_peak_15 rfl (by first | omega | (split <;> omega)) (fun c_15 => by exact absurd c_15 (by decide)) (fun c_15 => ?_)
  refine j_aload_n dX12_peak_18 rfl ?_
  refine j_iload_n dX12_peak_19 rfl ?_
  refine j_iconst dX12_peak_20 ?_
  refine j_bipush dX12_peak_21 (by decide) ?_
  refine r_cs3I dX12_peak_23 csX12_78 (Nat.le_of_ble_eq_true rfl) (Nat.le_of_eq (Nat.zero_add _)) (Nat.le_of_eq (Nat.zero_add _)) (sm_in1 (by omega) (by omega) (by omega) h3) ?_
  refine j_if_ne (tgt := 33) dX12_peak_26 rfl (by first | omega | (split <;> omega)) (fun c_26 => ?_) (fun c_26 => by exact absurd c_26 (by decide))
  refine j_iconst dX12_peak_33 ?_
  refine j_iconst dX12_peak_34 ?_
  refine r_cv2I dX12_peak_35 cvX12_253 (by decide) (by first | assumption | exact hsh _ _ rfl) (Nat.le_of_ble_eq_true rfl) (Nat.le_of_eq (Nat.zero_add _)) (Nat.le_of_eq (Nat.zero_add _)) (sm_thr0 hsh) ?_
  refine j_if_ne (tgt := 62) dX12_peak_38 rfl (by first | omega | (split <;> omega)) (fun c_38 => by exact absurd c_38 (by decide)) (fun c_38 => ?_)
  refine j_aload_n dX12_peak_41 rfl ?_
  refine j_aload_n dX12_peak_42 rfl ?_
  refine j_iload_n dX12_peak_43 rfl ?_
  refine r_cv1I dX12_peak_44 cvX12_296 (by decide) (by first | assumption | exact hsh _ _ rfl) (Nat.le_of_ble_eq_true rfl) (Nat.le_of_eq (Nat.zero_add _)) (Nat.le_of_eq (Nat.zero_add _)) (sm_al0 hsh hfx (by omega) h2) ?_
  refine j_if_ne (tgt := 54) dX12_peak_47 rfl (by first | omega | (split <;> omega)) (fun c_47 => by exact absurd c_47 (by decide)) (fun c_47 => ?_)
  refine j_iconst dX12_peak_50 ?_
  refine j_goto (tgt := 55) dX12_peak_51 rfl ?_
  refine j_iconst dX12_peak_55 ?_
  refine r_cv2I dX12_peak_56 cvX12_253 (by decide) (by first | assumption | exact hsh _ _ rfl) (Nat.le_of_ble_eq_true rfl) (Nat.le_of_eq (Nat.zero_add _)) (Nat.le_of_eq (Nat.zero_add _)) (sm_thr1 hsh (by omega)) ?_
  refine j_if_eq (tgt := 64) dX12_peak_59 rfl (by first | omega | (split <;> omega)) (fun c_59 => by exact absurd c_59 (by decide)) (fun c_59 => ?_)
  refine j_iconst dX12_peak_62 ?_
  refine j_iret dX12_peak_63 rfl ?_
  exact rI_of rfl rfl
theorem mp_peak_0 (hsh : ShOK sh) (hfx : FxOK F) (hW : WF (I 171)) (h9 : 0 ≤ I 171 9 ∧ I 171 9 ≤ 900000000) (h10 : 0 ≤ I 171 10 ∧ I 171 10 ≤ 60) {p n b : Int} (h1 : gP (I 171) p) (h3 : 1 ≤ n ∧ n ≤ 60) (h2 : aOf (I 171) p 3 = 0) (hb : b = 0 ∨ b = 1) : jS G (d + 8) mX12_peak [jR (some 170), jI p, jI n, jI b] (sh, I, F) 0 0 (rEI (if b = 0 then (mPk (mX I) p n.toNat).2.1 else (mPk (mX I) p n.toNat).2.2) sh F (FrT 0 I)) := by
  have hP : WfP (I 171) := hW.1
  have g8 : aPe (I 171) ≤ 8 := hP.2
  have g1 : 0 ≤ p ∧ p < aPe (I 171) := by have := h1.1; have := h1.2; omega
  refine jS_go [some (jR (some 170)), some (jI p), some (jI n), some (jI b), none, none, none] (by decide +kernel) rfl (by simp [jone]) (Nat.le_of_ble_eq_true rfl) rfl (fun hok => ?_)
  refine j_aload_n dX12_peak_0 rfl ?_
  refine j_iconst dX12_peak_1 ?_
  refine r_putI dX12_peak_2 flX12_3 rfl (by first | assumption | exact hsh _ _ rfl) (by first | omega | (split <;> omega)) (fun q => by cases q) ?_
  skip
  have hok1 : jzok (sh, jup I 170 0 0, F) := jzok_I hok jin_lit0
  obtain ⟨I1, hI1⟩ : ∃ J, J = jup I 170 0 0 := ⟨_, rfl⟩
  rw [← hI1] at hok1 ⊢
  have hok0 := hok
  clear hok
  have hok := hok1
  have fr1 : ∀ a, a ≠ 170 → I1 a = I a := fun a ha => by rw [hI1, jup_ne _ _ _ ha]
  have fr1k : ∀ k, k ≠ 0 → I1 170 k = I 170 k := fun k hk => by rw [hI1, jup_row _ _ _ hk]
  have fr1c : I1 170 0 = 0 := by rw [hI1, jup_same]
  have hw0 : I1 171 = I 171 := fr1 171 (by decide)
  rw [← hw0] at hP h1 h2
  generalize hQ : rEI (if b = 0 then (mPk (mX I) p n.toNat).2.1 else (mPk (mX I) p n.toNat).2.2) sh F (FrT 0 I) = Q9
  refine j_aload_n dX12_peak_5 rfl ?_
  refine j_aload_n dX12_peak_6 rfl ?_
  refine j_iload_n dX12_peak_7 rfl ?_
  refine r_cv1I dX12_peak_8 cvX12_335 (by decide) (by first | assumption | exact hsh _ _ rfl) (Nat.le_of_ble_eq_true rfl) (Nat.le_of_eq (Nat.zero_add _)) (Nat.le_of_eq (Nat.zero_add _)) (sm_noP0 hsh hfx hok (by omega) hP h1) ?_
  refine j_iconst dX12_peak_11 ?_
  refine r_cv2I dX12_peak_12 cvX12_253 (by decide) (by first | assumption | exact hsh _ _ rfl) (Nat.le_of_ble_eq_true rfl) (Nat.le_of_eq (Nat.zero_add _)) (Nat.le_of_eq (Nat.zero_add _)) (sm_thr0 hsh) ?_
  refine j_if_ne (tgt := 62) dX12_peak_15 rfl (by first | omega | (split <;> omega)) (fun c_15 => by exact absurd c_15 (by decide)) (fun c_15 => ?_)
  refine j_aload_n dX12_peak_18 rfl ?_
  refine j_iload_n dX12_peak_19 rfl ?_
  refine j_iconst dX12_peak_20 ?_
  refine j_bipush dX12_peak_21 (by decide) ?_
  refine r_cs3I dX12_peak_23 csX12_78 (Nat.le_of_ble_eq_true rfl) (Nat.le_of_eq (Nat.zero_add _)) (Nat.le_of_eq (Nat.zero_add _)) (sm_in1 (by omega) (by omega) (by omega) h3) ?_
  refine j_if_ne (tgt := 33) dX12_peak_26 rfl (by first | omega | (split <;> omega)) (fun c_26 => ?_) (fun c_26 => by exact absurd c_26 (by decide))
  refine j_iconst dX12_peak_33 ?_
  refine j_iconst dX12_peak_34 ?_
  refine r_cv2I dX12_peak_35 cvX12_253 (by decide) (by first | assumption | exact hsh _ _ rfl) (Nat.le_of_ble_eq_true rfl) (Nat.le_of_eq (Nat.zero_add _)) (Nat.le_of_eq (Nat.zero_add _)) (sm_thr0 hsh) ?_
  refine j_if_ne (tgt := 62) dX12_peak_38 rfl (by first | omega | (split <;> omega)) (fun c_38 => by exact absurd c_38 (by decide)) (fun c_38 => ?_)
  refine j_aload_n dX12_peak_41 rfl ?_
  refine j_aload_n dX12_peak_42 rfl ?_
  refine j_iload_n dX12_peak_43 rfl ?_
  refine r_cv1I dX12_peak_44 cvX12_296 (by decide) (by first | assumption | exact hsh _ _ rfl) (Nat.le_of_ble_eq_true rfl) (Nat.le_of_eq (Nat.zero_add _)) (Nat.le_of_eq (Nat.zero_add _)) (sm_al1 hsh hfx (by omega) h2) ?_
  refine j_if_ne (tgt := 54) dX12_peak_47 rfl (by first | omega | (split <;> omega)) (fun c_47 => ?_) (fun c_47 => by exact absurd c_47 (by decide))
  refine j_iconst dX12_peak_54 ?_
  refine j_iconst dX12_peak_55 ?_
  refine r_cv2I dX12_peak_56 cvX12_253 (by decide) (by first | assumption | exact hsh _ _ rfl) (Nat.le_of_ble_eq_true rfl) (Nat.le_of_eq (Nat.zero_add _)) (Nat.le_of_eq (Nat.zero_add _)) (sm_thr0 hsh) ?_
  refine j_if_eq (tgt := 64) dX12_peak_59 rfl (by first | omega | (split <;> omega)) (fun c_59 => ?_) (fun c_59 => by exact absurd c_59 (by decide))
  refine j_aload_n dX12_peak_64 rfl ?_
  refine r_cv0EV dX12_peak_65 cvX12_350 (by decide) (by first | assumption | exact hsh _ _ rfl) (Nat.le_of_ble_eq_true rfl) (Nat.le_of_eq (Nat.zero_add _)) (Nat.le_of_eq (Nat.zero_add _)) (sm_keepsAll hsh hfx) (fun J0 hJ => ?_)
  refine j_iconst dX12_peak_68 ?_
  refine j_istore dX12_peak_69 (by decide) ?_
  refine j_iconst dX12_peak_71 ?_
  refine j_istore dX12_peak_72 (by decide) ?_
  refine j_iconst dX12_peak_74 ?_
  refine j_istore dX12_peak_75 (by decide) ?_
  skip
  have hm := mX_k fr1 hJ.2
  have key : ∀ (m : Nat) (z : Int) (J : Nat → Int → Int) (a : dX × Int × Int), z + m = n → 0 ≤ z → a = mPk (mX I) p z.toNat → dOK (I 171) a.1 z → (-1 ≤ a.2.1 ∧ a.2.1 ≤ 300000) → (0 ≤ a.2.2 ∧ a.2.2 ≤ z) → DX J0 J a.1 → jW G mX12_peak (d + 8) Q9 77 [some (jR (some 170)), some (jI p), some (jI n), some (jI b), some (jI a.2.1), some (jI a.2.2), some (jI z)] [] (sh, J, F) 0 0 := by
    intro m
    induction m with
    | zero =>
      intro z J a hz hz0 ha hO b1 b2 hD
      rw [show n = z by omega, ← ha] at hQ
      refine j_iload dX12_peak_77 rfl ?_
      refine j_iload_n dX12_peak_79 rfl ?_
      refine j_icmp_ge (tgt := 127) dX12_peak_80 rfl (by first | omega | (split <;> omega)) (by first | omega | (split <;> omega)) (fun c_80 => ?_) (fun c_80 => by exact absurd (by omega) c_80)
      refine j_aload_n dX12_peak_127 rfl ?_
      refine r_cv0EV dX12_peak_128 cvX12_353 (by decide) (by first | assumption | exact hsh _ _ rfl) (Nat.le_of_ble_eq_true rfl) (Nat.le_of_eq (Nat.zero_add _)) (Nat.le_of_eq (Nat.zero_add _)) (sm_bringsBack hsh hfx) (fun L hL => ?_)
      have hT := FrT_of fr1 fr1k fr1c hJ.1 hJ.2 hD (dOK_x hO) hL.1 hL.2
      refine j_iload_n dX12_peak_131 rfl ?_
      refine j_if_eq (tgt := 140) dX12_peak_132 rfl (by first | omega | (split <;> omega)) (fun c_132 => ?_) (fun c_132 => ?_)
      · refine j_iload dX12_peak_140 rfl ?_
        refine j_iret dX12_peak_142 rfl ?_
        rw [← hQ]
        refine ⟨L, ?_, rfl, hT.1⟩
        first | rw [if_pos (by omega)] | rw [if_neg (by omega)]
      · refine j_iload dX12_peak_135 rfl ?_
        refine j_goto (tgt := 142) dX12_peak_137 rfl ?_
        refine j_iret dX12_peak_142 rfl ?_
        rw [← hQ]
        refine ⟨L, ?_, rfl, hT.1⟩
        first | rw [if_pos (by omega)] | rw [if_neg (by omega)]
    | succ m ih =>
      intro z J a hz hz0 ha hO b1 b2 hD
      have e0 : aPe a.1.1 = aPe (I 171) := hO.2.2.2 0 (by omega)
      have hf := dStep_fe (calm := 1) (X := a.1) hO.1 (q := p) (by omega) (by omega)
      have ih1 := fun K hK => ih (z + 1) K (mPkS p z a) (by omega) (by omega) (by rw [ha]; exact (mPk_s _ _ hz0).symm) (dOK_s hO h9.1) (by show -1 ≤ max _ _ ∧ max _ _ ≤ _; omega) (by show 0 ≤ ite _ _ _ ∧ ite _ _ _ ≤ _; split <;> omega) hK
      refine j_iload dX12_peak_77 rfl ?_
      refine j_iload_n dX12_peak_79 rfl ?_
      refine j_icmp_ge (tgt := 127) dX12_peak_80 rfl (by first | omega | (split <;> omega)) (by first | omega | (split <;> omega)) (fun c_80 => by exact absurd c_80 (by omega)) (fun c_80 => ?_)
      refine j_aload_n dX12_peak_83 rfl ?_
      refine j_iconst dX12_peak_84 ?_
      refine r_cv1EV dX12_peak_85 cvX12_325 (by decide) (by first | assumption | exact hsh _ _ rfl) (Nat.le_of_ble_eq_true rfl) (Nat.le_of_eq (Nat.zero_add _)) (Nat.le_of_eq (Nat.zero_add _)) (sm_day1 (w := I 171) hsh hfx (Or.inr rfl) (k := z) (by omega) h9 hO hD) (fun K hK => ?_)
      have ih2 := ih1 K hK
      have ek := congrFun hK.2.2.2.1 p
      refine j_aload_n dX12_peak_88 rfl ?_
      refine r_getS dX12_peak_89 flX12_48 (by first | assumption | exact hsh _ _ rfl) (fx_170_22 hfx) ?_
      refine j_iload_n dX12_peak_92 rfl ?_
      refine r_ialoadE dX12_peak_93 (by first | assumption | exact hsh _ _ rfl) (by first | omega | (split <;> omega)) (by first | omega | (split <;> omega)) ek (fun b_93 => ?_)
      refine j_iload dX12_peak_94 rfl ?_
      refine j_icmp_le (tgt := 104) dX12_peak_96 rfl (by first | omega | (split <;> omega)) (by first | omega | (split <;> omega)) (fun c_96 => ?_) (fun c_96 => ?_)
      · refine j_iload dX12_peak_104 rfl ?_
        refine j_istore dX12_peak_106 (by decide) ?_
        refine j_iload dX12_peak_108 rfl ?_
        refine j_aload_n dX12_peak_110 rfl ?_
        refine r_getS dX12_peak_111 flX12_48 (by first | assumption | exact hsh _ _ rfl) (fx_170_22 hfx) ?_
        refine j_iload_n dX12_peak_114 rfl ?_
        refine r_ialoadE dX12_peak_115 (by first | assumption | exact hsh _ _ rfl) (by first | omega | (split <;> omega)) (by first | omega | (split <;> omega)) ek (fun b_115 => ?_)
        refine r_max dX12_peak_116 lmX12_280 (Nat.le_of_ble_eq_true rfl) (by first | omega | (split <;> omega)) (by first | omega | (split <;> omega)) ?_
        refine j_istore dX12_peak_119 (by decide) ?_
        refine j_iinc dX12_peak_121 rfl (by decide) ?_
        refine j_goto (tgt := 77) dX12_peak_124 rfl ?_
        unfold mPkS at ih2
        first | (rw [if_pos (by omega)] at ih2; exact ih2) | (rw [if_neg (by omega)] at ih2; exact ih2)
      · refine j_iload dX12_peak_99 rfl ?_
        refine j_goto (tgt := 106) dX12_peak_101 rfl ?_
        refine j_istore dX12_peak_106 (by decide) ?_
        refine j_iload dX12_peak_108 rfl ?_
        refine j_aload_n dX12_peak_110 rfl ?_
        refine r_getS dX12_peak_111 flX12_48 (by first | assumption | exact hsh _ _ rfl) (fx_170_22 hfx) ?_
        refine j_iload_n dX12_peak_114 rfl ?_
        refine r_ialoadE dX12_peak_115 (by first | assumption | exact hsh _ _ rfl) (by first | omega | (split <;> omega)) (by first | omega | (split <;> omega)) ek (fun b_115 => ?_)
        refine r_max dX12_peak_116 lmX12_280 (Nat.le_of_ble_eq_true rfl) (by first | omega | (split <;> omega)) (by first | omega | (split <;> omega)) ?_
        refine j_istore dX12_peak_119 (by decide) ?_
        refine j_iinc dX12_peak_121 rfl (by decide) ?_
        refine j_goto (tgt := 77) dX12_peak_124 rfl ?_
        unfold mPkS at ih2
        first | (rw [if_pos (by omega)] at ih2; exact ih2) | (rw [if_neg (by omega)] at ih2; exact ih2)
  exact key n.toNat 0 J0 _ (by omega) (by omega) rfl (dOK_0 hW h10) (by show (-1 : Int) ≤ -1 ∧ (-1 : Int) ≤ 300000; decide) (by show (0 : Int) ≤ 0 ∧ (0 : Int) ≤ 0; decide) (DX_0 hm)
/-! ### needed -/
theorem mp_needed_1 (hsh : ShOK sh) (hfx : FxOK F) {n : Int} (hn : jin n) (h3 : ¬ (0 ≤ n ∧ n ≤ 60)) : jS G (d + 8) mX12_needed [jR (some 170), jI n] (sh, I, F) 0 0 (rI 0 (sh, jup I 170 0 1, F)) := by
  refine jS_go [some (jR (some 170)), some (jI n), none, none] (by decide +kernel) rfl (by simp [jone]) (Nat.le_of_ble_eq_true rfl) rfl (fun hok => ?_)
  refine j_aload_n dX12_needed_0 rfl ?_
  refine j_iconst dX12_needed_1 ?_
  refine r_putI dX12_needed_2 flX12_3 rfl (by first | assumption | exact hsh _ _ rfl) (by first | omega | (split <;> omega)) (fun q => by cases q) ?_
  skip
  have hok1 : jzok (sh, jup I 170 0 0, F) := jzok_I hok jin_lit0
  have hw0 : (jup I 170 0 0) 171 = I 171 := jup_ne _ _ _ (by decide)
  clear hok
  rw [← jup_up I 170 0 0 1]
  try rw [← hw0]
  obtain ⟨I1, hI1⟩ : ∃ J, J = jup I 170 0 0 := ⟨_, rfl⟩
  rw [← hI1] at hok1 hw0  ⊢
  have hok := hok1
  refine j_aload_n dX12_needed_5 rfl ?_
  refine j_iload_n dX12_needed_6 rfl ?_
  refine j_iconst dX12_needed_7 ?_
  refine j_bipush dX12_needed_8 (by decide) ?_
  refine r_cs3I dX12_needed_10 csX12_78 (Nat.le_of_ble_eq_true rfl) (Nat.le_of_eq (Nat.zero_add _)) (Nat.le_of_eq (Nat.zero_add _)) (sm_in0 (by omega) (by omega) (by omega) h3) ?_
  refine j_if_ne (tgt := 20) dX12_needed_13 rfl (by first | omega | (split <;> omega)) (fun c_13 => by exact absurd c_13 (by decide)) (fun c_13 => ?_)
  refine j_iconst dX12_needed_16 ?_
  refine j_goto (tgt := 21) dX12_needed_17 rfl ?_
  refine j_iconst dX12_needed_21 ?_
  refine r_cv2I dX12_needed_22 cvX12_253 (by decide) (by first | assumption | exact hsh _ _ rfl) (Nat.le_of_ble_eq_true rfl) (Nat.le_of_eq (Nat.zero_add _)) (Nat.le_of_eq (Nat.zero_add _)) (sm_thr1 hsh (by omega)) ?_
  refine j_if_eq (tgt := 30) dX12_needed_25 rfl (by first | omega | (split <;> omega)) (fun c_25 => by exact absurd c_25 (by decide)) (fun c_25 => ?_)
  refine j_iconst dX12_needed_28 ?_
  refine j_iret dX12_needed_29 rfl ?_
  exact rI_of rfl rfl
theorem mp_needed_0 (hsh : ShOK sh) (hfx : FxOK F) (hW : WF (I 171)) (h9 : 0 ≤ I 171 9 ∧ I 171 9 ≤ 900000000) (h10 : 0 ≤ I 171 10 ∧ I 171 10 ≤ 60) {n : Int} (h3 : 0 ≤ n ∧ n ≤ 60) : jS G (d + 8) mX12_needed [jR (some 170), jI n] (sh, I, F) 0 0 (rEI (mNd (wup (I 171) 4 1000000000, I 179, I 180, I 181) n.toNat).2 sh F (FrT 0 I)) := by
  have hW4 : WF (wup (I 171) 4 1000000000) := WF_4 hW
  have h94 : 0 ≤ wup (I 171) 4 1000000000 9 ∧ wup (I 171) 4 1000000000 9 ≤ 900000000 := by rw [wup_ne _ _ (by decide)]; exact h9
  have h104 : 0 ≤ wup (I 171) 4 1000000000 10 ∧ wup (I 171) 4 1000000000 10 ≤ 60 := by rw [wup_ne _ _ (by decide)]; exact h10
  refine jS_go [some (jR (some 170)), some (jI n), none, none] (by decide +kernel) rfl (by simp [jone]) (Nat.le_of_ble_eq_true rfl) rfl (fun hok => ?_)
  refine j_aload_n dX12_needed_0 rfl ?_
  refine j_iconst dX12_needed_1 ?_
  refine r_putI dX12_needed_2 flX12_3 rfl (by first | assumption | exact hsh _ _ rfl) (by first | omega | (split <;> omega)) (fun q => by cases q) ?_
  skip
  have hok1 : jzok (sh, jup I 170 0 0, F) := jzok_I hok jin_lit0
  obtain ⟨I1, hI1⟩ : ∃ J, J = jup I 170 0 0 := ⟨_, rfl⟩
  rw [← hI1] at hok1 ⊢
  have hok0 := hok
  clear hok
  have hok := hok1
  have fr1 : ∀ a, a ≠ 170 → I1 a = I a := fun a ha => by rw [hI1, jup_ne _ _ _ ha]
  have fr1k : ∀ k, k ≠ 0 → I1 170 k = I 170 k := fun k hk => by rw [hI1, jup_row _ _ _ hk]
  have fr1c : I1 170 0 = 0 := by rw [hI1, jup_same]
  have hw0 : I1 171 = I 171 := fr1 171 (by decide)
  generalize hQ : rEI (mNd (wup (I 171) 4 1000000000, I 179, I 180, I 181) n.toNat).2 sh F (FrT 0 I) = Q9
  refine j_aload_n dX12_needed_5 rfl ?_
  refine j_iload_n dX12_needed_6 rfl ?_
  refine j_iconst dX12_needed_7 ?_
  refine j_bipush dX12_needed_8 (by decide) ?_
  refine r_cs3I dX12_needed_10 csX12_78 (Nat.le_of_ble_eq_true rfl) (Nat.le_of_eq (Nat.zero_add _)) (Nat.le_of_eq (Nat.zero_add _)) (sm_in1 (by omega) (by omega) (by omega) h3) ?_
  refine j_if_ne (tgt := 20) dX12_needed_13 rfl (by first | omega | (split <;> omega)) (fun c_13 => ?_) (fun c_13 => by exact absurd c_13 (by decide))
  refine j_iconst dX12_needed_20 ?_
  refine j_iconst dX12_needed_21 ?_
  refine r_cv2I dX12_needed_22 cvX12_253 (by decide) (by first | assumption | exact hsh _ _ rfl) (Nat.le_of_ble_eq_true rfl) (Nat.le_of_eq (Nat.zero_add _)) (Nat.le_of_eq (Nat.zero_add _)) (sm_thr0 hsh) ?_
  refine j_if_eq (tgt := 30) dX12_needed_25 rfl (by first | omega | (split <;> omega)) (fun c_25 => ?_) (fun c_25 => by exact absurd c_25 (by decide))
  refine j_aload_n dX12_needed_30 rfl ?_
  refine r_cv0EV dX12_needed_31 cvX12_350 (by decide) (by first | assumption | exact hsh _ _ rfl) (Nat.le_of_ble_eq_true rfl) (Nat.le_of_eq (Nat.zero_add _)) (Nat.le_of_eq (Nat.zero_add _)) (sm_keepsAll hsh hfx) (fun J0 hJ => ?_)
  refine j_aload_n dX12_needed_34 rfl ?_
  refine r_getS dX12_needed_35 flX12_13 (by first | assumption | exact hsh _ _ rfl) (fx_170_1 hfx) ?_
  refine j_iconst dX12_needed_38 ?_
  refine j_ldcw (n := 1000000000) dX12_needed_39 kcX12_365 ?_
  refine r_iastore dX12_needed_42 (by first | assumption | exact hsh _ _ rfl) (by first | omega | (split <;> omega)) (by first | omega | (split <;> omega)) (by first | omega | (split <;> omega)) ?_
  refine j_iconst dX12_needed_43 ?_
  refine j_istore_n dX12_needed_44 (by decide) ?_
  refine j_iconst dX12_needed_45 ?_
  refine j_istore_n dX12_needed_46 (by decide) ?_
  skip
  have hm := mX_k fr1 hJ.2
  have hD0 : DX J0 (jup J0 171 4 1000000000) (wup (I 171) 4 1000000000, I 179, I 180, I 181) := DS_171 (DX_0 hm)
  have key : ∀ (m : Nat) (z : Int) (J : Nat → Int → Int) (a : dX × Int), z + m = n → 0 ≤ z → a = mNd (wup (I 171) 4 1000000000, I 179, I 180, I 181) z.toNat → dOK (wup (I 171) 4 1000000000) a.1 z → (0 ≤ a.2 ∧ a.2 ≤ 800000) → DX J0 J a.1 → jW G mX12_needed (d + 8) Q9 47 [some (jR (some 170)), some (jI n), some (jI a.2), some (jI z)] [] (sh, J, F) 0 0 := by
    intro m
    induction m with
    | zero =>
      intro z J a hz hz0 ha hO b1 hD
      rw [show n = z by omega, ← ha] at hQ
      refine j_iload_n dX12_needed_47 rfl ?_
      refine j_iload_n dX12_needed_48 rfl ?_
      refine j_icmp_ge (tgt := 72) dX12_needed_49 rfl (by first | omega | (split <;> omega)) (by first | omega | (split <;> omega)) (fun c_49 => ?_) (fun c_49 => by exact absurd (by omega) c_49)
      refine j_aload_n dX12_needed_72 rfl ?_
      refine r_cv0EV dX12_needed_73 cvX12_353 (by decide) (by first | assumption | exact hsh _ _ rfl) (Nat.le_of_ble_eq_true rfl) (Nat.le_of_eq (Nat.zero_add _)) (Nat.le_of_eq (Nat.zero_add _)) (sm_bringsBack hsh hfx) (fun L hL => ?_)
      have hT := FrT_of fr1 fr1k fr1c hJ.1 hJ.2 hD (fun j hj => (dOK_x hO j hj).trans (wup_ne _ _ (by omega))) hL.1 hL.2
      refine j_iload_n dX12_needed_76 rfl ?_
      refine j_iret dX12_needed_77 rfl ?_
      rw [← hQ]
      exact ⟨L, rfl, rfl, hT.1⟩
    | succ m ih =>
      intro z J a hz hz0 ha hO b1 hD
      have hO1 := dOK_s (calm := 1) hO h94.1
      have hal := mAll_in hO1.1.1 (WF_A1 hO1.1)
      have ih1 := fun K hK => ih (z + 1) K (mNdS a) (by omega) (by omega) (by rw [ha]; exact (mNd_s _ hz0).symm) hO1 (by show 0 ≤ max _ _ ∧ max _ _ ≤ _; omega) hK
      refine j_iload_n dX12_needed_47 rfl ?_
      refine j_iload_n dX12_needed_48 rfl ?_
      refine j_icmp_ge (tgt := 72) dX12_needed_49 rfl (by first | omega | (split <;> omega)) (by first | omega | (split <;> omega)) (fun c_49 => by exact absurd c_49 (by omega)) (fun c_49 => ?_)
      refine j_aload_n dX12_needed_52 rfl ?_
      refine j_iconst dX12_needed_53 ?_
      refine r_cv1EV dX12_needed_54 cvX12_325 (by decide) (by first | assumption | exact hsh _ _ rfl) (Nat.le_of_ble_eq_true rfl) (Nat.le_of_eq (Nat.zero_add _)) (Nat.le_of_eq (Nat.zero_add _)) (sm_day1 (w := wup (I 171) 4 1000000000) hsh hfx (Or.inr rfl) (k := z) (by omega) h94 hO hD) (fun K hK => ?_)
      have ih2 := ih1 K hK
      have ek := hK.1
      refine j_iload_n dX12_needed_57 rfl ?_
      refine j_aload_n dX12_needed_58 rfl ?_
      refine r_cv0I dX12_needed_59 cvX12_312 (by decide) (by first | assumption | exact hsh _ _ rfl) (Nat.le_of_ble_eq_true rfl) (Nat.le_of_eq (Nat.zero_add _)) (Nat.le_of_eq (Nat.zero_add _)) (sm_allAccounts hsh hfx (by rw [ek]; exact hO1.1.1)) ?_
      rw [ek]
      refine r_max dX12_needed_62 lmX12_280 (Nat.le_of_ble_eq_true rfl) (by first | omega | (split <;> omega)) (by first | omega | (split <;> omega)) ?_
      refine j_istore_n dX12_needed_65 (by decide) ?_
      refine j_iinc dX12_needed_66 rfl (by decide) ?_
      refine j_goto (tgt := 47) dX12_needed_69 rfl ?_
      exact ih2
  exact key n.toNat 0 _ _ (by omega) (by omega) rfl (dOK_0 hW4 h104) (by show (0 : Int) ≤ 0 ∧ (0 : Int) ≤ 800000; decide) hD0
/-! ### trial -/
theorem mp_trial_1 (hsh : ShOK sh) (hfx : FxOK F) {n b : Int} (hn : jin n) (h3 : ¬ (0 ≤ n ∧ n ≤ 40)) : jS G (d + 8) mX12_trial [jR (some 170), jI n, jI b] (sh, I, F) 0 0 (rI 0 (sh, jup I 170 0 1, F)) := by
  refine jS_go [some (jR (some 170)), some (jI n), some (jI b), none] (by decide +kernel) rfl (by simp [jone]) (Nat.le_of_ble_eq_true rfl) rfl (fun hok => ?_)
  refine j_aload_n dX12_trial_0 rfl ?_
  refine j_iconst dX12_trial_1 ?_
  refine r_putI dX12_trial_2 flX12_3 rfl (by first | assumption | exact hsh _ _ rfl) (by first | omega | (split <;> omega)) (fun q => by cases q) ?_
  skip
  have hok1 : jzok (sh, jup I 170 0 0, F) := jzok_I hok jin_lit0
  have hw0 : (jup I 170 0 0) 171 = I 171 := jup_ne _ _ _ (by decide)
  clear hok
  rw [← jup_up I 170 0 0 1]
  try rw [← hw0]
  obtain ⟨I1, hI1⟩ : ∃ J, J = jup I 170 0 0 := ⟨_, rfl⟩
  rw [← hI1] at hok1 hw0  ⊢
  have hok := hok1
  refine j_aload_n dX12_trial_5 rfl ?_
  refine j_iload_n dX12_trial_6 rfl ?_
  refine j_iconst dX12_trial_7 ?_
  refine j_bipush dX12_trial_8 (by decide) ?_
  refine r_cs3I dX12_trial_10 csX12_78 (Nat.le_of_ble_eq_true rfl) (Nat.le_of_eq (Nat.zero_add _)) (Nat.le_of_eq (Nat.zero_add _)) (sm_in0 (by omega) (by omega) (by omega) h3) ?_
  refine j_if_ne (tgt := 20) dX12_trial_13 rfl (by first | omega | (split <;> omega)) (fun c_13 => by exact absurd c_13 (by decide)) (fun c_13 => ?_)
  refine j_iconst dX12_trial_16 ?_
  refine j_goto (tgt := 21) dX12_trial_17 rfl ?_
  refine j_iconst dX12_trial_21 ?_
  refine r_cv2I dX12_trial_22 cvX12_253 (by decide) (by first | assumption | exact hsh _ _ rfl) (Nat.le_of_ble_eq_true rfl) (Nat.le_of_eq (Nat.zero_add _)) (Nat.le_of_eq (Nat.zero_add _)) (sm_thr1 hsh (by omega)) ?_
  refine j_if_eq (tgt := 30) dX12_trial_25 rfl (by first | omega | (split <;> omega)) (fun c_25 => by exact absurd c_25 (by decide)) (fun c_25 => ?_)
  refine j_iconst dX12_trial_28 ?_
  refine j_iret dX12_trial_29 rfl ?_
  exact rI_of rfl rfl
abbrev vTri (X : dX) (n b : Int) : Int := if b = 0 then (mDays 0 X n.toNat).1 9 - X.1 9 else mAll (mDays 0 X n.toNat).1 1
theorem mp_trial_0 (hsh : ShOK sh) (hfx : FxOK F) (hW : WF (I 171)) (h9 : 0 ≤ I 171 9 ∧ I 171 9 ≤ 900000000) (h10 : 0 ≤ I 171 10 ∧ I 171 10 ≤ 60) {n b : Int} (h3 : 0 ≤ n ∧ n ≤ 40) (hb : b = 0 ∨ b = 1) : jS G (d + 8) mX12_trial [jR (some 170), jI n, jI b] (sh, I, F) 0 0 (rEI (vTri (mX I) n b) sh F (FrT 0 I)) := by
  refine jS_go [some (jR (some 170)), some (jI n), some (jI b), none] (by decide +kernel) rfl (by simp [jone]) (Nat.le_of_ble_eq_true rfl) rfl (fun hok => ?_)
  refine j_aload_n dX12_trial_0 rfl ?_
  refine j_iconst dX12_trial_1 ?_
  refine r_putI dX12_trial_2 flX12_3 rfl (by first | assumption | exact hsh _ _ rfl) (by first | omega | (split <;> omega)) (fun q => by cases q) ?_
  skip
  have hok1 : jzok (sh, jup I 170 0 0, F) := jzok_I hok jin_lit0
  obtain ⟨I1, hI1⟩ : ∃ J, J = jup I 170 0 0 := ⟨_, rfl⟩
  rw [← hI1] at hok1 ⊢
  have hok0 := hok
  clear hok
  have hok := hok1
  have fr1 : ∀ a, a ≠ 170 → I1 a = I a := fun a ha => by rw [hI1, jup_ne _ _ _ ha]
  have fr1k : ∀ k, k ≠ 0 → I1 170 k = I 170 k := fun k hk => by rw [hI1, jup_row _ _ _ hk]
  have fr1c : I1 170 0 = 0 := by rw [hI1, jup_same]
  have hw0 : I1 171 = I 171 := fr1 171 (by decide)
  generalize hQ : rEI (vTri (mX I) n b) sh F (FrT 0 I) = Q9
  refine j_aload_n dX12_trial_5 rfl ?_
  refine j_iload_n dX12_trial_6 rfl ?_
  refine j_iconst dX12_trial_7 ?_
  refine j_bipush dX12_trial_8 (by decide) ?_
  refine r_cs3I dX12_trial_10 csX12_78 (Nat.le_of_ble_eq_true rfl) (Nat.le_of_eq (Nat.zero_add _)) (Nat.le_of_eq (Nat.zero_add _)) (sm_in1 (by omega) (by omega) (by omega) h3) ?_
  refine j_if_ne (tgt := 20) dX12_trial_13 rfl (by first | omega | (split <;> omega)) (fun c_13 => ?_) (fun c_13 => by exact absurd c_13 (by decide))
  refine j_iconst dX12_trial_20 ?_
  refine j_iconst dX12_trial_21 ?_
  refine r_cv2I dX12_trial_22 cvX12_253 (by decide) (by first | assumption | exact hsh _ _ rfl) (Nat.le_of_ble_eq_true rfl) (Nat.le_of_eq (Nat.zero_add _)) (Nat.le_of_eq (Nat.zero_add _)) (sm_thr0 hsh) ?_
  refine j_if_eq (tgt := 30) dX12_trial_25 rfl (by first | omega | (split <;> omega)) (fun c_25 => ?_) (fun c_25 => by exact absurd c_25 (by decide))
  refine j_aload_n dX12_trial_30 rfl ?_
  refine r_cv0EV dX12_trial_31 cvX12_350 (by decide) (by first | assumption | exact hsh _ _ rfl) (Nat.le_of_ble_eq_true rfl) (Nat.le_of_eq (Nat.zero_add _)) (Nat.le_of_eq (Nat.zero_add _)) (sm_keepsAll hsh hfx) (fun J0 hJ => ?_)
  refine j_iconst dX12_trial_34 ?_
  refine j_istore_n dX12_trial_35 (by decide) ?_
  skip
  have hm := mX_k fr1 hJ.2
  have key : ∀ (m : Nat) (z : Int) (J : Nat → Int → Int) (X : dX), z + m = n → 0 ≤ z → X = mDays 0 (mX I) z.toNat → dOK (I 171) X z → DX J0 J X → jW G mX12_trial (d + 8) Q9 36 [some (jR (some 170)), some (jI n), some (jI b), some (jI z)] [] (sh, J, F) 0 0 := by
    intro m
    induction m with
    | zero =>
      intro z J X hz hz0 hX hO hD
      unfold vTri at hQ
      rw [show n = z by omega, ← hX] at hQ
      have hal := mAll_in hO.1.1 (WF_A1 hO.1)
      have ew := hD.1
      have e9 : J 171 9 = X.1 9 := by rw [ew]
      have e4 : J 174 9 = I 171 9 := by rw [hD.2.2.2.2.1 174 (by decide) (by decide) (by decide) (by decide) (by decide) (by decide), hJ.1, mCpy_in (by decide), hw0]
      have hO2 := hO.2.1
      refine j_iload_n dX12_trial_36 rfl ?_
      refine j_iload_n dX12_trial_37 rfl ?_
      refine j_icmp_ge (tgt := 52) dX12_trial_38 rfl (by first | omega | (split <;> omega)) (by first | omega | (split <;> omega)) (fun c_38 => ?_) (fun c_38 => by exact absurd (by omega) c_38)
      refine j_iload_n dX12_trial_52 rfl ?_
      refine j_if_eq (tgt := 63) dX12_trial_53 rfl (by first | omega | (split <;> omega)) (fun c_53 => ?_) (fun c_53 => ?_)
      · refine j_aload_n dX12_trial_63 rfl ?_
        refine r_getS dX12_trial_64 flX12_13 (by first | assumption | exact hsh _ _ rfl) (fx_170_1 hfx) ?_
        refine j_bipush dX12_trial_67 (by decide) ?_
        refine r_ialoadE dX12_trial_69 (by first | assumption | exact hsh _ _ rfl) (by first | omega | (split <;> omega)) (by first | omega | (split <;> omega)) e9 (fun b_69 => ?_)
        refine j_aload_n dX12_trial_70 rfl ?_
        refine r_getS dX12_trial_71 flX12_23 (by first | assumption | exact hsh _ _ rfl) (fx_170_4 hfx) ?_
        refine j_bipush dX12_trial_74 (by decide) ?_
        refine r_ialoadE dX12_trial_76 (by first | assumption | exact hsh _ _ rfl) (by first | omega | (split <;> omega)) (by first | omega | (split <;> omega)) e4 (fun b_76 => ?_)
        refine j_isub dX12_trial_77 ?_
        refine j_istore_n dX12_trial_78 (by decide) ?_
        refine j_aload_n dX12_trial_79 rfl ?_
        refine r_cv0EV dX12_trial_80 cvX12_353 (by decide) (by first | assumption | exact hsh _ _ rfl) (Nat.le_of_ble_eq_true rfl) (Nat.le_of_eq (Nat.zero_add _)) (Nat.le_of_eq (Nat.zero_add _)) (sm_bringsBack hsh hfx) (fun L hL => ?_)
        have hT := FrT_of fr1 fr1k fr1c hJ.1 hJ.2 hD (dOK_x hO) hL.1 hL.2
        refine j_iload_n dX12_trial_83 rfl ?_
        refine j_iret dX12_trial_84 rfl ?_
        rw [← hQ]
        refine ⟨L, ?_, rfl, hT.1⟩
        first | rw [if_pos (by omega)] | rw [if_neg (by omega)]
      · refine j_aload_n dX12_trial_56 rfl ?_
        refine r_cv0I dX12_trial_57 cvX12_312 (by decide) (by first | assumption | exact hsh _ _ rfl) (Nat.le_of_ble_eq_true rfl) (Nat.le_of_eq (Nat.zero_add _)) (Nat.le_of_eq (Nat.zero_add _)) (sm_allAccounts hsh hfx (by rw [ew]; exact hO.1.1)) ?_
        rw [ew]
        refine j_goto (tgt := 78) dX12_trial_60 rfl ?_
        refine j_istore_n dX12_trial_78 (by decide) ?_
        refine j_aload_n dX12_trial_79 rfl ?_
        refine r_cv0EV dX12_trial_80 cvX12_353 (by decide) (by first | assumption | exact hsh _ _ rfl) (Nat.le_of_ble_eq_true rfl) (Nat.le_of_eq (Nat.zero_add _)) (Nat.le_of_eq (Nat.zero_add _)) (sm_bringsBack hsh hfx) (fun L hL => ?_)
        have hT := FrT_of fr1 fr1k fr1c hJ.1 hJ.2 hD (dOK_x hO) hL.1 hL.2
        refine j_iload_n dX12_trial_83 rfl ?_
        refine j_iret dX12_trial_84 rfl ?_
        rw [← hQ]
        refine ⟨L, ?_, rfl, hT.1⟩
        first | rw [if_pos (by omega)] | rw [if_neg (by omega)]
    | succ m ih =>
      intro z J X hz hz0 hX hO hD
      refine j_iload_n dX12_trial_36 rfl ?_
      refine j_iload_n dX12_trial_37 rfl ?_
      refine j_icmp_ge (tgt := 52) dX12_trial_38 rfl (by first | omega | (split <;> omega)) (by first | omega | (split <;> omega)) (fun c_38 => by exact absurd c_38 (by omega)) (fun c_38 => ?_)
      refine j_aload_n dX12_trial_41 rfl ?_
      refine j_iconst dX12_trial_42 ?_
      refine r_cv1EV dX12_trial_43 cvX12_325 (by decide) (by first | assumption | exact hsh _ _ rfl) (Nat.le_of_ble_eq_true rfl) (Nat.le_of_eq (Nat.zero_add _)) (Nat.le_of_eq (Nat.zero_add _)) (sm_day1 (w := I 171) hsh hfx (Or.inl rfl) (k := z) (by omega) h9 hO hD) (fun K hK => ?_)
      refine j_iinc dX12_trial_46 rfl (by decide) ?_
      refine j_goto (tgt := 36) dX12_trial_49 rfl ?_
      exact ih (z + 1) K _ (by omega) (by omega) (by rw [hX]; exact (mDays_s _ _ hz0).symm) (dOK_s hO h9.1) hK
  exact key n.toNat 0 J0 _ (by omega) (by omega) rfl (dOK_0 hW h10) (DX_0 hm)
/-! ### span -/
theorem mp_span_1 (hsh : ShOK sh) (hfx : FxOK F) {n b : Int} (hn : jin n) (h3 : ¬ (0 ≤ n ∧ n ≤ 40)) : jS G (d + 8) mX12_span [jR (some 170), jI n, jI b] (sh, I, F) 0 0 (rI 0 (sh, jup I 170 0 1, F)) := by
  refine jS_go [some (jR (some 170)), some (jI n), some (jI b), none, none, none] (by decide +kernel) rfl (by simp [jone]) (Nat.le_of_ble_eq_true rfl) rfl (fun hok => ?_)
  refine j_aload_n dX12_span_0 rfl ?_
  refine j_iconst dX12_span_1 ?_
  refine r_putI dX12_span_2 flX12_3 rfl (by first | assumption | exact hsh _ _ rfl) (by first | omega | (split <;> omega)) (fun q => by cases q) ?_
  skip
  have hok1 : jzok (sh, jup I 170 0 0, F) := jzok_I hok jin_lit0
  have hw0 : (jup I 170 0 0) 171 = I 171 := jup_ne _ _ _ (by decide)
  clear hok
  rw [← jup_up I 170 0 0 1]
  try rw [← hw0]
  obtain ⟨I1, hI1⟩ : ∃ J, J = jup I 170 0 0 := ⟨_, rfl⟩
  rw [← hI1] at hok1 hw0  ⊢
  have hok := hok1
  refine j_aload_n dX12_span_5 rfl ?_
  refine j_iload_n dX12_span_6 rfl ?_
  refine j_iconst dX12_span_7 ?_
  refine j_bipush dX12_span_8 (by decide) ?_
  refine r_cs3I dX12_span_10 csX12_78 (Nat.le_of_ble_eq_true rfl) (Nat.le_of_eq (Nat.zero_add _)) (Nat.le_of_eq (Nat.zero_add _)) (sm_in0 (by omega) (by omega) (by omega) h3) ?_
  refine j_if_ne (tgt := 20) dX12_span_13 rfl (by first | omega | (split <;> omega)) (fun c_13 => by exact absurd c_13 (by decide)) (fun c_13 => ?_)
  refine j_iconst dX12_span_16 ?_
  refine j_goto (tgt := 21) dX12_span_17 rfl ?_
  refine j_iconst dX12_span_21 ?_
  refine r_cv2I dX12_span_22 cvX12_253 (by decide) (by first | assumption | exact hsh _ _ rfl) (Nat.le_of_ble_eq_true rfl) (Nat.le_of_eq (Nat.zero_add _)) (Nat.le_of_eq (Nat.zero_add _)) (sm_thr1 hsh (by omega)) ?_
  refine j_if_eq (tgt := 30) dX12_span_25 rfl (by first | omega | (split <;> omega)) (fun c_25 => by exact absurd c_25 (by decide)) (fun c_25 => ?_)
  refine j_iconst dX12_span_28 ?_
  refine j_iret dX12_span_29 rfl ?_
  exact rI_of rfl rfl
theorem mp_span_0 (hsh : ShOK sh) (hfx : FxOK F) (hW : WF (I 171)) (h9 : 0 ≤ I 171 9 ∧ I 171 9 ≤ 900000000) (h10 : 0 ≤ I 171 10 ∧ I 171 10 ≤ 60) {n b : Int} (h3 : 0 ≤ n ∧ n ≤ 40) (hb : b = 0 ∨ b = 1) : jS G (d + 8) mX12_span [jR (some 170), jI n, jI b] (sh, I, F) 0 0 (rEI (mSp (mX I) n b 6).1 sh F (FrT 0 I)) := by
  refine jS_go [some (jR (some 170)), some (jI n), some (jI b), none, none, none] (by decide +kernel) rfl (by simp [jone]) (Nat.le_of_ble_eq_true rfl) rfl (fun hok => ?_)
  refine j_aload_n dX12_span_0 rfl ?_
  refine j_iconst dX12_span_1 ?_
  refine r_putI dX12_span_2 flX12_3 rfl (by first | assumption | exact hsh _ _ rfl) (by first | omega | (split <;> omega)) (fun q => by cases q) ?_
  skip
  have hok1 : jzok (sh, jup I 170 0 0, F) := jzok_I hok jin_lit0
  obtain ⟨I1, hI1⟩ : ∃ J, J = jup I 170 0 0 := ⟨_, rfl⟩
  rw [← hI1] at hok1 ⊢
  have hok0 := hok
  clear hok
  have hok := hok1
  have fr1 : ∀ a, a ≠ 170 → I1 a = I a := fun a ha => by rw [hI1, jup_ne _ _ _ ha]
  have fr1k : ∀ k, k ≠ 0 → I1 170 k = I 170 k := fun k hk => by rw [hI1, jup_row _ _ _ hk]
  have fr1c : I1 170 0 = 0 := by rw [hI1, jup_same]
  have hw0 : I1 171 = I 171 := fr1 171 (by decide)
  generalize hQ : rEI (mSp (mX I) n b 6).1 sh F (FrT 0 I) = Q9
  refine j_aload_n dX12_span_5 rfl ?_
  refine j_iload_n dX12_span_6 rfl ?_
  refine j_iconst dX12_span_7 ?_
  refine j_bipush dX12_span_8 (by decide) ?_
  refine r_cs3I dX12_span_10 csX12_78 (Nat.le_of_ble_eq_true rfl) (Nat.le_of_eq (Nat.zero_add _)) (Nat.le_of_eq (Nat.zero_add _)) (sm_in1 (by omega) (by omega) (by omega) h3) ?_
  refine j_if_ne (tgt := 20) dX12_span_13 rfl (by first | omega | (split <;> omega)) (fun c_13 => ?_) (fun c_13 => by exact absurd c_13 (by decide))
  refine j_iconst dX12_span_20 ?_
  refine j_iconst dX12_span_21 ?_
  refine r_cv2I dX12_span_22 cvX12_253 (by decide) (by first | assumption | exact hsh _ _ rfl) (Nat.le_of_ble_eq_true rfl) (Nat.le_of_eq (Nat.zero_add _)) (Nat.le_of_eq (Nat.zero_add _)) (sm_thr0 hsh) ?_
  refine j_if_eq (tgt := 30) dX12_span_25 rfl (by first | omega | (split <;> omega)) (fun c_25 => ?_) (fun c_25 => by exact absurd c_25 (by decide))
  refine j_aload_n dX12_span_30 rfl ?_
  refine r_cv0EV dX12_span_31 cvX12_350 (by decide) (by first | assumption | exact hsh _ _ rfl) (Nat.le_of_ble_eq_true rfl) (Nat.le_of_eq (Nat.zero_add _)) (Nat.le_of_eq (Nat.zero_add _)) (sm_keepsAll hsh hfx) (fun J0 hJ => ?_)
  refine j_iconst dX12_span_34 ?_
  refine j_istore_n dX12_span_35 (by decide) ?_
  refine j_iconst dX12_span_36 ?_
  refine j_istore dX12_span_37 (by decide) ?_
  skip
  have hm := mX_k fr1 hJ.2
  have out : ∀ (m : Nat) (z : Int) (J : Nat → Int → Int) (a : Int × (Int → Int) × (Int → Int) × (Int → Int)) (o : Option jzV), z + m = 6 → 0 ≤ z → a = mSp (mX I) n b z.toNat → (-1 ≤ a.1 ∧ a.1 ≤ 320) → DX J0 J (I 171, a.2) → jW G mX12_span (d + 8) Q9 39 [some (jR (some 170)), some (jI n), some (jI b), some (jI a.1), some (jI (z + 1)), o] [] (sh, J, F) 0 0 := by
    intro m
    induction m with
    | zero =>
      intro z J a o hz hz0 ha b1 hD
      have e6 : z = 6 := by omega
      subst e6
      have hT : FrT 0 I J := by
        obtain ⟨d1, d2, d3, d4, d5, d6⟩ := hD
        refine ⟨?_, fun a n0 n1 n2 n3 n4 n5 => ?_, fun k k0 k1 k2 => ?_⟩
        · rw [d6 0 (by decide) (by decide), hJ.2 170 (by decide), fr1c]
        · by_cases e : a = 171
          · subst e; exact d1
          · rw [d5 a n0 e n2 n3 n4 n5, hJ.2 a n1, fr1 a n0]
        · rw [d6 k k1 k2, hJ.2 170 (by decide), fr1k k k0]
      refine j_iload dX12_span_39 rfl ?_
      refine j_bipush dX12_span_41 (by decide) ?_
      refine j_icmp_gt (tgt := 131) dX12_span_43 rfl (by first | omega | (split <;> omega)) (by first | omega | (split <;> omega)) (fun c_43 => ?_) (fun c_43 => by exact absurd (by omega) c_43)
      refine j_iload_n dX12_span_131 rfl ?_
      refine j_iret dX12_span_132 rfl ?_
      rw [← hQ]
      exact ⟨J, by rw [ha]; rfl, rfl, hT⟩
    | succ m ih =>
      intro z J a o hz hz0 ha b1 hD
      have hW4 : WF (wup (I 171) 11 (z + 1)) := WF_11 hW
      have h94 : 0 ≤ wup (I 171) 11 (z + 1) 9 ∧ wup (I 171) 11 (z + 1) 9 ≤ 900000000 := by rw [wup_ne _ _ (by decide)]; exact h9
      have h104 : 0 ≤ wup (I 171) 11 (z + 1) 10 ∧ wup (I 171) 11 (z + 1) 10 ≤ 60 := by rw [wup_ne _ _ (by decide)]; exact h10
      have inn : ∀ (m2 : Nat) (y : Int) (K : Nat → Int → Int) (X : dX), y + m2 = n → 0 ≤ y → X = mDays 0 (wup (I 171) 11 (z + 1), a.2) y.toNat → dOK (wup (I 171) 11 (z + 1)) X y → DX J0 K X → jW G mX12_span (d + 8) Q9 58 [some (jR (some 170)), some (jI n), some (jI b), some (jI a.1), some (jI (z + 1)), some (jI y)] [] (sh, K, F) 0 0 := by
        intro m2
        induction m2 with
        | zero =>
          intro y K X hy hy0 hX hO hD
          have eX : X = mSpX (I 171) n z a := by rw [hX, show y = n by omega]
          have e9 : K 171 9 = X.1 9 := by rw [hD.1]
          have e4 : K 174 9 = I 171 9 := by rw [hD.2.2.2.2.1 174 (by decide) (by decide) (by decide) (by decide) (by decide) (by decide), hJ.1, mCpy_in (by decide), hw0]
          have hO2 := hO.2.1
          rw [wup_ne _ _ (by decide)] at hO2
          have ih1 := fun L hL => ih (z + 1) L (mSpS (I 171) n b z a) (some (jI (X.1 9 - I 171 9))) (by omega) (by omega) (by rw [ha]; exact (mSp_s _ _ _ hz0).symm) (by show -1 ≤ ite _ _ _ ∧ ite _ _ _ ≤ _; rw [← eX]; split <;> (try split) <;> omega) hL
          unfold mSpS at ih1
          rw [← eX] at ih1
          refine j_iload dX12_span_58 rfl ?_
          refine j_iload_n dX12_span_60 rfl ?_
          refine j_icmp_ge (tgt := 75) dX12_span_61 rfl (by first | omega | (split <;> omega)) (by first | omega | (split <;> omega)) (fun c_61 => ?_) (fun c_61 => by exact absurd (by omega) c_61)
          refine j_aload_n dX12_span_75 rfl ?_
          refine r_getS dX12_span_76 flX12_13 (by first | assumption | exact hsh _ _ rfl) (fx_170_1 hfx) ?_
          refine j_bipush dX12_span_79 (by decide) ?_
          refine r_ialoadE dX12_span_81 (by first | assumption | exact hsh _ _ rfl) (by first | omega | (split <;> omega)) (by first | omega | (split <;> omega)) e9 (fun b_81 => ?_)
          refine j_aload_n dX12_span_82 rfl ?_
          refine r_getS dX12_span_83 flX12_23 (by first | assumption | exact hsh _ _ rfl) (fx_170_4 hfx) ?_
          refine j_bipush dX12_span_86 (by decide) ?_
          refine r_ialoadE dX12_span_88 (by first | assumption | exact hsh _ _ rfl) (by first | omega | (split <;> omega)) (by first | omega | (split <;> omega)) e4 (fun b_88 => ?_)
          refine j_isub dX12_span_89 ?_
          refine j_istore dX12_span_90 (by decide) ?_
          refine j_aload_n dX12_span_92 rfl ?_
          refine r_cv0EV dX12_span_93 cvX12_353 (by decide) (by first | assumption | exact hsh _ _ rfl) (Nat.le_of_ble_eq_true rfl) (Nat.le_of_eq (Nat.zero_add _)) (Nat.le_of_eq (Nat.zero_add _)) (sm_bringsBack hsh hfx) (fun L hL => ?_)
          have hDL : DX J0 L (I 171, X.2) := DX_back hJ hw0 hD (fun j hj => (dOK_x hO j hj).trans (wup_ne _ _ (by omega))) hL.1 hL.2
          have ih2 := ih1 L hDL
          refine j_iload_n dX12_span_96 rfl ?_
          refine j_if_ge (tgt := 105) dX12_span_97 rfl (by first | omega | (split <;> omega)) (fun c_97 => ?_) (fun c_97 => ?_)
          · refine j_iload_n dX12_span_105 rfl ?_
            refine j_if_eq (tgt := 118) dX12_span_106 rfl (by first | omega | (split <;> omega)) (fun c_106 => ?_) (fun c_106 => ?_)
            · refine j_iload_n dX12_span_118 rfl ?_
              refine j_iload dX12_span_119 rfl ?_
              refine r_min dX12_span_121 lmX12_275 (Nat.le_of_ble_eq_true rfl) (by first | omega | (split <;> omega)) (by first | omega | (split <;> omega)) ?_
              refine j_istore_n dX12_span_124 (by decide) ?_
              refine j_iinc dX12_span_125 rfl (by decide) ?_
              refine j_goto (tgt := 39) dX12_span_128 rfl ?_
              first | (rw [if_pos (by omega)] at ih2; exact ih2) | (rw [if_neg (by omega), if_pos (by omega)] at ih2; exact ih2) | (rw [if_neg (by omega), if_neg (by omega)] at ih2; exact ih2)
            · refine j_iload_n dX12_span_109 rfl ?_
              refine j_iload dX12_span_110 rfl ?_
              refine r_max dX12_span_112 lmX12_280 (Nat.le_of_ble_eq_true rfl) (by first | omega | (split <;> omega)) (by first | omega | (split <;> omega)) ?_
              refine j_goto (tgt := 124) dX12_span_115 rfl ?_
              refine j_istore_n dX12_span_124 (by decide) ?_
              refine j_iinc dX12_span_125 rfl (by decide) ?_
              refine j_goto (tgt := 39) dX12_span_128 rfl ?_
              first | (rw [if_pos (by omega)] at ih2; exact ih2) | (rw [if_neg (by omega), if_pos (by omega)] at ih2; exact ih2) | (rw [if_neg (by omega), if_neg (by omega)] at ih2; exact ih2)
          · refine j_iload dX12_span_100 rfl ?_
            refine j_goto (tgt := 124) dX12_span_102 rfl ?_
            refine j_istore_n dX12_span_124 (by decide) ?_
            refine j_iinc dX12_span_125 rfl (by decide) ?_
            refine j_goto (tgt := 39) dX12_span_128 rfl ?_
            first | (rw [if_pos (by omega)] at ih2; exact ih2) | (rw [if_neg (by omega), if_pos (by omega)] at ih2; exact ih2) | (rw [if_neg (by omega), if_neg (by omega)] at ih2; exact ih2)
        | succ m2 ih2 =>
          intro y K X hy hy0 hX hO hD
          refine j_iload dX12_span_58 rfl ?_
          refine j_iload_n dX12_span_60 rfl ?_
          refine j_icmp_ge (tgt := 75) dX12_span_61 rfl (by first | omega | (split <;> omega)) (by first | omega | (split <;> omega)) (fun c_61 => by exact absurd c_61 (by omega)) (fun c_61 => ?_)
          refine j_aload_n dX12_span_64 rfl ?_
          refine j_iconst dX12_span_65 ?_
          refine r_cv1EV dX12_span_66 cvX12_325 (by decide) (by first | assumption | exact hsh _ _ rfl) (Nat.le_of_ble_eq_true rfl) (Nat.le_of_eq (Nat.zero_add _)) (Nat.le_of_eq (Nat.zero_add _)) (sm_day1 (w := wup (I 171) 11 (z + 1)) hsh hfx (Or.inl rfl) (k := y) (by omega) h94 hO hD) (fun K hK => ?_)
          refine j_iinc dX12_span_69 rfl (by decide) ?_
          refine j_goto (tgt := 58) dX12_span_72 rfl ?_
          exact ih2 (y + 1) K _ (by omega) (by omega) (by rw [hX]; exact (mDays_s _ _ hy0).symm) (dOK_s hO h94.1) hK
      refine j_iload dX12_span_39 rfl ?_
      refine j_bipush dX12_span_41 (by decide) ?_
      refine j_icmp_gt (tgt := 131) dX12_span_43 rfl (by first | omega | (split <;> omega)) (by first | omega | (split <;> omega)) (fun c_43 => by exact absurd c_43 (by omega)) (fun c_43 => ?_)
      refine j_aload_n dX12_span_46 rfl ?_
      refine r_getS dX12_span_47 flX12_13 (by first | assumption | exact hsh _ _ rfl) (fx_170_1 hfx) ?_
      refine j_bipush dX12_span_50 (by decide) ?_
      refine j_iload dX12_span_52 rfl ?_
      refine r_iastore dX12_span_54 (by first | assumption | exact hsh _ _ rfl) (by first | omega | (split <;> omega)) (by first | omega | (split <;> omega)) (by first | omega | (split <;> omega)) ?_
      refine j_iconst dX12_span_55 ?_
      refine j_istore dX12_span_56 (by decide) ?_
      exact inn n.toNat 0 _ _ (by omega) (by omega) rfl (dOK_0 hW4 h104) (DS_171 hD)
  exact out 6 0 J0 _ none (by omega) (by omega) rfl (by show (-1 : Int) ≤ -1 ∧ (-1 : Int) ≤ 320; decide) (DX_0 hm)
end
