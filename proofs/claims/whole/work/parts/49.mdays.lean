/-! DAYS AHEAD: THE MODEL'S METHODS -/
theorem jW_ok {G : jzG} {M : jzM} {d : Nat} {Q : jzO → jzH → Prop} {pc : Nat} {L : List (Option jzV)} {S : List jzV} {h : jzH} {rc rs : Nat} (k : jzok h → jW G M d Q pc L S h rc rs) : jW G M d Q pc L S h rc rs := by
  intro p l e R s m args below meth c A Qc XC mc ms free n0 ad0 ad ls H locs cells slots hB hF hW hL hS hc hs
  exact k hW.2.2.2.1 p l e R s m args below meth c A Qc XC mc ms free n0 ad0 ad ls H locs cells slots hB hF hW hL hS hc hs
def FrT (c : Int) (I I' : Nat → Int → Int) : Prop := I' 170 0 = c ∧ (∀ a, a ≠ 170 → a ≠ 174 → a ≠ 178 → a ≠ 179 → a ≠ 180 → a ≠ 181 → I' a = I a) ∧ ∀ k, k ≠ 0 → k ≠ 18 → k ≠ 19 → I' 170 k = I 170 k
theorem FrT_of {I I1 J K L : Nat → Int → Int} {X : dX} (fr1 : ∀ a, a ≠ 170 → I1 a = I a) (fr1k : ∀ k, k ≠ 0 → I1 170 k = I 170 k) (fr1c : I1 170 0 = 0) (h1 : J 174 = mCpy (I1 174) (I1 171) 420) (h2 : Fr1 174 I1 J) (hD : DX J K X) (hX : ∀ k, k < 0 ∨ 420 ≤ k → X.1 k = I 171 k) (h3 : L 171 = mCpy (K 171) (K 174) 420) (h4 : Fr1 171 K L) : FrT 0 I L ∧ L 179 = X.2.1 ∧ L 180 = X.2.2.1 ∧ L 181 = X.2.2.2 := by
  obtain ⟨d1, d2, d3, d4, d5, d6⟩ := hD
  refine ⟨⟨?_, fun a n0 n1 n2 n3 n4 n5 => ?_, fun k k0 k1 k2 => ?_⟩, ?_, ?_, ?_⟩
  · rw [h4 170 (by decide), d6 0 (by decide) (by decide), h2 170 (by decide), fr1c]
  · by_cases e : a = 171
    · subst e
      rw [h3, d1, d5 174 (by decide) (by decide) (by decide) (by decide) (by decide) (by decide), h1, fr1 171 (by decide)]
      exact mCpy_back hX
    · rw [h4 a e, d5 a n0 e n2 n3 n4 n5, h2 a n1, fr1 a n0]
  · rw [h4 170 (by decide), d6 k k1 k2, h2 170 (by decide), fr1k k k0]
  · rw [h4 179 (by decide), d2]
  · rw [h4 180 (by decide), d3]
  · rw [h4 181 (by decide), d4]
theorem mX_k {I I1 J : Nat → Int → Int} (fr1 : ∀ a, a ≠ 170 → I1 a = I a) (h2 : Fr1 174 I1 J) : mX J = mX I := by
  unfold mX
  rw [h2 171 (by decide), h2 179 (by decide), h2 180 (by decide), h2 181 (by decide), fr1 171 (by decide), fr1 179 (by decide), fr1 180 (by decide), fr1 181 (by decide)]
theorem DX_0 {J : Nat → Int → Int} {X : dX} (h : mX J = X) : DX J J X := by subst h; exact DS_0
theorem dOK_x {w : Int → Int} {X : dX} {k : Int} (h : dOK w X k) : ∀ j, j < 0 ∨ 420 ≤ j → X.1 j = w j := fun j hj => h.2.2.2 j (by omega)
/-- the dead feel nothing -/
theorem dFelt_dead {calm : Int} {w a b f : Int → Int} (hW : WF w) {q : Int} (h0 : 0 ≤ q) (h1 : q < aPe w) (h3 : aOf w q 3 ≠ 0) : (dEnd calm w a b f).2 q = 0 := by
  have h8 := hW.1
  have hr := dRate_ok (calm := calm) (a := a) (b := b) (f := f) hW
  have hc : (dCore calm w a b f).2.2.2 q = 0 := by
    have := jfold_ind (f := dOne calm (dFl calm (dSeed calm w) (w 6))) (a := (dSeed calm w, a, b, f)) (fun z X => WF X.1 ∧ aPe X.1 = aPe w ∧ aOf X.1 q 3 = aOf w q 3 ∧ vFe X.2.2.2 z ∧ (q < z → X.2.2.2 q = 0)) ⟨WF_seed hW, dSeed_o (by decide), dSeed_o (by omega), fun p h0 h1 => by omega, fun h => by omega⟩ (n := (aPe w).toNat) (fun z X z0 z1 ih => by
      obtain ⟨i1, i2, i3, i4, i5⟩ := ih
      have := dOne_ok (calm := calm) (wet := dFl calm (dSeed calm w) (w 6)) i1 (p := z) (by omega) i4
      refine ⟨this.1, (this.2.2 0 (by omega)).trans i2, (this.2.2 _ (Or.inr (Or.inr ⟨q, Or.inr rfl⟩))).trans i3, this.2.1, fun hq => ?_⟩
      unfold dOne
      by_cases e : z = q
      · subst e
        rw [if_neg (by rw [i3]; exact h3)]
        exact wup_same _ _ _
      · split
        · show wup _ _ _ _ = _
          rw [wup_ne _ _ (by omega)]; exact i5 (by omega)
        · show wup _ _ _ _ = _
          rw [wup_ne _ _ (by omega)]; exact i5 (by omega))
    exact this.2.2.2.2 (by omega)
  unfold dEnd
  split
  · have e0 : aPe (dRate calm w a b f) = aPe w := hr.2 0 (by omega)
    have := jfold_ind (f := dBrk) (a := (wup (dRate calm w a b f) 8 1, (dCore calm w a b f).2.2.2)) (fun z X => aOf X.1 q 3 = aOf w q 3 ∧ X.2 q = 0) ⟨(wup_ne _ _ (by omega)).trans (hr.2 _ (Or.inr (Or.inr ⟨q, Or.inr rfl⟩))), hc⟩ (n := (aPe (dRate calm w a b f)).toNat) (fun z X z0 z1 ih => by
      unfold dBrk
      by_cases e : z = q
      · subst e
        rw [if_neg (by rw [ih.1]; exact h3)]
        exact ih
      · split
        · refine ⟨?_, ?_⟩
          · show wAF _ _ _ _ _ = _
            rw [wAF_o (by omega) (by omega)]; exact ih.1
          · show wup _ _ _ _ = _
            rw [wup_ne _ _ (by omega)]; exact ih.2
        · exact ih)
    exact this.2
  · exact hc
theorem dTooMuch {calm : Int} {X : dX} (hW : WF X.1) {q : Int} (h0 : 0 ≤ q) (h1 : q < aPe X.1) : (aOf X.1 q 3 = 0 ∧ aOf X.1 q 0 < (dStep calm X).2.2.2 q) ↔ aOf X.1 q 0 < (dStep calm X).2.2.2 q := by
  constructor
  · exact fun h => h.2
  · intro h
    refine ⟨?_, h⟩
    by_cases e : aOf X.1 q 3 = 0
    · exact e
    · have h2 := dFelt_dead (calm := calm) (a := X.2.1) (b := X.2.2.1) (f := X.2.2.2) hW h0 h1 e
      have h4 := (hW.2.1.2.2 q h0 h1).1
      have h5 : aOf X.1 q 0 < (dEnd calm X.1 X.2.1 X.2.2.1 X.2.2.2).2 q := h
      omega
/-- how often it was too much -/
theorem mDay_9 {calm : Int} {w a b f : Int → Int} (hW : WF w) : mDay calm w a b f 9 = w 9 + mOver w (dEnd calm w a b f).2 := by
  have h8 := hW.1
  have he := dEnd_ok (calm := calm) (a := a) (b := b) (f := f) hW
  unfold mDay
  rw [wup_ne _ _ (by decide)]
  unfold dTold mOver
  have key : ∀ n : Nat, (n : Int) ≤ aPe w → (∀ k, (k < 9 ∨ (11 ≤ k ∧ k < 180) ∨ 420 ≤ k) → jfold (dTell (dEnd calm w a b f).2) (dEnd calm w a b f).1 n k = (dEnd calm w a b f).1 k) ∧ jfold (dTell (dEnd calm w a b f).2) (dEnd calm w a b f).1 n 9 = w 9 + jfold (fun p a_1 => if aOf w p 0 < (dEnd calm w a b f).2 p then a_1 + 1 else a_1) 0 n := by
    intro n
    induction n with
    | zero => intro _; exact ⟨fun k _ => rfl, by show (dEnd calm w a b f).1 9 = w 9 + 0; rw [he.2.2 9 (by omega), Int.add_zero]⟩
    | succ n ih =>
      intro hn
      have ih := ih (by omega)
      have e3 : aOf (jfold (dTell (dEnd calm w a b f).2) (dEnd calm w a b f).1 n) n 3 = aOf w n 3 := (ih.1 _ (by omega)).trans (he.2.2 _ (Or.inr (Or.inr ⟨n, by omega, Or.inr rfl⟩)))
      have e0 : aOf (jfold (dTell (dEnd calm w a b f).2) (dEnd calm w a b f).1 n) n 0 = aOf w n 0 := (ih.1 _ (by omega)).trans (he.2.2 _ (Or.inr (Or.inr ⟨n, by omega, Or.inl (Int.add_zero _)⟩)))
      have hd := fun e => dFelt_dead (calm := calm) (a := a) (b := b) (f := f) hW (q := n) (by omega) (by omega) e
      have h4 := (hW.2.1.2.2 n (by omega) (by omega)).1
      show (∀ k, _ → dTell (dEnd calm w a b f).2 n (jfold (dTell (dEnd calm w a b f).2) (dEnd calm w a b f).1 n) k = _) ∧ dTell (dEnd calm w a b f).2 n (jfold (dTell (dEnd calm w a b f).2) (dEnd calm w a b f).1 n) 9 = w 9 + (if aOf w n 0 < (dEnd calm w a b f).2 n then jfold (fun p a_1 => if aOf w p 0 < (dEnd calm w a b f).2 p then a_1 + 1 else a_1) 0 n + 1 else jfold (fun p a_1 => if aOf w p 0 < (dEnd calm w a b f).2 p then a_1 + 1 else a_1) 0 n)
      generalize jfold (dTell (dEnd calm w a b f).2) (dEnd calm w a b f).1 n = V at *
      unfold dTell
      rw [e3, e0]
      by_cases e : aOf w n 3 = 0 ∧ aOf w n 0 < (dEnd calm w a b f).2 n
      · rw [if_pos e, if_pos e.2, mTell_9]
        exact ⟨fun k hk => (mTell_o hk).trans (ih.1 k hk), by rw [ih.2]; omega⟩
      · have e' : ¬ aOf w n 0 < (dEnd calm w a b f).2 n := by
          intro h
          by_cases e4 : aOf w n 3 = 0
          · exact e ⟨e4, h⟩
          · have := hd e4; omega
        rw [if_neg e, if_neg e']
        exact ih
  exact (key _ (by omega)).2
theorem dStep_9 {calm : Int} {X : dX} (hW : WF X.1) : (dStep calm X).1 9 = X.1 9 + mOver X.1 (dStep calm X).2.2.2 := mDay_9 hW
theorem mOver_in {w f : Int → Int} (h : 0 ≤ aPe w ∧ aPe w ≤ 8) : 0 ≤ mOver w f ∧ mOver w f ≤ 8 := by
  have := jfold_ind (f := fun p a => if aOf w p 0 < f p then a + 1 else a) (a := (0 : Int)) (fun k a => 0 ≤ a ∧ a ≤ k) (by omega) (n := (aPe w).toNat) (fun k y h0 h1 q => by split <;> omega)
  unfold mOver
  omega
theorem dStep_fe {calm : Int} {X : dX} (hW : WF X.1) {q : Int} (h0 : 0 ≤ q) (h1 : q < aPe X.1) : 0 ≤ (dStep calm X).2.2.2 q ∧ (dStep calm X).2.2.2 q ≤ 300000 := (dEnd_ok (calm := calm) hW).2.1 q h0 h1
section
variable {G : jzG} {d : Nat} {sh : List (Nat × Nat)} {I : Nat → Int → Int} {F : Nat → Int → Option Nat} {w : Int → Int}
/-! ### today -/
theorem mp_today_1 (hsh : ShOK sh) (hfx : FxOK F) (hP : WfP (I 171)) {p k : Int} (h1 : jin p) (h2 : ¬ gP (I 171) p) : jS G (d + 8) mX12_today [jR (some 170), jI p, jI k] (sh, I, F) 0 0 (rI 0 (sh, jup I 170 0 1, F)) := by
  refine jS_go [some (jR (some 170)), some (jI p), some (jI k)] (by decide +kernel) rfl (by simp [jone]) (Nat.le_of_ble_eq_true rfl) rfl (fun hok => ?_)
  refine j_aload_n dX12_today_0 rfl ?_
  refine j_iconst dX12_today_1 ?_
  refine r_putI dX12_today_2 flX12_3 rfl (by first | assumption | exact hsh _ _ rfl) (by first | omega | (split <;> omega)) (fun q => by cases q) ?_
  skip
  have hok1 : jzok (sh, jup I 170 0 0, F) := jzok_I hok jin_lit0
  have hw0 : (jup I 170 0 0) 171 = I 171 := jup_ne _ _ _ (by decide)
  clear hok
  rw [← jup_up I 170 0 0 1]
  rw [← hw0] at hP h2
  try rw [← hw0]
  obtain ⟨I1, hI1⟩ : ∃ J, J = jup I 170 0 0 := ⟨_, rfl⟩
  rw [← hI1] at hok1 hw0 hP h2 ⊢
  have hok := hok1
  refine j_aload_n dX12_today_5 rfl ?_
  refine j_aload_n dX12_today_6 rfl ?_
  refine j_iload_n dX12_today_7 rfl ?_
  refine r_cv1I dX12_today_8 cvX12_335 (by decide) (by first | assumption | exact hsh _ _ rfl) (Nat.le_of_ble_eq_true rfl) (Nat.le_of_eq (Nat.zero_add _)) (Nat.le_of_eq (Nat.zero_add _)) (sm_noP1 hsh hfx hok (by omega) hP h2) ?_
  refine j_iconst dX12_today_11 ?_
  refine r_cv2I dX12_today_12 cvX12_253 (by decide) (by first | assumption | exact hsh _ _ rfl) (Nat.le_of_ble_eq_true rfl) (Nat.le_of_eq (Nat.zero_add _)) (Nat.le_of_eq (Nat.zero_add _)) (sm_thr1 hsh (by omega)) ?_
  refine j_if_ne (tgt := 61) dX12_today_15 rfl (by first | omega | (split <;> omega)) (fun c_15 => ?_) (fun c_15 => by exact absurd c_15 (by decide))
  refine j_iconst dX12_today_61 ?_
  refine j_iret dX12_today_62 rfl ?_
  exact rI_of rfl rfl
theorem mp_today_2 (hsh : ShOK sh) (hfx : FxOK F) (hP : WfP (I 171)) {p k : Int} (h1 : gP (I 171) p) (h2 : ¬ aOf (I 171) p 3 = 0) : jS G (d + 8) mX12_today [jR (some 170), jI p, jI k] (sh, I, F) 0 0 (rI 0 (sh, jup I 170 0 2, F)) := by
  have g8 : aPe (I 171) ≤ 8 := hP.2
  have g1 : 0 ≤ p ∧ p < 8 := by have := h1.1; have := h1.2; omega
  refine jS_go [some (jR (some 170)), some (jI p), some (jI k)] (by decide +kernel) rfl (by simp [jone]) (Nat.le_of_ble_eq_true rfl) rfl (fun hok => ?_)
  refine j_aload_n dX12_today_0 rfl ?_
  refine j_iconst dX12_today_1 ?_
  refine r_putI dX12_today_2 flX12_3 rfl (by first | assumption | exact hsh _ _ rfl) (by first | omega | (split <;> omega)) (fun q => by cases q) ?_
  skip
  have hok1 : jzok (sh, jup I 170 0 0, F) := jzok_I hok jin_lit0
  have hw0 : (jup I 170 0 0) 171 = I 171 := jup_ne _ _ _ (by decide)
  clear hok
  rw [← jup_up I 170 0 0 2]
  rw [← hw0] at hP h1 h2
  try rw [← hw0]
  obtain ⟨I1, hI1⟩ : ∃ J, J = jup I 170 0 0 := ⟨_, rfl⟩
  rw [← hI1] at hok1 hw0 hP h1 h2 ⊢
  have hok := hok1
  refine j_aload_n dX12_today_5 rfl ?_
  refine j_aload_n dX12_today_6 rfl ?_
  refine j_iload_n dX12_today_7 rfl ?_
  refine r_cv1I dX12_today_8 cvX12_335 (by decide) (by first | assumption | exact hsh _ _ rfl) (Nat.le_of_ble_eq_true rfl) (Nat.le_of_eq (Nat.zero_add _)) (Nat.le_of_eq (Nat.zero_add _)) (sm_noP0 hsh hfx hok (by omega) hP h1) ?_
  refine j_iconst dX12_today_11 ?_
  refine r_cv2I dX12_today_12 cvX12_253 (by decide) (by first | assumption | exact hsh _ _ rfl) (Nat.le_of_ble_eq_true rfl) (Nat.le_of_eq (Nat.zero_add _)) (Nat.le_of_eq (Nat.zero_add _)) (sm_thr0 hsh) ?_
  refine j_if_ne (tgt := 61) dX12_today_15 rfl (by first | omega | (split <;> omega)) (fun c_15 => by exact absurd c_15 (by decide)) (fun c_15 => ?_)
  refine j_aload_n dX12_today_18 rfl ?_
  refine j_aload_n dX12_today_19 rfl ?_
  refine j_iload_n dX12_today_20 rfl ?_
  refine r_cv1I dX12_today_21 cvX12_296 (by decide) (by first | assumption | exact hsh _ _ rfl) (Nat.le_of_ble_eq_true rfl) (Nat.le_of_eq (Nat.zero_add _)) (Nat.le_of_eq (Nat.zero_add _)) (sm_al0 hsh hfx (by omega) h2) ?_
  refine j_if_ne (tgt := 31) dX12_today_24 rfl (by first | omega | (split <;> omega)) (fun c_24 => by exact absurd c_24 (by decide)) (fun c_24 => ?_)
  refine j_iconst dX12_today_27 ?_
  refine j_goto (tgt := 32) dX12_today_28 rfl ?_
  refine j_iconst dX12_today_32 ?_
  refine r_cv2I dX12_today_33 cvX12_253 (by decide) (by first | assumption | exact hsh _ _ rfl) (Nat.le_of_ble_eq_true rfl) (Nat.le_of_eq (Nat.zero_add _)) (Nat.le_of_eq (Nat.zero_add _)) (sm_thr1 hsh (by omega)) ?_
  refine j_if_ne (tgt := 61) dX12_today_36 rfl (by first | omega | (split <;> omega)) (fun c_36 => ?_) (fun c_36 => by exact absurd c_36 (by decide))
  refine j_iconst dX12_today_61 ?_
  refine j_iret dX12_today_62 rfl ?_
  exact rI_of rfl rfl
theorem mp_today_3 (hsh : ShOK sh) (hfx : FxOK F) (hP : WfP (I 171)) {p k : Int} (h1 : gP (I 171) p) (h2 : aOf (I 171) p 3 = 0) (hk : jin k) (h3 : ¬ (0 ≤ k ∧ k ≤ 2)) : jS G (d + 8) mX12_today [jR (some 170), jI p, jI k] (sh, I, F) 0 0 (rI 0 (sh, jup I 170 0 3, F)) := by
  have g8 : aPe (I 171) ≤ 8 := hP.2
  have g1 : 0 ≤ p ∧ p < 8 := by have := h1.1; have := h1.2; omega
  refine jS_go [some (jR (some 170)), some (jI p), some (jI k)] (by decide +kernel) rfl (by simp [jone]) (Nat.le_of_ble_eq_true rfl) rfl (fun hok => ?_)
  refine j_aload_n dX12_today_0 rfl ?_
  refine j_iconst dX12_today_1 ?_
  refine r_putI dX12_today_2 flX12_3 rfl (by first | assumption | exact hsh _ _ rfl) (by first | omega | (split <;> omega)) (fun q => by cases q) ?_
  skip
  have hok1 : jzok (sh, jup I 170 0 0, F) := jzok_I hok jin_lit0
  have hw0 : (jup I 170 0 0) 171 = I 171 := jup_ne _ _ _ (by decide)
  clear hok
  rw [← jup_up I 170 0 0 3]
  rw [← hw0] at hP h1 h2
  try rw [← hw0]
  obtain ⟨I1, hI1⟩ : ∃ J, J = jup I 170 0 0 := ⟨_, rfl⟩
  rw [← hI1] at hok1 hw0 hP h1 h2 ⊢
  have hok := hok1
  refine j_aload_n dX12_today_5 rfl ?_
  refine j_aload_n dX12_today_6 rfl ?_
  refine j_iload_n dX12_today_7 rfl ?_
  refine r_cv1I dX12_today_8 cvX12_335 (by decide) (by first | assumption | exact hsh _ _ rfl) (Nat.le_of_ble_eq_true rfl) (Nat.le_of_eq (Nat.zero_add _)) (Nat.le_of_eq (Nat.zero_add _)) (sm_noP0 hsh hfx hok (by omega) hP h1) ?_
  refine j_iconst dX12_today_11 ?_
  refine r_cv2I dX12_today_12 cvX12_253 (by decide) (by first | assumption | exact hsh _ _ rfl) (Nat.le_of_ble_eq_true rfl) (Nat.le_of_eq (Nat.zero_add _)) (Nat.le_of_eq (Nat.zero_add _)) (sm_thr0 hsh) ?_
  refine j_if_ne (tgt := 61) dX12_today_15 rfl (by first | omega | (split <;> omega)) (fun c_15 => by exact absurd c_15 (by decide)) (fun c_15 => ?_)
  refine j_aload_n dX12_today_18 rfl ?_
  refine j_aload_n dX12_today_19 rfl ?_
  refine j_iload_n dX12_today_20 rfl ?_
  refine r_cv1I dX12_today_21 cvX12_296 (by decide) (by first | assumption | exact hsh _ _ rfl) (Nat.le_of_ble_eq_true rfl) (Nat.le_of_eq (Nat.zero_add _)) (Nat.le_of_eq (Nat.zero_add _)) (sm_al1 hsh hfx (by omega) h2) ?_
  refine j_if_ne (tgt := 31) dX12_today_24 rfl (by first | omega | (split <;> omega)) (fun c_24 => ?_) (fun c_24 => by exact absurd c_24 (by decide))
  refine j_iconst dX12_today_31 ?_
  refine j_iconst dX12_today_32 ?_
  refine r_cv2I dX12_today_33 cvX12_253 (by decide) (by first | assumption | exact hsh _ _ rfl) (Nat.le_of_ble_eq_true rfl) (Nat.le_of_eq (Nat.zero_add _)) (Nat.le_of_eq (Nat.zero_add _)) (sm_thr0 hsh) ?_
  refine j_if_ne (tgt := 61) dX12_today_36 rfl (by first | omega | (split <;> omega)) (fun c_36 => by exact absurd c_36 (by decide)) (fun c_36 => ?_)
  refine j_aload_n dX12_today_39 rfl ?_
  refine j_iload_n dX12_today_40 rfl ?_
  refine j_iconst dX12_today_41 ?_
  refine j_iconst dX12_today_42 ?_
  refine r_cs3I dX12_today_43 csX12_78 (Nat.le_of_ble_eq_true rfl) (Nat.le_of_eq (Nat.zero_add _)) (Nat.le_of_eq (Nat.zero_add _)) (sm_in0 (by omega) (by omega) (by omega) h3) ?_
  refine j_if_ne (tgt := 53) dX12_today_46 rfl (by first | omega | (split <;> omega)) (fun c_46 => by exact absurd c_46 (by decide)) (fun c_46 => ?_)
  refine j_iconst dX12_today_49 ?_
  refine j_goto (tgt := 54) dX12_today_50 rfl ?_
  refine j_iconst dX12_today_54 ?_
  refine r_cv2I dX12_today_55 cvX12_253 (by decide) (by first | assumption | exact hsh _ _ rfl) (Nat.le_of_ble_eq_true rfl) (Nat.le_of_eq (Nat.zero_add _)) (Nat.le_of_eq (Nat.zero_add _)) (sm_thr1 hsh (by omega)) ?_
  refine j_if_eq (tgt := 63) dX12_today_58 rfl (by first | omega | (split <;> omega)) (fun c_58 => by exact absurd c_58 (by decide)) (fun c_58 => ?_)
  refine j_iconst dX12_today_61 ?_
  refine j_iret dX12_today_62 rfl ?_
  exact rI_of rfl rfl
abbrev vTod (X : dX) (p k : Int) : Int := if k = 0 then X.2.1 p else if k = 1 then X.2.2.1 p else X.2.2.2 p
theorem mp_today_0 (hsh : ShOK sh) (hfx : FxOK F) (hW : WF (I 171)) (h9 : 0 ≤ I 171 9 ∧ I 171 9 ≤ 900000000) (h10 : 0 ≤ I 171 10 ∧ I 171 10 ≤ 60) {p k : Int} (h1 : gP (I 171) p) (h2 : aOf (I 171) p 3 = 0) (h3 : 0 ≤ k ∧ k ≤ 2) : jS G (d + 8) mX12_today [jR (some 170), jI p, jI k] (sh, I, F) 0 0 (rEI (vTod (dStep 1 (mX I)) p k) sh F (FrT 0 I)) := by
  have hP : WfP (I 171) := hW.1
  have g8 : aPe (I 171) ≤ 8 := hP.2
  have g1 : 0 ≤ p ∧ p < 8 := by have := h1.1; have := h1.2; omega
  have hO1 := dOK_s (calm := 1) (dOK_0 (a := I 179) (b := I 180) (f := I 181) hW h10) h9.1
  refine jS_go [some (jR (some 170)), some (jI p), some (jI k)] (by decide +kernel) rfl (by simp [jone]) (Nat.le_of_ble_eq_true rfl) rfl (fun hok => ?_)
  refine j_aload_n dX12_today_0 rfl ?_
  refine j_iconst dX12_today_1 ?_
  refine r_putI dX12_today_2 flX12_3 rfl (by first | assumption | exact hsh _ _ rfl) (by first | omega | (split <;> omega)) (fun q => by cases q) ?_
  skip
  have hok1 : jzok (sh, jup I 170 0 0, F) := jzok_I hok jin_lit0
  obtain ⟨I1, hI1⟩ : ∃ J, J = jup I 170 0 0 := ⟨_, rfl⟩
  rw [← hI1] at hok1 ⊢
  have hok0 := hok
  clear hok
  have hok := hok1
  have fr1 : ∀ a, a ≠ 170 → I1 a = I a := fun a ha => by rw [hI1, jup_ne _ _ _ ha]
  have fr1k : ∀ k, k ≠ 0 → I1 170 k = I 170 k := fun k hk => by rw [hI1, jup_row _ _ _ hk]
  have fr1c : I1 170 0 = 0 := by rw [hI1, jup_same]
  have hw0 : I1 171 = I 171 := fr1 171 (by decide)
  rw [← hw0] at hP h1 h2
  refine j_aload_n dX12_today_5 rfl ?_
  refine j_aload_n dX12_today_6 rfl ?_
  refine j_iload_n dX12_today_7 rfl ?_
  refine r_cv1I dX12_today_8 cvX12_335 (by decide) (by first | assumption | exact hsh _ _ rfl) (Nat.le_of_ble_eq_true rfl) (Nat.le_of_eq (Nat.zero_add _)) (Nat.le_of_eq (Nat.zero_add _)) (sm_noP0 hsh hfx hok (by omega) hP h1) ?_
  refine j_iconst dX12_today_11 ?_
  refine r_cv2I dX12_today_12 cvX12_253 (by decide) (by first | assumption | exact hsh _ _ rfl) (Nat.le_of_ble_eq_true rfl) (Nat.le_of_eq (Nat.zero_add _)) (Nat.le_of_eq (Nat.zero_add _)) (sm_thr0 hsh) ?_
  refine j_if_ne (tgt := 61) dX12_today_15 rfl (by first | omega | (split <;> omega)) (fun c_15 => by exact absurd c_15 (by decide)) (fun c_15 => ?_)
  refine j_aload_n dX12_today_18 rfl ?_
  refine j_aload_n dX12_today_19 rfl ?_
  refine j_iload_n dX12_today_20 rfl ?_
  refine r_cv1I dX12_today_21 cvX12_296 (by decide) (by first | assumption | exact hsh _ _ rfl) (Nat.le_of_ble_eq_true rfl) (Nat.le_of_eq (Nat.zero_add _)) (Nat.le_of_eq (Nat.zero_add _)) (sm_al1 hsh hfx (by omega) h2) ?_
  refine j_if_ne (tgt := 31) dX12_today_24 rfl (by first | omega | (split <;> omega)) (fun c_24 => ?_) (fun c_24 => by exact absurd c_24 (by decide))
  refine j_iconst dX12_today_31 ?_
  refine j_iconst dX12_today_32 ?_
  refine r_cv2I dX12_today_33 cvX12_253 (by decide) (by first | assumption | exact hsh _ _ rfl) (Nat.le_of_ble_eq_true rfl) (Nat.le_of_eq (Nat.zero_add _)) (Nat.le_of_eq (Nat.zero_add _)) (sm_thr0 hsh) ?_
  refine j_if_ne (tgt := 61) dX12_today_36 rfl (by first | omega | (split <;> omega)) (fun c_36 => by exact absurd c_36 (by decide)) (fun c_36 => ?_)
  refine j_aload_n dX12_today_39 rfl ?_
  refine j_iload_n dX12_today_40 rfl ?_
  refine j_iconst dX12_today_41 ?_
  refine j_iconst dX12_today_42 ?_
  refine r_cs3I dX12_today_43 csX12_78 (Nat.le_of_ble_eq_true rfl) (Nat.le_of_eq (Nat.zero_add _)) (Nat.le_of_eq (Nat.zero_add _)) (sm_in1 (by omega) (by omega) (by omega) h3) ?_
  refine j_if_ne (tgt := 53) dX12_today_46 rfl (by first | omega | (split <;> omega)) (fun c_46 => ?_) (fun c_46 => by exact absurd c_46 (by decide))
  refine j_iconst dX12_today_53 ?_
  refine j_iconst dX12_today_54 ?_
  refine r_cv2I dX12_today_55 cvX12_253 (by decide) (by first | assumption | exact hsh _ _ rfl) (Nat.le_of_ble_eq_true rfl) (Nat.le_of_eq (Nat.zero_add _)) (Nat.le_of_eq (Nat.zero_add _)) (sm_thr0 hsh) ?_
  refine j_if_eq (tgt := 63) dX12_today_58 rfl (by first | omega | (split <;> omega)) (fun c_58 => ?_) (fun c_58 => by exact absurd c_58 (by decide))
  refine j_aload_n dX12_today_63 rfl ?_
  refine r_cv0EV dX12_today_64 cvX12_350 (by decide) (by first | assumption | exact hsh _ _ rfl) (Nat.le_of_ble_eq_true rfl) (Nat.le_of_eq (Nat.zero_add _)) (Nat.le_of_eq (Nat.zero_add _)) (sm_keepsAll hsh hfx) (fun J hJ => ?_)
  have hm := mX_k fr1 hJ.2
  refine j_aload_n dX12_today_67 rfl ?_
  refine j_iconst dX12_today_68 ?_
  refine r_cv1EV dX12_today_69 cvX12_325 (by decide) (by first | assumption | exact hsh _ _ rfl) (Nat.le_of_ble_eq_true rfl) (Nat.le_of_eq (Nat.zero_add _)) (Nat.le_of_eq (Nat.zero_add _)) (sm_day1 (w := I 171) hsh hfx (Or.inr rfl) (k := 0) (by decide) h9 (dOK_0 hW h10) (DX_0 hm)) (fun K hK => ?_)
  refine j_aload_n dX12_today_72 rfl ?_
  refine r_cv0EV dX12_today_73 cvX12_353 (by decide) (by first | assumption | exact hsh _ _ rfl) (Nat.le_of_ble_eq_true rfl) (Nat.le_of_eq (Nat.zero_add _)) (Nat.le_of_eq (Nat.zero_add _)) (sm_bringsBack hsh hfx) (fun L hL => ?_)
  have hT := FrT_of fr1 fr1k fr1c hJ.1 hJ.2 hK (dOK_x hO1) hL.1 hL.2
  refine j_iload_n dX12_today_76 rfl ?_
  refine j_if_ne (tgt := 89) dX12_today_77 rfl (by first | omega | (split <;> omega)) (fun c_77 => ?_) (fun c_77 => ?_)
  · refine j_iload_n dX12_today_89 rfl ?_
    refine j_iconst dX12_today_90 ?_
    refine j_icmp_ne (tgt := 103) dX12_today_91 rfl (by first | omega | (split <;> omega)) (by first | omega | (split <;> omega)) (fun c_91 => ?_) (fun c_91 => ?_)
    · refine j_aload_n dX12_today_103 rfl ?_
      refine r_getS dX12_today_104 flX12_48 (by first | assumption | exact hsh _ _ rfl) (fx_170_22 hfx) ?_
      refine j_iload_n dX12_today_107 rfl ?_
      refine r_ialoadE dX12_today_108 (by first | assumption | exact hsh _ _ rfl) (by first | omega | (split <;> omega)) (by first | omega | (split <;> omega)) (congrFun hT.2.2.2 p) (fun b_108 => ?_)
      refine j_iret dX12_today_109 rfl ?_
      refine ⟨L, ?_, rfl, hT.1⟩
      unfold vTod
      first | rw [if_pos (by omega)] | rw [if_neg (by omega), if_pos (by omega)] | rw [if_neg (by omega), if_neg (by omega)]
    · refine j_aload_n dX12_today_94 rfl ?_
      refine r_getS dX12_today_95 flX12_45 (by first | assumption | exact hsh _ _ rfl) (fx_170_21 hfx) ?_
      refine j_iload_n dX12_today_98 rfl ?_
      refine r_ialoadE dX12_today_99 (by first | assumption | exact hsh _ _ rfl) (by first | omega | (split <;> omega)) (by first | omega | (split <;> omega)) (congrFun hT.2.2.1 p) (fun b_99 => ?_)
      refine j_goto (tgt := 109) dX12_today_100 rfl ?_
      refine j_iret dX12_today_109 rfl ?_
      refine ⟨L, ?_, rfl, hT.1⟩
      unfold vTod
      first | rw [if_pos (by omega)] | rw [if_neg (by omega), if_pos (by omega)] | rw [if_neg (by omega), if_neg (by omega)]
  · refine j_aload_n dX12_today_80 rfl ?_
    refine r_getS dX12_today_81 flX12_42 (by first | assumption | exact hsh _ _ rfl) (fx_170_20 hfx) ?_
    refine j_iload_n dX12_today_84 rfl ?_
    refine r_ialoadE dX12_today_85 (by first | assumption | exact hsh _ _ rfl) (by first | omega | (split <;> omega)) (by first | omega | (split <;> omega)) (congrFun hT.2.1 p) (fun b_85 => ?_)
    refine j_goto (tgt := 109) dX12_today_86 rfl ?_
    refine j_iret dX12_today_109 rfl ?_
    refine ⟨L, ?_, rfl, hT.1⟩
    unfold vTod
    first | rw [if_pos (by omega)] | rw [if_neg (by omega), if_pos (by omega)] | rw [if_neg (by omega), if_neg (by omega)]
/-! ### ahead, fails -/
theorem mp_ahead_1 (hsh : ShOK sh) (hfx : FxOK F) (hP : WfP (I 171)) {p k : Int} (h1 : jin p) (h2 : ¬ gP (I 171) p) : jS G (d + 9) mX12_ahead [jR (some 170), jI p, jI k] (sh, I, F) 0 0 (rI 0 (sh, jup I 170 0 1, F)) := by
  refine jS_go [some (jR (some 170)), some (jI p), some (jI k), none] (by decide +kernel) rfl (by simp [jone]) (Nat.le_of_ble_eq_true rfl) rfl (fun hok => ?_)
  refine j_aload_n dX12_ahead_0 rfl ?_
  refine j_iconst dX12_ahead_1 ?_
  refine r_putI dX12_ahead_2 flX12_3 rfl (by first | assumption | exact hsh _ _ rfl) (by first | omega | (split <;> omega)) (fun q => by cases q) ?_
  skip
  have hok1 : jzok (sh, jup I 170 0 0, F) := jzok_I hok jin_lit0
  have hw0 : (jup I 170 0 0) 171 = I 171 := jup_ne _ _ _ (by decide)
  clear hok
  rw [← jup_up I 170 0 0 1]
  rw [← hw0] at hP h2
  try rw [← hw0]
  obtain ⟨I1, hI1⟩ : ∃ J, J = jup I 170 0 0 := ⟨_, rfl⟩
  rw [← hI1] at hok1 hw0 hP h2 ⊢
  have hok := hok1
  refine j_aload_n dX12_ahead_5 rfl ?_
  refine j_aload_n dX12_ahead_6 rfl ?_
  refine j_iload_n dX12_ahead_7 rfl ?_
  refine r_cv1I dX12_ahead_8 cvX12_335 (by decide) (by first | assumption | exact hsh _ _ rfl) (Nat.le_of_ble_eq_true rfl) (Nat.le_of_eq (Nat.zero_add _)) (Nat.le_of_eq (Nat.zero_add _)) (sm_noP1 hsh hfx hok (by omega) hP h2) ?_
  refine j_iconst dX12_ahead_11 ?_
  refine r_cv2I dX12_ahead_12 cvX12_253 (by decide) (by first | assumption | exact hsh _ _ rfl) (Nat.le_of_ble_eq_true rfl) (Nat.le_of_eq (Nat.zero_add _)) (Nat.le_of_eq (Nat.zero_add _)) (sm_thr1 hsh (by omega)) ?_
  refine j_if_ne (tgt := 41) dX12_ahead_15 rfl (by first | omega | (split <;> omega)) (fun c_15 => ?_) (fun c_15 => by exact absurd c_15 (by decide))
  refine j_iconst dX12_ahead_41 ?_
  refine j_iret dX12_ahead_42 rfl ?_
  exact rI_of rfl rfl
theorem mp_ahead_2 (hsh : ShOK sh) (hfx : FxOK F) (hP : WfP (I 171)) {p k : Int} (h1 : gP (I 171) p) (hk : jin k) (h3 : ¬ (0 ≤ k ∧ k ≤ 60)) : jS G (d + 9) mX12_ahead [jR (some 170), jI p, jI k] (sh, I, F) 0 0 (rI 0 (sh, jup I 170 0 2, F)) := by
  have g8 : aPe (I 171) ≤ 8 := hP.2
  have g1 : 0 ≤ p ∧ p < 8 := by have := h1.1; have := h1.2; omega
  refine jS_go [some (jR (some 170)), some (jI p), some (jI k), none] (by decide +kernel) rfl (by simp [jone]) (Nat.le_of_ble_eq_true rfl) rfl (fun hok => ?_)
  refine j_aload_n dX12_ahead_0 rfl ?_
  refine j_iconst dX12_ahead_1 ?_
  refine r_putI dX12_ahead_2 flX12_3 rfl (by first | assumption | exact hsh _ _ rfl) (by first | omega | (split <;> omega)) (fun q => by cases q) ?_
  skip
  have hok1 : jzok (sh, jup I 170 0 0, F) := jzok_I hok jin_lit0
  have hw0 : (jup I 170 0 0) 171 = I 171 := jup_ne _ _ _ (by decide)
  clear hok
  rw [← jup_up I 170 0 0 2]
  rw [← hw0] at hP h1
  try rw [← hw0]
  obtain ⟨I1, hI1⟩ : ∃ J, J = jup I 170 0 0 := ⟨_, rfl⟩
  rw [← hI1] at hok1 hw0 hP h1 ⊢
  have hok := hok1
  refine j_aload_n dX12_ahead_5 rfl ?_
  refine j_aload_n dX12_ahead_6 rfl ?_
  refine j_iload_n dX12_ahead_7 rfl ?_
  refine r_cv1I dX12_ahead_8 cvX12_335 (by decide) (by first | assumption | exact hsh _ _ rfl) (Nat.le_of_ble_eq_true rfl) (Nat.le_of_eq (Nat.zero_add _)) (Nat.le_of_eq (Nat.zero_add _)) (sm_noP0 hsh hfx hok (by omega) hP h1) ?_
  refine j_iconst dX12_ahead_11 ?_
  refine r_cv2I dX12_ahead_12 cvX12_253 (by decide) (by first | assumption | exact hsh _ _ rfl) (Nat.le_of_ble_eq_true rfl) (Nat.le_of_eq (Nat.zero_add _)) (Nat.le_of_eq (Nat.zero_add _)) (sm_thr0 hsh) ?_
  refine j_if_ne (tgt := 41) dX12_ahead_15 rfl (by first | omega | (split <;> omega)) (fun c_15 => by exact absurd c_15 (by decide)) (fun c_15 => ?_)
  refine j_aload_n dX12_ahead_18 rfl ?_
  refine j_iload_n dX12_ahead_19 rfl ?_
  refine j_iconst dX12_ahead_20 ?_
  refine j_bipush dX12_ahead_21 (by decide) ?_
  refine r_cs3I dX12_ahead_23 csX12_78 (Nat.le_of_ble_eq_true rfl) (Nat.le_of_eq (Nat.zero_add _)) (Nat.le_of_eq (Nat.zero_add _)) (sm_in0 (by omega) (by omega) (by omega) h3) ?_
  refine j_if_ne (tgt := 33) dX12_ahead_26 rfl (by first | omega | (split <;> omega)) (fun c_26 => by exact absurd c_26 (by decide)) (fun c_26 => ?_)
  refine j_iconst dX12_ahead_29 ?_
  refine j_goto (tgt := 34) dX12_ahead_30 rfl ?_
  refine j_iconst dX12_ahead_34 ?_
  refine r_cv2I dX12_ahead_35 cvX12_253 (by decide) (by first | assumption | exact hsh _ _ rfl) (Nat.le_of_ble_eq_true rfl) (Nat.le_of_eq (Nat.zero_add _)) (Nat.le_of_eq (Nat.zero_add _)) (sm_thr1 hsh (by omega)) ?_
  refine j_if_eq (tgt := 43) dX12_ahead_38 rfl (by first | omega | (split <;> omega)) (fun c_38 => by exact absurd c_38 (by decide)) (fun c_38 => ?_)
  refine j_iconst dX12_ahead_41 ?_
  refine j_iret dX12_ahead_42 rfl ?_
  exact rI_of rfl rfl
theorem mp_ahead_0 (hsh : ShOK sh) (hfx : FxOK F) (hW : WF (I 171)) (h9 : 0 ≤ I 171 9 ∧ I 171 9 ≤ 900000000) (h10 : 0 ≤ I 171 10 ∧ I 171 10 ≤ 60) {p k : Int} (h1 : gP (I 171) p) (h3 : 0 ≤ k ∧ k ≤ 60) : jS G (d + 9) mX12_ahead [jR (some 170), jI p, jI k] (sh, I, F) 0 0 (rEI (aOf (mDays 1 (mX I) k.toNat).1 p 1) sh F (FrT 0 I)) := by
  have hP : WfP (I 171) := hW.1
  have g8 : aPe (I 171) ≤ 8 := hP.2
  have g1 : 0 ≤ p ∧ p < 8 := by have := h1.1; have := h1.2; omega
  have hO1 := mDays_ok (calm := 1) (a := I 179) (b := I 180) (f := I 181) hW h9.1 h10 k.toNat
  refine jS_go [some (jR (some 170)), some (jI p), some (jI k), none] (by decide +kernel) rfl (by simp [jone]) (Nat.le_of_ble_eq_true rfl) rfl (fun hok => ?_)
  refine j_aload_n dX12_ahead_0 rfl ?_
  refine j_iconst dX12_ahead_1 ?_
  refine r_putI dX12_ahead_2 flX12_3 rfl (by first | assumption | exact hsh _ _ rfl) (by first | omega | (split <;> omega)) (fun q => by cases q) ?_
  skip
  have hok1 : jzok (sh, jup I 170 0 0, F) := jzok_I hok jin_lit0
  obtain ⟨I1, hI1⟩ : ∃ J, J = jup I 170 0 0 := ⟨_, rfl⟩
  rw [← hI1] at hok1 ⊢
  have hok0 := hok
  clear hok
  have hok := hok1
  have fr1 : ∀ a, a ≠ 170 → I1 a = I a := fun a ha => by rw [hI1, jup_ne _ _ _ ha]
  have fr1k : ∀ k, k ≠ 0 → I1 170 k = I 170 k := fun k hk => by rw [hI1, jup_row _ _ _ hk]
  have fr1c : I1 170 0 = 0 := by rw [hI1, jup_same]
  have hw0 : I1 171 = I 171 := fr1 171 (by decide)
  rw [← hw0] at hP h1
  refine j_aload_n dX12_ahead_5 rfl ?_
  refine j_aload_n dX12_ahead_6 rfl ?_
  refine j_iload_n dX12_ahead_7 rfl ?_
  refine r_cv1I dX12_ahead_8 cvX12_335 (by decide) (by first | assumption | exact hsh _ _ rfl) (Nat.le_of_ble_eq_true rfl) (Nat.le_of_eq (Nat.zero_add _)) (Nat.le_of_eq (Nat.zero_add _)) (sm_noP0 hsh hfx hok (by omega) hP h1) ?_
  refine j_iconst dX12_ahead_11 ?_
  refine r_cv2I dX12_ahead_12 cvX12_253 (by decide) (by first | assumption | exact hsh _ _ rfl) (Nat.le_of_ble_eq_true rfl) (Nat.le_of_eq (Nat.zero_add _)) (Nat.le_of_eq (Nat.zero_add _)) (sm_thr0 hsh) ?_
  refine j_if_ne (tgt := 41) dX12_ahead_15 rfl (by first | omega | (split <;> omega)) (fun c_15 => by exact absurd c_15 (by decide)) (fun c_15 => ?_)
  refine j_aload_n dX12_ahead_18 rfl ?_
  refine j_iload_n dX12_ahead_19 rfl ?_
  refine j_iconst dX12_ahead_20 ?_
  refine j_bipush dX12_ahead_21 (by decide) ?_
  refine r_cs3I dX12_ahead_23 csX12_78 (Nat.le_of_ble_eq_true rfl) (Nat.le_of_eq (Nat.zero_add _)) (Nat.le_of_eq (Nat.zero_add _)) (sm_in1 (by omega) (by omega) (by omega) h3) ?_
  refine j_if_ne (tgt := 33) dX12_ahead_26 rfl (by first | omega | (split <;> omega)) (fun c_26 => ?_) (fun c_26 => by exact absurd c_26 (by decide))
  refine j_iconst dX12_ahead_33 ?_
  refine j_iconst dX12_ahead_34 ?_
  refine r_cv2I dX12_ahead_35 cvX12_253 (by decide) (by first | assumption | exact hsh _ _ rfl) (Nat.le_of_ble_eq_true rfl) (Nat.le_of_eq (Nat.zero_add _)) (Nat.le_of_eq (Nat.zero_add _)) (sm_thr0 hsh) ?_
  refine j_if_eq (tgt := 43) dX12_ahead_38 rfl (by first | omega | (split <;> omega)) (fun c_38 => ?_) (fun c_38 => by exact absurd c_38 (by decide))
  refine j_aload_n dX12_ahead_43 rfl ?_
  refine r_cv0EV dX12_ahead_44 cvX12_350 (by decide) (by first | assumption | exact hsh _ _ rfl) (Nat.le_of_ble_eq_true rfl) (Nat.le_of_eq (Nat.zero_add _)) (Nat.le_of_eq (Nat.zero_add _)) (sm_keepsAll hsh hfx) (fun J hJ => ?_)
  have hm := mX_k fr1 hJ.2
  have e1 : J 171 = I 171 := congrArg Prod.fst hm
  refine j_aload_n dX12_ahead_47 rfl ?_
  refine j_iload_n dX12_ahead_48 rfl ?_
  refine r_cv1EV dX12_ahead_49 cvX12_362 (by decide) (by first | assumption | exact hsh _ _ rfl) (Nat.le_of_ble_eq_true rfl) (Nat.le_of_eq (Nat.zero_add _)) (Nat.le_of_eq (Nat.zero_add _)) (sm_calmDays hsh hfx h3 (by rw [e1]; exact hW) (by rw [e1]; exact h9) (by rw [e1]; exact h10)) (fun K hK => ?_)
  rw [hm] at hK
  have eK : K 171 = (mDays 1 (mX I) k.toNat).1 := hK.1
  refine jW_ok (fun hok2 => ?_)
  refine j_aload_n dX12_ahead_52 rfl ?_
  refine j_iload_n dX12_ahead_53 rfl ?_
  refine j_iconst dX12_ahead_54 ?_
  refine r_cv2J dX12_ahead_55 cvX12_68 (by decide) (by first | assumption | exact hsh _ _ rfl) (Nat.le_of_ble_eq_true rfl) (Nat.le_of_eq (Nat.zero_add _)) (Nat.le_of_eq (Nat.zero_add _)) (sm_of hsh hfx (by omega)) (hok2.2.1 171 _) (fun b_55 => ?_)
  refine j_istore_n dX12_ahead_58 (by decide) ?_
  refine j_aload_n dX12_ahead_59 rfl ?_
  refine r_cv0EV dX12_ahead_60 cvX12_353 (by decide) (by first | assumption | exact hsh _ _ rfl) (Nat.le_of_ble_eq_true rfl) (Nat.le_of_eq (Nat.zero_add _)) (Nat.le_of_eq (Nat.zero_add _)) (sm_bringsBack hsh hfx) (fun L hL => ?_)
  have hT := FrT_of fr1 fr1k fr1c hJ.1 hJ.2 hK (dOK_x hO1) hL.1 hL.2
  refine j_iload_n dX12_ahead_63 rfl ?_
  refine j_iret dX12_ahead_64 rfl ?_
  exact ⟨L, by rw [eK], rfl, hT.1⟩
theorem mp_fails_1 (hsh : ShOK sh) (hfx : FxOK F) {k : Int} (hk : jin k) (h3 : ¬ (0 ≤ k ∧ k ≤ 60)) : jS G (d + 9) mX12_fails [jR (some 170), jI k] (sh, I, F) 0 0 (rI 0 (sh, jup I 170 0 1, F)) := by
  refine jS_go [some (jR (some 170)), some (jI k), none] (by decide +kernel) rfl (by simp [jone]) (Nat.le_of_ble_eq_true rfl) rfl (fun hok => ?_)
  refine j_aload_n dX12_fails_0 rfl ?_
  refine j_iconst dX12_fails_1 ?_
  refine r_putI dX12_fails_2 flX12_3 rfl (by first | assumption | exact hsh _ _ rfl) (by first | omega | (split <;> omega)) (fun q => by cases q) ?_
  skip
  have hok1 : jzok (sh, jup I 170 0 0, F) := jzok_I hok jin_lit0
  have hw0 : (jup I 170 0 0) 171 = I 171 := jup_ne _ _ _ (by decide)
  clear hok
  rw [← jup_up I 170 0 0 1]
  try rw [← hw0]
  obtain ⟨I1, hI1⟩ : ∃ J, J = jup I 170 0 0 := ⟨_, rfl⟩
  rw [← hI1] at hok1 hw0  ⊢
  have hok := hok1
  refine j_aload_n dX12_fails_5 rfl ?_
  refine j_iload_n dX12_fails_6 rfl ?_
  refine j_iconst dX12_fails_7 ?_
  refine j_bipush dX12_fails_8 (by decide) ?_
  refine r_cs3I dX12_fails_10 csX12_78 (Nat.le_of_ble_eq_true rfl) (Nat.le_of_eq (Nat.zero_add _)) (Nat.le_of_eq (Nat.zero_add _)) (sm_in0 (by omega) (by omega) (by omega) h3) ?_
  refine j_if_ne (tgt := 20) dX12_fails_13 rfl (by first | omega | (split <;> omega)) (fun c_13 => by exact absurd c_13 (by decide)) (fun c_13 => ?_)
  refine j_iconst dX12_fails_16 ?_
  refine j_goto (tgt := 21) dX12_fails_17 rfl ?_
  refine j_iconst dX12_fails_21 ?_
  refine r_cv2I dX12_fails_22 cvX12_253 (by decide) (by first | assumption | exact hsh _ _ rfl) (Nat.le_of_ble_eq_true rfl) (Nat.le_of_eq (Nat.zero_add _)) (Nat.le_of_eq (Nat.zero_add _)) (sm_thr1 hsh (by omega)) ?_
  refine j_if_eq (tgt := 30) dX12_fails_25 rfl (by first | omega | (split <;> omega)) (fun c_25 => by exact absurd c_25 (by decide)) (fun c_25 => ?_)
  refine j_iconst dX12_fails_28 ?_
  refine j_zret dX12_fails_29 rfl (by omega) ?_
  exact rI_of rfl rfl
theorem mp_fails_0 (hsh : ShOK sh) (hfx : FxOK F) (hW : WF (I 171)) (h9 : 0 ≤ I 171 9 ∧ I 171 9 ≤ 900000000) (h10 : 0 ≤ I 171 10 ∧ I 171 10 ≤ 60) {k : Int} (h3 : 0 ≤ k ∧ k ≤ 60) : jS G (d + 9) mX12_fails [jR (some 170), jI k] (sh, I, F) 0 0 (rEI ((mDays 1 (mX I) k.toNat).1 8) sh F (FrT 0 I)) := by
  have hO1 := mDays_ok (calm := 1) (a := I 179) (b := I 180) (f := I 181) hW h9.1 h10 k.toNat
  have h01 := hO1.1.2.2.2.1
  refine jS_go [some (jR (some 170)), some (jI k), none] (by decide +kernel) rfl (by simp [jone]) (Nat.le_of_ble_eq_true rfl) rfl (fun hok => ?_)
  refine j_aload_n dX12_fails_0 rfl ?_
  refine j_iconst dX12_fails_1 ?_
  refine r_putI dX12_fails_2 flX12_3 rfl (by first | assumption | exact hsh _ _ rfl) (by first | omega | (split <;> omega)) (fun q => by cases q) ?_
  skip
  have hok1 : jzok (sh, jup I 170 0 0, F) := jzok_I hok jin_lit0
  obtain ⟨I1, hI1⟩ : ∃ J, J = jup I 170 0 0 := ⟨_, rfl⟩
  rw [← hI1] at hok1 ⊢
  have hok0 := hok
  clear hok
  have hok := hok1
  have fr1 : ∀ a, a ≠ 170 → I1 a = I a := fun a ha => by rw [hI1, jup_ne _ _ _ ha]
  have fr1k : ∀ k, k ≠ 0 → I1 170 k = I 170 k := fun k hk => by rw [hI1, jup_row _ _ _ hk]
  have fr1c : I1 170 0 = 0 := by rw [hI1, jup_same]
  have hw0 : I1 171 = I 171 := fr1 171 (by decide)
  refine j_aload_n dX12_fails_5 rfl ?_
  refine j_iload_n dX12_fails_6 rfl ?_
  refine j_iconst dX12_fails_7 ?_
  refine j_bipush dX12_fails_8 (by decide) ?_
  refine r_cs3I dX12_fails_10 csX12_78 (Nat.le_of_ble_eq_true rfl) (Nat.le_of_eq (Nat.zero_add _)) (Nat.le_of_eq (Nat.zero_add _)) (sm_in1 (by omega) (by omega) (by omega) h3) ?_
  refine j_if_ne (tgt := 20) dX12_fails_13 rfl (by first | omega | (split <;> omega)) (fun c_13 => ?_) (fun c_13 => by exact absurd c_13 (by decide))
  refine j_iconst dX12_fails_20 ?_
  refine j_iconst dX12_fails_21 ?_
  refine r_cv2I dX12_fails_22 cvX12_253 (by decide) (by first | assumption | exact hsh _ _ rfl) (Nat.le_of_ble_eq_true rfl) (Nat.le_of_eq (Nat.zero_add _)) (Nat.le_of_eq (Nat.zero_add _)) (sm_thr0 hsh) ?_
  refine j_if_eq (tgt := 30) dX12_fails_25 rfl (by first | omega | (split <;> omega)) (fun c_25 => ?_) (fun c_25 => by exact absurd c_25 (by decide))
  refine j_aload_n dX12_fails_30 rfl ?_
  refine r_cv0EV dX12_fails_31 cvX12_350 (by decide) (by first | assumption | exact hsh _ _ rfl) (Nat.le_of_ble_eq_true rfl) (Nat.le_of_eq (Nat.zero_add _)) (Nat.le_of_eq (Nat.zero_add _)) (sm_keepsAll hsh hfx) (fun J hJ => ?_)
  have hm := mX_k fr1 hJ.2
  have e1 : J 171 = I 171 := congrArg Prod.fst hm
  refine j_aload_n dX12_fails_34 rfl ?_
  refine j_iload_n dX12_fails_35 rfl ?_
  refine r_cv1EV dX12_fails_36 cvX12_362 (by decide) (by first | assumption | exact hsh _ _ rfl) (Nat.le_of_ble_eq_true rfl) (Nat.le_of_eq (Nat.zero_add _)) (Nat.le_of_eq (Nat.zero_add _)) (sm_calmDays hsh hfx h3 (by rw [e1]; exact hW) (by rw [e1]; exact h9) (by rw [e1]; exact h10)) (fun K hK => ?_)
  rw [hm] at hK
  have eK : K 171 = (mDays 1 (mX I) k.toNat).1 := hK.1
  refine j_aload_n dX12_fails_39 rfl ?_
  refine r_cv0I dX12_fails_40 cvX12_268 (by decide) (by first | assumption | exact hsh _ _ rfl) (Nat.le_of_ble_eq_true rfl) (Nat.le_of_eq (Nat.zero_add _)) (Nat.le_of_eq (Nat.zero_add _)) (sm_hasFailed hsh hfx) ?_
  refine j_istore_n dX12_fails_43 (by decide) ?_
  refine j_aload_n dX12_fails_44 rfl ?_
  refine r_cv0EV dX12_fails_45 cvX12_353 (by decide) (by first | assumption | exact hsh _ _ rfl) (Nat.le_of_ble_eq_true rfl) (Nat.le_of_eq (Nat.zero_add _)) (Nat.le_of_eq (Nat.zero_add _)) (sm_bringsBack hsh hfx) (fun L hL => ?_)
  have hT := FrT_of fr1 fr1k fr1c hJ.1 hJ.2 hK (dOK_x hO1) hL.1 hL.2
  refine j_iload_n dX12_fails_48 rfl ?_
  refine j_zret dX12_fails_49 rfl (by split <;> omega) ?_
  refine ⟨L, ?_, rfl, hT.1⟩
  rw [eK]
  rcases h01 with h | h
  · rw [h]; rfl
  · rw [h]; rfl
/-! ### rank -/
def mRank (w f : Int → Int) (p : Int) : Int := jfold (fun q a => a + (if aOf w q 3 = 0 ∧ f p < f q then 1 else 0)) 0 (aPe w).toNat
theorem mp_rank_1 (hsh : ShOK sh) (hfx : FxOK F) (hP : WfP (I 171)) {p : Int} (h1 : jin p) (h2 : ¬ gP (I 171) p) : jS G (d + 8) mX12_rank [jR (some 170), jI p] (sh, I, F) 0 0 (rI 0 (sh, jup I 170 0 1, F)) := by
  refine jS_go [some (jR (some 170)), some (jI p), none, none] (by decide +kernel) rfl (by simp [jone]) (Nat.le_of_ble_eq_true rfl) rfl (fun hok => ?_)
  refine j_aload_n dX12_rank_0 rfl ?_
  refine j_iconst dX12_rank_1 ?_
  refine r_putI dX12_rank_2 flX12_3 rfl (by first | assumption | exact hsh _ _ rfl) (by first | omega | (split <;> omega)) (fun q => by cases q) ?_
  skip
  have hok1 : jzok (sh, jup I 170 0 0, F) := jzok_I hok jin_lit0
  have hw0 : (jup I 170 0 0) 171 = I 171 := jup_ne _ _ _ (by decide)
  clear hok
  rw [← jup_up I 170 0 0 1]
  rw [← hw0] at hP h2
  try rw [← hw0]
  obtain ⟨I1, hI1⟩ : ∃ J, J = jup I 170 0 0 := ⟨_, rfl⟩
  rw [← hI1] at hok1 hw0 hP h2 ⊢
  have hok := hok1
  refine j_aload_n dX12_rank_5 rfl ?_
  refine j_aload_n dX12_rank_6 rfl ?_
  refine j_iload_n dX12_rank_7 rfl ?_
  refine r_cv1I dX12_rank_8 cvX12_335 (by decide) (by first | assumption | exact hsh _ _ rfl) (Nat.le_of_ble_eq_true rfl) (Nat.le_of_eq (Nat.zero_add _)) (Nat.le_of_eq (Nat.zero_add _)) (sm_noP1 hsh hfx hok (by omega) hP h2) ?_
  refine j_iconst dX12_rank_11 ?_
  refine r_cv2I dX12_rank_12 cvX12_253 (by decide) (by first | assumption | exact hsh _ _ rfl) (Nat.le_of_ble_eq_true rfl) (Nat.le_of_eq (Nat.zero_add _)) (Nat.le_of_eq (Nat.zero_add _)) (sm_thr1 hsh (by omega)) ?_
  refine j_if_ne (tgt := 39) dX12_rank_15 rfl (by first | omega | (split <;> omega)) (fun c_15 => ?_) (fun c_15 => by exact absurd c_15 (by decide))
  refine j_iconst dX12_rank_39 ?_
  refine j_iret dX12_rank_40 rfl ?_
  exact rI_of rfl rfl
theorem mp_rank_2 (hsh : ShOK sh) (hfx : FxOK F) (hP : WfP (I 171)) {p : Int} (h1 : gP (I 171) p) (h2 : ¬ aOf (I 171) p 3 = 0) : jS G (d + 8) mX12_rank [jR (some 170), jI p] (sh, I, F) 0 0 (rI 0 (sh, jup I 170 0 2, F)) := by
  have g8 : aPe (I 171) ≤ 8 := hP.2
  have g1 : 0 ≤ p ∧ p < 8 := by have := h1.1; have := h1.2; omega
  refine jS_go [some (jR (some 170)), some (jI p), none, none] (by decide +kernel) rfl (by simp [jone]) (Nat.le_of_ble_eq_true rfl) rfl (fun hok => ?_)
  refine j_aload_n dX12_rank_0 rfl ?_
  refine j_iconst dX12_rank_1 ?_
  refine r_putI dX12_rank_2 flX12_3 rfl (by first | assumption | exact hsh _ _ rfl) (by first | omega | (split <;> omega)) (fun q => by cases q) ?_
  skip
  have hok1 : jzok (sh, jup I 170 0 0, F) := jzok_I hok jin_lit0
  have hw0 : (jup I 170 0 0) 171 = I 171 := jup_ne _ _ _ (by decide)
  clear hok
  rw [← jup_up I 170 0 0 2]
  rw [← hw0] at hP h1 h2
  try rw [← hw0]
  obtain ⟨I1, hI1⟩ : ∃ J, J = jup I 170 0 0 := ⟨_, rfl⟩
  rw [← hI1] at hok1 hw0 hP h1 h2 ⊢
  have hok := hok1
  refine j_aload_n dX12_rank_5 rfl ?_
  refine j_aload_n dX12_rank_6 rfl ?_
  refine j_iload_n dX12_rank_7 rfl ?_
  refine r_cv1I dX12_rank_8 cvX12_335 (by decide) (by first | assumption | exact hsh _ _ rfl) (Nat.le_of_ble_eq_true rfl) (Nat.le_of_eq (Nat.zero_add _)) (Nat.le_of_eq (Nat.zero_add _)) (sm_noP0 hsh hfx hok (by omega) hP h1) ?_
  refine j_iconst dX12_rank_11 ?_
  refine r_cv2I dX12_rank_12 cvX12_253 (by decide) (by first | assumption | exact hsh _ _ rfl) (Nat.le_of_ble_eq_true rfl) (Nat.le_of_eq (Nat.zero_add _)) (Nat.le_of_eq (Nat.zero_add _)) (sm_thr0 hsh) ?_
  refine j_if_ne (tgt := 39) dX12_rank_15 rfl (by first | omega | (split <;> omega)) (fun c_15 => by exact absurd c_15 (by decide)) (fun c_15 => ?_)
  refine j_aload_n dX12_rank_18 rfl ?_
  refine j_aload_n dX12_rank_19 rfl ?_
  refine j_iload_n dX12_rank_20 rfl ?_
  refine r_cv1I dX12_rank_21 cvX12_296 (by decide) (by first | assumption | exact hsh _ _ rfl) (Nat.le_of_ble_eq_true rfl) (Nat.le_of_eq (Nat.zero_add _)) (Nat.le_of_eq (Nat.zero_add _)) (sm_al0 hsh hfx (by omega) h2) ?_
  refine j_if_ne (tgt := 31) dX12_rank_24 rfl (by first | omega | (split <;> omega)) (fun c_24 => by exact absurd c_24 (by decide)) (fun c_24 => ?_)
  refine j_iconst dX12_rank_27 ?_
  refine j_goto (tgt := 32) dX12_rank_28 rfl ?_
  refine j_iconst dX12_rank_32 ?_
  refine r_cv2I dX12_rank_33 cvX12_253 (by decide) (by first | assumption | exact hsh _ _ rfl) (Nat.le_of_ble_eq_true rfl) (Nat.le_of_eq (Nat.zero_add _)) (Nat.le_of_eq (Nat.zero_add _)) (sm_thr1 hsh (by omega)) ?_
  refine j_if_eq (tgt := 41) dX12_rank_36 rfl (by first | omega | (split <;> omega)) (fun c_36 => by exact absurd c_36 (by decide)) (fun c_36 => ?_)
  refine j_iconst dX12_rank_39 ?_
  refine j_iret dX12_rank_40 rfl ?_
  exact rI_of rfl rfl
theorem mp_rank_0 (hsh : ShOK sh) (hfx : FxOK F) (hW : WF (I 171)) (h9 : 0 ≤ I 171 9 ∧ I 171 9 ≤ 900000000) (h10 : 0 ≤ I 171 10 ∧ I 171 10 ≤ 60) {p : Int} (h1 : gP (I 171) p) (h2 : aOf (I 171) p 3 = 0) : jS G (d + 8) mX12_rank [jR (some 170), jI p] (sh, I, F) 0 0 (rEI (mRank (I 171) (dStep 1 (mX I)).2.2.2 p) sh F (FrT 0 I)) := by
  have hP : WfP (I 171) := hW.1
  have g8 : aPe (I 171) ≤ 8 := hP.2
  have g0 : 0 ≤ aPe (I 171) := hP.1
  have g1 : 0 ≤ p ∧ p < 8 := by have := h1.1; have := h1.2; omega
  have hO1 := dOK_s (calm := 1) (dOK_0 (a := I 179) (b := I 180) (f := I 181) hW h10) h9.1
  refine jS_go [some (jR (some 170)), some (jI p), none, none] (by decide +kernel) rfl (by simp [jone]) (Nat.le_of_ble_eq_true rfl) rfl (fun hok => ?_)
  refine j_aload_n dX12_rank_0 rfl ?_
  refine j_iconst dX12_rank_1 ?_
  refine r_putI dX12_rank_2 flX12_3 rfl (by first | assumption | exact hsh _ _ rfl) (by first | omega | (split <;> omega)) (fun q => by cases q) ?_
  skip
  have hok1 : jzok (sh, jup I 170 0 0, F) := jzok_I hok jin_lit0
  obtain ⟨I1, hI1⟩ : ∃ J, J = jup I 170 0 0 := ⟨_, rfl⟩
  rw [← hI1] at hok1 ⊢
  have hok0 := hok
  clear hok
  have hok := hok1
  have fr1 : ∀ a, a ≠ 170 → I1 a = I a := fun a ha => by rw [hI1, jup_ne _ _ _ ha]
  have fr1k : ∀ k, k ≠ 0 → I1 170 k = I 170 k := fun k hk => by rw [hI1, jup_row _ _ _ hk]
  have fr1c : I1 170 0 = 0 := by rw [hI1, jup_same]
  have hw0 : I1 171 = I 171 := fr1 171 (by decide)
  rw [← hw0] at hP h1 h2
  refine j_aload_n dX12_rank_5 rfl ?_
  refine j_aload_n dX12_rank_6 rfl ?_
  refine j_iload_n dX12_rank_7 rfl ?_
  refine r_cv1I dX12_rank_8 cvX12_335 (by decide) (by first | assumption | exact hsh _ _ rfl) (Nat.le_of_ble_eq_true rfl) (Nat.le_of_eq (Nat.zero_add _)) (Nat.le_of_eq (Nat.zero_add _)) (sm_noP0 hsh hfx hok (by omega) hP h1) ?_
  refine j_iconst dX12_rank_11 ?_
  refine r_cv2I dX12_rank_12 cvX12_253 (by decide) (by first | assumption | exact hsh _ _ rfl) (Nat.le_of_ble_eq_true rfl) (Nat.le_of_eq (Nat.zero_add _)) (Nat.le_of_eq (Nat.zero_add _)) (sm_thr0 hsh) ?_
  refine j_if_ne (tgt := 39) dX12_rank_15 rfl (by first | omega | (split <;> omega)) (fun c_15 => by exact absurd c_15 (by decide)) (fun c_15 => ?_)
  refine j_aload_n dX12_rank_18 rfl ?_
  refine j_aload_n dX12_rank_19 rfl ?_
  refine j_iload_n dX12_rank_20 rfl ?_
  refine r_cv1I dX12_rank_21 cvX12_296 (by decide) (by first | assumption | exact hsh _ _ rfl) (Nat.le_of_ble_eq_true rfl) (Nat.le_of_eq (Nat.zero_add _)) (Nat.le_of_eq (Nat.zero_add _)) (sm_al1 hsh hfx (by omega) h2) ?_
  refine j_if_ne (tgt := 31) dX12_rank_24 rfl (by first | omega | (split <;> omega)) (fun c_24 => ?_) (fun c_24 => by exact absurd c_24 (by decide))
  refine j_iconst dX12_rank_31 ?_
  refine j_iconst dX12_rank_32 ?_
  refine r_cv2I dX12_rank_33 cvX12_253 (by decide) (by first | assumption | exact hsh _ _ rfl) (Nat.le_of_ble_eq_true rfl) (Nat.le_of_eq (Nat.zero_add _)) (Nat.le_of_eq (Nat.zero_add _)) (sm_thr0 hsh) ?_
  refine j_if_eq (tgt := 41) dX12_rank_36 rfl (by first | omega | (split <;> omega)) (fun c_36 => ?_) (fun c_36 => by exact absurd c_36 (by decide))
  refine j_aload_n dX12_rank_41 rfl ?_
  refine r_cv0EV dX12_rank_42 cvX12_350 (by decide) (by first | assumption | exact hsh _ _ rfl) (Nat.le_of_ble_eq_true rfl) (Nat.le_of_eq (Nat.zero_add _)) (Nat.le_of_eq (Nat.zero_add _)) (sm_keepsAll hsh hfx) (fun J hJ => ?_)
  have hm := mX_k fr1 hJ.2
  refine j_aload_n dX12_rank_45 rfl ?_
  refine j_iconst dX12_rank_46 ?_
  refine r_cv1EV dX12_rank_47 cvX12_325 (by decide) (by first | assumption | exact hsh _ _ rfl) (Nat.le_of_ble_eq_true rfl) (Nat.le_of_eq (Nat.zero_add _)) (Nat.le_of_eq (Nat.zero_add _)) (sm_day1 (w := I 171) hsh hfx (Or.inr rfl) (k := 0) (by decide) h9 (dOK_0 hW h10) (DX_0 hm)) (fun K hK => ?_)
  refine j_aload_n dX12_rank_50 rfl ?_
  refine r_cv0EV dX12_rank_51 cvX12_353 (by decide) (by first | assumption | exact hsh _ _ rfl) (Nat.le_of_ble_eq_true rfl) (Nat.le_of_eq (Nat.zero_add _)) (Nat.le_of_eq (Nat.zero_add _)) (sm_bringsBack hsh hfx) (fun L hL => ?_)
  have hT := FrT_of fr1 fr1k fr1c hJ.1 hJ.2 hK (dOK_x hO1) hL.1 hL.2
  refine j_iconst dX12_rank_54 ?_
  refine j_istore_n dX12_rank_55 (by decide) ?_
  refine j_iconst dX12_rank_56 ?_
  refine j_istore_n dX12_rank_57 (by decide) ?_
  skip
  have e1 : L 171 = I 171 := hT.1.2.1 171 (by decide) (by decide) (by decide) (by decide) (by decide) (by decide)
  rw [← e1] at g8 g0
  rw [← hT.2.2.2, ← e1]
  have hT1 := hT.1
  refine jW_loop 58 (fun _ _ => True) (fun q a => a + (if aOf (L 171) q 3 = 0 ∧ L 181 p < L 181 q then 1 else 0)) 0 (aPe (L 171)) (fun z a => [some (jR (some 170)), some (jI p), some (jI a), some (jI z)]) (fun _ _ => (sh, L, F)) g0 trivial (fun _ _ _ _ _ => trivial) (fun a ha _ => ?_) (fun z a hz0 hz1 _ ih => ?_)
  · refine jW_ok (fun hok => ?_)
    refine j_iload_n dX12_rank_58 rfl ?_
    refine j_aload_n dX12_rank_59 rfl ?_
    refine r_cv0J dX12_rank_60 cvX12_74 (by decide) (by first | assumption | exact hsh _ _ rfl) (Nat.le_of_ble_eq_true rfl) (Nat.le_of_eq (Nat.zero_add _)) (Nat.le_of_eq (Nat.zero_add _)) (sm_people hsh hfx) (hok.2.1 171 _) (fun b_60 => ?_)
    refine j_icmp_ge (tgt := 103) dX12_rank_63 rfl (by first | omega | (split <;> omega)) (by first | omega | (split <;> omega)) (fun c_63 => ?_) (fun c_63 => by exact absurd (by omega) c_63)
    refine j_iload_n dX12_rank_103 rfl ?_
    refine j_iret dX12_rank_104 rfl ?_
    exact ⟨L, by rw [ha]; rfl, rfl, hT1⟩
  · refine jW_ok (fun hok => ?_)
    refine j_iload_n dX12_rank_58 rfl ?_
    refine j_aload_n dX12_rank_59 rfl ?_
    refine r_cv0J dX12_rank_60 cvX12_74 (by decide) (by first | assumption | exact hsh _ _ rfl) (Nat.le_of_ble_eq_true rfl) (Nat.le_of_eq (Nat.zero_add _)) (Nat.le_of_eq (Nat.zero_add _)) (sm_people hsh hfx) (hok.2.1 171 _) (fun b_60 => ?_)
    refine j_icmp_ge (tgt := 103) dX12_rank_63 rfl (by first | omega | (split <;> omega)) (by first | omega | (split <;> omega)) (fun c_63 => by exact absurd c_63 (by omega)) (fun c_63 => ?_)
    refine j_iload_n dX12_rank_66 rfl ?_
    refine j_aload_n dX12_rank_67 rfl ?_
    refine j_iload_n dX12_rank_68 rfl ?_
    refine r_cv1I dX12_rank_69 cvX12_296 (by decide) (by first | assumption | exact hsh _ _ rfl) (Nat.le_of_ble_eq_true rfl) (Nat.le_of_eq (Nat.zero_add _)) (Nat.le_of_eq (Nat.zero_add _)) (sm_isAlive hsh hfx (by omega)) ?_
    refine j_if_eq (tgt := 94) dX12_rank_72 rfl (by first | omega | (split <;> omega)) (fun c_72 => ?_) (fun c_72 => ?_)
    · refine j_iconst dX12_rank_94 ?_
      refine j_iadd dX12_rank_95 ?_
      refine j_istore_n dX12_rank_96 (by decide) ?_
      refine j_iinc dX12_rank_97 rfl (by decide) ?_
      refine j_goto (tgt := 58) dX12_rank_100 rfl ?_
      rw [ite0] at c_72
      first | (rw [if_pos (by omega)] at ih; exact ih) | (rw [if_neg (by omega)] at ih; exact ih)
    · refine j_aload_n dX12_rank_75 rfl ?_
      refine r_getS dX12_rank_76 flX12_48 (by first | assumption | exact hsh _ _ rfl) (fx_170_22 hfx) ?_
      refine j_iload_n dX12_rank_79 rfl ?_
      refine r_iaload dX12_rank_80 (by first | assumption | exact hsh _ _ rfl) (by first | omega | (split <;> omega)) (by first | omega | (split <;> omega)) (fun b_80 => ?_)
      refine j_aload_n dX12_rank_81 rfl ?_
      refine r_getS dX12_rank_82 flX12_48 (by first | assumption | exact hsh _ _ rfl) (fx_170_22 hfx) ?_
      refine j_iload_n dX12_rank_85 rfl ?_
      refine r_iaload dX12_rank_86 (by first | assumption | exact hsh _ _ rfl) (by first | omega | (split <;> omega)) (by first | omega | (split <;> omega)) (fun b_86 => ?_)
      refine j_icmp_le (tgt := 94) dX12_rank_87 rfl (by first | omega | (split <;> omega)) (by first | omega | (split <;> omega)) (fun c_87 => ?_) (fun c_87 => ?_)
      · refine j_iconst dX12_rank_94 ?_
        refine j_iadd dX12_rank_95 ?_
        refine j_istore_n dX12_rank_96 (by decide) ?_
        refine j_iinc dX12_rank_97 rfl (by decide) ?_
        refine j_goto (tgt := 58) dX12_rank_100 rfl ?_
        rw [ite0] at c_72
        first | (rw [if_pos (by omega)] at ih; exact ih) | (rw [if_neg (by omega)] at ih; exact ih)
      · refine j_iconst dX12_rank_90 ?_
        refine j_goto (tgt := 95) dX12_rank_91 rfl ?_
        refine j_iadd dX12_rank_95 ?_
        refine j_istore_n dX12_rank_96 (by decide) ?_
        refine j_iinc dX12_rank_97 rfl (by decide) ?_
        refine j_goto (tgt := 58) dX12_rank_100 rfl ?_
        rw [ite0] at c_72
        first | (rw [if_pos (by omega)] at ih; exact ih) | (rw [if_neg (by omega)] at ih; exact ih)
end
