/-! BANK -/
abbrev rHX (E : String) (sh : List (Nat × Nat)) (P : (Nat → Int → Int) → (Nat → Int → Option Nat) → Prop) : jzO → jzH → Prop := fun o h => ∃ I' F', o = .inr E ∧ h = (sh, I', F') ∧ P I' F'
/-- the model when a text has been read: the tape is empty, where a fault is, what is remembered -/
def mzK (M : Nat → Int → Int) (w : Int → Int) (f r : Int) : Nat → Int → Int := fun a => if a = 171 then w else if a = 170 then wup (wup (wup (M 170) 9 0) 14 f) 7 r else M a
theorem mzK_171 {M : Nat → Int → Int} {w : Int → Int} {f r : Int} : mzK M w f r 171 = w := rfl
theorem mzK_7 {M : Nat → Int → Int} {w : Int → Int} {f r : Int} : mzK M w f r 170 7 = r := rfl
theorem mzK_9 {M : Nat → Int → Int} {w : Int → Int} {f r : Int} : mzK M w f r 170 9 = 0 := rfl
theorem mzK_14 {M : Nat → Int → Int} {w : Int → Int} {f r : Int} : mzK M w f r 170 14 = f := rfl
theorem mzK_6 {M : Nat → Int → Int} {w : Int → Int} {f r : Int} : mzK M w f r 170 6 = M 170 6 := rfl
theorem mzK_o {M : Nat → Int → Int} {w : Int → Int} {f r : Int} {a : Nat} (h : a ≠ 170) (h1 : a ≠ 171) : mzK M w f r a = M a := by unfold mzK; rw [if_neg h1, if_neg h]
theorem CR_K {sh : List (Nat × Nat)} {I J M : Nat → Int → Int} {F F' : Nat → Int → Option Nat} {w : Int → Int} {f r : Int} (h : CR sh I F M) (hs : Sr sh J F' 2 w) (h0 : J 0 6 = I 0 6) (h01 : J 0 1 = 0) (h02 : J 0 2 = f) (h1 : J 1 = I 1) (h22 : ∀ a, 22 ≤ a → a < 154 → a ≠ 32 → J a = I a) (h185 : ∀ a, 185 ≤ a → J a = I a) (hF : ∀ s v, 22 ≤ s → Sr sh I F s v → Sr sh I F' s v) (h32 : J 32 1 = r) (h322 : J 32 2 = I 32 2) (hr : (r = M 170 7 ∧ w = M 171) ∨ r = 0) : CR sh J F' (mzK M w f r) := by
  obtain ⟨a1, a2, a3, ⟨m1, m2, m3, m4⟩, t1, t2, t3, t4⟩ := h
  refine ⟨hs, by rw [mzK_6, h0]; exact a2, fun q => ?_, ⟨by rw [mzK_7]; exact h32, by rw [mzK_7]; omega, by rw [h322]; exact m3, fun j j0 j1 => ?_⟩, by rw [mzK_9]; exact h01, by rw [mzK_9]; omega, by rw [mzK_14]; exact h02, ?_⟩
  · rw [mzK_6] at q
    rw [mzK_o (by decide) (by decide)]
    exact Sr_fr (hF 22 _ (by decide) (a3 q)) (fun a b0 b1 => h22 a (by omega) (by omega) (by omega)) h185
  · rw [mzK_7] at j1 ⊢
    rcases hr with ⟨hr, hw⟩ | hr
    · rw [hr] at j1 ⊢
      rw [h322]
      have e : mRow (mzK M w f (M 170 7)) j = mRow M j := by unfold mRow; rw [mzK_171, mzK_o (a := 175) (by decide) (by decide), hw]
      rw [e]
      have hp : mPl ((I 32 2 + 12 - M 170 7 + j) % 12) = 34 + 10 * ((I 32 2 + 12 - M 170 7 + j) % 12).toNat := rfl
      exact Sr_fr (hF _ _ (by omega) (m4 j j0 j1)) (fun a b0 b1 => h22 a (by omega) (by omega) (by omega)) h185
    · omega
  · rw [h1, mzK_o (by decide) (by decide)]; exact t4
theorem MI_K {b : Int} {M : Nat → Int → Int} {w : Int → Int} {f r : Int} (h : MI b M) (hw : OKw b w) (hr : (r = M 170 7 ∧ w = M 171) ∨ r = 0) : MI b (mzK M w f r) := by
  obtain ⟨h1, h2, h3, h4, h5⟩ := h
  refine ⟨hw, h2, fun q => by rw [mzK_o (by decide) (by decide)]; exact h3 q, by rw [mzK_7]; omega, fun j j0 j1 => ?_⟩
  rw [mzK_7] at j1
  rcases hr with ⟨hr, hw2⟩ | hr
  · have e : mRow (mzK M w f r) j = mRow M j := by unfold mRow; rw [mzK_171, mzK_o (a := 175) (by decide) (by decide), hw2]
    rw [e]
    exact h5 j j0 (by omega)
  · omega
section
variable {G : jzG} {d : Nat} {sh : List (Nat × Nat)} {I M : Nat → Int → Int} {F : Nat → Int → Option Nat} {B : Int → Int} {n : Int} {w : Int → Int}
theorem st_open (hsh : ShOK sh) (hfx : FxOK F) (hn : 0 ≤ n ∧ n ≤ 400) : jS G (d + 2) mX10_open [jR (some 154), jR (some 1), jI n] (sh, I, F) 0 0 (rEV sh F (fun J => Tx J (I 1) n (lxB (I 1) n 0) ∧ ∀ a, a ≠ 154 → a ≠ 155 → J a = I a)) := by
  refine jS_go [some (jR (some 154)), some (jR (some 1)), some (jI n)] (by decide +kernel) rfl (by simp [jone]) (Nat.le_of_ble_eq_true rfl) rfl (fun hok => ?_)
  obtain ⟨K, hK⟩ : ∃ K, K = jup (jcp (jup I 154 1 n) 1 0 155 0 n) 154 2 0 := ⟨_, rfl⟩
  have k1 : K 154 1 = n := by rw [hK, jup_row _ _ _ (by decide), jcp_ne (by decide), jup_same]
  have k2 : K 154 2 = 0 := by rw [hK, jup_same]
  have kB : ∀ k, 0 ≤ k → k < n → K 155 k = I 1 k := fun k k0 k1 => by rw [hK, jup_ne _ _ _ (by decide), jcp_in k0 k1, jup_ne _ _ _ (by decide)]
  have kf : ∀ a, a ≠ 154 → a ≠ 155 → K a = I a := fun a x0 x1 => by rw [hK, jup_ne _ _ _ x0, jcp_ne x1, jup_ne _ _ _ x0]
  have ss := st_step (G := G) (d := d) (F := F) (B := I 1) hsh hfx k1 k2 (by omega) hn.2 kB
  have q28 : jup I 154 1 n 154 1 = n := jup_same _ _ _ _
  refine j_aload_n dX10_open_0 rfl ?_
  refine j_iconst dX10_open_1 ?_
  refine j_iload_n dX10_open_2 rfl ?_
  refine j_aload_n dX10_open_3 rfl ?_
  refine r_alen dX10_open_4 (by first | assumption | exact hsh _ _ rfl) ?_
  refine j_sipush dX10_open_5 (by decide) ?_
  refine r_min dX10_open_8 lmX10_15 (Nat.le_of_ble_eq_true rfl) (by first | omega | (split <;> omega)) (by first | omega | (split <;> omega)) ?_
  refine r_min dX10_open_11 lmX10_15 (Nat.le_of_ble_eq_true rfl) (by first | omega | (split <;> omega)) (by first | omega | (split <;> omega)) ?_
  refine r_max dX10_open_14 lmX10_21 (Nat.le_of_ble_eq_true rfl) (by first | omega | (split <;> omega)) (by first | omega | (split <;> omega)) ?_
  rw [show max 0 (min n (min ((400 : Nat) : Int) 400)) = n by omega]
  refine r_putI dX10_open_17 flX10_24 rfl (by first | assumption | exact hsh _ _ rfl) (by first | omega | (split <;> omega)) (fun q => by cases q) ?_
  refine j_aload_n dX10_open_20 rfl ?_
  refine j_iconst dX10_open_21 ?_
  refine j_aload_n dX10_open_22 rfl ?_
  refine r_getS dX10_open_23 flX10_9 (by first | assumption | exact hsh _ _ rfl) (fx_154_0 hfx) ?_
  refine j_iconst dX10_open_26 ?_
  refine j_aload_n dX10_open_27 rfl ?_
  refine r_getIE dX10_open_28 flX10_24 (by first | assumption | exact hsh _ _ rfl) q28 (fun b_28 => ?_)
  refine r_copy dX10_open_31 lmX10_28 (by first | assumption | exact hsh _ _ rfl) (by first | assumption | exact hsh _ _ rfl) (by first | omega | (split <;> omega)) (by first | omega | (split <;> omega)) (by first | omega | (split <;> omega)) (by first | omega | (split <;> omega)) (by first | omega | (split <;> omega)) (Nat.le_of_ble_eq_true rfl) ?_
  refine j_aload_n dX10_open_34 rfl ?_
  refine j_iconst dX10_open_35 ?_
  refine r_putI dX10_open_36 flX10_34 rfl (by first | assumption | exact hsh _ _ rfl) (by first | omega | (split <;> omega)) (fun q => by cases q) ?_
  rw [← hK]
  refine j_aload_n dX10_open_39 rfl ?_
  refine r_cv0EV dX10_open_40 cvX10_37 (by decide) (by first | assumption | exact hsh _ _ rfl) (Nat.le_of_ble_eq_true rfl) (Nat.le_of_eq (Nat.zero_add _)) (Nat.le_of_eq (Nat.zero_add _)) (ss) (fun L hL => ?_)
  refine j_vret dX10_open_43 rfl ?_
  exact rEV_of ⟨hL.1, fun a x0 x1 => (hL.2 a x0).trans (kf a x0 x1)⟩
theorem sc_forget (hsh : ShOK sh) : jS G d mX8_forget [jR (some 32)] (sh, I, F) 0 0 (rV (sh, jup I 32 1 0, F)) := by
  refine jS_go [some (jR (some 32))] (by decide +kernel) rfl (by simp [jone]) (Nat.le_of_ble_eq_true rfl) rfl (fun hok => ?_)
  refine j_aload_n dX8_forget_0 rfl ?_
  refine j_iconst dX8_forget_1 ?_
  refine r_putI dX8_forget_2 flX8_26 rfl (by first | assumption | exact hsh _ _ rfl) (by first | omega | (split <;> omega)) (fun q => by cases q) ?_
  refine j_vret dX8_forget_5 rfl ?_
  exact rV_of rfl
/-- as far as the text has been read -/
theorem cp_bank_p {b : Int} (hP : Pl sh F) (hC : CR sh I F M) (hw : M 171 = w) (hW : OKw b w) {Q : jzO → jzH → Prop} {rc rs : Nat} (k : ∀ J : Nat → Int → Int, bCl J (I 1) (M 170 9) (bTxt (I 1) (M 170 9) w (lxB (I 1) (M 170 9) 0)) J → Rp J 2 w → J 12 16 = w 9 → J 0 1 = 0 → (∀ k, k ≠ 1 → J 0 k = I 0 k) → (∀ a, a ≠ 0 → (a < 12 ∨ 19 < a) → a ≠ 154 → a ≠ 155 → J a = I a) → jW G mX11_bank (d + 9) Q 42 [some (jR (some 0)), none] [jI (bTxt (I 1) (M 170 9) w (lxB (I 1) (M 170 9) 0)).1] (sh, J, jup F 12 18 (F 2 18)) rc rs) : jW G mX11_bank (d + 9) Q 0 [some (jR (some 0)), none] [] (sh, I, F) rc rs := by
  obtain ⟨hsh, hfx, hmm, hst, h12, h22⟩ := id hP
  have hS := hC.1
  rw [hw] at hS
  have hR : Rp I 2 w := hS.1
  obtain ⟨t1, t2, t3, t4⟩ := hC.2.2.2.2
  generalize hn : M 170 9 = n at *
  have h17 : I 2 17 = 0 ∨ I 2 17 = 1 := by rw [hR.2.2.2.2.2.2.2.2.2.2.2.2.2]; exact hW.1.2.2.2.1
  have hfx2 : FxOK (jup F 12 18 (F 2 18)) := FxOK_F hfx
  have h122 : StAt sh (jup F 12 18 (F 2 18)) 12 := StAt_F h12
  have stk : ∀ J : Nat → Int → Int, (∀ a, a ≠ 154 → a ≠ 155 → J a = I a) → (jup J 0 1 0) 2 17 = 0 ∨ (jup J 0 1 0) 2 17 = 1 := fun J hJ => by rw [jup_ne _ _ _ (by decide), hJ 2 (by decide) (by decide)]; exact h17
  refine j_aload_n dX11_bank_0 rfl ?_
  refine r_getS dX11_bank_1 flX11_40 (by first | assumption | exact hsh _ _ rfl) (fx_0_8 hfx) ?_
  refine j_aload_n dX11_bank_4 rfl ?_
  refine r_getS dX11_bank_5 flX11_9 (by first | assumption | exact hsh _ _ rfl) (fx_0_0 hfx) ?_
  refine j_aload_n dX11_bank_8 rfl ?_
  refine r_getIE dX11_bank_9 flX11_65 (by first | assumption | exact hsh _ _ rfl) t1 (fun b_9 => ?_)
  refine r_cv2EV dX11_bank_12 cvX11_72 (by decide) (by first | assumption | exact hsh _ _ rfl) (Nat.le_of_ble_eq_true rfl) (Nat.le_of_eq (Nat.zero_add _)) (Nat.le_of_eq (Nat.zero_add _)) (st_open (d := d + 6) hsh hfx t2) (fun J hJ => ?_)
  refine j_aload_n dX11_bank_15 rfl ?_
  refine j_iconst dX11_bank_16 ?_
  refine r_putI dX11_bank_17 flX11_65 rfl (by first | assumption | exact hsh _ _ rfl) (by first | omega | (split <;> omega)) (fun q => by cases q) ?_
  refine j_aload_n dX11_bank_20 rfl ?_
  refine r_getS dX11_bank_21 flX11_24 (by first | assumption | exact hsh _ _ rfl) (fx_0_4 hfx) ?_
  refine j_aload_n dX11_bank_24 rfl ?_
  refine r_getS dX11_bank_25 flX11_20 (by first | assumption | exact hsh _ _ rfl) (fx_0_3 hfx) ?_
  refine r_cv1GV dX11_bank_28 cvX11_76 (by decide) (by first | assumption | exact hsh _ _ rfl) (Nat.le_of_ble_eq_true rfl) (Nat.le_of_eq (Nat.zero_add _)) (Nat.le_of_eq (Nat.zero_add _)) (sc_takeFrom h12 hst (Or.inr (by decide)) (stk J hJ.2)) (fun K hK => ?_)
  have hfx := hfx2
  have fK : ∀ a, a ≠ 0 → (a < 12 ∨ 19 < a) → a ≠ 154 → a ≠ 155 → K a = I a := fun a x0 x1 x2 x3 => by rw [hK.2.2.2.2 a (by omega), jup_ne _ _ _ x0, hJ.2 a x2 x3]
  have f0 : K 0 = wup (J 0) 1 0 := by rw [hK.2.2.2.2 0 (by decide), jup_at]
  have hTK : Tx K (I 1) n (lxB (I 1) n 0) := Tx_fr hJ.1 (by rw [hK.2.2.2.2 154 (by decide), jup_ne _ _ _ (by decide)]) (by rw [hK.2.2.2.2 155 (by decide), jup_ne _ _ _ (by decide)])
  have hR2 : Rp (jup J 0 1 0) 2 w := Rp_fr hR (fun a a0 a1 => by rw [jup_ne _ _ _ (by omega), hJ.2 a (by omega) (by omega)])
  have hRK : Rp K 12 w := TkO_Rp hK hR2
  have h16 : K 12 16 = w 9 := by rw [hK.1 16 (by decide) (by decide) (by decide), jup_ne _ _ _ (by decide), hJ.2 2 (by decide) (by decide)]; exact hS.2.2.1
  refine j_aload_n dX11_bank_31 rfl ?_
  refine r_getS dX11_bank_32 flX11_40 (by first | assumption | exact hsh _ _ rfl) (fx_0_8 hfx) ?_
  refine j_aload_n dX11_bank_35 rfl ?_
  refine r_getS dX11_bank_36 flX11_24 (by first | assumption | exact hsh _ _ rfl) (fx_0_4 hfx) ?_
  refine r_cs2EI dX11_bank_39 csX11_80 (Nat.le_of_ble_eq_true rfl) (Nat.le_of_eq (Nat.zero_add _)) (Nat.le_of_eq (Nat.zero_add _)) (sb_read (d := d) hsh hfx2 h122 hTK hRK hW) (fun L hL => ?_)
  refine k L ⟨hL.1, hL.2.1, ⟨fun _ _ _ => rfl, rfl⟩⟩ (Rp_fr hR (fun a a0 a1 => by rw [hL.2.2.1 a (by omega) (by omega), fK a (by omega) (by omega) (by omega) (by omega)])) (hL.2.2.2.trans h16) ?_ (fun k hk => ?_) (fun a x0 x1 x2 x3 => (hL.2.2.1 a x1 x2).trans (fK a x0 x1 x2 x3))
  · rw [hL.2.2.1 0 (by decide) (by decide), f0, wup_same]
  · rw [hL.2.2.1 0 (by decide) (by decide), f0, wup_ne _ _ hk, hJ.2 0 (by decide) (by decide)]
theorem cp_bank_1 {b : Int} (hP : Pl sh F) (hC : CR sh I F M) (hw : M 171 = w) (hW : OKw b w) {R : bR} (hR : bTxt (I 1) (M 170 9) w (lxB (I 1) (M 170 9) 0) = R) (h0 : R.1 = 0) : jS G (d + 9) mX11_bank [jR (some 0)] (sh, I, F) 1 6 (rHX xIae sh (CaO sh I (mzK M w R.2.1 (M 170 7)))) := by
  obtain ⟨hsh, hfx, hmm, hst, h12, h22⟩ := id hP
  refine jS_go [some (jR (some 0)), none] (by decide +kernel) rfl (by simp [jone]) (Nat.le_of_ble_eq_true rfl) rfl (fun hok => ?_)
  refine cp_bank_p hP hC hw hW (fun J hJ hRJ h16 j01 j0k jf => ?_)
  rw [hR] at hJ ⊢
  rw [h0]
  have hfx2 : FxOK (jup F 12 18 (F 2 18)) := FxOK_F hfx
  have hfx := hfx2
  have t4 := hJ.1.2.2.2.1
  have hS := hC.1
  obtain ⟨c1, c2, c3, ⟨m1, m2⟩, t⟩ := id hC
  have hS2 : Sr sh (jup J 0 2 R.2.1) (jup F 12 18 (F 2 18)) 2 w := Sr_F (by decide) (Sr_fr (by rw [← hw]; exact hS) (fun a a0 a1 => by rw [jup_ne _ _ _ (by omega), jf a (by omega) (by omega) (by omega) (by omega)]) (fun a ha => by rw [jup_ne _ _ _ (by omega), jf a (by omega) (by omega) (by omega) (by omega)]))
  have hCR : CR sh (jup J 0 2 R.2.1) (jup F 12 18 (F 2 18)) (mzK M w R.2.1 (M 170 7)) := CR_K hC hS2 (by rw [jup_row _ _ _ (by decide), j0k 6 (by decide)]) (by rw [jup_row _ _ _ (by decide)]; exact j01) (jup_same _ _ _ _) (by rw [jup_ne _ _ _ (by decide), jf 1 (by decide) (by decide) (by decide) (by decide)]) (fun a a0 a1 a2 => by rw [jup_ne _ _ _ (by omega), jf a (by omega) (by omega) (by omega) (by omega)]) (fun a ha => by rw [jup_ne _ _ _ (by omega), jf a (by omega) (by omega) (by omega) (by omega)]) (fun s v hs h => Sr_F (by omega) h) (by rw [jup_ne _ _ _ (by decide), jf 32 (by decide) (by decide) (by decide) (by decide)]; exact m1) (by rw [jup_ne _ _ _ (by decide), jf 32 (by decide) (by decide) (by decide) (by decide)]) (Or.inl ⟨rfl, hw.symm⟩)
  refine j_istore_n dX11_bank_42 (by decide) ?_
  refine j_aload_n dX11_bank_43 rfl ?_
  refine j_iload_n dX11_bank_44 rfl ?_
  refine j_if_eq (tgt := 52) dX11_bank_45 rfl (by first | omega | (split <;> omega)) (fun c_45 => ?_) (fun c_45 => by exact absurd rfl c_45)
  refine j_aload_n dX11_bank_52 rfl ?_
  refine r_getS dX11_bank_53 flX11_40 (by first | assumption | exact hsh _ _ rfl) (fx_0_8 hfx) ?_
  refine r_getIE dX11_bank_56 flX11_86 (by first | assumption | exact hsh _ _ rfl) t4 (fun b_56 => ?_)
  refine r_putI dX11_bank_59 flX11_13 rfl (by first | assumption | exact hsh _ _ rfl) (by first | omega | (split <;> omega)) (fun q => by cases q) ?_
  refine j_iload_n dX11_bank_62 rfl ?_
  refine j_if_ne (tgt := 76) dX11_bank_63 rfl (by first | omega | (split <;> omega)) (fun c_63 => by exact absurd rfl c_63) (fun c_63 => ?_)
  exact j_throw dX11_bank_66 dX11_bank_69 dX11_bank_70 dX11_bank_72 dX11_bank_75 rfl th_text (⟨_, _, rfl, rfl, Pl_F hP, hCR, fun a ha => by rw [jup_ne _ _ _ (by omega), jf a (by omega) (by omega) (by omega) (by omega)]⟩)
theorem cp_bank_2 {b : Int} (hP : Pl sh F) (hC : CR sh I F M) (hw : M 171 = w) (hW : OKw b w) {R : bR} (hR : bTxt (I 1) (M 170 9) w (lxB (I 1) (M 170 9) 0) = R) (h0 : R.1 = 1) (h12t : w 1 = 12) : jS G (d + 9) mX11_bank [jR (some 0)] (sh, I, F) 1 6 (rHX xUoe sh (CaO sh I (mzK M w (-1) (M 170 7)))) := by
  obtain ⟨hsh, hfx, hmm, hst, h12, h22⟩ := id hP
  refine jS_go [some (jR (some 0)), none] (by decide +kernel) rfl (by simp [jone]) (Nat.le_of_ble_eq_true rfl) rfl (fun hok => ?_)
  refine cp_bank_p hP hC hw hW (fun J hJ hRJ h16 j01 j0k jf => ?_)
  rw [hR] at hJ ⊢
  rw [h0]
  have hfx2 : FxOK (jup F 12 18 (F 2 18)) := FxOK_F hfx
  have hfx := hfx2
  have hS := hC.1
  obtain ⟨c1, c2, c3, ⟨m1, m2⟩, t⟩ := id hC
  have q15 : jup J 0 2 (-1) 2 15 = w 1 := by rw [jup_ne _ _ _ (by decide)]; exact hRJ.2.2.2.2.2.2.2.2.2.2.2.1
  have hS2 : Sr sh (jup J 0 2 (-1)) (jup F 12 18 (F 2 18)) 2 w := Sr_F (by decide) (Sr_fr (by rw [← hw]; exact hS) (fun a a0 a1 => by rw [jup_ne _ _ _ (by omega), jf a (by omega) (by omega) (by omega) (by omega)]) (fun a ha => by rw [jup_ne _ _ _ (by omega), jf a (by omega) (by omega) (by omega) (by omega)]))
  have hCR : CR sh (jup J 0 2 (-1)) (jup F 12 18 (F 2 18)) (mzK M w (-1) (M 170 7)) := CR_K hC hS2 (by rw [jup_row _ _ _ (by decide), j0k 6 (by decide)]) (by rw [jup_row _ _ _ (by decide)]; exact j01) (jup_same _ _ _ _) (by rw [jup_ne _ _ _ (by decide), jf 1 (by decide) (by decide) (by decide) (by decide)]) (fun a a0 a1 a2 => by rw [jup_ne _ _ _ (by omega), jf a (by omega) (by omega) (by omega) (by omega)]) (fun a ha => by rw [jup_ne _ _ _ (by omega), jf a (by omega) (by omega) (by omega) (by omega)]) (fun s v hs h => Sr_F (by omega) h) (by rw [jup_ne _ _ _ (by decide), jf 32 (by decide) (by decide) (by decide) (by decide)]; exact m1) (by rw [jup_ne _ _ _ (by decide), jf 32 (by decide) (by decide) (by decide) (by decide)]) (Or.inl ⟨rfl, hw.symm⟩)
  refine j_istore_n dX11_bank_42 (by decide) ?_
  refine j_aload_n dX11_bank_43 rfl ?_
  refine j_iload_n dX11_bank_44 rfl ?_
  refine j_if_eq (tgt := 52) dX11_bank_45 rfl (by first | omega | (split <;> omega)) (fun c_45 => by exact absurd c_45 (by decide)) (fun c_45 => ?_)
  refine j_iconst dX11_bank_48 ?_
  refine j_goto (tgt := 59) dX11_bank_49 rfl ?_
  refine r_putI dX11_bank_59 flX11_13 rfl (by first | assumption | exact hsh _ _ rfl) (by first | omega | (split <;> omega)) (fun q => by cases q) ?_
  refine j_iload_n dX11_bank_62 rfl ?_
  refine j_if_ne (tgt := 76) dX11_bank_63 rfl (by first | omega | (split <;> omega)) (fun c_63 => ?_) (fun c_63 => by exact absurd (by decide) c_63)
  refine j_aload_n dX11_bank_76 rfl ?_
  refine r_getS dX11_bank_77 flX11_20 (by first | assumption | exact hsh _ _ rfl) (fx_0_3 hfx) ?_
  refine r_getIE dX11_bank_80 flX11_96 (by first | assumption | exact hsh _ _ rfl) q15 (fun b_80 => ?_)
  refine j_bipush dX11_bank_83 (by decide) ?_
  refine j_icmp_lt (tgt := 98) dX11_bank_85 rfl (by first | omega | (split <;> omega)) (by first | omega | (split <;> omega)) (fun c_85 => by exact absurd c_85 (by omega)) (fun c_85 => ?_)
  exact j_throw dX11_bank_88 dX11_bank_91 dX11_bank_92 dX11_bank_94 dX11_bank_97 rfl th_many (⟨_, _, rfl, rfl, Pl_F hP, hCR, fun a ha => by rw [jup_ne _ _ _ (by omega), jf a (by omega) (by omega) (by omega) (by omega)]⟩)
theorem cp_bank_0 {b : Int} (hP : Pl sh F) (hC : CR sh I F M) (hw : M 171 = w) (hW : OKw b w) {R : bR} (hR : bTxt (I 1) (M 170 9) w (lxB (I 1) (M 170 9) 0) = R) (h0 : R.1 = 1) (h12t : ¬ w 1 = 12) : jS G (d + 9) mX11_bank [jR (some 0)] (sh, I, F) 0 0 (rHI (w 1 + 1) sh (CaO sh I (mzK M (wup R.2.2 1 (w 1 + 1)) (-1) 0))) := by
  obtain ⟨hsh, hfx, hmm, hst, h12, h22⟩ := id hP
  have hq : lxB (I 1) (M 170 9) 0 ≤ M 170 9 := (lx_le (B := I 1) (n := M 170 9) (lo := 32) (hi := 32) (p := 0) hC.2.2.2.2.2.1.1).2
  have hok2 := bTxt_ok (B := I 1) (n := M 170 9) hW hq
  rw [hR] at hok2
  have ht := hW.2.2.1
  refine jS_go [some (jR (some 0)), none] (by decide +kernel) rfl (by simp [jone]) (Nat.le_of_ble_eq_true rfl) rfl (fun hok => ?_)
  refine cp_bank_p hP hC hw hW (fun J hJ hRJ h16 j01 j0k jf => ?_)
  rw [hR] at hJ ⊢
  rw [h0]
  have hfx2 : FxOK (jup F 12 18 (F 2 18)) := FxOK_F hfx
  have hfx3 : FxOK (jup (jup F 12 18 (F 2 18)) 2 18 (jup F 12 18 (F 2 18) 12 18)) := FxOK_F hfx2
  have hst2 : StAt sh (jup F 12 18 (F 2 18)) 2 := StAt_F hst
  have h122 : StAt sh (jup F 12 18 (F 2 18)) 12 := StAt_F h12
  have hfx := hfx2
  have hS := hC.1
  rw [hw] at hS
  obtain ⟨c1, c2, c3, ⟨m1, m2⟩, t⟩ := id hC
  have q15 : jup J 0 2 (-1) 2 15 = w 1 := by rw [jup_ne _ _ _ (by decide)]; exact hRJ.2.2.2.2.2.2.2.2.2.2.2.1
  have r17 : jup J 0 2 (-1) 12 17 = 0 ∨ jup J 0 2 (-1) 12 17 = 1 := by rw [jup_ne _ _ _ (by decide), hJ.2.1.2.2.2.2.2.2.2.2.2.2.2.2.2, hok2.2.1 8 (by decide)]; exact hW.1.2.2.2.1
  have hR12 : Rp (jup J 0 2 (-1)) 12 R.2.2 := Rp_fr hJ.2.1 (fun a a0 a1 => jup_ne _ _ _ (by omega))
  have fin : ∀ K : Nat → Int → Int, TkO (jup J 0 2 (-1)) 2 12 K → jW G mX11_bank (d + 9) (rHI (w 1 + 1) sh (CaO sh I (mzK M (wup R.2.2 1 (w 1 + 1)) (-1) 0))) 109 [some (jR (some 0)), some (jI 1)] [] (sh, K, jup (jup F 12 18 (F 2 18)) 2 18 (jup F 12 18 (F 2 18) 12 18)) 0 0 := by
    intro K hK
    have hfx := hfx3
    have RK : Rp K 2 R.2.2 := TkO_Rp hK hR12
    have k15 : K 2 15 = w 1 := by rw [RK.2.2.2.2.2.2.2.2.2.2.2.1]; exact hok2.2.1 1 (by decide)
    have RK2 : Rp (jup K 2 15 (w 1 + 1)) 2 (wup R.2.2 1 (w 1 + 1)) := Rp_fld RK (by omega)
    obtain ⟨L, hL⟩ : ∃ L, L = jup (jup K 2 15 (w 1 + 1)) 32 1 0 := ⟨_, rfl⟩
    have l15 : L 2 15 = w 1 + 1 := by rw [hL, jup_ne _ _ _ (by decide), jup_same]
    have lf : ∀ a, (a < 2 ∨ 9 < a) → a ≠ 32 → L a = jup J 0 2 (-1) a := fun a a0 a1 => by rw [hL, jup_ne _ _ _ a1, jup_ne _ _ _ (by omega), hK.2.2.2.2 a (by omega)]
    have lf2 : ∀ a, a ≠ 0 → (a < 2 ∨ 9 < a) → (a < 12 ∨ 19 < a) → a ≠ 32 → a ≠ 154 → a ≠ 155 → L a = I a := fun a x0 x1 x2 x3 x4 x5 => by rw [lf a x1 x3, jup_ne _ _ _ x0, jf a x0 x2 x4 x5]
    have wo : ∀ k, (k < 0 ∨ 180 ≤ k ∨ (2 ≤ k ∧ k ≤ 3) ∨ (8 ≤ k ∧ k < 12)) → wup R.2.2 1 (w 1 + 1) k = w k := fun k hk => by rw [wup_ne _ _ (by omega)]; exact hok2.2.1 k (by omega)
    have hSL : Sr sh L (jup (jup F 12 18 (F 2 18)) 2 18 (jup F 12 18 (F 2 18) 12 18)) 2 (wup R.2.2 1 (w 1 + 1)) := by
      refine ⟨Rp_fr RK2 (fun a a0 a1 => by rw [hL, jup_ne _ _ _ (by omega)]), Lg_w (Lg_fr hS.2.1 (lf2 _ (by decide) (by decide) (by decide) (by decide) (by decide) (by decide)) (lf2 _ (by decide) (by decide) (by decide) (by decide) (by decide) (by decide))) (fun k hk => wo k (by omega)), ?_, ?_⟩
      · rw [hL, jup_ne _ _ _ (by decide), jup_row _ _ _ (by decide), hK.1 16 (by decide) (by decide) (by decide), jup_ne _ _ _ (by decide), wo 9 (by decide)]; exact h16
      · exact LwR_tk (LwR_tk (LwR_w (LwR_fr hS.2.2.2 (fun a ha => lf2 a (by omega) (by omega) (by omega) (by omega) (by omega) (by omega))) (wo 2 (by decide)) (fun k hk => wo k (by omega))))
    have hCR : CR sh L (jup (jup F 12 18 (F 2 18)) 2 18 (jup F 12 18 (F 2 18) 12 18)) (mzK M (wup R.2.2 1 (w 1 + 1)) (-1) 0) := CR_K hC hSL (by rw [lf 0 (by decide) (by decide), jup_row _ _ _ (by decide), j0k 6 (by decide)]) (by rw [lf 0 (by decide) (by decide), jup_row _ _ _ (by decide)]; exact j01) (by rw [lf 0 (by decide) (by decide), jup_same]) (lf2 1 (by decide) (by decide) (by decide) (by decide) (by decide) (by decide)) (fun a a0 a1 a2 => lf2 a (by omega) (by omega) (by omega) (by omega) (by omega) (by omega)) (fun a ha => lf2 a (by omega) (by omega) (by omega) (by omega) (by omega) (by omega)) (fun s v hs h => Sr_F (by omega) (Sr_F (by omega) h)) (by rw [hL, jup_same]) (by rw [hL, jup_row _ _ _ (by decide), jup_ne _ _ _ (by decide), hK.2.2.2.2 32 (by decide), jup_ne _ _ _ (by decide), jf 32 (by decide) (by decide) (by decide) (by decide)]) (Or.inr rfl)
    refine j_aload_n dX11_bank_109 rfl ?_
    refine r_getS dX11_bank_110 flX11_20 (by first | assumption | exact hsh _ _ rfl) (fx_0_3 hfx) ?_
    refine j_dup dX11_bank_113 trivial ?_
    refine r_getIE dX11_bank_114 flX11_96 (by first | assumption | exact hsh _ _ rfl) k15 (fun b_114 => ?_)
    refine j_iconst dX11_bank_117 ?_
    refine j_iadd dX11_bank_118 ?_
    refine r_putI dX11_bank_119 flX11_96 rfl (by first | assumption | exact hsh _ _ rfl) (by first | omega | (split <;> omega)) (fun q => by cases q) ?_
    refine j_aload_n dX11_bank_122 rfl ?_
    refine r_getS dX11_bank_123 flX11_33 (by first | assumption | exact hsh _ _ rfl) (fx_0_7 hfx) ?_
    refine r_cv0V dX11_bank_126 cvX11_104 (by decide) (by first | assumption | exact hsh _ _ rfl) (Nat.le_of_ble_eq_true rfl) (Nat.le_of_eq (Nat.zero_add _)) (Nat.le_of_eq (Nat.zero_add _)) (sc_forget hsh) ?_
    rw [← hL]
    refine j_aload_n dX11_bank_129 rfl ?_
    refine r_getS dX11_bank_130 flX11_20 (by first | assumption | exact hsh _ _ rfl) (fx_0_3 hfx) ?_
    refine r_getIE dX11_bank_133 flX11_96 (by first | assumption | exact hsh _ _ rfl) l15 (fun b_133 => ?_)
    refine j_iret dX11_bank_136 rfl ?_
    exact ⟨_, _, rfl, rfl, Pl_F (Pl_F hP), hCR, fun a ha => lf2 a (by omega) (by omega) (by omega) (by omega) (by omega) (by omega)⟩
  refine j_istore_n dX11_bank_42 (by decide) ?_
  refine j_aload_n dX11_bank_43 rfl ?_
  refine j_iload_n dX11_bank_44 rfl ?_
  refine j_if_eq (tgt := 52) dX11_bank_45 rfl (by first | omega | (split <;> omega)) (fun c_45 => by exact absurd c_45 (by decide)) (fun c_45 => ?_)
  refine j_iconst dX11_bank_48 ?_
  refine j_goto (tgt := 59) dX11_bank_49 rfl ?_
  refine r_putI dX11_bank_59 flX11_13 rfl (by first | assumption | exact hsh _ _ rfl) (by first | omega | (split <;> omega)) (fun q => by cases q) ?_
  refine j_iload_n dX11_bank_62 rfl ?_
  refine j_if_ne (tgt := 76) dX11_bank_63 rfl (by first | omega | (split <;> omega)) (fun c_63 => ?_) (fun c_63 => by exact absurd (by decide) c_63)
  refine j_aload_n dX11_bank_76 rfl ?_
  refine r_getS dX11_bank_77 flX11_20 (by first | assumption | exact hsh _ _ rfl) (fx_0_3 hfx) ?_
  refine r_getIE dX11_bank_80 flX11_96 (by first | assumption | exact hsh _ _ rfl) q15 (fun b_80 => ?_)
  refine j_bipush dX11_bank_83 (by decide) ?_
  refine j_icmp_lt (tgt := 98) dX11_bank_85 rfl (by first | omega | (split <;> omega)) (by first | omega | (split <;> omega)) (fun c_85 => ?_) (fun c_85 => by exact absurd (by omega) c_85)
  refine j_aload_n dX11_bank_98 rfl ?_
  refine r_getS dX11_bank_99 flX11_20 (by first | assumption | exact hsh _ _ rfl) (fx_0_3 hfx) ?_
  refine j_aload_n dX11_bank_102 rfl ?_
  refine r_getS dX11_bank_103 flX11_24 (by first | assumption | exact hsh _ _ rfl) (fx_0_4 hfx) ?_
  refine r_cv1GV dX11_bank_106 cvX11_76 (by decide) (by first | assumption | exact hsh _ _ rfl) (Nat.le_of_ble_eq_true rfl) (Nat.le_of_eq (Nat.zero_add _)) (Nat.le_of_eq (Nat.zero_add _)) (sc_takeFrom hst2 h122 (Or.inl (by decide)) r17) (fun K hK => ?_)
  exact fin K hK
/-- the model gives up a text -/
theorem mp_bank_r (hsh : ShOK sh) (hfx : FxOK F) (hok : jzok (sh, I, F)) {c f : Int} {L0 : Nat → Int → Int} (l0 : L0 170 0 = c) (l14 : L0 170 14 = f) (l9 : L0 170 9 = 0) (lk : ∀ k, k ≠ 0 → k ≠ 9 → k ≠ 10 → k ≠ 11 → k ≠ 12 → k ≠ 14 → k ≠ 16 → L0 170 k = I 170 k) (la : ∀ a, a ≠ 170 → a ≠ 171 → a ≠ 173 → L0 a = I a) (l173 : ∀ k, 0 ≤ k → k < 1269 → L0 173 k = I 171 k) (l171 : ∀ k, k < 0 ∨ 180 ≤ k → L0 171 k = I 171 k) : ∀ (m : Nat) (z : Int) (L : Nat → Int → Int) (x : Int), z + m = 1269 → 0 ≤ z → L 171 = mCpy (L0 171) (I 171) z → (∀ a, a ≠ 171 → L a = L0 a) → jW G mX12_bank d (rEI 0 sh F (AcO c I (mzK I (I 171) f (I 170 7)))) 92 [some (jR (some 170)), some (jI x), some (jI z)] [] (sh, L, F) 0 0 := by
  intro m
  induction m with
  | zero =>
    intro z L x hz hz0 h171 hfr
    have e : L 171 = I 171 := by
      rw [h171, show z = 1269 by omega]
      funext k
      unfold mCpy
      by_cases c : 0 ≤ k ∧ k < 1269
      · rw [if_pos c]
      · rw [if_neg c]; exact l171 k (by omega)
    refine j_iload_n dX12_bank_92 rfl ?_
    refine j_sipush dX12_bank_93 (by decide) ?_
    refine j_icmp_ge (tgt := 117) dX12_bank_96 rfl (by first | omega | (split <;> omega)) (by first | omega | (split <;> omega)) (fun c_96 => ?_) (fun c_96 => by exact absurd (by omega) c_96)
    refine j_iconst dX12_bank_117 ?_
    refine j_iret dX12_bank_118 rfl ?_
    refine rEI_of rfl ⟨by rw [hfr 170 (by decide)]; exact l0, ⟨e, ?_, ?_, ?_, ?_, ?_, ?_, ?_⟩, fun a ha => by rw [hfr a (by omega), la a (by omega) (by omega) (by omega)]⟩
    · rw [hfr 172 (by decide), la 172 (by decide) (by decide) (by decide), mzK_o (by decide) (by decide)]
    · rw [hfr 175 (by decide), la 175 (by decide) (by decide) (by decide), mzK_o (by decide) (by decide)]
    · rw [hfr 176 (by decide), la 176 (by decide) (by decide) (by decide), mzK_o (by decide) (by decide)]
    · rw [hfr 170 (by decide), lk 6 (by decide) (by decide) (by decide) (by decide) (by decide) (by decide) (by decide)]; rfl
    · rw [hfr 170 (by decide), lk 7 (by decide) (by decide) (by decide) (by decide) (by decide) (by decide) (by decide)]; rfl
    · rw [hfr 170 (by decide), l9]; rfl
    · rw [hfr 170 (by decide), l14]; rfl
  | succ m ih =>
    intro z L x hz hz0 h171 hfr
    have q : L 173 z = I 171 z := by rw [hfr 173 (by decide)]; exact l173 z hz0 (by omega)
    have bq : jin (I 171 z) := hok.2.1 171 _
    refine j_iload_n dX12_bank_92 rfl ?_
    refine j_sipush dX12_bank_93 (by decide) ?_
    refine j_icmp_ge (tgt := 117) dX12_bank_96 rfl (by first | omega | (split <;> omega)) (by first | omega | (split <;> omega)) (fun c_96 => by exact absurd c_96 (by omega)) (fun c_96 => ?_)
    refine j_aload_n dX12_bank_99 rfl ?_
    refine r_getS dX12_bank_100 flX12_13 (by first | assumption | exact hsh _ _ rfl) (fx_170_1 hfx) ?_
    refine j_iload_n dX12_bank_103 rfl ?_
    refine j_aload_n dX12_bank_104 rfl ?_
    refine r_getS dX12_bank_105 flX12_20 (by first | assumption | exact hsh _ _ rfl) (fx_170_3 hfx) ?_
    refine j_iload_n dX12_bank_108 rfl ?_
    refine r_ialoadE dX12_bank_109 (by first | assumption | exact hsh _ _ rfl) (by first | omega | (split <;> omega)) (by first | omega | (split <;> omega)) q (fun b_109 => ?_)
    refine r_iastore dX12_bank_110 (by first | assumption | exact hsh _ _ rfl) (by first | omega | (split <;> omega)) (by first | omega | (split <;> omega)) (by first | omega | (split <;> omega)) ?_
    refine j_iinc dX12_bank_111 rfl (by decide) ?_
    refine j_goto (tgt := 92) dX12_bank_114 rfl ?_
    exact ih (z + 1) _ x (by omega) (by omega) (by rw [jup_at, h171, mCpy_s hz0]) (fun a x1 => by rw [jup_ne _ _ _ x1]; exact hfr a x1)
/-- the model keeps its rows and reads -/
theorem mp_bank_p {ob : Int} (hsh : ShOK sh) (hfx : FxOK F) (hok : jzok (sh, I, F)) (hn : I 170 9 = n) (hn2 : 0 ≤ n ∧ n ≤ 400) (hB : ∀ k, 0 ≤ k → k < n → (0 ≤ B k ∧ B k ≤ 255) ∧ I 176 k = sg8 (B k)) (hw : I 171 = w) (hW : OKw ob w) {R : bR} (hR : bTxt B n w (lxB B n 0) = R) {Q : jzO → jzH → Prop} (k : ∀ K : Nat → Int → Int, (∀ a, a ≠ 170 → a ≠ 171 → a ≠ 173 → K a = I a) → (∀ k, k ≠ 0 → k ≠ 9 → k ≠ 10 → k ≠ 11 → k ≠ 12 → k ≠ 16 → K 170 k = I 170 k) → (K 170 0 = 0 ∧ K 170 9 = 0) → (∀ k, k < 0 ∨ 180 ≤ k → K 171 k = I 171 k) → (∀ k, 0 ≤ k → k < 1269 → K 173 k = I 171 k) → (R.1 = 1 → K 171 = R.2.2) → (R.1 = 0 → K 170 12 = R.2.1) → jW G mX12_bank (d + 10) Q 32 [some (jR (some 170)), some (jI 1269), none] [jI (bTxtN B n w (lxB B n 0))] (sh, K, F) 0 0) : jW G mX12_bank (d + 10) Q 0 [some (jR (some 170)), none, none] [] (sh, I, F) 0 0 := by
  have key : ∀ (m : Nat) (z : Int) (J : Nat → Int → Int), z + m = 1269 → 0 ≤ z → J 173 = mCpy (I 173) (I 171) z → (∀ a, a ≠ 173 → J a = I a) → jW G mX12_bank (d + 10) Q 2 [some (jR (some 170)), some (jI z), none] [] (sh, J, F) 0 0 := by
    intro m
    induction m with
    | zero =>
      intro z J hz hz0 h173 hfr
      have ez : z = 1269 := by omega
      subst ez
      have sR := mb_readAll (G := G) (d := d) (F := F) (I := J) (B := B) (n := n) (w := w) hsh hfx (by rw [hfr 170 (by decide)]; exact hn) hn2 (fun k k0 k1 => by rw [hfr 176 (by decide)]; exact hB k k0 k1) (by rw [hfr 171 (by decide)]; exact hw) hW
      rw [hR] at sR
      refine j_iload_n dX12_bank_2 rfl ?_
      refine j_sipush dX12_bank_3 (by decide) ?_
      refine j_icmp_ge (tgt := 27) dX12_bank_6 rfl (by first | omega | (split <;> omega)) (by first | omega | (split <;> omega)) (fun c_6 => ?_) (fun c_6 => by exact absurd (by decide) c_6)
      refine j_aload_n dX12_bank_27 rfl ?_
      refine j_iconst dX12_bank_28 ?_
      refine r_cv1EI dX12_bank_29 cvX12_249 (by decide) (by first | assumption | exact hsh _ _ rfl) (Nat.le_of_ble_eq_true rfl) (Nat.le_of_eq (Nat.zero_add _)) (Nat.le_of_eq (Nat.zero_add _)) (sR) (fun K hK => ?_)
      obtain ⟨⟨k1, k2, k3, k4⟩, k5, k6⟩ := hK
      exact k K (fun a x0 x1 x2 => by rw [k1 a x0 x1, hfr a x2]) (fun j x0 x1 x2 x3 x4 x5 => by rw [k2 j x0 x1 x2 x3 x4 x5, hfr 170 (by decide)]) k3 (fun j hj => by rw [k4 j hj, hfr 171 (by decide)]) (fun j j0 j1 => by rw [k1 173 (by decide) (by decide), h173, mCpy_in ⟨j0, j1⟩]) k5 k6
    | succ m ih =>
      intro z J hz hz0 h173 hfr
      have q : J 171 z = I 171 z := by rw [hfr 171 (by decide)]
      have bq : jin (I 171 z) := hok.2.1 171 _
      refine j_iload_n dX12_bank_2 rfl ?_
      refine j_sipush dX12_bank_3 (by decide) ?_
      refine j_icmp_ge (tgt := 27) dX12_bank_6 rfl (by first | omega | (split <;> omega)) (by first | omega | (split <;> omega)) (fun c_6 => by exact absurd c_6 (by omega)) (fun c_6 => ?_)
      refine j_aload_n dX12_bank_9 rfl ?_
      refine r_getS dX12_bank_10 flX12_20 (by first | assumption | exact hsh _ _ rfl) (fx_170_3 hfx) ?_
      refine j_iload_n dX12_bank_13 rfl ?_
      refine j_aload_n dX12_bank_14 rfl ?_
      refine r_getS dX12_bank_15 flX12_13 (by first | assumption | exact hsh _ _ rfl) (fx_170_1 hfx) ?_
      refine j_iload_n dX12_bank_18 rfl ?_
      refine r_ialoadE dX12_bank_19 (by first | assumption | exact hsh _ _ rfl) (by first | omega | (split <;> omega)) (by first | omega | (split <;> omega)) q (fun b_19 => ?_)
      refine r_iastore dX12_bank_20 (by first | assumption | exact hsh _ _ rfl) (by first | omega | (split <;> omega)) (by first | omega | (split <;> omega)) (by first | omega | (split <;> omega)) ?_
      refine j_iinc dX12_bank_21 rfl (by decide) ?_
      refine j_goto (tgt := 2) dX12_bank_24 rfl ?_
      exact ih (z + 1) _ (by omega) (by omega) (by rw [jup_at, h173, mCpy_s hz0]) (fun a x1 => by rw [jup_ne _ _ _ x1]; exact hfr a x1)
  refine j_iconst dX12_bank_0 ?_
  refine j_istore_n dX12_bank_1 (by decide) ?_
  exact key 1269 0 I (by decide) (by decide) mCpy_0.symm (fun _ _ => rfl)
theorem mp_bank_1 {ob : Int} (hsh : ShOK sh) (hfx : FxOK F) (hn : I 170 9 = n) (hn2 : 0 ≤ n ∧ n ≤ 400) (hB : ∀ k, 0 ≤ k → k < n → (0 ≤ B k ∧ B k ≤ 255) ∧ I 176 k = sg8 (B k)) (hw : I 171 = w) (hW : OKw ob w) {R : bR} (hR : bTxt B n w (lxB B n 0) = R) (h0 : R.1 = 0) : jS G (d + 10) mX12_bank [jR (some 170)] (sh, I, F) 0 0 (rEI 0 sh F (AcO 1 I (mzK I w R.2.1 (I 170 7)))) := by
  refine jS_go [some (jR (some 170)), none, none] (by decide +kernel) rfl (by simp [jone]) (Nat.le_of_ble_eq_true rfl) rfl (fun hok => ?_)
  refine mp_bank_p hsh hfx hok hn hn2 hB hw hW hR (fun K k1 k2 k3 k4 k5 k6 k7 => ?_)
  have hN := bTxtN_s B n w (lxB B n 0)
  rw [hR] at hN
  rw [show bTxtN B n w (lxB B n 0) = -1 by omega, ← hw]
  have q12 := k7 h0
  refine j_istore_n dX12_bank_32 (by decide) ?_
  refine j_aload_n dX12_bank_33 rfl ?_
  refine j_iload_n dX12_bank_34 rfl ?_
  refine j_if_ge (tgt := 45) dX12_bank_35 rfl (by first | omega | (split <;> omega)) (fun c_35 => by exact absurd c_35 (by decide)) (fun c_35 => ?_)
  refine j_aload_n dX12_bank_38 rfl ?_
  refine r_getIE dX12_bank_39 flX12_96 (by first | assumption | exact hsh _ _ rfl) q12 (fun b_39 => ?_)
  refine j_goto (tgt := 46) dX12_bank_42 rfl ?_
  refine r_putI dX12_bank_46 flX12_33 rfl (by first | assumption | exact hsh _ _ rfl) (by first | omega | (split <;> omega)) (fun q => by cases q) ?_
  refine j_aload_n dX12_bank_49 rfl ?_
  refine j_iload_n dX12_bank_50 rfl ?_
  refine j_if_ge (tgt := 58) dX12_bank_51 rfl (by first | omega | (split <;> omega)) (fun c_51 => by exact absurd c_51 (by decide)) (fun c_51 => ?_)
  refine j_iconst dX12_bank_54 ?_
  refine j_goto (tgt := 59) dX12_bank_55 rfl ?_
  refine j_iconst dX12_bank_59 ?_
  refine r_cv2I dX12_bank_60 cvX12_253 (by decide) (by first | assumption | exact hsh _ _ rfl) (Nat.le_of_ble_eq_true rfl) (Nat.le_of_eq (Nat.zero_add _)) (Nat.le_of_eq (Nat.zero_add _)) (sm_thr1 hsh (by decide)) ?_
  refine j_if_ne (tgt := 90) dX12_bank_63 rfl (by first | omega | (split <;> omega)) (fun c_63 => ?_) (fun c_63 => by exact absurd c_63 (by decide))
  refine j_iconst dX12_bank_90 ?_
  refine j_istore_n dX12_bank_91 (by decide) ?_
  exact mp_bank_r (L0 := jup (jup K 170 14 R.2.1) 170 0 1) hsh hfx hok (jup_same _ _ _ _) (by rw [jup_row _ _ _ (by decide), jup_same]) (by rw [jup_row _ _ _ (by decide), jup_row _ _ _ (by decide)]; exact k3.2) (fun k x0 x1 x2 x3 x4 x5 x6 => by rw [jup_row _ _ _ x0, jup_row _ _ _ x5, k2 k x0 x1 x2 x3 x4 x6]) (fun a x0 x1 x2 => by rw [jup_ne _ _ _ x0, jup_ne _ _ _ x0, k1 a x0 x1 x2]) (fun k x0 x1 => by rw [jup_ne _ _ _ (by decide), jup_ne _ _ _ (by decide)]; exact k5 k x0 x1) (fun k hk => by rw [jup_ne _ _ _ (by decide), jup_ne _ _ _ (by decide)]; exact k4 k hk) 1269 0 _ _ (by decide) (by decide) (by rw [mCpy_0]) (fun _ _ => rfl)
theorem mp_bank_2 {ob : Int} (hsh : ShOK sh) (hfx : FxOK F) (hn : I 170 9 = n) (hn2 : 0 ≤ n ∧ n ≤ 400) (hB : ∀ k, 0 ≤ k → k < n → (0 ≤ B k ∧ B k ≤ 255) ∧ I 176 k = sg8 (B k)) (hw : I 171 = w) (hW : OKw ob w) {R : bR} (hR : bTxt B n w (lxB B n 0) = R) (h0 : R.1 = 1) (h12t : w 1 = 12) : jS G (d + 10) mX12_bank [jR (some 170)] (sh, I, F) 0 0 (rEI 0 sh F (AcO 2 I (mzK I w (-1) (I 170 7)))) := by
  have hq : lxB B n 0 ≤ n := (lx_le (B := B) (n := n) (lo := 32) (hi := 32) (p := 0) hn2.1).2
  have hok2 := bTxt_ok (B := B) (n := n) hW hq
  rw [hR] at hok2
  refine jS_go [some (jR (some 170)), none, none] (by decide +kernel) rfl (by simp [jone]) (Nat.le_of_ble_eq_true rfl) rfl (fun hok => ?_)
  refine mp_bank_p hsh hfx hok hn hn2 hB hw hW hR (fun K k1 k2 k3 k4 k5 k6 k7 => ?_)
  have hN := bTxtN_s B n w (lxB B n 0)
  rw [hR] at hN
  have hN2 : 0 ≤ bTxtN B n w (lxB B n 0) ∧ bTxtN B n w (lxB B n 0) ≤ 14 := by omega
  generalize bTxtN B n w (lxB B n 0) = N at *
  have q71 : jup K 170 14 (-1) 171 1 = 12 := by rw [jup_ne _ _ _ (by decide), k6 h0, hok2.2.1 1 (by decide)]; exact h12t
  rw [← hw]
  refine j_istore_n dX12_bank_32 (by decide) ?_
  refine j_aload_n dX12_bank_33 rfl ?_
  refine j_iload_n dX12_bank_34 rfl ?_
  refine j_if_ge (tgt := 45) dX12_bank_35 rfl (by first | omega | (split <;> omega)) (fun c_35 => ?_) (fun c_35 => by exact absurd (by omega) c_35)
  refine j_iconst dX12_bank_45 ?_
  refine r_putI dX12_bank_46 flX12_33 rfl (by first | assumption | exact hsh _ _ rfl) (by first | omega | (split <;> omega)) (fun q => by cases q) ?_
  refine j_aload_n dX12_bank_49 rfl ?_
  refine j_iload_n dX12_bank_50 rfl ?_
  refine j_if_ge (tgt := 58) dX12_bank_51 rfl (by first | omega | (split <;> omega)) (fun c_51 => ?_) (fun c_51 => by exact absurd (by omega) c_51)
  refine j_iconst dX12_bank_58 ?_
  refine j_iconst dX12_bank_59 ?_
  refine r_cv2I dX12_bank_60 cvX12_253 (by decide) (by first | assumption | exact hsh _ _ rfl) (Nat.le_of_ble_eq_true rfl) (Nat.le_of_eq (Nat.zero_add _)) (Nat.le_of_eq (Nat.zero_add _)) (sm_thr0 hsh) ?_
  refine j_if_ne (tgt := 90) dX12_bank_63 rfl (by first | omega | (split <;> omega)) (fun c_63 => by exact absurd c_63 (by decide)) (fun c_63 => ?_)
  refine j_aload_n dX12_bank_66 rfl ?_
  refine j_aload_n dX12_bank_67 rfl ?_
  refine r_getS dX12_bank_68 flX12_13 (by first | assumption | exact hsh _ _ rfl) (fx_170_1 hfx) ?_
  refine j_iconst dX12_bank_71 ?_
  refine r_ialoadE dX12_bank_72 (by first | assumption | exact hsh _ _ rfl) (by first | omega | (split <;> omega)) (by first | omega | (split <;> omega)) q71 (fun b_72 => ?_)
  refine j_bipush dX12_bank_73 (by decide) ?_
  refine j_icmp_ne (tgt := 82) dX12_bank_75 rfl (by first | omega | (split <;> omega)) (by first | omega | (split <;> omega)) (fun c_75 => by exact absurd rfl c_75) (fun c_75 => ?_)
  refine j_iconst dX12_bank_78 ?_
  refine j_goto (tgt := 83) dX12_bank_79 rfl ?_
  refine j_iconst dX12_bank_83 ?_
  refine r_cv2I dX12_bank_84 cvX12_253 (by decide) (by first | assumption | exact hsh _ _ rfl) (Nat.le_of_ble_eq_true rfl) (Nat.le_of_eq (Nat.zero_add _)) (Nat.le_of_eq (Nat.zero_add _)) (sm_thr1 hsh (by decide)) ?_
  refine j_if_eq (tgt := 119) dX12_bank_87 rfl (by first | omega | (split <;> omega)) (fun c_87 => by exact absurd c_87 (by decide)) (fun c_87 => ?_)
  refine j_iconst dX12_bank_90 ?_
  refine j_istore_n dX12_bank_91 (by decide) ?_
  exact mp_bank_r (L0 := jup (jup K 170 14 (-1)) 170 0 2) hsh hfx hok (jup_same _ _ _ _) (by rw [jup_row _ _ _ (by decide), jup_same]) (by rw [jup_row _ _ _ (by decide), jup_row _ _ _ (by decide)]; exact k3.2) (fun k x0 x1 x2 x3 x4 x5 x6 => by rw [jup_row _ _ _ x0, jup_row _ _ _ x5, k2 k x0 x1 x2 x3 x4 x6]) (fun a x0 x1 x2 => by rw [jup_ne _ _ _ x0, jup_ne _ _ _ x0, k1 a x0 x1 x2]) (fun k x0 x1 => by rw [jup_ne _ _ _ (by decide), jup_ne _ _ _ (by decide)]; exact k5 k x0 x1) (fun k hk => by rw [jup_ne _ _ _ (by decide), jup_ne _ _ _ (by decide)]; exact k4 k hk) 1269 0 _ _ (by decide) (by decide) (by rw [mCpy_0]) (fun _ _ => rfl)
theorem mp_bank_0 {ob : Int} (hsh : ShOK sh) (hfx : FxOK F) (hn : I 170 9 = n) (hn2 : 0 ≤ n ∧ n ≤ 400) (hB : ∀ k, 0 ≤ k → k < n → (0 ≤ B k ∧ B k ≤ 255) ∧ I 176 k = sg8 (B k)) (hw : I 171 = w) (hW : OKw ob w) {R : bR} (hR : bTxt B n w (lxB B n 0) = R) (h0 : R.1 = 1) (h12t : ¬ w 1 = 12) : jS G (d + 10) mX12_bank [jR (some 170)] (sh, I, F) 0 0 (rEI (w 1 + 1) sh F (AcO 0 I (mzK I (wup R.2.2 1 (w 1 + 1)) (-1) 0))) := by
  have hq : lxB B n 0 ≤ n := (lx_le (B := B) (n := n) (lo := 32) (hi := 32) (p := 0) hn2.1).2
  have hok2 := bTxt_ok (B := B) (n := n) hW hq
  rw [hR] at hok2
  have ht := hW.2.2.1
  refine jS_go [some (jR (some 170)), none, none] (by decide +kernel) rfl (by simp [jone]) (Nat.le_of_ble_eq_true rfl) rfl (fun hok => ?_)
  refine mp_bank_p hsh hfx hok hn hn2 hB hw hW hR (fun K k1 k2 k3 k4 k5 k6 k7 => ?_)
  have hN := bTxtN_s B n w (lxB B n 0)
  rw [hR] at hN
  have hN2 : 0 ≤ bTxtN B n w (lxB B n 0) ∧ bTxtN B n w (lxB B n 0) ≤ 14 := by omega
  generalize bTxtN B n w (lxB B n 0) = N at *
  have q71 : jup K 170 14 (-1) 171 1 = w 1 := by rw [jup_ne _ _ _ (by decide), k6 h0, hok2.2.1 1 (by decide)]
  obtain ⟨L, hL⟩ : ∃ L, L = jup (jup (jup K 170 14 (-1)) 171 1 (w 1 + 1)) 170 7 0 := ⟨_, rfl⟩
  have l71 : L 171 1 = w 1 + 1 := by rw [hL, jup_ne _ _ _ (by decide), jup_same]
  have lk : ∀ k, k ≠ 7 → k ≠ 14 → L 170 k = K 170 k := fun k x0 x1 => by rw [hL, jup_row _ _ _ x0, jup_ne _ _ _ (by decide), jup_row _ _ _ x1]
  have la : ∀ a, a ≠ 170 → a ≠ 171 → a ≠ 173 → L a = I a := fun a x0 x1 x2 => by rw [hL, jup_ne _ _ _ x0, jup_ne _ _ _ x1, jup_ne _ _ _ x0, k1 a x0 x1 x2]
  have lw : L 171 = wup R.2.2 1 (w 1 + 1) := by rw [hL, jup_ne _ _ _ (by decide), jup_at, jup_ne _ _ _ (by decide), k6 h0]
  refine j_istore_n dX12_bank_32 (by decide) ?_
  refine j_aload_n dX12_bank_33 rfl ?_
  refine j_iload_n dX12_bank_34 rfl ?_
  refine j_if_ge (tgt := 45) dX12_bank_35 rfl (by first | omega | (split <;> omega)) (fun c_35 => ?_) (fun c_35 => by exact absurd (by omega) c_35)
  refine j_iconst dX12_bank_45 ?_
  refine r_putI dX12_bank_46 flX12_33 rfl (by first | assumption | exact hsh _ _ rfl) (by first | omega | (split <;> omega)) (fun q => by cases q) ?_
  refine j_aload_n dX12_bank_49 rfl ?_
  refine j_iload_n dX12_bank_50 rfl ?_
  refine j_if_ge (tgt := 58) dX12_bank_51 rfl (by first | omega | (split <;> omega)) (fun c_51 => ?_) (fun c_51 => by exact absurd (by omega) c_51)
  refine j_iconst dX12_bank_58 ?_
  refine j_iconst dX12_bank_59 ?_
  refine r_cv2I dX12_bank_60 cvX12_253 (by decide) (by first | assumption | exact hsh _ _ rfl) (Nat.le_of_ble_eq_true rfl) (Nat.le_of_eq (Nat.zero_add _)) (Nat.le_of_eq (Nat.zero_add _)) (sm_thr0 hsh) ?_
  refine j_if_ne (tgt := 90) dX12_bank_63 rfl (by first | omega | (split <;> omega)) (fun c_63 => by exact absurd c_63 (by decide)) (fun c_63 => ?_)
  refine j_aload_n dX12_bank_66 rfl ?_
  refine j_aload_n dX12_bank_67 rfl ?_
  refine r_getS dX12_bank_68 flX12_13 (by first | assumption | exact hsh _ _ rfl) (fx_170_1 hfx) ?_
  refine j_iconst dX12_bank_71 ?_
  refine r_ialoadE dX12_bank_72 (by first | assumption | exact hsh _ _ rfl) (by first | omega | (split <;> omega)) (by first | omega | (split <;> omega)) q71 (fun b_72 => ?_)
  refine j_bipush dX12_bank_73 (by decide) ?_
  refine j_icmp_ne (tgt := 82) dX12_bank_75 rfl (by first | omega | (split <;> omega)) (by first | omega | (split <;> omega)) (fun c_75 => ?_) (fun c_75 => by exact absurd (Classical.not_not.1 c_75) h12t)
  refine j_iconst dX12_bank_82 ?_
  refine j_iconst dX12_bank_83 ?_
  refine r_cv2I dX12_bank_84 cvX12_253 (by decide) (by first | assumption | exact hsh _ _ rfl) (Nat.le_of_ble_eq_true rfl) (Nat.le_of_eq (Nat.zero_add _)) (Nat.le_of_eq (Nat.zero_add _)) (sm_thr0 hsh) ?_
  refine j_if_eq (tgt := 119) dX12_bank_87 rfl (by first | omega | (split <;> omega)) (fun c_87 => ?_) (fun c_87 => by exact absurd c_87 (by decide))
  refine j_aload_n dX12_bank_119 rfl ?_
  refine r_getS dX12_bank_120 flX12_13 (by first | assumption | exact hsh _ _ rfl) (fx_170_1 hfx) ?_
  refine j_iconst dX12_bank_123 ?_
  refine j_dup2 dX12_bank_124 trivial trivial ?_
  refine r_ialoadE dX12_bank_125 (by first | assumption | exact hsh _ _ rfl) (by first | omega | (split <;> omega)) (by first | omega | (split <;> omega)) q71 (fun b_125 => ?_)
  refine j_iconst dX12_bank_126 ?_
  refine j_iadd dX12_bank_127 ?_
  refine r_iastore dX12_bank_128 (by first | assumption | exact hsh _ _ rfl) (by first | omega | (split <;> omega)) (by first | omega | (split <;> omega)) (by first | omega | (split <;> omega)) ?_
  refine j_aload_n dX12_bank_129 rfl ?_
  refine j_iconst dX12_bank_130 ?_
  refine r_putI dX12_bank_131 flX12_61 rfl (by first | assumption | exact hsh _ _ rfl) (by first | omega | (split <;> omega)) (fun q => by cases q) ?_
  rw [← hL]
  refine j_aload_n dX12_bank_134 rfl ?_
  refine r_getS dX12_bank_135 flX12_13 (by first | assumption | exact hsh _ _ rfl) (fx_170_1 hfx) ?_
  refine j_iconst dX12_bank_138 ?_
  refine r_ialoadE dX12_bank_139 (by first | assumption | exact hsh _ _ rfl) (by first | omega | (split <;> omega)) (by first | omega | (split <;> omega)) l71 (fun b_139 => ?_)
  refine j_iret dX12_bank_140 rfl ?_
  refine rEI_of rfl ⟨by rw [lk 0 (by decide) (by decide)]; exact k3.1, ⟨lw, ?_, ?_, ?_, ?_, ?_, ?_, ?_⟩, fun a ha => la a (by omega) (by omega) (by omega)⟩
  · rw [la 172 (by decide) (by decide) (by decide), mzK_o (by decide) (by decide)]
  · rw [la 175 (by decide) (by decide) (by decide), mzK_o (by decide) (by decide)]
  · rw [la 176 (by decide) (by decide) (by decide), mzK_o (by decide) (by decide)]
  · rw [lk 6 (by decide) (by decide), k2 6 (by decide) (by decide) (by decide) (by decide) (by decide) (by decide)]; rfl
  · rw [hL, jup_same]; rfl
  · rw [lk 9 (by decide) (by decide), k3.2]; rfl
  · rw [hL, jup_row _ _ _ (by decide), jup_ne _ _ _ (by decide), jup_same]; rfl
end
