/-! ACTS OF THE CLASS -/
theorem Rp_ow {I : Nat → Int → Int} {s : Nat} {w : Int → Int} {p q x : Int} (h : Rp I s w) (hp : 0 ≤ p ∧ p < aPe w) (hq : 0 ≤ q ∧ q < aPe w) : Rp (jup I (s + 7) (p * 8 + q) x) s (wup w (116 + 8 * p + q) x) := by
  obtain ⟨r0, r1, rP, rO, rA, r9, r10, r11, r12, r13, r14, r15, r16, r17⟩ := h
  have el : ∀ k, k < 116 → wup w (116 + 8 * p + q) x k = w k := fun k hk => wup_ne _ _ (by omega)
  have e0 : aPe (wup w (116 + 8 * p + q) x) = aPe w := el 0 (by omega)
  have eo : ∀ r k, r < 8 → k < 13 → aOf (wup w (116 + 8 * p + q) x) r k = aOf w r k := fun r k h1 h2 => el _ (by omega)
  have ec : ∀ a, a ≠ s + 7 → jup I (s + 7) (p * 8 + q) x a = I a := fun a ha => jup_ne _ _ _ ha
  refine ⟨by rw [e0, ec s (by omega)]; exact r0, by rw [e0]; exact r1, fun r r0 r1 => ?_, fun a b a0 a1 b0 b1 => ?_, ?_, ?_, ?_, ?_, ?_, ?_, ?_, ?_, ?_, ?_⟩
  · rw [e0] at r1
    obtain ⟨i0, i1, i2, i3, i4, i5, i6⟩ := rP r r0 r1
    unfold RpP
    rw [eo r 0 (by omega) (by omega), eo r 1 (by omega) (by omega), eo r 2 (by omega) (by omega), eo r 3 (by omega) (by omega), eo r 4 (by omega) (by omega), eo r 5 (by omega) (by omega), ec (s + 1) (by omega), ec (s + 2) (by omega), ec (s + 3) (by omega), ec (s + 4) (by omega), ec (s + 5) (by omega), ec (s + 6) (by omega), ec s (by omega)]
    exact ⟨i0, i1, i2, i3, i4, i5, fun k k0 k1 => by rw [eo r _ (by omega) (by omega)]; exact i6 k k0 k1⟩
  · rw [e0] at a1 b1
    by_cases e : a = p ∧ b = q
    · obtain ⟨rfl, rfl⟩ := e
      rw [jup_same]; exact (wup_same _ _ _).symm
    · rw [jup_row _ _ _ (by omega), show aOw (wup w (116 + 8 * p + q) x) a b = aOw w a b from wup_ne _ _ (by omega)]
      exact rO a b a0 a1 b0 b1
  · rw [ec s (by omega), rA, mAlive_cong e0 (fun q q0 q1 => eo q 3 (by omega) (by omega))]
  · rw [ec s (by omega), el 4 (by omega)]; exact r9
  · rw [ec s (by omega), el 5 (by omega)]; exact r10
  · rw [ec s (by omega), el 6 (by omega)]; exact r11
  · rw [ec s (by omega), el 7 (by omega)]; exact r12
  · rw [ec s (by omega), el 3 (by omega)]; exact r13
  · rw [ec s (by omega), el 11 (by omega)]; exact r14
  · rw [ec s (by omega), el 1 (by omega)]; exact r15
  · rw [e0]
    refine ⟨fun y y0 y1 => by rw [ec (s + 3) (by omega), ec (s + 4) (by omega), ec (s + 6) (by omega)]; exact r16.1 y y0 y1, fun a b a0 a1 b0 b1 hz => ?_⟩
    rw [jup_row _ _ _ (by omega)]
    exact r16.2 a b a0 a1 b0 b1 hz
  · rw [ec s (by omega), el 8 (by omega)]; exact r17
section
variable {G : jzG} {d : Nat} {sh : List (Nat × Nat)} {I M : Nat → Int → Int} {F : Nat → Int → Option Nat} {w : Int → Int}
theorem cp_put_1 (hP : Pl sh F) (hC : CR sh I F M) (hw : M 171 = w) (hW : WF w) {p n : Int} (j1 : jin p) (h2 : ¬ gP w p) : jS G (d + 6) mX11_put [jR (some 0), jI p, jI n] (sh, I, F) 1 6 (rX xIob (sh, I, F)) := by
  obtain ⟨hsh, hfx, hmm, hst, h12, h22⟩ := id hP
  have hR : Rp I 2 w := by rw [← hw]; exact hC.1.1
  have g8 := hW.1
  have f01 := hW.2.2.2.1
  refine jS_go [some (jR (some 0)), some (jI p), some (jI n)] (by decide +kernel) rfl (by simp [jone]) (Nat.le_of_ble_eq_true rfl) rfl (fun hok => ?_)
  refine j_aload_n dX11_put_0 rfl ?_
  refine j_iload_n dX11_put_1 rfl ?_
  exact r_cv1X dX11_put_2 cvX11_119 (by decide) (by first | assumption | exact hsh _ _ rfl) (Nat.le_of_ble_eq_true rfl) (Nat.le_refl _) (Nat.le_refl _) rfl (cg_person1 hsh hfx hR (by omega) h2) (⟨rfl, rfl⟩)
theorem cp_put_2 (hP : Pl sh F) (hC : CR sh I F M) (hw : M 171 = w) (hW : WF w) {p n : Int} (h1 : gP w p) (jn : jin n) (h2 : ¬ ((1 ≤ n ∧ n ≤ 9999) ∧ aOf w p 1 + n ≤ 99999)) : jS G (d + 6) mX11_put [jR (some 0), jI p, jI n] (sh, I, F) 1 6 (rX xIae (sh, I, F)) := by
  obtain ⟨hsh, hfx, hmm, hst, h12, h22⟩ := id hP
  have hR : Rp I 2 w := by rw [← hw]; exact hC.1.1
  have g8 := hW.1
  have f01 := hW.2.2.2.1
  have gp : 0 ≤ p ∧ p < aPe w := by have := h1.1; have := h1.2; omega
  have q1 := (hW.2.1.2.2 p gp.1 gp.2).2
  have u := hR.2.2.1 p gp.1 gp.2
  obtain ⟨y0, y1, y2, y3, y4, y5, y6, y7, y8, y9, z1, z2, z3, z4, z5, z6, z7, z8, z9⟩ := id hst
  refine jS_go [some (jR (some 0)), some (jI p), some (jI n)] (by decide +kernel) rfl (by simp [jone]) (Nat.le_of_ble_eq_true rfl) rfl (fun hok => ?_)
  by_cases e : 1 ≤ n ∧ n ≤ 9999
  · have e2 : ¬ (0 ≤ aOf w p 1 + n ∧ aOf w p 1 + n ≤ 99999) := fun q => h2 ⟨e, q.2⟩
    refine j_aload_n dX11_put_0 rfl ?_
    refine j_iload_n dX11_put_1 rfl ?_
    refine r_cv1V dX11_put_2 cvX11_119 (by decide) (by first | assumption | exact hsh _ _ rfl) (Nat.le_of_ble_eq_true rfl) (Nat.le_of_eq (Nat.zero_add _)) (Nat.le_of_eq (Nat.zero_add _)) (cg_person0 hsh hfx hR (by omega) h1) ?_
    refine j_aload_n dX11_put_5 rfl ?_
    refine j_iload_n dX11_put_6 rfl ?_
    refine j_iconst dX11_put_7 ?_
    refine j_sipush dX11_put_8 (by decide) ?_
    refine r_cv3V dX11_put_11 cvX11_191 (by decide) (by first | assumption | exact hsh _ _ rfl) (Nat.le_of_ble_eq_true rfl) (Nat.le_of_eq (Nat.zero_add _)) (Nat.le_of_eq (Nat.zero_add _)) (cg_lie0 hsh (by omega) (by omega) (by omega) e) ?_
    refine j_aload_n dX11_put_14 rfl ?_
    refine j_aload_n dX11_put_15 rfl ?_
    refine r_getS dX11_put_16 flX11_20 (by first | assumption | exact hsh _ _ rfl) (fx_0_3 hfx) ?_
    refine r_getS dX11_put_19 flX11_125 (by first | assumption | exact hsh _ _ rfl) (by assumption) ?_
    refine j_iload_n dX11_put_22 rfl ?_
    refine r_ialoadE dX11_put_23 (by first | assumption | exact hsh _ _ rfl) (by first | omega | (split <;> omega)) (by first | omega | (split <;> omega)) u.2.1 (fun b_23 => ?_)
    refine j_iload_n dX11_put_24 rfl ?_
    refine j_iadd dX11_put_25 ?_
    refine j_iconst dX11_put_26 ?_
    refine j_ldc (n := 99999) dX11_put_27 kcX11_195 ?_
    exact r_cv3X dX11_put_29 cvX11_191 (by decide) (by first | assumption | exact hsh _ _ rfl) (Nat.le_of_ble_eq_true rfl) (Nat.le_refl _) (Nat.le_refl _) rfl (cg_lie1 hsh (by omega) (by omega) (by omega) e2) (⟨rfl, rfl⟩)
  · refine j_aload_n dX11_put_0 rfl ?_
    refine j_iload_n dX11_put_1 rfl ?_
    refine r_cv1V dX11_put_2 cvX11_119 (by decide) (by first | assumption | exact hsh _ _ rfl) (Nat.le_of_ble_eq_true rfl) (Nat.le_of_eq (Nat.zero_add _)) (Nat.le_of_eq (Nat.zero_add _)) (cg_person0 hsh hfx hR (by omega) h1) ?_
    refine j_aload_n dX11_put_5 rfl ?_
    refine j_iload_n dX11_put_6 rfl ?_
    refine j_iconst dX11_put_7 ?_
    refine j_sipush dX11_put_8 (by decide) ?_
    exact r_cv3X dX11_put_11 cvX11_191 (by decide) (by first | assumption | exact hsh _ _ rfl) (Nat.le_of_ble_eq_true rfl) (Nat.le_refl _) (Nat.le_refl _) rfl (cg_lie1 hsh (by omega) (by omega) (by omega) e) (⟨rfl, rfl⟩)
theorem cp_put_3 (hP : Pl sh F) (hC : CR sh I F M) (hw : M 171 = w) (hW : WF w) {p n : Int} (h1 : gP w p) (h2 : (1 ≤ n ∧ n ≤ 9999) ∧ aOf w p 1 + n ≤ 99999) (h3 : ¬ (aOf w p 3 = 0 ∧ ¬ w 8 = 1)) : jS G (d + 6) mX11_put [jR (some 0), jI p, jI n] (sh, I, F) 1 6 (rX xIse (sh, I, F)) := by
  obtain ⟨hsh, hfx, hmm, hst, h12, h22⟩ := id hP
  have hR : Rp I 2 w := by rw [← hw]; exact hC.1.1
  have g8 := hW.1
  have f01 := hW.2.2.2.1
  have gp : 0 ≤ p ∧ p < aPe w := by have := h1.1; have := h1.2; omega
  have q1 := (hW.2.1.2.2 p gp.1 gp.2).2
  have u := hR.2.2.1 p gp.1 gp.2
  obtain ⟨y0, y1, y2, y3, y4, y5, y6, y7, y8, y9, z1, z2, z3, z4, z5, z6, z7, z8, z9⟩ := id hst
  refine jS_go [some (jR (some 0)), some (jI p), some (jI n)] (by decide +kernel) rfl (by simp [jone]) (Nat.le_of_ble_eq_true rfl) rfl (fun hok => ?_)
  have e2 : 0 ≤ aOf w p 1 + n ∧ aOf w p 1 + n ≤ 99999 := by omega
  by_cases e : aOf w p 3 = 0
  · have e3 : w 8 = 1 := Classical.not_not.1 (fun q => h3 ⟨e, q⟩)
    refine j_aload_n dX11_put_0 rfl ?_
    refine j_iload_n dX11_put_1 rfl ?_
    refine r_cv1V dX11_put_2 cvX11_119 (by decide) (by first | assumption | exact hsh _ _ rfl) (Nat.le_of_ble_eq_true rfl) (Nat.le_of_eq (Nat.zero_add _)) (Nat.le_of_eq (Nat.zero_add _)) (cg_person0 hsh hfx hR (by omega) h1) ?_
    refine j_aload_n dX11_put_5 rfl ?_
    refine j_iload_n dX11_put_6 rfl ?_
    refine j_iconst dX11_put_7 ?_
    refine j_sipush dX11_put_8 (by decide) ?_
    refine r_cv3V dX11_put_11 cvX11_191 (by decide) (by first | assumption | exact hsh _ _ rfl) (Nat.le_of_ble_eq_true rfl) (Nat.le_of_eq (Nat.zero_add _)) (Nat.le_of_eq (Nat.zero_add _)) (cg_lie0 hsh (by omega) (by omega) (by omega) h2.1) ?_
    refine j_aload_n dX11_put_14 rfl ?_
    refine j_aload_n dX11_put_15 rfl ?_
    refine r_getS dX11_put_16 flX11_20 (by first | assumption | exact hsh _ _ rfl) (fx_0_3 hfx) ?_
    refine r_getS dX11_put_19 flX11_125 (by first | assumption | exact hsh _ _ rfl) (by assumption) ?_
    refine j_iload_n dX11_put_22 rfl ?_
    refine r_ialoadE dX11_put_23 (by first | assumption | exact hsh _ _ rfl) (by first | omega | (split <;> omega)) (by first | omega | (split <;> omega)) u.2.1 (fun b_23 => ?_)
    refine j_iload_n dX11_put_24 rfl ?_
    refine j_iadd dX11_put_25 ?_
    refine j_iconst dX11_put_26 ?_
    refine j_ldc (n := 99999) dX11_put_27 kcX11_195 ?_
    refine r_cv3V dX11_put_29 cvX11_191 (by decide) (by first | assumption | exact hsh _ _ rfl) (Nat.le_of_ble_eq_true rfl) (Nat.le_of_eq (Nat.zero_add _)) (Nat.le_of_eq (Nat.zero_add _)) (cg_lie0 hsh (by omega) (by omega) (by omega) e2) ?_
    refine j_aload_n dX11_put_32 rfl ?_
    refine j_iload_n dX11_put_33 rfl ?_
    refine r_cv1V dX11_put_34 cvX11_176 (by decide) (by first | assumption | exact hsh _ _ rfl) (Nat.le_of_ble_eq_true rfl) (Nat.le_of_eq (Nat.zero_add _)) (Nat.le_of_eq (Nat.zero_add _)) (cg_live1 hsh hfx hst hR (by omega) h1 e) ?_
    refine j_aload_n dX11_put_37 rfl ?_
    exact r_cv0X dX11_put_38 cvX11_196 (by decide) (by first | assumption | exact hsh _ _ rfl) (Nat.le_of_ble_eq_true rfl) (Nat.le_refl _) (Nat.le_refl _) rfl (cg_stand1 hsh hfx hst hR e3) (⟨rfl, rfl⟩)
  · refine j_aload_n dX11_put_0 rfl ?_
    refine j_iload_n dX11_put_1 rfl ?_
    refine r_cv1V dX11_put_2 cvX11_119 (by decide) (by first | assumption | exact hsh _ _ rfl) (Nat.le_of_ble_eq_true rfl) (Nat.le_of_eq (Nat.zero_add _)) (Nat.le_of_eq (Nat.zero_add _)) (cg_person0 hsh hfx hR (by omega) h1) ?_
    refine j_aload_n dX11_put_5 rfl ?_
    refine j_iload_n dX11_put_6 rfl ?_
    refine j_iconst dX11_put_7 ?_
    refine j_sipush dX11_put_8 (by decide) ?_
    refine r_cv3V dX11_put_11 cvX11_191 (by decide) (by first | assumption | exact hsh _ _ rfl) (Nat.le_of_ble_eq_true rfl) (Nat.le_of_eq (Nat.zero_add _)) (Nat.le_of_eq (Nat.zero_add _)) (cg_lie0 hsh (by omega) (by omega) (by omega) h2.1) ?_
    refine j_aload_n dX11_put_14 rfl ?_
    refine j_aload_n dX11_put_15 rfl ?_
    refine r_getS dX11_put_16 flX11_20 (by first | assumption | exact hsh _ _ rfl) (fx_0_3 hfx) ?_
    refine r_getS dX11_put_19 flX11_125 (by first | assumption | exact hsh _ _ rfl) (by assumption) ?_
    refine j_iload_n dX11_put_22 rfl ?_
    refine r_ialoadE dX11_put_23 (by first | assumption | exact hsh _ _ rfl) (by first | omega | (split <;> omega)) (by first | omega | (split <;> omega)) u.2.1 (fun b_23 => ?_)
    refine j_iload_n dX11_put_24 rfl ?_
    refine j_iadd dX11_put_25 ?_
    refine j_iconst dX11_put_26 ?_
    refine j_ldc (n := 99999) dX11_put_27 kcX11_195 ?_
    refine r_cv3V dX11_put_29 cvX11_191 (by decide) (by first | assumption | exact hsh _ _ rfl) (Nat.le_of_ble_eq_true rfl) (Nat.le_of_eq (Nat.zero_add _)) (Nat.le_of_eq (Nat.zero_add _)) (cg_lie0 hsh (by omega) (by omega) (by omega) e2) ?_
    refine j_aload_n dX11_put_32 rfl ?_
    refine j_iload_n dX11_put_33 rfl ?_
    exact r_cv1X dX11_put_34 cvX11_176 (by decide) (by first | assumption | exact hsh _ _ rfl) (Nat.le_of_ble_eq_true rfl) (Nat.le_refl _) (Nat.le_refl _) rfl (cg_live0 hsh hfx hst hR (by omega) h1 e) (⟨rfl, rfl⟩)
theorem cp_put_0 (hP : Pl sh F) (hC : CR sh I F M) (hw : M 171 = w) (hW : WF w) {p n : Int} (h1 : gP w p) (h2 : (1 ≤ n ∧ n ≤ 9999) ∧ aOf w p 1 + n ≤ 99999) (h3 : aOf w p 3 = 0 ∧ ¬ w 8 = 1) : jS G (d + 6) mX11_put [jR (some 0), jI p, jI n] (sh, I, F) 0 0 (rHI (aOf w p 1 + n) sh (CaO sh I (mzW (mzR M) (wPut w p n)))) := by
  obtain ⟨hsh, hfx, hmm, hst, h12, h22⟩ := id hP
  have hR : Rp I 2 w := by rw [← hw]; exact hC.1.1
  have g8 := hW.1
  have f01 := hW.2.2.2.1
  have gp : 0 ≤ p ∧ p < aPe w := by have := h1.1; have := h1.2; omega
  have q1 := (hW.2.1.2.2 p gp.1 gp.2).2
  have u := hR.2.2.1 p gp.1 gp.2
  obtain ⟨y0, y1, y2, y3, y4, y5, y6, y7, y8, y9, z1, z2, z3, z4, z5, z6, z7, z8, z9⟩ := id hst
  refine jS_go [some (jR (some 0)), some (jI p), some (jI n)] (by decide +kernel) rfl (by simp [jone]) (Nat.le_of_ble_eq_true rfl) rfl (fun hok => ?_)
  have e2 : 0 ≤ aOf w p 1 + n ∧ aOf w p 1 + n ≤ 99999 := by omega
  refine j_aload_n dX11_put_0 rfl ?_
  refine j_iload_n dX11_put_1 rfl ?_
  refine r_cv1V dX11_put_2 cvX11_119 (by decide) (by first | assumption | exact hsh _ _ rfl) (Nat.le_of_ble_eq_true rfl) (Nat.le_of_eq (Nat.zero_add _)) (Nat.le_of_eq (Nat.zero_add _)) (cg_person0 hsh hfx hR (by omega) h1) ?_
  refine j_aload_n dX11_put_5 rfl ?_
  refine j_iload_n dX11_put_6 rfl ?_
  refine j_iconst dX11_put_7 ?_
  refine j_sipush dX11_put_8 (by decide) ?_
  refine r_cv3V dX11_put_11 cvX11_191 (by decide) (by first | assumption | exact hsh _ _ rfl) (Nat.le_of_ble_eq_true rfl) (Nat.le_of_eq (Nat.zero_add _)) (Nat.le_of_eq (Nat.zero_add _)) (cg_lie0 hsh (by omega) (by omega) (by omega) h2.1) ?_
  refine j_aload_n dX11_put_14 rfl ?_
  refine j_aload_n dX11_put_15 rfl ?_
  refine r_getS dX11_put_16 flX11_20 (by first | assumption | exact hsh _ _ rfl) (fx_0_3 hfx) ?_
  refine r_getS dX11_put_19 flX11_125 (by first | assumption | exact hsh _ _ rfl) (by assumption) ?_
  refine j_iload_n dX11_put_22 rfl ?_
  refine r_ialoadE dX11_put_23 (by first | assumption | exact hsh _ _ rfl) (by first | omega | (split <;> omega)) (by first | omega | (split <;> omega)) u.2.1 (fun b_23 => ?_)
  refine j_iload_n dX11_put_24 rfl ?_
  refine j_iadd dX11_put_25 ?_
  refine j_iconst dX11_put_26 ?_
  refine j_ldc (n := 99999) dX11_put_27 kcX11_195 ?_
  refine r_cv3V dX11_put_29 cvX11_191 (by decide) (by first | assumption | exact hsh _ _ rfl) (Nat.le_of_ble_eq_true rfl) (Nat.le_of_eq (Nat.zero_add _)) (Nat.le_of_eq (Nat.zero_add _)) (cg_lie0 hsh (by omega) (by omega) (by omega) e2) ?_
  refine j_aload_n dX11_put_32 rfl ?_
  refine j_iload_n dX11_put_33 rfl ?_
  refine r_cv1V dX11_put_34 cvX11_176 (by decide) (by first | assumption | exact hsh _ _ rfl) (Nat.le_of_ble_eq_true rfl) (Nat.le_of_eq (Nat.zero_add _)) (Nat.le_of_eq (Nat.zero_add _)) (cg_live1 hsh hfx hst hR (by omega) h1 h3.1) ?_
  refine j_aload_n dX11_put_37 rfl ?_
  refine r_cv0V dX11_put_38 cvX11_196 (by decide) (by first | assumption | exact hsh _ _ rfl) (Nat.le_of_ble_eq_true rfl) (Nat.le_of_eq (Nat.zero_add _)) (Nat.le_of_eq (Nat.zero_add _)) (cg_stand0 hsh hfx hst hR h3.2 f01) ?_
  refine j_aload_n dX11_put_41 rfl ?_
  refine r_getS dX11_put_42 flX11_33 (by first | assumption | exact hsh _ _ rfl) (fx_0_7 hfx) ?_
  refine j_aload_n dX11_put_45 rfl ?_
  refine r_getS dX11_put_46 flX11_20 (by first | assumption | exact hsh _ _ rfl) (fx_0_3 hfx) ?_
  refine r_cv1HV dX11_put_49 cvX11_199 (by decide) (by first | assumption | exact hsh _ _ rfl) (Nat.le_of_ble_eq_true rfl) (Nat.le_of_eq (Nat.zero_add _)) (Nat.le_of_eq (Nat.zero_add _)) (cr_remember hP hC (by rw [hw]; exact hW)) (fun J F1 hJ => ?_)
  obtain ⟨-, hfx, -, hst1, -, -⟩ := id hJ.1
  obtain ⟨g0, g1, g2, g3, g4, g5, g6, g7, g8, g9, e1, e2, e3, e4, e5, e6, e7, e8, e9⟩ := id hst1
  have hS1 : Sr sh J F1 2 w := by rw [← hw]; exact hJ.2.1.1
  have hR1 := hS1.1
  have u1 := hR1.2.2.1 p gp.1 gp.2
  refine j_aload_n dX11_put_52 rfl ?_
  refine r_getS dX11_put_53 flX11_20 (by first | assumption | exact hsh _ _ rfl) (fx_0_3 hfx) ?_
  refine r_getS dX11_put_56 flX11_125 (by first | assumption | exact hsh _ _ rfl) (by assumption) ?_
  refine j_iload_n dX11_put_59 rfl ?_
  refine j_dup2 dX11_put_60 trivial trivial ?_
  refine r_ialoadE dX11_put_61 (by first | assumption | exact hsh _ _ rfl) (by first | omega | (split <;> omega)) (by first | omega | (split <;> omega)) u1.2.1 (fun b_61 => ?_)
  refine j_iload_n dX11_put_62 rfl ?_
  refine j_iadd dX11_put_63 ?_
  refine r_iastore dX11_put_64 (by first | assumption | exact hsh _ _ rfl) (by first | omega | (split <;> omega)) (by first | omega | (split <;> omega)) (by first | omega | (split <;> omega)) ?_
  refine j_aload_n dX11_put_65 rfl ?_
  refine r_getS dX11_put_66 flX11_20 (by first | assumption | exact hsh _ _ rfl) (fx_0_3 hfx) ?_
  refine r_getS dX11_put_69 flX11_125 (by first | assumption | exact hsh _ _ rfl) (by assumption) ?_
  refine j_iload_n dX11_put_72 rfl ?_
  refine r_ialoadE dX11_put_73 (by first | assumption | exact hsh _ _ rfl) (by first | omega | (split <;> omega)) (by first | omega | (split <;> omega)) (jup_same J (2 + 3) p (aOf w p 1 + n)) (fun b_73 => ?_)
  refine j_iret dX11_put_74 rfl ?_
  refine ⟨_, F1, rfl, rfl, Ca_of hJ (Sr_now (by decide) hS1 (Rp_one hR1 gp (Or.inl ⟨rfl, rfl⟩)) (by rw [jup_ne _ _ _ (by omega)]) (fun a x0 x1 => by rw [jup_ne _ _ _ (by omega)]) (fun k hk => (wup_ne _ _ (by omega)))) (fun a x0 x1 => by rw [jup_ne _ _ _ (by omega)]) (fun k hk => (wup_ne _ _ (by omega)).trans (by rw [hw]))⟩
theorem cp_draw_1 (hP : Pl sh F) (hC : CR sh I F M) (hw : M 171 = w) (hW : WF w) {p n : Int} (j1 : jin p) (h2 : ¬ gP w p) : jS G (d + 6) mX11_draw [jR (some 0), jI p, jI n] (sh, I, F) 1 6 (rX xIob (sh, I, F)) := by
  obtain ⟨hsh, hfx, hmm, hst, h12, h22⟩ := id hP
  have hR : Rp I 2 w := by rw [← hw]; exact hC.1.1
  have g8 := hW.1
  have f01 := hW.2.2.2.1
  refine jS_go [some (jR (some 0)), some (jI p), some (jI n), none] (by decide +kernel) rfl (by simp [jone]) (Nat.le_of_ble_eq_true rfl) rfl (fun hok => ?_)
  refine j_aload_n dX11_draw_0 rfl ?_
  refine j_iload_n dX11_draw_1 rfl ?_
  exact r_cv1X dX11_draw_2 cvX11_119 (by decide) (by first | assumption | exact hsh _ _ rfl) (Nat.le_of_ble_eq_true rfl) (Nat.le_refl _) (Nat.le_refl _) rfl (cg_person1 hsh hfx hR (by omega) h2) (⟨rfl, rfl⟩)
theorem cp_draw_2 (hP : Pl sh F) (hC : CR sh I F M) (hw : M 171 = w) (hW : WF w) {p n : Int} (h1 : gP w p) (jn : jin n) (h2 : ¬ (1 ≤ n ∧ n ≤ aOf w p 1)) : jS G (d + 6) mX11_draw [jR (some 0), jI p, jI n] (sh, I, F) 1 6 (rX xIae (sh, I, F)) := by
  obtain ⟨hsh, hfx, hmm, hst, h12, h22⟩ := id hP
  have hR : Rp I 2 w := by rw [← hw]; exact hC.1.1
  have g8 := hW.1
  have f01 := hW.2.2.2.1
  have gp : 0 ≤ p ∧ p < aPe w := by have := h1.1; have := h1.2; omega
  have q1 := (hW.2.1.2.2 p gp.1 gp.2).2
  have u := hR.2.2.1 p gp.1 gp.2
  obtain ⟨y0, y1, y2, y3, y4, y5, y6, y7, y8, y9, z1, z2, z3, z4, z5, z6, z7, z8, z9⟩ := id hst
  refine jS_go [some (jR (some 0)), some (jI p), some (jI n), none] (by decide +kernel) rfl (by simp [jone]) (Nat.le_of_ble_eq_true rfl) rfl (fun hok => ?_)
  refine j_aload_n dX11_draw_0 rfl ?_
  refine j_iload_n dX11_draw_1 rfl ?_
  refine r_cv1V dX11_draw_2 cvX11_119 (by decide) (by first | assumption | exact hsh _ _ rfl) (Nat.le_of_ble_eq_true rfl) (Nat.le_of_eq (Nat.zero_add _)) (Nat.le_of_eq (Nat.zero_add _)) (cg_person0 hsh hfx hR (by omega) h1) ?_
  refine j_aload_n dX11_draw_5 rfl ?_
  refine j_iload_n dX11_draw_6 rfl ?_
  refine j_iconst dX11_draw_7 ?_
  refine j_aload_n dX11_draw_8 rfl ?_
  refine r_getS dX11_draw_9 flX11_20 (by first | assumption | exact hsh _ _ rfl) (fx_0_3 hfx) ?_
  refine r_getS dX11_draw_12 flX11_125 (by first | assumption | exact hsh _ _ rfl) (by assumption) ?_
  refine j_iload_n dX11_draw_15 rfl ?_
  refine r_ialoadE dX11_draw_16 (by first | assumption | exact hsh _ _ rfl) (by first | omega | (split <;> omega)) (by first | omega | (split <;> omega)) u.2.1 (fun b_16 => ?_)
  exact r_cv3X dX11_draw_17 cvX11_191 (by decide) (by first | assumption | exact hsh _ _ rfl) (Nat.le_of_ble_eq_true rfl) (Nat.le_refl _) (Nat.le_refl _) rfl (cg_lie1 hsh (by omega) (by omega) (by omega) h2) (⟨rfl, rfl⟩)
theorem cp_draw_3 (hP : Pl sh F) (hC : CR sh I F M) (hw : M 171 = w) (hW : WF w) {p n : Int} (h1 : gP w p) (h2 : 1 ≤ n ∧ n ≤ aOf w p 1) (h3 : ¬ (aOf w p 3 = 0 ∧ ¬ w 8 = 1)) : jS G (d + 6) mX11_draw [jR (some 0), jI p, jI n] (sh, I, F) 1 6 (rX xIse (sh, I, F)) := by
  obtain ⟨hsh, hfx, hmm, hst, h12, h22⟩ := id hP
  have hR : Rp I 2 w := by rw [← hw]; exact hC.1.1
  have g8 := hW.1
  have f01 := hW.2.2.2.1
  have gp : 0 ≤ p ∧ p < aPe w := by have := h1.1; have := h1.2; omega
  have q1 := (hW.2.1.2.2 p gp.1 gp.2).2
  have u := hR.2.2.1 p gp.1 gp.2
  obtain ⟨y0, y1, y2, y3, y4, y5, y6, y7, y8, y9, z1, z2, z3, z4, z5, z6, z7, z8, z9⟩ := id hst
  refine jS_go [some (jR (some 0)), some (jI p), some (jI n), none] (by decide +kernel) rfl (by simp [jone]) (Nat.le_of_ble_eq_true rfl) rfl (fun hok => ?_)
  by_cases e : aOf w p 3 = 0
  · have e3 : w 8 = 1 := Classical.not_not.1 (fun q => h3 ⟨e, q⟩)
    refine j_aload_n dX11_draw_0 rfl ?_
    refine j_iload_n dX11_draw_1 rfl ?_
    refine r_cv1V dX11_draw_2 cvX11_119 (by decide) (by first | assumption | exact hsh _ _ rfl) (Nat.le_of_ble_eq_true rfl) (Nat.le_of_eq (Nat.zero_add _)) (Nat.le_of_eq (Nat.zero_add _)) (cg_person0 hsh hfx hR (by omega) h1) ?_
    refine j_aload_n dX11_draw_5 rfl ?_
    refine j_iload_n dX11_draw_6 rfl ?_
    refine j_iconst dX11_draw_7 ?_
    refine j_aload_n dX11_draw_8 rfl ?_
    refine r_getS dX11_draw_9 flX11_20 (by first | assumption | exact hsh _ _ rfl) (fx_0_3 hfx) ?_
    refine r_getS dX11_draw_12 flX11_125 (by first | assumption | exact hsh _ _ rfl) (by assumption) ?_
    refine j_iload_n dX11_draw_15 rfl ?_
    refine r_ialoadE dX11_draw_16 (by first | assumption | exact hsh _ _ rfl) (by first | omega | (split <;> omega)) (by first | omega | (split <;> omega)) u.2.1 (fun b_16 => ?_)
    refine r_cv3V dX11_draw_17 cvX11_191 (by decide) (by first | assumption | exact hsh _ _ rfl) (Nat.le_of_ble_eq_true rfl) (Nat.le_of_eq (Nat.zero_add _)) (Nat.le_of_eq (Nat.zero_add _)) (cg_lie0 hsh (by omega) (by omega) (by omega) h2) ?_
    refine j_aload_n dX11_draw_20 rfl ?_
    refine j_iload_n dX11_draw_21 rfl ?_
    refine r_cv1V dX11_draw_22 cvX11_176 (by decide) (by first | assumption | exact hsh _ _ rfl) (Nat.le_of_ble_eq_true rfl) (Nat.le_of_eq (Nat.zero_add _)) (Nat.le_of_eq (Nat.zero_add _)) (cg_live1 hsh hfx hst hR (by omega) h1 e) ?_
    refine j_aload_n dX11_draw_25 rfl ?_
    exact r_cv0X dX11_draw_26 cvX11_196 (by decide) (by first | assumption | exact hsh _ _ rfl) (Nat.le_of_ble_eq_true rfl) (Nat.le_refl _) (Nat.le_refl _) rfl (cg_stand1 hsh hfx hst hR e3) (⟨rfl, rfl⟩)
  · refine j_aload_n dX11_draw_0 rfl ?_
    refine j_iload_n dX11_draw_1 rfl ?_
    refine r_cv1V dX11_draw_2 cvX11_119 (by decide) (by first | assumption | exact hsh _ _ rfl) (Nat.le_of_ble_eq_true rfl) (Nat.le_of_eq (Nat.zero_add _)) (Nat.le_of_eq (Nat.zero_add _)) (cg_person0 hsh hfx hR (by omega) h1) ?_
    refine j_aload_n dX11_draw_5 rfl ?_
    refine j_iload_n dX11_draw_6 rfl ?_
    refine j_iconst dX11_draw_7 ?_
    refine j_aload_n dX11_draw_8 rfl ?_
    refine r_getS dX11_draw_9 flX11_20 (by first | assumption | exact hsh _ _ rfl) (fx_0_3 hfx) ?_
    refine r_getS dX11_draw_12 flX11_125 (by first | assumption | exact hsh _ _ rfl) (by assumption) ?_
    refine j_iload_n dX11_draw_15 rfl ?_
    refine r_ialoadE dX11_draw_16 (by first | assumption | exact hsh _ _ rfl) (by first | omega | (split <;> omega)) (by first | omega | (split <;> omega)) u.2.1 (fun b_16 => ?_)
    refine r_cv3V dX11_draw_17 cvX11_191 (by decide) (by first | assumption | exact hsh _ _ rfl) (Nat.le_of_ble_eq_true rfl) (Nat.le_of_eq (Nat.zero_add _)) (Nat.le_of_eq (Nat.zero_add _)) (cg_lie0 hsh (by omega) (by omega) (by omega) h2) ?_
    refine j_aload_n dX11_draw_20 rfl ?_
    refine j_iload_n dX11_draw_21 rfl ?_
    exact r_cv1X dX11_draw_22 cvX11_176 (by decide) (by first | assumption | exact hsh _ _ rfl) (Nat.le_of_ble_eq_true rfl) (Nat.le_refl _) (Nat.le_refl _) rfl (cg_live0 hsh hfx hst hR (by omega) h1 e) (⟨rfl, rfl⟩)
theorem cp_draw_0 (hP : Pl sh F) (hC : CR sh I F M) (hw : M 171 = w) (hW : WF w) {p n : Int} (h1 : gP w p) (h2 : 1 ≤ n ∧ n ≤ aOf w p 1) (h3 : aOf w p 3 = 0 ∧ ¬ w 8 = 1) : jS G (d + 6) mX11_draw [jR (some 0), jI p, jI n] (sh, I, F) 0 0 (rHI (n - min n (aOf w p 2)) sh (CaO sh I (mzW (mzR M) (wDraw w p n)))) := by
  obtain ⟨hsh, hfx, hmm, hst, h12, h22⟩ := id hP
  have hR : Rp I 2 w := by rw [← hw]; exact hC.1.1
  have g8 := hW.1
  have f01 := hW.2.2.2.1
  have gp : 0 ≤ p ∧ p < aPe w := by have := h1.1; have := h1.2; omega
  have q1 := (hW.2.1.2.2 p gp.1 gp.2).2
  have u := hR.2.2.1 p gp.1 gp.2
  obtain ⟨y0, y1, y2, y3, y4, y5, y6, y7, y8, y9, z1, z2, z3, z4, z5, z6, z7, z8, z9⟩ := id hst
  refine jS_go [some (jR (some 0)), some (jI p), some (jI n), none] (by decide +kernel) rfl (by simp [jone]) (Nat.le_of_ble_eq_true rfl) rfl (fun hok => ?_)
  have ep : aPe (wup w (12 + 13 * p + 2) (aOf w p 2 - min n (aOf w p 2))) = aPe w := wup_ne _ _ (by omega)
  refine j_aload_n dX11_draw_0 rfl ?_
  refine j_iload_n dX11_draw_1 rfl ?_
  refine r_cv1V dX11_draw_2 cvX11_119 (by decide) (by first | assumption | exact hsh _ _ rfl) (Nat.le_of_ble_eq_true rfl) (Nat.le_of_eq (Nat.zero_add _)) (Nat.le_of_eq (Nat.zero_add _)) (cg_person0 hsh hfx hR (by omega) h1) ?_
  refine j_aload_n dX11_draw_5 rfl ?_
  refine j_iload_n dX11_draw_6 rfl ?_
  refine j_iconst dX11_draw_7 ?_
  refine j_aload_n dX11_draw_8 rfl ?_
  refine r_getS dX11_draw_9 flX11_20 (by first | assumption | exact hsh _ _ rfl) (fx_0_3 hfx) ?_
  refine r_getS dX11_draw_12 flX11_125 (by first | assumption | exact hsh _ _ rfl) (by assumption) ?_
  refine j_iload_n dX11_draw_15 rfl ?_
  refine r_ialoadE dX11_draw_16 (by first | assumption | exact hsh _ _ rfl) (by first | omega | (split <;> omega)) (by first | omega | (split <;> omega)) u.2.1 (fun b_16 => ?_)
  refine r_cv3V dX11_draw_17 cvX11_191 (by decide) (by first | assumption | exact hsh _ _ rfl) (Nat.le_of_ble_eq_true rfl) (Nat.le_of_eq (Nat.zero_add _)) (Nat.le_of_eq (Nat.zero_add _)) (cg_lie0 hsh (by omega) (by omega) (by omega) h2) ?_
  refine j_aload_n dX11_draw_20 rfl ?_
  refine j_iload_n dX11_draw_21 rfl ?_
  refine r_cv1V dX11_draw_22 cvX11_176 (by decide) (by first | assumption | exact hsh _ _ rfl) (Nat.le_of_ble_eq_true rfl) (Nat.le_of_eq (Nat.zero_add _)) (Nat.le_of_eq (Nat.zero_add _)) (cg_live1 hsh hfx hst hR (by omega) h1 h3.1) ?_
  refine j_aload_n dX11_draw_25 rfl ?_
  refine r_cv0V dX11_draw_26 cvX11_196 (by decide) (by first | assumption | exact hsh _ _ rfl) (Nat.le_of_ble_eq_true rfl) (Nat.le_of_eq (Nat.zero_add _)) (Nat.le_of_eq (Nat.zero_add _)) (cg_stand0 hsh hfx hst hR h3.2 f01) ?_
  refine j_aload_n dX11_draw_29 rfl ?_
  refine r_getS dX11_draw_30 flX11_33 (by first | assumption | exact hsh _ _ rfl) (fx_0_7 hfx) ?_
  refine j_aload_n dX11_draw_33 rfl ?_
  refine r_getS dX11_draw_34 flX11_20 (by first | assumption | exact hsh _ _ rfl) (fx_0_3 hfx) ?_
  refine r_cv1HV dX11_draw_37 cvX11_199 (by decide) (by first | assumption | exact hsh _ _ rfl) (Nat.le_of_ble_eq_true rfl) (Nat.le_of_eq (Nat.zero_add _)) (Nat.le_of_eq (Nat.zero_add _)) (cr_remember hP hC (by rw [hw]; exact hW)) (fun J F1 hJ => ?_)
  obtain ⟨-, hfx, -, hst1, -, -⟩ := id hJ.1
  obtain ⟨g0, g1, g2, g3, g4, g5, g6, g7, g8, g9, e1, e2, e3, e4, e5, e6, e7, e8, e9⟩ := id hst1
  have hS1 : Sr sh J F1 2 w := by rw [← hw]; exact hJ.2.1.1
  have hR1 := hS1.1
  have u1 := hR1.2.2.1 p gp.1 gp.2
  have q76 : jup J (2 + 4) p (aOf w p 2 - min n (aOf w p 2)) (2 + 3) p = aOf w p 1 := by rw [jup_ne _ _ _ (by decide)]; exact u1.2.1
  refine j_iload_n dX11_draw_40 rfl ?_
  refine j_aload_n dX11_draw_41 rfl ?_
  refine r_getS dX11_draw_42 flX11_20 (by first | assumption | exact hsh _ _ rfl) (fx_0_3 hfx) ?_
  refine r_getS dX11_draw_45 flX11_128 (by first | assumption | exact hsh _ _ rfl) (by assumption) ?_
  refine j_iload_n dX11_draw_48 rfl ?_
  refine r_ialoadE dX11_draw_49 (by first | assumption | exact hsh _ _ rfl) (by first | omega | (split <;> omega)) (by first | omega | (split <;> omega)) u1.2.2.1 (fun b_49 => ?_)
  refine r_min dX11_draw_50 lmX11_202 (Nat.le_of_ble_eq_true rfl) (by first | omega | (split <;> omega)) (by first | omega | (split <;> omega)) ?_
  refine j_istore_n dX11_draw_53 (by decide) ?_
  refine j_aload_n dX11_draw_54 rfl ?_
  refine r_getS dX11_draw_55 flX11_20 (by first | assumption | exact hsh _ _ rfl) (fx_0_3 hfx) ?_
  refine r_getS dX11_draw_58 flX11_128 (by first | assumption | exact hsh _ _ rfl) (by assumption) ?_
  refine j_iload_n dX11_draw_61 rfl ?_
  refine j_dup2 dX11_draw_62 trivial trivial ?_
  refine r_ialoadE dX11_draw_63 (by first | assumption | exact hsh _ _ rfl) (by first | omega | (split <;> omega)) (by first | omega | (split <;> omega)) u1.2.2.1 (fun b_63 => ?_)
  refine j_iload_n dX11_draw_64 rfl ?_
  refine j_isub dX11_draw_65 ?_
  refine r_iastore dX11_draw_66 (by first | assumption | exact hsh _ _ rfl) (by first | omega | (split <;> omega)) (by first | omega | (split <;> omega)) (by first | omega | (split <;> omega)) ?_
  refine j_aload_n dX11_draw_67 rfl ?_
  refine r_getS dX11_draw_68 flX11_20 (by first | assumption | exact hsh _ _ rfl) (fx_0_3 hfx) ?_
  refine r_getS dX11_draw_71 flX11_125 (by first | assumption | exact hsh _ _ rfl) (by assumption) ?_
  refine j_iload_n dX11_draw_74 rfl ?_
  refine j_dup2 dX11_draw_75 trivial trivial ?_
  refine r_ialoadE dX11_draw_76 (by first | assumption | exact hsh _ _ rfl) (by first | omega | (split <;> omega)) (by first | omega | (split <;> omega)) q76 (fun b_76 => ?_)
  refine j_iload_n dX11_draw_77 rfl ?_
  refine j_isub dX11_draw_78 ?_
  refine r_iastore dX11_draw_79 (by first | assumption | exact hsh _ _ rfl) (by first | omega | (split <;> omega)) (by first | omega | (split <;> omega)) (by first | omega | (split <;> omega)) ?_
  refine j_iload_n dX11_draw_80 rfl ?_
  refine j_iload_n dX11_draw_81 rfl ?_
  refine j_isub dX11_draw_82 ?_
  refine j_iret dX11_draw_83 rfl ?_
  refine ⟨_, F1, rfl, rfl, Ca_of hJ (Sr_now (by decide) hS1 (Rp_one (Rp_one hR1 gp (Or.inr (Or.inl ⟨rfl, rfl⟩))) (by rw [ep]; exact gp) (Or.inl ⟨rfl, rfl⟩)) (by rw [jup_ne _ _ _ (by omega), jup_ne _ _ _ (by omega)]) (fun a x0 x1 => by rw [jup_ne _ _ _ (by omega), jup_ne _ _ _ (by omega)]) (fun k hk => ((wup_ne _ _ (by omega)).trans (wup_ne _ _ (by omega))))) (fun a x0 x1 => by rw [jup_ne _ _ _ (by omega), jup_ne _ _ _ (by omega)]) (fun k hk => ((wup_ne _ _ (by omega)).trans (wup_ne _ _ (by omega))).trans (by rw [hw]))⟩
theorem cp_cheque_1 (hP : Pl sh F) (hC : CR sh I F M) (hw : M 171 = w) (hW : WF w) {p q n : Int} (j1 : jin p) (j2 : jin q) (h : ¬ (gP w p ∧ gP w q)) : jS G (d + 6) mX11_cheque [jR (some 0), jI p, jI q, jI n] (sh, I, F) 1 6 (rX xIob (sh, I, F)) := by
  obtain ⟨hsh, hfx, hmm, hst, h12, h22⟩ := id hP
  have hR : Rp I 2 w := by rw [← hw]; exact hC.1.1
  have g8 := hW.1
  have f01 := hW.2.2.2.1
  refine jS_go [some (jR (some 0)), some (jI p), some (jI q), some (jI n), none] (by decide +kernel) rfl (by simp [jone]) (Nat.le_of_ble_eq_true rfl) rfl (fun hok => ?_)
  refine j_aload_n dX11_cheque_0 rfl ?_
  refine j_iload_n dX11_cheque_1 rfl ?_
  refine j_iload_n dX11_cheque_2 rfl ?_
  exact r_cv2X dX11_cheque_3 cvX11_169 (by decide) (by first | assumption | exact hsh _ _ rfl) (Nat.le_of_ble_eq_true rfl) (Nat.le_refl _) (Nat.le_refl _) rfl (cg_two1 hsh hfx hR (by omega) (by omega) h) (⟨rfl, rfl⟩)
theorem cp_cheque_2 (hP : Pl sh F) (hC : CR sh I F M) (hw : M 171 = w) (hW : WF w) {p q n : Int} (h1 : gP w p ∧ gP w q) (jn : jin n) (h2 : ¬ (¬ p = q ∧ (1 ≤ n ∧ n ≤ aOf w p 1) ∧ aOf w q 1 + n ≤ 99999)) : jS G (d + 6) mX11_cheque [jR (some 0), jI p, jI q, jI n] (sh, I, F) 1 6 (rX xIae (sh, I, F)) := by
  obtain ⟨hsh, hfx, hmm, hst, h12, h22⟩ := id hP
  have hR : Rp I 2 w := by rw [← hw]; exact hC.1.1
  have g8 := hW.1
  have f01 := hW.2.2.2.1
  have gp : 0 ≤ p ∧ p < aPe w := by have := h1.1.1; have := h1.1.2; omega
  have gq : 0 ≤ q ∧ q < aPe w := by have := h1.2.1; have := h1.2.2; omega
  have q1 := (hW.2.1.2.2 p gp.1 gp.2).2
  have q2 := (hW.2.1.2.2 q gq.1 gq.2).2
  have u := hR.2.2.1 p gp.1 gp.2
  have v := hR.2.2.1 q gq.1 gq.2
  obtain ⟨y0, y1, y2, y3, y4, y5, y6, y7, y8, y9, z1, z2, z3, z4, z5, z6, z7, z8, z9⟩ := id hst
  refine jS_go [some (jR (some 0)), some (jI p), some (jI q), some (jI n), none] (by decide +kernel) rfl (by simp [jone]) (Nat.le_of_ble_eq_true rfl) rfl (fun hok => ?_)
  by_cases e : p = q
  · refine j_aload_n dX11_cheque_0 rfl ?_
    refine j_iload_n dX11_cheque_1 rfl ?_
    refine j_iload_n dX11_cheque_2 rfl ?_
    exact r_cv2X dX11_cheque_3 cvX11_169 (by decide) (by first | assumption | exact hsh _ _ rfl) (Nat.le_of_ble_eq_true rfl) (Nat.le_refl _) (Nat.le_refl _) rfl (cg_two2 hsh hfx hR (by omega) (by omega) h1 e) (⟨rfl, rfl⟩)
  · by_cases e2 : 1 ≤ n ∧ n ≤ aOf w p 1
    · have e3 : ¬ (0 ≤ aOf w q 1 + n ∧ aOf w q 1 + n ≤ 99999) := fun q => h2 ⟨e, e2, q.2⟩
      refine j_aload_n dX11_cheque_0 rfl ?_
      refine j_iload_n dX11_cheque_1 rfl ?_
      refine j_iload_n dX11_cheque_2 rfl ?_
      refine r_cv2V dX11_cheque_3 cvX11_169 (by decide) (by first | assumption | exact hsh _ _ rfl) (Nat.le_of_ble_eq_true rfl) (Nat.le_of_eq (Nat.zero_add _)) (Nat.le_of_eq (Nat.zero_add _)) (cg_two0 hsh hfx hR (by omega) (by omega) h1 e) ?_
      refine j_aload_n dX11_cheque_6 rfl ?_
      refine j_iload_n dX11_cheque_7 rfl ?_
      refine j_iconst dX11_cheque_8 ?_
      refine j_aload_n dX11_cheque_9 rfl ?_
      refine r_getS dX11_cheque_10 flX11_20 (by first | assumption | exact hsh _ _ rfl) (fx_0_3 hfx) ?_
      refine r_getS dX11_cheque_13 flX11_125 (by first | assumption | exact hsh _ _ rfl) (by assumption) ?_
      refine j_iload_n dX11_cheque_16 rfl ?_
      refine r_ialoadE dX11_cheque_17 (by first | assumption | exact hsh _ _ rfl) (by first | omega | (split <;> omega)) (by first | omega | (split <;> omega)) u.2.1 (fun b_17 => ?_)
      refine r_cv3V dX11_cheque_18 cvX11_191 (by decide) (by first | assumption | exact hsh _ _ rfl) (Nat.le_of_ble_eq_true rfl) (Nat.le_of_eq (Nat.zero_add _)) (Nat.le_of_eq (Nat.zero_add _)) (cg_lie0 hsh (by omega) (by omega) (by omega) e2) ?_
      refine j_aload_n dX11_cheque_21 rfl ?_
      refine j_aload_n dX11_cheque_22 rfl ?_
      refine r_getS dX11_cheque_23 flX11_20 (by first | assumption | exact hsh _ _ rfl) (fx_0_3 hfx) ?_
      refine r_getS dX11_cheque_26 flX11_125 (by first | assumption | exact hsh _ _ rfl) (by assumption) ?_
      refine j_iload_n dX11_cheque_29 rfl ?_
      refine r_ialoadE dX11_cheque_30 (by first | assumption | exact hsh _ _ rfl) (by first | omega | (split <;> omega)) (by first | omega | (split <;> omega)) v.2.1 (fun b_30 => ?_)
      refine j_iload_n dX11_cheque_31 rfl ?_
      refine j_iadd dX11_cheque_32 ?_
      refine j_iconst dX11_cheque_33 ?_
      refine j_ldc (n := 99999) dX11_cheque_34 kcX11_195 ?_
      exact r_cv3X dX11_cheque_36 cvX11_191 (by decide) (by first | assumption | exact hsh _ _ rfl) (Nat.le_of_ble_eq_true rfl) (Nat.le_refl _) (Nat.le_refl _) rfl (cg_lie1 hsh (by omega) (by omega) (by omega) e3) (⟨rfl, rfl⟩)
    · refine j_aload_n dX11_cheque_0 rfl ?_
      refine j_iload_n dX11_cheque_1 rfl ?_
      refine j_iload_n dX11_cheque_2 rfl ?_
      refine r_cv2V dX11_cheque_3 cvX11_169 (by decide) (by first | assumption | exact hsh _ _ rfl) (Nat.le_of_ble_eq_true rfl) (Nat.le_of_eq (Nat.zero_add _)) (Nat.le_of_eq (Nat.zero_add _)) (cg_two0 hsh hfx hR (by omega) (by omega) h1 e) ?_
      refine j_aload_n dX11_cheque_6 rfl ?_
      refine j_iload_n dX11_cheque_7 rfl ?_
      refine j_iconst dX11_cheque_8 ?_
      refine j_aload_n dX11_cheque_9 rfl ?_
      refine r_getS dX11_cheque_10 flX11_20 (by first | assumption | exact hsh _ _ rfl) (fx_0_3 hfx) ?_
      refine r_getS dX11_cheque_13 flX11_125 (by first | assumption | exact hsh _ _ rfl) (by assumption) ?_
      refine j_iload_n dX11_cheque_16 rfl ?_
      refine r_ialoadE dX11_cheque_17 (by first | assumption | exact hsh _ _ rfl) (by first | omega | (split <;> omega)) (by first | omega | (split <;> omega)) u.2.1 (fun b_17 => ?_)
      exact r_cv3X dX11_cheque_18 cvX11_191 (by decide) (by first | assumption | exact hsh _ _ rfl) (Nat.le_of_ble_eq_true rfl) (Nat.le_refl _) (Nat.le_refl _) rfl (cg_lie1 hsh (by omega) (by omega) (by omega) e2) (⟨rfl, rfl⟩)
theorem cp_cheque_3 (hP : Pl sh F) (hC : CR sh I F M) (hw : M 171 = w) (hW : WF w) {p q n : Int} (h1 : gP w p ∧ gP w q) (h2 : ¬ p = q ∧ (1 ≤ n ∧ n ≤ aOf w p 1) ∧ aOf w q 1 + n ≤ 99999) (h3 : ¬ (aOf w p 3 = 0 ∧ aOf w q 3 = 0 ∧ ¬ w 8 = 1)) : jS G (d + 6) mX11_cheque [jR (some 0), jI p, jI q, jI n] (sh, I, F) 1 6 (rX xIse (sh, I, F)) := by
  obtain ⟨hsh, hfx, hmm, hst, h12, h22⟩ := id hP
  have hR : Rp I 2 w := by rw [← hw]; exact hC.1.1
  have g8 := hW.1
  have f01 := hW.2.2.2.1
  have gp : 0 ≤ p ∧ p < aPe w := by have := h1.1.1; have := h1.1.2; omega
  have gq : 0 ≤ q ∧ q < aPe w := by have := h1.2.1; have := h1.2.2; omega
  have q1 := (hW.2.1.2.2 p gp.1 gp.2).2
  have q2 := (hW.2.1.2.2 q gq.1 gq.2).2
  have u := hR.2.2.1 p gp.1 gp.2
  have v := hR.2.2.1 q gq.1 gq.2
  obtain ⟨y0, y1, y2, y3, y4, y5, y6, y7, y8, y9, z1, z2, z3, z4, z5, z6, z7, z8, z9⟩ := id hst
  refine jS_go [some (jR (some 0)), some (jI p), some (jI q), some (jI n), none] (by decide +kernel) rfl (by simp [jone]) (Nat.le_of_ble_eq_true rfl) rfl (fun hok => ?_)
  have e2 : 0 ≤ aOf w q 1 + n ∧ aOf w q 1 + n ≤ 99999 := by omega
  by_cases e : aOf w p 3 = 0
  · by_cases e1 : aOf w q 3 = 0
    · have e3 : w 8 = 1 := Classical.not_not.1 (fun q => h3 ⟨e, e1, q⟩)
      refine j_aload_n dX11_cheque_0 rfl ?_
      refine j_iload_n dX11_cheque_1 rfl ?_
      refine j_iload_n dX11_cheque_2 rfl ?_
      refine r_cv2V dX11_cheque_3 cvX11_169 (by decide) (by first | assumption | exact hsh _ _ rfl) (Nat.le_of_ble_eq_true rfl) (Nat.le_of_eq (Nat.zero_add _)) (Nat.le_of_eq (Nat.zero_add _)) (cg_two0 hsh hfx hR (by omega) (by omega) h1 h2.1) ?_
      refine j_aload_n dX11_cheque_6 rfl ?_
      refine j_iload_n dX11_cheque_7 rfl ?_
      refine j_iconst dX11_cheque_8 ?_
      refine j_aload_n dX11_cheque_9 rfl ?_
      refine r_getS dX11_cheque_10 flX11_20 (by first | assumption | exact hsh _ _ rfl) (fx_0_3 hfx) ?_
      refine r_getS dX11_cheque_13 flX11_125 (by first | assumption | exact hsh _ _ rfl) (by assumption) ?_
      refine j_iload_n dX11_cheque_16 rfl ?_
      refine r_ialoadE dX11_cheque_17 (by first | assumption | exact hsh _ _ rfl) (by first | omega | (split <;> omega)) (by first | omega | (split <;> omega)) u.2.1 (fun b_17 => ?_)
      refine r_cv3V dX11_cheque_18 cvX11_191 (by decide) (by first | assumption | exact hsh _ _ rfl) (Nat.le_of_ble_eq_true rfl) (Nat.le_of_eq (Nat.zero_add _)) (Nat.le_of_eq (Nat.zero_add _)) (cg_lie0 hsh (by omega) (by omega) (by omega) h2.2.1) ?_
      refine j_aload_n dX11_cheque_21 rfl ?_
      refine j_aload_n dX11_cheque_22 rfl ?_
      refine r_getS dX11_cheque_23 flX11_20 (by first | assumption | exact hsh _ _ rfl) (fx_0_3 hfx) ?_
      refine r_getS dX11_cheque_26 flX11_125 (by first | assumption | exact hsh _ _ rfl) (by assumption) ?_
      refine j_iload_n dX11_cheque_29 rfl ?_
      refine r_ialoadE dX11_cheque_30 (by first | assumption | exact hsh _ _ rfl) (by first | omega | (split <;> omega)) (by first | omega | (split <;> omega)) v.2.1 (fun b_30 => ?_)
      refine j_iload_n dX11_cheque_31 rfl ?_
      refine j_iadd dX11_cheque_32 ?_
      refine j_iconst dX11_cheque_33 ?_
      refine j_ldc (n := 99999) dX11_cheque_34 kcX11_195 ?_
      refine r_cv3V dX11_cheque_36 cvX11_191 (by decide) (by first | assumption | exact hsh _ _ rfl) (Nat.le_of_ble_eq_true rfl) (Nat.le_of_eq (Nat.zero_add _)) (Nat.le_of_eq (Nat.zero_add _)) (cg_lie0 hsh (by omega) (by omega) (by omega) e2) ?_
      refine j_aload_n dX11_cheque_39 rfl ?_
      refine j_iload_n dX11_cheque_40 rfl ?_
      refine r_cv1V dX11_cheque_41 cvX11_176 (by decide) (by first | assumption | exact hsh _ _ rfl) (Nat.le_of_ble_eq_true rfl) (Nat.le_of_eq (Nat.zero_add _)) (Nat.le_of_eq (Nat.zero_add _)) (cg_live1 hsh hfx hst hR (by omega) h1.1 e) ?_
      refine j_aload_n dX11_cheque_44 rfl ?_
      refine j_iload_n dX11_cheque_45 rfl ?_
      refine r_cv1V dX11_cheque_46 cvX11_176 (by decide) (by first | assumption | exact hsh _ _ rfl) (Nat.le_of_ble_eq_true rfl) (Nat.le_of_eq (Nat.zero_add _)) (Nat.le_of_eq (Nat.zero_add _)) (cg_live1 hsh hfx hst hR (by omega) h1.2 e1) ?_
      refine j_aload_n dX11_cheque_49 rfl ?_
      exact r_cv0X dX11_cheque_50 cvX11_196 (by decide) (by first | assumption | exact hsh _ _ rfl) (Nat.le_of_ble_eq_true rfl) (Nat.le_refl _) (Nat.le_refl _) rfl (cg_stand1 hsh hfx hst hR e3) (⟨rfl, rfl⟩)
    · refine j_aload_n dX11_cheque_0 rfl ?_
      refine j_iload_n dX11_cheque_1 rfl ?_
      refine j_iload_n dX11_cheque_2 rfl ?_
      refine r_cv2V dX11_cheque_3 cvX11_169 (by decide) (by first | assumption | exact hsh _ _ rfl) (Nat.le_of_ble_eq_true rfl) (Nat.le_of_eq (Nat.zero_add _)) (Nat.le_of_eq (Nat.zero_add _)) (cg_two0 hsh hfx hR (by omega) (by omega) h1 h2.1) ?_
      refine j_aload_n dX11_cheque_6 rfl ?_
      refine j_iload_n dX11_cheque_7 rfl ?_
      refine j_iconst dX11_cheque_8 ?_
      refine j_aload_n dX11_cheque_9 rfl ?_
      refine r_getS dX11_cheque_10 flX11_20 (by first | assumption | exact hsh _ _ rfl) (fx_0_3 hfx) ?_
      refine r_getS dX11_cheque_13 flX11_125 (by first | assumption | exact hsh _ _ rfl) (by assumption) ?_
      refine j_iload_n dX11_cheque_16 rfl ?_
      refine r_ialoadE dX11_cheque_17 (by first | assumption | exact hsh _ _ rfl) (by first | omega | (split <;> omega)) (by first | omega | (split <;> omega)) u.2.1 (fun b_17 => ?_)
      refine r_cv3V dX11_cheque_18 cvX11_191 (by decide) (by first | assumption | exact hsh _ _ rfl) (Nat.le_of_ble_eq_true rfl) (Nat.le_of_eq (Nat.zero_add _)) (Nat.le_of_eq (Nat.zero_add _)) (cg_lie0 hsh (by omega) (by omega) (by omega) h2.2.1) ?_
      refine j_aload_n dX11_cheque_21 rfl ?_
      refine j_aload_n dX11_cheque_22 rfl ?_
      refine r_getS dX11_cheque_23 flX11_20 (by first | assumption | exact hsh _ _ rfl) (fx_0_3 hfx) ?_
      refine r_getS dX11_cheque_26 flX11_125 (by first | assumption | exact hsh _ _ rfl) (by assumption) ?_
      refine j_iload_n dX11_cheque_29 rfl ?_
      refine r_ialoadE dX11_cheque_30 (by first | assumption | exact hsh _ _ rfl) (by first | omega | (split <;> omega)) (by first | omega | (split <;> omega)) v.2.1 (fun b_30 => ?_)
      refine j_iload_n dX11_cheque_31 rfl ?_
      refine j_iadd dX11_cheque_32 ?_
      refine j_iconst dX11_cheque_33 ?_
      refine j_ldc (n := 99999) dX11_cheque_34 kcX11_195 ?_
      refine r_cv3V dX11_cheque_36 cvX11_191 (by decide) (by first | assumption | exact hsh _ _ rfl) (Nat.le_of_ble_eq_true rfl) (Nat.le_of_eq (Nat.zero_add _)) (Nat.le_of_eq (Nat.zero_add _)) (cg_lie0 hsh (by omega) (by omega) (by omega) e2) ?_
      refine j_aload_n dX11_cheque_39 rfl ?_
      refine j_iload_n dX11_cheque_40 rfl ?_
      refine r_cv1V dX11_cheque_41 cvX11_176 (by decide) (by first | assumption | exact hsh _ _ rfl) (Nat.le_of_ble_eq_true rfl) (Nat.le_of_eq (Nat.zero_add _)) (Nat.le_of_eq (Nat.zero_add _)) (cg_live1 hsh hfx hst hR (by omega) h1.1 e) ?_
      refine j_aload_n dX11_cheque_44 rfl ?_
      refine j_iload_n dX11_cheque_45 rfl ?_
      exact r_cv1X dX11_cheque_46 cvX11_176 (by decide) (by first | assumption | exact hsh _ _ rfl) (Nat.le_of_ble_eq_true rfl) (Nat.le_refl _) (Nat.le_refl _) rfl (cg_live0 hsh hfx hst hR (by omega) h1.2 e1) (⟨rfl, rfl⟩)
  · refine j_aload_n dX11_cheque_0 rfl ?_
    refine j_iload_n dX11_cheque_1 rfl ?_
    refine j_iload_n dX11_cheque_2 rfl ?_
    refine r_cv2V dX11_cheque_3 cvX11_169 (by decide) (by first | assumption | exact hsh _ _ rfl) (Nat.le_of_ble_eq_true rfl) (Nat.le_of_eq (Nat.zero_add _)) (Nat.le_of_eq (Nat.zero_add _)) (cg_two0 hsh hfx hR (by omega) (by omega) h1 h2.1) ?_
    refine j_aload_n dX11_cheque_6 rfl ?_
    refine j_iload_n dX11_cheque_7 rfl ?_
    refine j_iconst dX11_cheque_8 ?_
    refine j_aload_n dX11_cheque_9 rfl ?_
    refine r_getS dX11_cheque_10 flX11_20 (by first | assumption | exact hsh _ _ rfl) (fx_0_3 hfx) ?_
    refine r_getS dX11_cheque_13 flX11_125 (by first | assumption | exact hsh _ _ rfl) (by assumption) ?_
    refine j_iload_n dX11_cheque_16 rfl ?_
    refine r_ialoadE dX11_cheque_17 (by first | assumption | exact hsh _ _ rfl) (by first | omega | (split <;> omega)) (by first | omega | (split <;> omega)) u.2.1 (fun b_17 => ?_)
    refine r_cv3V dX11_cheque_18 cvX11_191 (by decide) (by first | assumption | exact hsh _ _ rfl) (Nat.le_of_ble_eq_true rfl) (Nat.le_of_eq (Nat.zero_add _)) (Nat.le_of_eq (Nat.zero_add _)) (cg_lie0 hsh (by omega) (by omega) (by omega) h2.2.1) ?_
    refine j_aload_n dX11_cheque_21 rfl ?_
    refine j_aload_n dX11_cheque_22 rfl ?_
    refine r_getS dX11_cheque_23 flX11_20 (by first | assumption | exact hsh _ _ rfl) (fx_0_3 hfx) ?_
    refine r_getS dX11_cheque_26 flX11_125 (by first | assumption | exact hsh _ _ rfl) (by assumption) ?_
    refine j_iload_n dX11_cheque_29 rfl ?_
    refine r_ialoadE dX11_cheque_30 (by first | assumption | exact hsh _ _ rfl) (by first | omega | (split <;> omega)) (by first | omega | (split <;> omega)) v.2.1 (fun b_30 => ?_)
    refine j_iload_n dX11_cheque_31 rfl ?_
    refine j_iadd dX11_cheque_32 ?_
    refine j_iconst dX11_cheque_33 ?_
    refine j_ldc (n := 99999) dX11_cheque_34 kcX11_195 ?_
    refine r_cv3V dX11_cheque_36 cvX11_191 (by decide) (by first | assumption | exact hsh _ _ rfl) (Nat.le_of_ble_eq_true rfl) (Nat.le_of_eq (Nat.zero_add _)) (Nat.le_of_eq (Nat.zero_add _)) (cg_lie0 hsh (by omega) (by omega) (by omega) e2) ?_
    refine j_aload_n dX11_cheque_39 rfl ?_
    refine j_iload_n dX11_cheque_40 rfl ?_
    exact r_cv1X dX11_cheque_41 cvX11_176 (by decide) (by first | assumption | exact hsh _ _ rfl) (Nat.le_of_ble_eq_true rfl) (Nat.le_refl _) (Nat.le_refl _) rfl (cg_live0 hsh hfx hst hR (by omega) h1.1 e) (⟨rfl, rfl⟩)
theorem cp_cheque_0 (hP : Pl sh F) (hC : CR sh I F M) (hw : M 171 = w) (hW : WF w) {p q n : Int} (h1 : gP w p ∧ gP w q) (h2 : ¬ p = q ∧ (1 ≤ n ∧ n ≤ aOf w p 1) ∧ aOf w q 1 + n ≤ 99999) (h3 : aOf w p 3 = 0 ∧ aOf w q 3 = 0 ∧ ¬ w 8 = 1) : jS G (d + 6) mX11_cheque [jR (some 0), jI p, jI q, jI n] (sh, I, F) 0 0 (rHI (aOf w q 1 + n) sh (CaO sh I (mzW (mzR M) (wCheq w p q n)))) := by
  obtain ⟨hsh, hfx, hmm, hst, h12, h22⟩ := id hP
  have hR : Rp I 2 w := by rw [← hw]; exact hC.1.1
  have g8 := hW.1
  have f01 := hW.2.2.2.1
  have gp : 0 ≤ p ∧ p < aPe w := by have := h1.1.1; have := h1.1.2; omega
  have gq : 0 ≤ q ∧ q < aPe w := by have := h1.2.1; have := h1.2.2; omega
  have q1 := (hW.2.1.2.2 p gp.1 gp.2).2
  have q2 := (hW.2.1.2.2 q gq.1 gq.2).2
  have u := hR.2.2.1 p gp.1 gp.2
  have v := hR.2.2.1 q gq.1 gq.2
  obtain ⟨y0, y1, y2, y3, y4, y5, y6, y7, y8, y9, z1, z2, z3, z4, z5, z6, z7, z8, z9⟩ := id hst
  refine jS_go [some (jR (some 0)), some (jI p), some (jI q), some (jI n), none] (by decide +kernel) rfl (by simp [jone]) (Nat.le_of_ble_eq_true rfl) rfl (fun hok => ?_)
  have e2 : 0 ≤ aOf w q 1 + n ∧ aOf w q 1 + n ≤ 99999 := by omega
  refine j_aload_n dX11_cheque_0 rfl ?_
  refine j_iload_n dX11_cheque_1 rfl ?_
  refine j_iload_n dX11_cheque_2 rfl ?_
  refine r_cv2V dX11_cheque_3 cvX11_169 (by decide) (by first | assumption | exact hsh _ _ rfl) (Nat.le_of_ble_eq_true rfl) (Nat.le_of_eq (Nat.zero_add _)) (Nat.le_of_eq (Nat.zero_add _)) (cg_two0 hsh hfx hR (by omega) (by omega) h1 h2.1) ?_
  refine j_aload_n dX11_cheque_6 rfl ?_
  refine j_iload_n dX11_cheque_7 rfl ?_
  refine j_iconst dX11_cheque_8 ?_
  refine j_aload_n dX11_cheque_9 rfl ?_
  refine r_getS dX11_cheque_10 flX11_20 (by first | assumption | exact hsh _ _ rfl) (fx_0_3 hfx) ?_
  refine r_getS dX11_cheque_13 flX11_125 (by first | assumption | exact hsh _ _ rfl) (by assumption) ?_
  refine j_iload_n dX11_cheque_16 rfl ?_
  refine r_ialoadE dX11_cheque_17 (by first | assumption | exact hsh _ _ rfl) (by first | omega | (split <;> omega)) (by first | omega | (split <;> omega)) u.2.1 (fun b_17 => ?_)
  refine r_cv3V dX11_cheque_18 cvX11_191 (by decide) (by first | assumption | exact hsh _ _ rfl) (Nat.le_of_ble_eq_true rfl) (Nat.le_of_eq (Nat.zero_add _)) (Nat.le_of_eq (Nat.zero_add _)) (cg_lie0 hsh (by omega) (by omega) (by omega) h2.2.1) ?_
  refine j_aload_n dX11_cheque_21 rfl ?_
  refine j_aload_n dX11_cheque_22 rfl ?_
  refine r_getS dX11_cheque_23 flX11_20 (by first | assumption | exact hsh _ _ rfl) (fx_0_3 hfx) ?_
  refine r_getS dX11_cheque_26 flX11_125 (by first | assumption | exact hsh _ _ rfl) (by assumption) ?_
  refine j_iload_n dX11_cheque_29 rfl ?_
  refine r_ialoadE dX11_cheque_30 (by first | assumption | exact hsh _ _ rfl) (by first | omega | (split <;> omega)) (by first | omega | (split <;> omega)) v.2.1 (fun b_30 => ?_)
  refine j_iload_n dX11_cheque_31 rfl ?_
  refine j_iadd dX11_cheque_32 ?_
  refine j_iconst dX11_cheque_33 ?_
  refine j_ldc (n := 99999) dX11_cheque_34 kcX11_195 ?_
  refine r_cv3V dX11_cheque_36 cvX11_191 (by decide) (by first | assumption | exact hsh _ _ rfl) (Nat.le_of_ble_eq_true rfl) (Nat.le_of_eq (Nat.zero_add _)) (Nat.le_of_eq (Nat.zero_add _)) (cg_lie0 hsh (by omega) (by omega) (by omega) e2) ?_
  refine j_aload_n dX11_cheque_39 rfl ?_
  refine j_iload_n dX11_cheque_40 rfl ?_
  refine r_cv1V dX11_cheque_41 cvX11_176 (by decide) (by first | assumption | exact hsh _ _ rfl) (Nat.le_of_ble_eq_true rfl) (Nat.le_of_eq (Nat.zero_add _)) (Nat.le_of_eq (Nat.zero_add _)) (cg_live1 hsh hfx hst hR (by omega) h1.1 h3.1) ?_
  refine j_aload_n dX11_cheque_44 rfl ?_
  refine j_iload_n dX11_cheque_45 rfl ?_
  refine r_cv1V dX11_cheque_46 cvX11_176 (by decide) (by first | assumption | exact hsh _ _ rfl) (Nat.le_of_ble_eq_true rfl) (Nat.le_of_eq (Nat.zero_add _)) (Nat.le_of_eq (Nat.zero_add _)) (cg_live1 hsh hfx hst hR (by omega) h1.2 h3.2.1) ?_
  refine j_aload_n dX11_cheque_49 rfl ?_
  refine r_cv0V dX11_cheque_50 cvX11_196 (by decide) (by first | assumption | exact hsh _ _ rfl) (Nat.le_of_ble_eq_true rfl) (Nat.le_of_eq (Nat.zero_add _)) (Nat.le_of_eq (Nat.zero_add _)) (cg_stand0 hsh hfx hst hR h3.2.2 f01) ?_
  refine j_aload_n dX11_cheque_53 rfl ?_
  refine r_getS dX11_cheque_54 flX11_33 (by first | assumption | exact hsh _ _ rfl) (fx_0_7 hfx) ?_
  refine j_aload_n dX11_cheque_57 rfl ?_
  refine r_getS dX11_cheque_58 flX11_20 (by first | assumption | exact hsh _ _ rfl) (fx_0_3 hfx) ?_
  refine r_cv1HV dX11_cheque_61 cvX11_199 (by decide) (by first | assumption | exact hsh _ _ rfl) (Nat.le_of_ble_eq_true rfl) (Nat.le_of_eq (Nat.zero_add _)) (Nat.le_of_eq (Nat.zero_add _)) (cr_remember hP hC (by rw [hw]; exact hW)) (fun J F1 hJ => ?_)
  obtain ⟨-, hfx, -, hst1, -, -⟩ := id hJ.1
  obtain ⟨g0, g1, g2, g3, g4, g5, g6, g7, g8, g9, e1, e2, e3, e4, e5, e6, e7, e8, e9⟩ := id hst1
  have hS1 : Sr sh J F1 2 w := by rw [← hw]; exact hJ.2.1.1
  have hR1 := hS1.1
  have u1 := hR1.2.2.1 p gp.1 gp.2
  have v1 := hR1.2.2.1 q gq.1 gq.2
  obtain ⟨K1, hK1⟩ : ∃ K, K = jup J (2 + 3) p (aOf w p 1 - n) := ⟨_, rfl⟩
  have R1 := Rp_one (x := aOf w p 1 - n) hR1 gp (Or.inl ⟨rfl, rfl⟩)
  rw [← hK1] at R1
  have q86 : K1 (2 + 3) q = aOf w q 1 := by rw [hK1, jup_row _ _ _ (fun e => h2.1 e.symm)]; exact v1.2.1
  obtain ⟨K2, hK2⟩ : ∃ K, K = jup K1 (2 + 3) q (aOf w q 1 + n) := ⟨_, rfl⟩
  have R2 := Rp_one (p := q) (x := aOf w q 1 + n) R1 (by rw [show aPe (wup w (12 + 13 * p + 1) (aOf w p 1 - n)) = aPe w from wup_ne _ _ (by omega)]; exact gq) (Or.inl ⟨rfl, rfl⟩)
  rw [← hK2] at R2
  have q99 : K2 (2 + 4) p = aOf w p 2 := by rw [hK2, jup_ne _ _ _ (by decide), hK1, jup_ne _ _ _ (by decide)]; exact u1.2.2.1
  have q108 : K2 (2 + 3) p = aOf w p 1 - n := by rw [hK2, jup_row _ _ _ h2.1, hK1, jup_same]
  obtain ⟨K3, hK3⟩ : ∃ K, K = jup K2 (2 + 4) p (aOf w p 2 - mMv w p n) := ⟨_, rfl⟩
  have R3 := Rp_one (p := p) (x := aOf w p 2 - mMv w p n) R2 (by rw [show aPe (wup (wup w (12 + 13 * p + 1) (aOf w p 1 - n)) (12 + 13 * q + 1) (aOf w q 1 + n)) = aPe w from (wup_ne _ _ (by omega)).trans (wup_ne _ _ (by omega))]; exact gp) (Or.inr (Or.inl ⟨rfl, rfl⟩))
  rw [← hK3] at R3
  have q138 : K3 (2 + 4) q = aOf w q 2 := by rw [hK3, jup_row _ _ _ (fun e => h2.1 e.symm), hK2, jup_ne _ _ _ (by decide), hK1, jup_ne _ _ _ (by decide)]; exact v1.2.2.1
  have q151 : jup K3 (2 + 4) q (aOf w q 2 + mMv w p n) (2 + 3) q = aOf w q 1 + n := by rw [jup_ne _ _ _ (by decide), hK3, jup_ne _ _ _ (by decide), hK2, jup_same]
  have R4 := Rp_one (p := q) (x := aOf w q 2 + mMv w p n) R3 (by rw [show aPe (wup (wup (wup w (12 + 13 * p + 1) (aOf w p 1 - n)) (12 + 13 * q + 1) (aOf w q 1 + n)) (12 + 13 * p + 2) (aOf w p 2 - mMv w p n)) = aPe w from (wup_ne _ _ (by omega)).trans ((wup_ne _ _ (by omega)).trans (wup_ne _ _ (by omega)))]; exact gq) (Or.inr (Or.inl ⟨rfl, rfl⟩))
  refine j_aload_n dX11_cheque_64 rfl ?_
  refine r_getS dX11_cheque_65 flX11_20 (by first | assumption | exact hsh _ _ rfl) (fx_0_3 hfx) ?_
  refine r_getS dX11_cheque_68 flX11_125 (by first | assumption | exact hsh _ _ rfl) (by assumption) ?_
  refine j_iload_n dX11_cheque_71 rfl ?_
  refine j_dup2 dX11_cheque_72 trivial trivial ?_
  refine r_ialoadE dX11_cheque_73 (by first | assumption | exact hsh _ _ rfl) (by first | omega | (split <;> omega)) (by first | omega | (split <;> omega)) u1.2.1 (fun b_73 => ?_)
  refine j_iload_n dX11_cheque_74 rfl ?_
  refine j_isub dX11_cheque_75 ?_
  refine r_iastore dX11_cheque_76 (by first | assumption | exact hsh _ _ rfl) (by first | omega | (split <;> omega)) (by first | omega | (split <;> omega)) (by first | omega | (split <;> omega)) ?_
  rw [← hK1]
  refine j_aload_n dX11_cheque_77 rfl ?_
  refine r_getS dX11_cheque_78 flX11_20 (by first | assumption | exact hsh _ _ rfl) (fx_0_3 hfx) ?_
  refine r_getS dX11_cheque_81 flX11_125 (by first | assumption | exact hsh _ _ rfl) (by assumption) ?_
  refine j_iload_n dX11_cheque_84 rfl ?_
  refine j_dup2 dX11_cheque_85 trivial trivial ?_
  refine r_ialoadE dX11_cheque_86 (by first | assumption | exact hsh _ _ rfl) (by first | omega | (split <;> omega)) (by first | omega | (split <;> omega)) q86 (fun b_86 => ?_)
  refine j_iload_n dX11_cheque_87 rfl ?_
  refine j_iadd dX11_cheque_88 ?_
  refine r_iastore dX11_cheque_89 (by first | assumption | exact hsh _ _ rfl) (by first | omega | (split <;> omega)) (by first | omega | (split <;> omega)) (by first | omega | (split <;> omega)) ?_
  rw [← hK2]
  refine j_iconst dX11_cheque_90 ?_
  refine j_aload_n dX11_cheque_91 rfl ?_
  refine r_getS dX11_cheque_92 flX11_20 (by first | assumption | exact hsh _ _ rfl) (fx_0_3 hfx) ?_
  refine r_getS dX11_cheque_95 flX11_128 (by first | assumption | exact hsh _ _ rfl) (by assumption) ?_
  refine j_iload_n dX11_cheque_98 rfl ?_
  refine r_ialoadE dX11_cheque_99 (by first | assumption | exact hsh _ _ rfl) (by first | omega | (split <;> omega)) (by first | omega | (split <;> omega)) q99 (fun b_99 => ?_)
  refine j_aload_n dX11_cheque_100 rfl ?_
  refine r_getS dX11_cheque_101 flX11_20 (by first | assumption | exact hsh _ _ rfl) (fx_0_3 hfx) ?_
  refine r_getS dX11_cheque_104 flX11_125 (by first | assumption | exact hsh _ _ rfl) (by assumption) ?_
  refine j_iload_n dX11_cheque_107 rfl ?_
  refine r_ialoadE dX11_cheque_108 (by first | assumption | exact hsh _ _ rfl) (by first | omega | (split <;> omega)) (by first | omega | (split <;> omega)) q108 (fun b_108 => ?_)
  refine j_isub dX11_cheque_109 ?_
  refine r_max dX11_cheque_110 lmX11_207 (Nat.le_of_ble_eq_true rfl) (by first | omega | (split <;> omega)) (by first | omega | (split <;> omega)) ?_
  refine j_istore dX11_cheque_113 (by decide) ?_
  refine j_aload_n dX11_cheque_115 rfl ?_
  refine r_getS dX11_cheque_116 flX11_20 (by first | assumption | exact hsh _ _ rfl) (fx_0_3 hfx) ?_
  refine r_getS dX11_cheque_119 flX11_128 (by first | assumption | exact hsh _ _ rfl) (by assumption) ?_
  refine j_iload_n dX11_cheque_122 rfl ?_
  refine j_dup2 dX11_cheque_123 trivial trivial ?_
  refine r_ialoadE dX11_cheque_124 (by first | assumption | exact hsh _ _ rfl) (by first | omega | (split <;> omega)) (by first | omega | (split <;> omega)) q99 (fun b_124 => ?_)
  refine j_iload dX11_cheque_125 rfl ?_
  refine j_isub dX11_cheque_127 ?_
  refine r_iastore dX11_cheque_128 (by first | assumption | exact hsh _ _ rfl) (by first | omega | (split <;> omega)) (by first | omega | (split <;> omega)) (by first | omega | (split <;> omega)) ?_
  rw [show jup K2 (2 + 4) p _ = K3 from hK3.symm]
  refine j_aload_n dX11_cheque_129 rfl ?_
  refine r_getS dX11_cheque_130 flX11_20 (by first | assumption | exact hsh _ _ rfl) (fx_0_3 hfx) ?_
  refine r_getS dX11_cheque_133 flX11_128 (by first | assumption | exact hsh _ _ rfl) (by assumption) ?_
  refine j_iload_n dX11_cheque_136 rfl ?_
  refine j_dup2 dX11_cheque_137 trivial trivial ?_
  refine r_ialoadE dX11_cheque_138 (by first | assumption | exact hsh _ _ rfl) (by first | omega | (split <;> omega)) (by first | omega | (split <;> omega)) q138 (fun b_138 => ?_)
  refine j_iload dX11_cheque_139 rfl ?_
  refine j_iadd dX11_cheque_141 ?_
  refine r_iastore dX11_cheque_142 (by first | assumption | exact hsh _ _ rfl) (by first | omega | (split <;> omega)) (by first | omega | (split <;> omega)) (by first | omega | (split <;> omega)) ?_
  refine j_aload_n dX11_cheque_143 rfl ?_
  refine r_getS dX11_cheque_144 flX11_20 (by first | assumption | exact hsh _ _ rfl) (fx_0_3 hfx) ?_
  refine r_getS dX11_cheque_147 flX11_125 (by first | assumption | exact hsh _ _ rfl) (by assumption) ?_
  refine j_iload_n dX11_cheque_150 rfl ?_
  refine r_ialoadE dX11_cheque_151 (by first | assumption | exact hsh _ _ rfl) (by first | omega | (split <;> omega)) (by first | omega | (split <;> omega)) q151 (fun b_151 => ?_)
  refine j_iret dX11_cheque_152 rfl ?_
  refine ⟨_, F1, rfl, rfl, Ca_of hJ (Sr_now (by decide) hS1 R4 (by rw [jup_ne _ _ _ (by omega), hK3, jup_ne _ _ _ (by omega), hK2, jup_ne _ _ _ (by omega), hK1, jup_ne _ _ _ (by omega)]) (fun a x0 x1 => by rw [jup_ne _ _ _ (by omega), hK3, jup_ne _ _ _ (by omega), hK2, jup_ne _ _ _ (by omega), hK1, jup_ne _ _ _ (by omega)]) (fun k hk => (wup_ne _ _ (by omega)).trans ((wup_ne _ _ (by omega)).trans ((wup_ne _ _ (by omega)).trans (wup_ne _ _ (by omega)))))) (fun a x0 x1 => by rw [jup_ne _ _ _ (by omega), hK3, jup_ne _ _ _ (by omega), hK2, jup_ne _ _ _ (by omega), hK1, jup_ne _ _ _ (by omega)]) (fun k hk => ((wup_ne _ _ (by omega)).trans ((wup_ne _ _ (by omega)).trans ((wup_ne _ _ (by omega)).trans (wup_ne _ _ (by omega))))).trans (by rw [hw]))⟩
theorem cp_owe_1 (hP : Pl sh F) (hC : CR sh I F M) (hw : M 171 = w) (hW : WF w) {p q n : Int} (j1 : jin p) (j2 : jin q) (h : ¬ (gP w p ∧ gP w q)) : jS G (d + 6) mX11_owe [jR (some 0), jI p, jI q, jI n] (sh, I, F) 1 6 (rX xIob (sh, I, F)) := by
  obtain ⟨hsh, hfx, hmm, hst, h12, h22⟩ := id hP
  have hR : Rp I 2 w := by rw [← hw]; exact hC.1.1
  have g8 := hW.1
  have f01 := hW.2.2.2.1
  refine jS_go [some (jR (some 0)), some (jI p), some (jI q), some (jI n), none] (by decide +kernel) rfl (by simp [jone]) (Nat.le_of_ble_eq_true rfl) rfl (fun hok => ?_)
  refine j_aload_n dX11_owe_0 rfl ?_
  refine j_iload_n dX11_owe_1 rfl ?_
  refine j_iload_n dX11_owe_2 rfl ?_
  exact r_cv2X dX11_owe_3 cvX11_169 (by decide) (by first | assumption | exact hsh _ _ rfl) (Nat.le_of_ble_eq_true rfl) (Nat.le_refl _) (Nat.le_refl _) rfl (cg_two1 hsh hfx hR (by omega) (by omega) h) (⟨rfl, rfl⟩)
theorem cp_owe_2 (hP : Pl sh F) (hC : CR sh I F M) (hw : M 171 = w) (hW : WF w) {p q n : Int} (h1 : gP w p ∧ gP w q) (jn : jin n) (h2 : ¬ (¬ p = q ∧ 1 ≤ n ∧ n ≤ 999)) : jS G (d + 6) mX11_owe [jR (some 0), jI p, jI q, jI n] (sh, I, F) 1 6 (rX xIae (sh, I, F)) := by
  obtain ⟨hsh, hfx, hmm, hst, h12, h22⟩ := id hP
  have hR : Rp I 2 w := by rw [← hw]; exact hC.1.1
  have g8 := hW.1
  have f01 := hW.2.2.2.1
  have gp : 0 ≤ p ∧ p < aPe w := by have := h1.1.1; have := h1.1.2; omega
  have gq : 0 ≤ q ∧ q < aPe w := by have := h1.2.1; have := h1.2.2; omega
  refine jS_go [some (jR (some 0)), some (jI p), some (jI q), some (jI n), none] (by decide +kernel) rfl (by simp [jone]) (Nat.le_of_ble_eq_true rfl) rfl (fun hok => ?_)
  by_cases e : p = q
  · refine j_aload_n dX11_owe_0 rfl ?_
    refine j_iload_n dX11_owe_1 rfl ?_
    refine j_iload_n dX11_owe_2 rfl ?_
    exact r_cv2X dX11_owe_3 cvX11_169 (by decide) (by first | assumption | exact hsh _ _ rfl) (Nat.le_of_ble_eq_true rfl) (Nat.le_refl _) (Nat.le_refl _) rfl (cg_two2 hsh hfx hR (by omega) (by omega) h1 e) (⟨rfl, rfl⟩)
  · have e2 : ¬ (1 ≤ n ∧ n ≤ 999) := fun q => h2 ⟨e, q⟩
    refine j_aload_n dX11_owe_0 rfl ?_
    refine j_iload_n dX11_owe_1 rfl ?_
    refine j_iload_n dX11_owe_2 rfl ?_
    refine r_cv2V dX11_owe_3 cvX11_169 (by decide) (by first | assumption | exact hsh _ _ rfl) (Nat.le_of_ble_eq_true rfl) (Nat.le_of_eq (Nat.zero_add _)) (Nat.le_of_eq (Nat.zero_add _)) (cg_two0 hsh hfx hR (by omega) (by omega) h1 e) ?_
    refine j_aload_n dX11_owe_6 rfl ?_
    refine j_iload_n dX11_owe_7 rfl ?_
    refine j_iconst dX11_owe_8 ?_
    refine j_sipush dX11_owe_9 (by decide) ?_
    exact r_cv3X dX11_owe_12 cvX11_191 (by decide) (by first | assumption | exact hsh _ _ rfl) (Nat.le_of_ble_eq_true rfl) (Nat.le_refl _) (Nat.le_refl _) rfl (cg_lie1 hsh (by omega) (by omega) (by omega) e2) (⟨rfl, rfl⟩)
theorem cp_owe_3 (hP : Pl sh F) (hC : CR sh I F M) (hw : M 171 = w) (hW : WF w) {p q n : Int} (h1 : gP w p ∧ gP w q) (h2 : ¬ p = q ∧ 1 ≤ n ∧ n ≤ 999) (h3 : 9999 < jwr (aOw w p q + n)) : jS G (d + 6) mX11_owe [jR (some 0), jI p, jI q, jI n] (sh, I, F) 1 6 (rX xIse (sh, I, F)) := by
  obtain ⟨hsh, hfx, hmm, hst, h12, h22⟩ := id hP
  have hR : Rp I 2 w := by rw [← hw]; exact hC.1.1
  have g8 := hW.1
  have f01 := hW.2.2.2.1
  have gp : 0 ≤ p ∧ p < aPe w := by have := h1.1.1; have := h1.1.2; omega
  have gq : 0 ≤ q ∧ q < aPe w := by have := h1.2.1; have := h1.2.2; omega
  have u := hR.2.2.2.1 p q gp.1 gp.2 gq.1 gq.2
  have hj := jwr_in (aOw w p q + n)
  obtain ⟨y0, y1, y2, y3, y4, y5, y6, y7, y8, y9, z1, z2, z3, z4, z5, z6, z7, z8, z9⟩ := id hst
  refine jS_go [some (jR (some 0)), some (jI p), some (jI q), some (jI n), none] (by decide +kernel) rfl (by simp [jone]) (Nat.le_of_ble_eq_true rfl) rfl (fun hok => ?_)
  refine j_aload_n dX11_owe_0 rfl ?_
  refine j_iload_n dX11_owe_1 rfl ?_
  refine j_iload_n dX11_owe_2 rfl ?_
  refine r_cv2V dX11_owe_3 cvX11_169 (by decide) (by first | assumption | exact hsh _ _ rfl) (Nat.le_of_ble_eq_true rfl) (Nat.le_of_eq (Nat.zero_add _)) (Nat.le_of_eq (Nat.zero_add _)) (cg_two0 hsh hfx hR (by omega) (by omega) h1 h2.1) ?_
  refine j_aload_n dX11_owe_6 rfl ?_
  refine j_iload_n dX11_owe_7 rfl ?_
  refine j_iconst dX11_owe_8 ?_
  refine j_sipush dX11_owe_9 (by decide) ?_
  refine r_cv3V dX11_owe_12 cvX11_191 (by decide) (by first | assumption | exact hsh _ _ rfl) (Nat.le_of_ble_eq_true rfl) (Nat.le_of_eq (Nat.zero_add _)) (Nat.le_of_eq (Nat.zero_add _)) (cg_lie0 hsh (by omega) (by omega) (by omega) h2.2) ?_
  refine j_aload_n dX11_owe_15 rfl ?_
  refine r_getS dX11_owe_16 flX11_20 (by first | assumption | exact hsh _ _ rfl) (fx_0_3 hfx) ?_
  refine r_getS dX11_owe_19 flX11_173 (by first | assumption | exact hsh _ _ rfl) (by assumption) ?_
  refine j_iload_n dX11_owe_22 rfl ?_
  refine j_bipush dX11_owe_23 (by decide) ?_
  refine j_imul dX11_owe_25 ?_
  refine j_iload_n dX11_owe_26 rfl ?_
  refine j_iadd dX11_owe_27 ?_
  refine r_ialoadE dX11_owe_28 (by first | assumption | exact hsh _ _ rfl) (by first | omega | (split <;> omega)) (by first | omega | (split <;> omega)) u (fun b_28 => ?_)
  refine j_iload_n dX11_owe_29 rfl ?_
  refine j_iadd dX11_owe_30 ?_
  refine j_wrap ?_
  refine j_istore dX11_owe_31 (by decide) ?_
  refine j_iload dX11_owe_33 rfl ?_
  refine j_sipush dX11_owe_35 (by decide) ?_
  refine j_icmp_le (tgt := 51) dX11_owe_38 rfl (by first | omega | (split <;> omega)) (by first | omega | (split <;> omega)) (fun c_38 => by exact absurd c_38 (by omega)) (fun c_38 => ?_)
  exact j_throw dX11_owe_41 dX11_owe_44 dX11_owe_45 dX11_owe_47 dX11_owe_50 rfl th_owe (⟨rfl, rfl⟩)
theorem cp_owe_0 (hP : Pl sh F) (hC : CR sh I F M) (hw : M 171 = w) (hW : WF w) {p q n : Int} (h1 : gP w p ∧ gP w q) (h2 : ¬ p = q ∧ 1 ≤ n ∧ n ≤ 999) (h3 : ¬ 9999 < jwr (aOw w p q + n)) : jS G (d + 6) mX11_owe [jR (some 0), jI p, jI q, jI n] (sh, I, F) 0 0 (rHI (jwr (aOw w p q + n)) sh (CaO sh I (mzW (mzR M) (wOwe w p q n)))) := by
  obtain ⟨hsh, hfx, hmm, hst, h12, h22⟩ := id hP
  have hR : Rp I 2 w := by rw [← hw]; exact hC.1.1
  have g8 := hW.1
  have f01 := hW.2.2.2.1
  have gp : 0 ≤ p ∧ p < aPe w := by have := h1.1.1; have := h1.1.2; omega
  have gq : 0 ≤ q ∧ q < aPe w := by have := h1.2.1; have := h1.2.2; omega
  have u := hR.2.2.2.1 p q gp.1 gp.2 gq.1 gq.2
  have hj := jwr_in (aOw w p q + n)
  obtain ⟨y0, y1, y2, y3, y4, y5, y6, y7, y8, y9, z1, z2, z3, z4, z5, z6, z7, z8, z9⟩ := id hst
  refine jS_go [some (jR (some 0)), some (jI p), some (jI q), some (jI n), none] (by decide +kernel) rfl (by simp [jone]) (Nat.le_of_ble_eq_true rfl) rfl (fun hok => ?_)
  refine j_aload_n dX11_owe_0 rfl ?_
  refine j_iload_n dX11_owe_1 rfl ?_
  refine j_iload_n dX11_owe_2 rfl ?_
  refine r_cv2V dX11_owe_3 cvX11_169 (by decide) (by first | assumption | exact hsh _ _ rfl) (Nat.le_of_ble_eq_true rfl) (Nat.le_of_eq (Nat.zero_add _)) (Nat.le_of_eq (Nat.zero_add _)) (cg_two0 hsh hfx hR (by omega) (by omega) h1 h2.1) ?_
  refine j_aload_n dX11_owe_6 rfl ?_
  refine j_iload_n dX11_owe_7 rfl ?_
  refine j_iconst dX11_owe_8 ?_
  refine j_sipush dX11_owe_9 (by decide) ?_
  refine r_cv3V dX11_owe_12 cvX11_191 (by decide) (by first | assumption | exact hsh _ _ rfl) (Nat.le_of_ble_eq_true rfl) (Nat.le_of_eq (Nat.zero_add _)) (Nat.le_of_eq (Nat.zero_add _)) (cg_lie0 hsh (by omega) (by omega) (by omega) h2.2) ?_
  refine j_aload_n dX11_owe_15 rfl ?_
  refine r_getS dX11_owe_16 flX11_20 (by first | assumption | exact hsh _ _ rfl) (fx_0_3 hfx) ?_
  refine r_getS dX11_owe_19 flX11_173 (by first | assumption | exact hsh _ _ rfl) (by assumption) ?_
  refine j_iload_n dX11_owe_22 rfl ?_
  refine j_bipush dX11_owe_23 (by decide) ?_
  refine j_imul dX11_owe_25 ?_
  refine j_iload_n dX11_owe_26 rfl ?_
  refine j_iadd dX11_owe_27 ?_
  refine r_ialoadE dX11_owe_28 (by first | assumption | exact hsh _ _ rfl) (by first | omega | (split <;> omega)) (by first | omega | (split <;> omega)) u (fun b_28 => ?_)
  refine j_iload_n dX11_owe_29 rfl ?_
  refine j_iadd dX11_owe_30 ?_
  refine j_wrap ?_
  refine j_istore dX11_owe_31 (by decide) ?_
  refine j_iload dX11_owe_33 rfl ?_
  refine j_sipush dX11_owe_35 (by decide) ?_
  refine j_icmp_le (tgt := 51) dX11_owe_38 rfl (by first | omega | (split <;> omega)) (by first | omega | (split <;> omega)) (fun c_38 => ?_) (fun c_38 => by exact absurd (by omega) c_38)
  refine j_aload_n dX11_owe_51 rfl ?_
  refine r_getS dX11_owe_52 flX11_33 (by first | assumption | exact hsh _ _ rfl) (fx_0_7 hfx) ?_
  refine j_aload_n dX11_owe_55 rfl ?_
  refine r_getS dX11_owe_56 flX11_20 (by first | assumption | exact hsh _ _ rfl) (fx_0_3 hfx) ?_
  refine r_cv1HV dX11_owe_59 cvX11_199 (by decide) (by first | assumption | exact hsh _ _ rfl) (Nat.le_of_ble_eq_true rfl) (Nat.le_of_eq (Nat.zero_add _)) (Nat.le_of_eq (Nat.zero_add _)) (cr_remember hP hC (by rw [hw]; exact hW)) (fun J F1 hJ => ?_)
  obtain ⟨-, hfx, -, hst1, -, -⟩ := id hJ.1
  obtain ⟨g0, g1, g2, g3, g4, g5, g6, g7, g8, g9, e1, e2, e3, e4, e5, e6, e7, e8, e9⟩ := id hst1
  have hS1 : Sr sh J F1 2 w := by rw [← hw]; exact hJ.2.1.1
  have hR1 := hS1.1
  refine j_aload_n dX11_owe_62 rfl ?_
  refine r_getS dX11_owe_63 flX11_20 (by first | assumption | exact hsh _ _ rfl) (fx_0_3 hfx) ?_
  refine r_getS dX11_owe_66 flX11_173 (by first | assumption | exact hsh _ _ rfl) (by assumption) ?_
  refine j_iload_n dX11_owe_69 rfl ?_
  refine j_bipush dX11_owe_70 (by decide) ?_
  refine j_imul dX11_owe_72 ?_
  refine j_iload_n dX11_owe_73 rfl ?_
  refine j_iadd dX11_owe_74 ?_
  refine j_iload dX11_owe_75 rfl ?_
  refine r_iastore dX11_owe_77 (by first | assumption | exact hsh _ _ rfl) (by first | omega | (split <;> omega)) (by first | omega | (split <;> omega)) (by first | omega | (split <;> omega)) ?_
  refine j_iload dX11_owe_78 rfl ?_
  refine j_iret dX11_owe_80 rfl ?_
  refine ⟨_, F1, rfl, rfl, Ca_of hJ (Sr_now (by decide) hS1 (Rp_ow hR1 gp gq) (by rw [jup_ne _ _ _ (by omega)]) (fun a x0 x1 => by rw [jup_ne _ _ _ (by omega)]) (fun k hk => (wup_ne _ _ (by omega)))) (fun a x0 x1 => by rw [jup_ne _ _ _ (by omega)]) (fun k hk => (wup_ne _ _ (by omega)).trans (by rw [hw]))⟩
theorem cp_hear_1 (hP : Pl sh F) (hC : CR sh I F M) (hw : M 171 = w) (hW : WF w) {p x : Int} (j1 : jin p) (h2 : ¬ gP w p) : jS G (d + 6) mX11_hear [jR (some 0), jI p, jI x] (sh, I, F) 1 6 (rX xIob (sh, I, F)) := by
  obtain ⟨hsh, hfx, hmm, hst, h12, h22⟩ := id hP
  have hR : Rp I 2 w := by rw [← hw]; exact hC.1.1
  have g8 := hW.1
  have f01 := hW.2.2.2.1
  refine jS_go [some (jR (some 0)), some (jI p), some (jI x), none] (by decide +kernel) rfl (by simp [jone]) (Nat.le_of_ble_eq_true rfl) rfl (fun hok => ?_)
  refine j_aload_n dX11_hear_0 rfl ?_
  refine j_iload_n dX11_hear_1 rfl ?_
  exact r_cv1X dX11_hear_2 cvX11_119 (by decide) (by first | assumption | exact hsh _ _ rfl) (Nat.le_of_ble_eq_true rfl) (Nat.le_refl _) (Nat.le_refl _) rfl (cg_person1 hsh hfx hR (by omega) h2) (⟨rfl, rfl⟩)
theorem cp_hear_0 (hP : Pl sh F) (hC : CR sh I F M) (hw : M 171 = w) (hW : WF w) {p x : Int} (h1 : gP w p) : jS G (d + 6) mX11_hear [jR (some 0), jI p, jI x] (sh, I, F) 0 0 (rHI (aOf w p 5) sh (CaO sh I (mzW (mzR M) (wHear w p x)))) := by
  obtain ⟨hsh, hfx, hmm, hst, h12, h22⟩ := id hP
  have hR : Rp I 2 w := by rw [← hw]; exact hC.1.1
  have g8 := hW.1
  have f01 := hW.2.2.2.1
  have gp : 0 ≤ p ∧ p < aPe w := by have := h1.1; have := h1.2; omega
  obtain ⟨y0, y1, y2, y3, y4, y5, y6, y7, y8, y9, z1, z2, z3, z4, z5, z6, z7, z8, z9⟩ := id hst
  refine jS_go [some (jR (some 0)), some (jI p), some (jI x), none] (by decide +kernel) rfl (by simp [jone]) (Nat.le_of_ble_eq_true rfl) rfl (fun hok => ?_)
  refine j_aload_n dX11_hear_0 rfl ?_
  refine j_iload_n dX11_hear_1 rfl ?_
  refine r_cv1V dX11_hear_2 cvX11_119 (by decide) (by first | assumption | exact hsh _ _ rfl) (Nat.le_of_ble_eq_true rfl) (Nat.le_of_eq (Nat.zero_add _)) (Nat.le_of_eq (Nat.zero_add _)) (cg_person0 hsh hfx hR (by omega) h1) ?_
  refine j_aload_n dX11_hear_5 rfl ?_
  refine r_getS dX11_hear_6 flX11_33 (by first | assumption | exact hsh _ _ rfl) (fx_0_7 hfx) ?_
  refine j_aload_n dX11_hear_9 rfl ?_
  refine r_getS dX11_hear_10 flX11_20 (by first | assumption | exact hsh _ _ rfl) (fx_0_3 hfx) ?_
  refine r_cv1HV dX11_hear_13 cvX11_199 (by decide) (by first | assumption | exact hsh _ _ rfl) (Nat.le_of_ble_eq_true rfl) (Nat.le_of_eq (Nat.zero_add _)) (Nat.le_of_eq (Nat.zero_add _)) (cr_remember hP hC (by rw [hw]; exact hW)) (fun J F1 hJ => ?_)
  obtain ⟨-, hfx, -, hst1, -, -⟩ := id hJ.1
  obtain ⟨g0, g1, g2, g3, g4, g5, g6, g7, g8, g9, e1, e2, e3, e4, e5, e6, e7, e8, e9⟩ := id hst1
  have hS1 : Sr sh J F1 2 w := by rw [← hw]; exact hJ.2.1.1
  have hR1 := hS1.1
  have u1 := hR1.2.2.1 p gp.1 gp.2
  refine j_aload_n dX11_hear_16 rfl ?_
  refine r_getS dX11_hear_17 flX11_20 (by first | assumption | exact hsh _ _ rfl) (fx_0_3 hfx) ?_
  refine r_getS dX11_hear_20 flX11_138 (by first | assumption | exact hsh _ _ rfl) (by assumption) ?_
  refine j_iload_n dX11_hear_23 rfl ?_
  refine r_ialoadE dX11_hear_24 (by first | assumption | exact hsh _ _ rfl) (by first | omega | (split <;> omega)) (by first | omega | (split <;> omega)) u1.2.2.2.2.2.1 (fun b_24 => ?_)
  refine j_istore_n dX11_hear_25 (by decide) ?_
  refine j_aload_n dX11_hear_26 rfl ?_
  refine r_getS dX11_hear_27 flX11_20 (by first | assumption | exact hsh _ _ rfl) (fx_0_3 hfx) ?_
  refine r_getS dX11_hear_30 flX11_138 (by first | assumption | exact hsh _ _ rfl) (by assumption) ?_
  refine j_iload_n dX11_hear_33 rfl ?_
  refine j_iload_n dX11_hear_34 rfl ?_
  refine j_aload_n dX11_hear_35 rfl ?_
  refine r_getS dX11_hear_36 flX11_20 (by first | assumption | exact hsh _ _ rfl) (fx_0_3 hfx) ?_
  refine r_cv0I dX11_hear_39 cvX11_222 (by decide) (by first | assumption | exact hsh _ _ rfl) (Nat.le_of_ble_eq_true rfl) (Nat.le_of_eq (Nat.zero_add _)) (Nat.le_of_eq (Nat.zero_add _)) (sc_everybody hst1 hR1) ?_
  refine r_iand dX11_hear_42 (fun b_42 => ?_)
  refine j_iconst dX11_hear_43 ?_
  refine j_iload_n dX11_hear_44 rfl ?_
  refine r_ishl dX11_hear_45 (fun b_45 => ?_)
  refine j_iconst dX11_hear_46 ?_
  refine r_ixor dX11_hear_47 (fun b_47 => ?_)
  refine r_iand dX11_hear_48 (fun b_48 => ?_)
  refine r_iastore dX11_hear_49 (by first | assumption | exact hsh _ _ rfl) (by first | omega | (split <;> omega)) (by first | omega | (split <;> omega)) (jAnd_in _ _) ?_
  refine j_iload_n dX11_hear_50 rfl ?_
  refine j_iret dX11_hear_51 rfl ?_
  refine ⟨_, F1, rfl, rfl, Ca_of hJ (Sr_now (by decide) hS1 (Rp_one hR1 gp (Or.inr (Or.inr (Or.inl ⟨rfl, rfl⟩)))) (by rw [jup_ne _ _ _ (by omega)]) (fun a x0 x1 => by rw [jup_ne _ _ _ (by omega)]) (fun k hk => (wup_ne _ _ (by omega)))) (fun a x0 x1 => by rw [jup_ne _ _ _ (by omega)]) (fun k hk => (wup_ne _ _ (by omega)).trans (by rw [hw]))⟩
theorem cp_refound_0 (hP : Pl sh F) (hC : CR sh I F M) (hw : M 171 = w) (hW : WF w)  : jS G (d + 6) mX11_refound [jR (some 0)] (sh, I, F) 0 0 (rHI (w 8) sh (CaO sh I (mzW (mzR M) (wup w 8 0)))) := by
  obtain ⟨hsh, hfx, hmm, hst, h12, h22⟩ := id hP
  have hR : Rp I 2 w := by rw [← hw]; exact hC.1.1
  have g8 := hW.1
  have f01 := hW.2.2.2.1
  obtain ⟨y0, y1, y2, y3, y4, y5, y6, y7, y8, y9, z1, z2, z3, z4, z5, z6, z7, z8, z9⟩ := id hst
  refine jS_go [some (jR (some 0)), none] (by decide +kernel) rfl (by simp [jone]) (Nat.le_of_ble_eq_true rfl) rfl (fun hok => ?_)
  refine j_aload_n dX11_refound_0 rfl ?_
  refine r_getS dX11_refound_1 flX11_33 (by first | assumption | exact hsh _ _ rfl) (fx_0_7 hfx) ?_
  refine j_aload_n dX11_refound_4 rfl ?_
  refine r_getS dX11_refound_5 flX11_20 (by first | assumption | exact hsh _ _ rfl) (fx_0_3 hfx) ?_
  refine r_cv1HV dX11_refound_8 cvX11_199 (by decide) (by first | assumption | exact hsh _ _ rfl) (Nat.le_of_ble_eq_true rfl) (Nat.le_of_eq (Nat.zero_add _)) (Nat.le_of_eq (Nat.zero_add _)) (cr_remember hP hC (by rw [hw]; exact hW)) (fun J F1 hJ => ?_)
  obtain ⟨-, hfx, -, hst1, -, -⟩ := id hJ.1
  obtain ⟨g0, g1, g2, g3, g4, g5, g6, g7, g8, g9, e1, e2, e3, e4, e5, e6, e7, e8, e9⟩ := id hst1
  have hS1 : Sr sh J F1 2 w := by rw [← hw]; exact hJ.2.1.1
  have hR1 := hS1.1
  have u1 := hR1.2.2.2.2.2.2.2.2.2.2.2.2.2
  refine j_aload_n dX11_refound_11 rfl ?_
  refine r_getS dX11_refound_12 flX11_20 (by first | assumption | exact hsh _ _ rfl) (fx_0_3 hfx) ?_
  refine r_getIE dX11_refound_15 flX11_226 (by first | assumption | exact hsh _ _ rfl) u1 (fun b_15 => ?_)
  refine j_istore_n dX11_refound_18 (by decide) ?_
  refine j_aload_n dX11_refound_19 rfl ?_
  refine r_getS dX11_refound_20 flX11_20 (by first | assumption | exact hsh _ _ rfl) (fx_0_3 hfx) ?_
  refine j_iconst dX11_refound_23 ?_
  refine r_putI dX11_refound_24 flX11_226 rfl (by first | assumption | exact hsh _ _ rfl) (by first | omega | (split <;> omega)) (fun _ => Or.inl rfl) ?_
  refine j_iload_n dX11_refound_27 rfl ?_
  refine j_zret dX11_refound_28 rfl f01 ?_
  refine ⟨_, F1, rfl, rfl, Ca_of hJ (Sr_now (by decide) hS1 (Rp_fld hR1 (by omega)) (by rw [jup_row _ _ _ (by decide)]) (fun a x0 x1 => by rw [jup_ne _ _ _ (by omega)]) (fun k hk => wup_ne _ _ (by omega))) (fun a x0 x1 => by rw [jup_ne _ _ _ (by omega)]) (fun k hk => (wup_ne _ _ (by omega)).trans (by rw [hw]))⟩
end
