/-! DAYS AHEAD: THE CLASS'S METHODS -/
theorem jup_F12 {F : Nat → Int → Option Nat} : jup (jup F 12 18 (F 2 18)) 12 18 (jup F 12 18 (F 2 18) 2 18) = jup F 12 18 (F 2 18) := by
  rw [jup_up, jup_cell _ _ _ _ (by decide)]
theorem wup_id (w : Int → Int) (k : Int) : wup w k (w k) = w := by
  funext j
  unfold wup
  split
  · rename_i h; rw [h]
  · rfl
theorem FrG_tr {I J K : Nat → Int → Int} (h : FrG I J) (h2 : FrG J K) : FrG I K := fun a a0 a1 => (h2 a a0 a1).trans (h a a0 a1)
theorem Rp_FrG {I J : Nat → Int → Int} {w : Int → Int} (h : Rp I 2 w) (hf : FrG I J) : Rp J 2 w := Rp_fr h (fun a a0 a1 => hf a (by omega) (by omega))
theorem LwR_FrG {sh : List (Nat × Nat)} {I J : Nat → Int → Int} {F : Nat → Int → Option Nat} {w : Int → Int} (h : LwR sh I F 2 w) (hf : FrG I J) : LwR sh J (jup F 12 18 (F 2 18)) 2 w := LwR_F (by decide) (LwR_fr h (fun a ha => hf a (by omega) (by omega)))
section
variable {G : jzG} {d : Nat} {sh : List (Nat × Nat)} {I : Nat → Int → Int} {F : Nat → Int → Option Nat} {w : Int → Int}
/-! ### today -/
theorem cp_today_1 (hsh : ShOK sh) (hfx : FxOK F) (hR : Rp I 2 w) {p k : Int} (h1 : jin p) (h2 : ¬ gP w p) : jS G (d + 9) mX11_today [jR (some 0), jI p, jI k] (sh, I, F) 1 6 (rX xIob (sh, I, F)) := by
  refine jS_go [some (jR (some 0)), some (jI p), some (jI k)] (by decide +kernel) rfl (by simp [jone]) (Nat.le_of_ble_eq_true rfl) rfl (fun hok => ?_)
  refine j_aload_n dX11_today_0 rfl ?_
  refine j_iload_n dX11_today_1 rfl ?_
  exact r_cv1X dX11_today_2 cvX11_119 (by decide) (by first | assumption | exact hsh _ _ rfl) (Nat.le_of_ble_eq_true rfl) (Nat.le_refl _) (Nat.le_refl _) rfl (cg_person1 hsh hfx hR (by omega) h2) (⟨rfl, rfl⟩)
theorem cp_today_2 (hsh : ShOK sh) (hfx : FxOK F) (hst : StAt sh F 2) (hR : Rp I 2 w) {p k : Int} (h1 : gP w p) (h2 : ¬ aOf w p 3 = 0) : jS G (d + 9) mX11_today [jR (some 0), jI p, jI k] (sh, I, F) 1 6 (rX xIse (sh, I, F)) := by
  have g8 := hR.2.1
  have g1 : 0 ≤ p ∧ p < aPe w := by have := h1.1; have := h1.2; omega
  refine jS_go [some (jR (some 0)), some (jI p), some (jI k)] (by decide +kernel) rfl (by simp [jone]) (Nat.le_of_ble_eq_true rfl) rfl (fun hok => ?_)
  refine j_aload_n dX11_today_0 rfl ?_
  refine j_iload_n dX11_today_1 rfl ?_
  refine r_cv1V dX11_today_2 cvX11_119 (by decide) (by first | assumption | exact hsh _ _ rfl) (Nat.le_of_ble_eq_true rfl) (Nat.le_of_eq (Nat.zero_add _)) (Nat.le_of_eq (Nat.zero_add _)) (cg_person0 hsh hfx hR (by omega) h1) ?_
  refine j_aload_n dX11_today_5 rfl ?_
  refine j_iload_n dX11_today_6 rfl ?_
  exact r_cv1X dX11_today_7 cvX11_176 (by decide) (by first | assumption | exact hsh _ _ rfl) (Nat.le_of_ble_eq_true rfl) (Nat.le_refl _) (Nat.le_refl _) rfl (cg_live0 hsh hfx hst hR (by omega) h1 h2) (⟨rfl, rfl⟩)
theorem cp_today_3 (hsh : ShOK sh) (hfx : FxOK F) (hst : StAt sh F 2) (hR : Rp I 2 w) {p k : Int} (h1 : gP w p) (h2 : aOf w p 3 = 0) (hk : jin k) (h3 : ¬ (0 ≤ k ∧ k ≤ 2)) : jS G (d + 9) mX11_today [jR (some 0), jI p, jI k] (sh, I, F) 1 6 (rX xNse (sh, I, F)) := by
  have g8 := hR.2.1
  have g1 : 0 ≤ p ∧ p < aPe w := by have := h1.1; have := h1.2; omega
  refine jS_go [some (jR (some 0)), some (jI p), some (jI k)] (by decide +kernel) rfl (by simp [jone]) (Nat.le_of_ble_eq_true rfl) rfl (fun hok => ?_)
  refine j_aload_n dX11_today_0 rfl ?_
  refine j_iload_n dX11_today_1 rfl ?_
  refine r_cv1V dX11_today_2 cvX11_119 (by decide) (by first | assumption | exact hsh _ _ rfl) (Nat.le_of_ble_eq_true rfl) (Nat.le_of_eq (Nat.zero_add _)) (Nat.le_of_eq (Nat.zero_add _)) (cg_person0 hsh hfx hR (by omega) h1) ?_
  refine j_aload_n dX11_today_5 rfl ?_
  refine j_iload_n dX11_today_6 rfl ?_
  refine r_cv1V dX11_today_7 cvX11_176 (by decide) (by first | assumption | exact hsh _ _ rfl) (Nat.le_of_ble_eq_true rfl) (Nat.le_of_eq (Nat.zero_add _)) (Nat.le_of_eq (Nat.zero_add _)) (cg_live1 hsh hfx hst hR (by omega) h1 h2) ?_
  refine j_iload_n dX11_today_10 rfl ?_
  refine j_if_lt (tgt := 19) dX11_today_11 rfl (by first | omega | (split <;> omega)) (fun c_11 => ?_) (fun c_11 => ?_)
  · exact j_throwN dX11_today_19 dX11_today_22 dX11_today_23 dX11_today_25 dX11_today_28 rfl th_what ⟨rfl, rfl⟩
  · refine j_iload_n dX11_today_14 rfl ?_
    refine j_iconst dX11_today_15 ?_
    refine j_icmp_le (tgt := 29) dX11_today_16 rfl (by first | omega | (split <;> omega)) (by first | omega | (split <;> omega)) (fun c_16 => by exact absurd c_16 (by omega)) (fun c_16 => ?_)
    exact j_throwN dX11_today_19 dX11_today_22 dX11_today_23 dX11_today_25 dX11_today_28 rfl th_what ⟨rfl, rfl⟩
theorem cp_today_0 (hsh : ShOK sh) (hfx : FxOK F) (hst : StAt sh F 2) (h12 : StAt sh F 12) (hR : Rp I 2 w) (hL : LwR sh I F 2 w) (hW : WF w) (h9 : 0 ≤ w 9) (h10 : 0 ≤ w 10 ∧ w 10 ≤ 60) (a0 b0 f0 : Int → Int) {p k : Int} (h1 : gP w p) (h2 : aOf w p 3 = 0) (h3 : 0 ≤ k ∧ k ≤ 2) : jS G (d + 9) mX11_today [jR (some 0), jI p, jI k] (sh, I, F) 0 0 (rEI (vTod (dStep 1 (w, a0, b0, f0)) p k) sh (jup F 12 18 (F 2 18)) (FrG I)) := by
  have g8 := hR.2.1
  have g1 : 0 ≤ p ∧ p < aPe w := by have := h1.1; have := h1.2; omega
  have hfx2 := FxOK_F (e := 12) (r := F 2 18) hfx
  refine jS_go [some (jR (some 0)), some (jI p), some (jI k)] (by decide +kernel) rfl (by simp [jone]) (Nat.le_of_ble_eq_true rfl) rfl (fun hok => ?_)
  refine j_aload_n dX11_today_0 rfl ?_
  refine j_iload_n dX11_today_1 rfl ?_
  refine r_cv1V dX11_today_2 cvX11_119 (by decide) (by first | assumption | exact hsh _ _ rfl) (Nat.le_of_ble_eq_true rfl) (Nat.le_of_eq (Nat.zero_add _)) (Nat.le_of_eq (Nat.zero_add _)) (cg_person0 hsh hfx hR (by omega) h1) ?_
  refine j_aload_n dX11_today_5 rfl ?_
  refine j_iload_n dX11_today_6 rfl ?_
  refine r_cv1V dX11_today_7 cvX11_176 (by decide) (by first | assumption | exact hsh _ _ rfl) (Nat.le_of_ble_eq_true rfl) (Nat.le_of_eq (Nat.zero_add _)) (Nat.le_of_eq (Nat.zero_add _)) (cg_live1 hsh hfx hst hR (by omega) h1 h2) ?_
  refine j_iload_n dX11_today_10 rfl ?_
  refine j_if_lt (tgt := 19) dX11_today_11 rfl (by first | omega | (split <;> omega)) (fun c_11 => by exact absurd c_11 (by omega)) (fun c_11 => ?_)
  refine j_iload_n dX11_today_14 rfl ?_
  refine j_iconst dX11_today_15 ?_
  refine j_icmp_le (tgt := 29) dX11_today_16 rfl (by first | omega | (split <;> omega)) (by first | omega | (split <;> omega)) (fun c_16 => ?_) (fun c_16 => by exact absurd (by omega) c_16)
  refine j_aload_n dX11_today_29 rfl ?_
  refine j_iconst dX11_today_30 ?_
  refine r_cv1GV dX11_today_31 cvX11_179 (by decide) (by first | assumption | exact hsh _ _ rfl) (Nat.le_of_ble_eq_true rfl) (Nat.le_of_eq (Nat.zero_add _)) (Nat.le_of_eq (Nat.zero_add _)) (cs_feelToday (d := d) hsh hfx hst h12 hR hL hW h9 h10 a0 b0 f0) (fun J hJ => ?_)
  have hfx := hfx2
  have hc := hJ.1 p g1.1 g1.2
  refine j_iload_n dX11_today_34 rfl ?_
  refine j_if_ne (tgt := 48) dX11_today_35 rfl (by first | omega | (split <;> omega)) (fun c_35 => ?_) (fun c_35 => ?_)
  · refine j_iload_n dX11_today_48 rfl ?_
    refine j_iconst dX11_today_49 ?_
    refine j_icmp_ne (tgt := 65) dX11_today_50 rfl (by first | omega | (split <;> omega)) (by first | omega | (split <;> omega)) (fun c_50 => ?_) (fun c_50 => ?_)
    · refine j_aload_n dX11_today_65 rfl ?_
      refine r_getS dX11_today_66 flX11_54 (by first | assumption | exact hsh _ _ rfl) (fx_0_10 hfx) ?_
      refine r_getS dX11_today_69 flX11_188 (by first | assumption | exact hsh _ _ rfl) (fx_160_3 hfx) ?_
      refine j_iload_n dX11_today_72 rfl ?_
      refine r_ialoadE dX11_today_73 (by first | assumption | exact hsh _ _ rfl) (by first | omega | (split <;> omega)) (by first | omega | (split <;> omega)) hc.1 (fun b_73 => ?_)
      refine j_iret dX11_today_74 rfl ?_
      refine ⟨J, ?_, rfl, hJ.2⟩
      unfold vTod
      first | rw [if_pos (by omega)] | rw [if_neg (by omega), if_pos (by omega)] | rw [if_neg (by omega), if_neg (by omega)]
    · refine j_aload_n dX11_today_53 rfl ?_
      refine r_getS dX11_today_54 flX11_54 (by first | assumption | exact hsh _ _ rfl) (fx_0_10 hfx) ?_
      refine r_getS dX11_today_57 flX11_185 (by first | assumption | exact hsh _ _ rfl) (fx_160_2 hfx) ?_
      refine j_iload_n dX11_today_60 rfl ?_
      refine r_ialoadE dX11_today_61 (by first | assumption | exact hsh _ _ rfl) (by first | omega | (split <;> omega)) (by first | omega | (split <;> omega)) (hc.2 h2).2 (fun b_61 => ?_)
      refine j_goto (tgt := 74) dX11_today_62 rfl ?_
      refine j_iret dX11_today_74 rfl ?_
      refine ⟨J, ?_, rfl, hJ.2⟩
      unfold vTod
      first | rw [if_pos (by omega)] | rw [if_neg (by omega), if_pos (by omega)] | rw [if_neg (by omega), if_neg (by omega)]
  · refine j_aload_n dX11_today_38 rfl ?_
    refine r_getS dX11_today_39 flX11_54 (by first | assumption | exact hsh _ _ rfl) (fx_0_10 hfx) ?_
    refine r_getS dX11_today_42 flX11_182 (by first | assumption | exact hsh _ _ rfl) (fx_160_1 hfx) ?_
    refine j_iload_n dX11_today_45 rfl ?_
    refine r_ialoadE dX11_today_46 (by first | assumption | exact hsh _ _ rfl) (by first | omega | (split <;> omega)) (by first | omega | (split <;> omega)) (hc.2 h2).1 (fun b_46 => ?_)
    refine j_iret dX11_today_47 rfl ?_
    refine ⟨J, ?_, rfl, hJ.2⟩
    unfold vTod
    first | rw [if_pos (by omega)] | rw [if_neg (by omega), if_pos (by omega)] | rw [if_neg (by omega), if_neg (by omega)]
/-! ### ahead, fails -/
theorem cp_ahead_1 (hsh : ShOK sh) (hfx : FxOK F) (hR : Rp I 2 w) {p k : Int} (h1 : jin p) (h2 : ¬ gP w p) : jS G (d + 9) mX11_ahead [jR (some 0), jI p, jI k] (sh, I, F) 1 6 (rX xIob (sh, I, F)) := by
  refine jS_go [some (jR (some 0)), some (jI p), some (jI k)] (by decide +kernel) rfl (by simp [jone]) (Nat.le_of_ble_eq_true rfl) rfl (fun hok => ?_)
  refine j_aload_n dX11_ahead_0 rfl ?_
  refine j_iload_n dX11_ahead_1 rfl ?_
  exact r_cv1X dX11_ahead_2 cvX11_119 (by decide) (by first | assumption | exact hsh _ _ rfl) (Nat.le_of_ble_eq_true rfl) (Nat.le_refl _) (Nat.le_refl _) rfl (cg_person1 hsh hfx hR (by omega) h2) (⟨rfl, rfl⟩)
theorem cp_ahead_2 (hsh : ShOK sh) (hfx : FxOK F) (hR : Rp I 2 w) {p k : Int} (h1 : gP w p) (hk : jin k) (h3 : ¬ (0 ≤ k ∧ k ≤ 60)) : jS G (d + 9) mX11_ahead [jR (some 0), jI p, jI k] (sh, I, F) 1 6 (rX xIae (sh, I, F)) := by
  have g8 := hR.2.1
  have g1 : 0 ≤ p ∧ p < aPe w := by have := h1.1; have := h1.2; omega
  refine jS_go [some (jR (some 0)), some (jI p), some (jI k)] (by decide +kernel) rfl (by simp [jone]) (Nat.le_of_ble_eq_true rfl) rfl (fun hok => ?_)
  refine j_aload_n dX11_ahead_0 rfl ?_
  refine j_iload_n dX11_ahead_1 rfl ?_
  refine r_cv1V dX11_ahead_2 cvX11_119 (by decide) (by first | assumption | exact hsh _ _ rfl) (Nat.le_of_ble_eq_true rfl) (Nat.le_of_eq (Nat.zero_add _)) (Nat.le_of_eq (Nat.zero_add _)) (cg_person0 hsh hfx hR (by omega) h1) ?_
  refine j_aload_n dX11_ahead_5 rfl ?_
  refine j_iload_n dX11_ahead_6 rfl ?_
  refine j_iconst dX11_ahead_7 ?_
  refine j_bipush dX11_ahead_8 (by decide) ?_
  exact r_cv3X dX11_ahead_10 cvX11_191 (by decide) (by first | assumption | exact hsh _ _ rfl) (Nat.le_of_ble_eq_true rfl) (Nat.le_refl _) (Nat.le_refl _) rfl (cg_lie1 hsh (by omega) (by omega) (by omega) h3) (⟨rfl, rfl⟩)
theorem cp_ahead_0 (hsh : ShOK sh) (hfx : FxOK F) (hst : StAt sh F 2) (h12 : StAt sh F 12) (hR : Rp I 2 w) (hL : LwR sh I F 2 w) (hW : WF w) (h9 : 0 ≤ w 9) (h10 : 0 ≤ w 10 ∧ w 10 ≤ 60) (a0 b0 f0 : Int → Int) {p k : Int} (h1 : gP w p) (h3 : 0 ≤ k ∧ k ≤ 60) : jS G (d + 9) mX11_ahead [jR (some 0), jI p, jI k] (sh, I, F) 0 0 (rEI (aOf (mDays 1 (w, a0, b0, f0) k.toNat).1 p 1) sh (jup F 12 18 (F 2 18)) (FrG I)) := by
  have g8 := hR.2.1
  have gp : 0 ≤ p ∧ p < aPe w := by have := h1.1; have := h1.2; omega
  have hfx2 := FxOK_F (e := 12) (r := F 2 18) hfx
  have hO1 := mDays_ok (calm := 1) (a := a0) (b := b0) (f := f0) hW h9 h10 k.toNat
  have e0 : aPe (mDays 1 (w, a0, b0, f0) k.toNat).1 = aPe w := hO1.2.2.2 0 (by omega)
  have h12' := StAt_F (e := 12) (r := F 2 18) h12
  obtain ⟨g0, g1, g2, g3, g4, g5, g6, g7, g8, g9, e1, e2, e3, e4, e5, e6, e7, e8, e9⟩ := id h12'
  refine jS_go [some (jR (some 0)), some (jI p), some (jI k)] (by decide +kernel) rfl (by simp [jone]) (Nat.le_of_ble_eq_true rfl) rfl (fun hok => ?_)
  refine j_aload_n dX11_ahead_0 rfl ?_
  refine j_iload_n dX11_ahead_1 rfl ?_
  refine r_cv1V dX11_ahead_2 cvX11_119 (by decide) (by first | assumption | exact hsh _ _ rfl) (Nat.le_of_ble_eq_true rfl) (Nat.le_of_eq (Nat.zero_add _)) (Nat.le_of_eq (Nat.zero_add _)) (cg_person0 hsh hfx hR (by omega) h1) ?_
  refine j_aload_n dX11_ahead_5 rfl ?_
  refine j_iload_n dX11_ahead_6 rfl ?_
  refine j_iconst dX11_ahead_7 ?_
  refine j_bipush dX11_ahead_8 (by decide) ?_
  refine r_cv3V dX11_ahead_10 cvX11_191 (by decide) (by first | assumption | exact hsh _ _ rfl) (Nat.le_of_ble_eq_true rfl) (Nat.le_of_eq (Nat.zero_add _)) (Nat.le_of_eq (Nat.zero_add _)) (cg_lie0 hsh (by omega) (by omega) (by omega) h3) ?_
  refine j_aload_n dX11_ahead_13 rfl ?_
  refine j_iload_n dX11_ahead_14 rfl ?_
  refine r_cv1GV dX11_ahead_15 cvX11_179 (by decide) (by first | assumption | exact hsh _ _ rfl) (Nat.le_of_ble_eq_true rfl) (Nat.le_of_eq (Nat.zero_add _)) (Nat.le_of_eq (Nat.zero_add _)) (cs_goAhead (d := d + 1) hsh hfx hst h12 hR hL hW h9 h10 a0 b0 f0 h3) (fun J hJ => ?_)
  have hfx := hfx2
  have u := hJ.1.2.2.1 p gp.1 (by omega)
  refine j_aload_n dX11_ahead_18 rfl ?_
  refine r_getS dX11_ahead_19 flX11_24 (by first | assumption | exact hsh _ _ rfl) (fx_0_4 hfx) ?_
  refine r_getS dX11_ahead_22 flX11_125 (by first | assumption | exact hsh _ _ rfl) (by assumption) ?_
  refine j_iload_n dX11_ahead_25 rfl ?_
  refine r_ialoadE dX11_ahead_26 (by first | assumption | exact hsh _ _ rfl) (by first | omega | (split <;> omega)) (by first | omega | (split <;> omega)) u.2.1 (fun b_26 => ?_)
  refine j_iret dX11_ahead_27 rfl ?_
  exact ⟨J, rfl, rfl, hJ.2.2⟩
theorem cp_fails_1 (hsh : ShOK sh) (hfx : FxOK F) {k : Int} (hk : jin k) (h3 : ¬ (0 ≤ k ∧ k ≤ 60)) : jS G (d + 9) mX11_fails [jR (some 0), jI k] (sh, I, F) 1 6 (rX xIae (sh, I, F)) := by
  refine jS_go [some (jR (some 0)), some (jI k)] (by decide +kernel) rfl (by simp [jone]) (Nat.le_of_ble_eq_true rfl) rfl (fun hok => ?_)
  refine j_aload_n dX11_fails_0 rfl ?_
  refine j_iload_n dX11_fails_1 rfl ?_
  refine j_iconst dX11_fails_2 ?_
  refine j_bipush dX11_fails_3 (by decide) ?_
  exact r_cv3X dX11_fails_5 cvX11_191 (by decide) (by first | assumption | exact hsh _ _ rfl) (Nat.le_of_ble_eq_true rfl) (Nat.le_refl _) (Nat.le_refl _) rfl (cg_lie1 hsh (by omega) (by omega) (by omega) h3) (⟨rfl, rfl⟩)
theorem cp_fails_0 (hsh : ShOK sh) (hfx : FxOK F) (hst : StAt sh F 2) (h12 : StAt sh F 12) (hR : Rp I 2 w) (hL : LwR sh I F 2 w) (hW : WF w) (h9 : 0 ≤ w 9) (h10 : 0 ≤ w 10 ∧ w 10 ≤ 60) (a0 b0 f0 : Int → Int) {k : Int} (h3 : 0 ≤ k ∧ k ≤ 60) : jS G (d + 9) mX11_fails [jR (some 0), jI k] (sh, I, F) 0 0 (rEI ((mDays 1 (w, a0, b0, f0) k.toNat).1 8) sh (jup F 12 18 (F 2 18)) (FrG I)) := by
  have hfx2 := FxOK_F (e := 12) (r := F 2 18) hfx
  have hO1 := mDays_ok (calm := 1) (a := a0) (b := b0) (f := f0) hW h9 h10 k.toNat
  have h01 := hO1.1.2.2.2.1
  have h12' := StAt_F (e := 12) (r := F 2 18) h12
  obtain ⟨g0, g1, g2, g3, g4, g5, g6, g7, g8, g9, e1, e2, e3, e4, e5, e6, e7, e8, e9⟩ := id h12'
  refine jS_go [some (jR (some 0)), some (jI k)] (by decide +kernel) rfl (by simp [jone]) (Nat.le_of_ble_eq_true rfl) rfl (fun hok => ?_)
  refine j_aload_n dX11_fails_0 rfl ?_
  refine j_iload_n dX11_fails_1 rfl ?_
  refine j_iconst dX11_fails_2 ?_
  refine j_bipush dX11_fails_3 (by decide) ?_
  refine r_cv3V dX11_fails_5 cvX11_191 (by decide) (by first | assumption | exact hsh _ _ rfl) (Nat.le_of_ble_eq_true rfl) (Nat.le_of_eq (Nat.zero_add _)) (Nat.le_of_eq (Nat.zero_add _)) (cg_lie0 hsh (by omega) (by omega) (by omega) h3) ?_
  refine j_aload_n dX11_fails_8 rfl ?_
  refine j_iload_n dX11_fails_9 rfl ?_
  refine r_cv1GV dX11_fails_10 cvX11_179 (by decide) (by first | assumption | exact hsh _ _ rfl) (Nat.le_of_ble_eq_true rfl) (Nat.le_of_eq (Nat.zero_add _)) (Nat.le_of_eq (Nat.zero_add _)) (cs_goAhead (d := d + 1) hsh hfx hst h12 hR hL hW h9 h10 a0 b0 f0 h3) (fun J hJ => ?_)
  have hfx := hfx2
  have u := hJ.1.2.2.2.2.2.2.2.2.2.2.2.2.2
  refine j_aload_n dX11_fails_13 rfl ?_
  refine r_getS dX11_fails_14 flX11_24 (by first | assumption | exact hsh _ _ rfl) (fx_0_4 hfx) ?_
  refine r_getIE dX11_fails_17 flX11_226 (by first | assumption | exact hsh _ _ rfl) u (fun b_17 => ?_)
  refine j_zret dX11_fails_20 rfl (by omega) ?_
  exact ⟨J, rfl, rfl, hJ.2.2⟩
/-! ### rank -/
theorem cp_rank_1 (hsh : ShOK sh) (hfx : FxOK F) (hR : Rp I 2 w) {p : Int} (h1 : jin p) (h2 : ¬ gP w p) : jS G (d + 9) mX11_rank [jR (some 0), jI p] (sh, I, F) 1 6 (rX xIob (sh, I, F)) := by
  refine jS_go [some (jR (some 0)), some (jI p), none, none] (by decide +kernel) rfl (by simp [jone]) (Nat.le_of_ble_eq_true rfl) rfl (fun hok => ?_)
  refine j_aload_n dX11_rank_0 rfl ?_
  refine j_iload_n dX11_rank_1 rfl ?_
  exact r_cv1X dX11_rank_2 cvX11_119 (by decide) (by first | assumption | exact hsh _ _ rfl) (Nat.le_of_ble_eq_true rfl) (Nat.le_refl _) (Nat.le_refl _) rfl (cg_person1 hsh hfx hR (by omega) h2) (⟨rfl, rfl⟩)
theorem cp_rank_2 (hsh : ShOK sh) (hfx : FxOK F) (hst : StAt sh F 2) (hR : Rp I 2 w) {p : Int} (h1 : gP w p) (h2 : ¬ aOf w p 3 = 0) : jS G (d + 9) mX11_rank [jR (some 0), jI p] (sh, I, F) 1 6 (rX xIse (sh, I, F)) := by
  have g8 := hR.2.1
  have g1 : 0 ≤ p ∧ p < aPe w := by have := h1.1; have := h1.2; omega
  refine jS_go [some (jR (some 0)), some (jI p), none, none] (by decide +kernel) rfl (by simp [jone]) (Nat.le_of_ble_eq_true rfl) rfl (fun hok => ?_)
  refine j_aload_n dX11_rank_0 rfl ?_
  refine j_iload_n dX11_rank_1 rfl ?_
  refine r_cv1V dX11_rank_2 cvX11_119 (by decide) (by first | assumption | exact hsh _ _ rfl) (Nat.le_of_ble_eq_true rfl) (Nat.le_of_eq (Nat.zero_add _)) (Nat.le_of_eq (Nat.zero_add _)) (cg_person0 hsh hfx hR (by omega) h1) ?_
  refine j_aload_n dX11_rank_5 rfl ?_
  refine j_iload_n dX11_rank_6 rfl ?_
  exact r_cv1X dX11_rank_7 cvX11_176 (by decide) (by first | assumption | exact hsh _ _ rfl) (Nat.le_of_ble_eq_true rfl) (Nat.le_refl _) (Nat.le_refl _) rfl (cg_live0 hsh hfx hst hR (by omega) h1 h2) (⟨rfl, rfl⟩)
theorem cp_rank_0 (hsh : ShOK sh) (hfx : FxOK F) (hst : StAt sh F 2) (h12 : StAt sh F 12) (hR : Rp I 2 w) (hL : LwR sh I F 2 w) (hW : WF w) (h9 : 0 ≤ w 9) (h10 : 0 ≤ w 10 ∧ w 10 ≤ 60) (a0 b0 f0 : Int → Int) {p : Int} (h1 : gP w p) (h2 : aOf w p 3 = 0) : jS G (d + 9) mX11_rank [jR (some 0), jI p] (sh, I, F) 0 0 (rEI (mRank w (dStep 1 (w, a0, b0, f0)).2.2.2 p) sh (jup F 12 18 (F 2 18)) (FrG I)) := by
  have g8 := hR.2.1
  have g1 : 0 ≤ p ∧ p < aPe w := by have := h1.1; have := h1.2; omega
  have hfx2 := FxOK_F (e := 12) (r := F 2 18) hfx
  refine jS_go [some (jR (some 0)), some (jI p), none, none] (by decide +kernel) rfl (by simp [jone]) (Nat.le_of_ble_eq_true rfl) rfl (fun hok => ?_)
  generalize hQ : rEI (mRank w (dStep 1 (w, a0, b0, f0)).2.2.2 p) sh (jup F 12 18 (F 2 18)) (FrG I) = Q9
  refine j_aload_n dX11_rank_0 rfl ?_
  refine j_iload_n dX11_rank_1 rfl ?_
  refine r_cv1V dX11_rank_2 cvX11_119 (by decide) (by first | assumption | exact hsh _ _ rfl) (Nat.le_of_ble_eq_true rfl) (Nat.le_of_eq (Nat.zero_add _)) (Nat.le_of_eq (Nat.zero_add _)) (cg_person0 hsh hfx hR (by omega) h1) ?_
  refine j_aload_n dX11_rank_5 rfl ?_
  refine j_iload_n dX11_rank_6 rfl ?_
  refine r_cv1V dX11_rank_7 cvX11_176 (by decide) (by first | assumption | exact hsh _ _ rfl) (Nat.le_of_ble_eq_true rfl) (Nat.le_of_eq (Nat.zero_add _)) (Nat.le_of_eq (Nat.zero_add _)) (cg_live1 hsh hfx hst hR (by omega) h1 h2) ?_
  refine j_aload_n dX11_rank_10 rfl ?_
  refine j_iconst dX11_rank_11 ?_
  refine r_cv1GV dX11_rank_12 cvX11_179 (by decide) (by first | assumption | exact hsh _ _ rfl) (Nat.le_of_ble_eq_true rfl) (Nat.le_of_eq (Nat.zero_add _)) (Nat.le_of_eq (Nat.zero_add _)) (cs_feelToday (d := d) hsh hfx hst h12 hR hL hW h9 h10 a0 b0 f0) (fun J hJ => ?_)
  refine j_iconst dX11_rank_15 ?_
  refine j_istore_n dX11_rank_16 (by decide) ?_
  refine j_iconst dX11_rank_17 ?_
  refine j_istore_n dX11_rank_18 (by decide) ?_
  skip
  have hs := StAt_F (e := 12) (r := F 2 18) hst
  have hRJ := Rp_FrG hR hJ.2
  obtain ⟨hC, hG⟩ := hJ
  generalize (dStep 1 (w, a0, b0, f0)) = X at *
  have hcp := (hC p g1.1 g1.2).1
  clear hfx hst
  have hfx := hfx2
  obtain ⟨r0, r1, rP, rO, rA, r9, r10, r11, r12, r13, r14, r15, r16, r17⟩ := id hRJ
  obtain ⟨g0, g1, g2, g3, g4, g5, g6, g7, g8, g9, e1, e2, e3, e4, e5, e6, e7, e8, e9⟩ := id hs
  refine jW_loop 19 (fun _ _ => True) (fun q a => a + (if aOf w q 3 = 0 ∧ X.2.2.2 p < X.2.2.2 q then 1 else 0)) 0 (aPe w) (fun z a => [some (jR (some 0)), some (jI p), some (jI a), some (jI z)]) (fun _ _ => (sh, J, jup F 12 18 (F 2 18))) r1.1 trivial (fun _ _ _ _ _ => trivial) (fun a ha _ => ?_) (fun z a hz0 hz1 _ ih => ?_)
  · refine j_iload_n dX11_rank_19 rfl ?_
    refine j_aload_n dX11_rank_20 rfl ?_
    refine r_getS dX11_rank_21 flX11_20 (by first | assumption | exact hsh _ _ rfl) (fx_0_3 hfx) ?_
    refine r_getIE dX11_rank_24 flX11_278 (by first | assumption | exact hsh _ _ rfl) r0 (fun b_24 => ?_)
    refine j_icmp_ge (tgt := 71) dX11_rank_27 rfl (by first | omega | (split <;> omega)) (by first | omega | (split <;> omega)) (fun c_27 => ?_) (fun c_27 => by exact absurd (by omega) c_27)
    refine j_iload_n dX11_rank_71 rfl ?_
    refine j_iret dX11_rank_72 rfl ?_
    rw [← hQ]
    exact ⟨J, by rw [ha]; rfl, rfl, hG⟩
  · have hcz := (hC z hz0 hz1).1
    by_cases e : aOf w z 3 = 0
    · refine j_iload_n dX11_rank_19 rfl ?_
      refine j_aload_n dX11_rank_20 rfl ?_
      refine r_getS dX11_rank_21 flX11_20 (by first | assumption | exact hsh _ _ rfl) (fx_0_3 hfx) ?_
      refine r_getIE dX11_rank_24 flX11_278 (by first | assumption | exact hsh _ _ rfl) r0 (fun b_24 => ?_)
      refine j_icmp_ge (tgt := 71) dX11_rank_27 rfl (by first | omega | (split <;> omega)) (by first | omega | (split <;> omega)) (fun c_27 => by exact absurd c_27 (by omega)) (fun c_27 => ?_)
      refine j_aload_n dX11_rank_30 rfl ?_
      refine r_getS dX11_rank_31 flX11_20 (by first | assumption | exact hsh _ _ rfl) (fx_0_3 hfx) ?_
      refine j_iload_n dX11_rank_34 rfl ?_
      refine r_cv1I dX11_rank_35 cvX11_131 (by decide) (by first | assumption | exact hsh _ _ rfl) (Nat.le_of_ble_eq_true rfl) (Nat.le_of_eq (Nat.zero_add _)) (Nat.le_of_eq (Nat.zero_add _)) (sc_al1 hs hRJ (by omega) ⟨hz0, by omega⟩ e) ?_
      refine j_if_eq (tgt := 65) dX11_rank_38 rfl (by first | omega | (split <;> omega)) (fun c_38 => by exact absurd c_38 (by decide)) (fun c_38 => ?_)
      refine j_aload_n dX11_rank_41 rfl ?_
      refine r_getS dX11_rank_42 flX11_54 (by first | assumption | exact hsh _ _ rfl) (fx_0_10 hfx) ?_
      refine r_getS dX11_rank_45 flX11_188 (by first | assumption | exact hsh _ _ rfl) (fx_160_3 hfx) ?_
      refine j_iload_n dX11_rank_48 rfl ?_
      refine r_ialoadE dX11_rank_49 (by first | assumption | exact hsh _ _ rfl) (by first | omega | (split <;> omega)) (by first | omega | (split <;> omega)) hcz (fun b_49 => ?_)
      refine j_aload_n dX11_rank_50 rfl ?_
      refine r_getS dX11_rank_51 flX11_54 (by first | assumption | exact hsh _ _ rfl) (fx_0_10 hfx) ?_
      refine r_getS dX11_rank_54 flX11_188 (by first | assumption | exact hsh _ _ rfl) (fx_160_3 hfx) ?_
      refine j_iload_n dX11_rank_57 rfl ?_
      refine r_ialoadE dX11_rank_58 (by first | assumption | exact hsh _ _ rfl) (by first | omega | (split <;> omega)) (by first | omega | (split <;> omega)) hcp (fun b_58 => ?_)
      refine j_icmp_le (tgt := 65) dX11_rank_59 rfl (by first | omega | (split <;> omega)) (by first | omega | (split <;> omega)) (fun c_59 => ?_) (fun c_59 => ?_)
      · refine j_iinc dX11_rank_65 rfl (by decide) ?_
        refine j_goto (tgt := 19) dX11_rank_68 rfl ?_
        first | (rw [if_pos ⟨e, by omega⟩] at ih; exact ih) | (rw [if_neg (fun q => absurd q.2 (by omega)), Int.add_zero] at ih; exact ih)
      · refine j_iinc dX11_rank_62 rfl (by decide) ?_
        refine j_iinc dX11_rank_65 rfl (by decide) ?_
        refine j_goto (tgt := 19) dX11_rank_68 rfl ?_
        first | (rw [if_pos ⟨e, by omega⟩] at ih; exact ih) | (rw [if_neg (fun q => absurd q.2 (by omega)), Int.add_zero] at ih; exact ih)
    · rw [if_neg (fun q => e q.1), Int.add_zero] at ih
      refine j_iload_n dX11_rank_19 rfl ?_
      refine j_aload_n dX11_rank_20 rfl ?_
      refine r_getS dX11_rank_21 flX11_20 (by first | assumption | exact hsh _ _ rfl) (fx_0_3 hfx) ?_
      refine r_getIE dX11_rank_24 flX11_278 (by first | assumption | exact hsh _ _ rfl) r0 (fun b_24 => ?_)
      refine j_icmp_ge (tgt := 71) dX11_rank_27 rfl (by first | omega | (split <;> omega)) (by first | omega | (split <;> omega)) (fun c_27 => by exact absurd c_27 (by omega)) (fun c_27 => ?_)
      refine j_aload_n dX11_rank_30 rfl ?_
      refine r_getS dX11_rank_31 flX11_20 (by first | assumption | exact hsh _ _ rfl) (fx_0_3 hfx) ?_
      refine j_iload_n dX11_rank_34 rfl ?_
      refine r_cv1I dX11_rank_35 cvX11_131 (by decide) (by first | assumption | exact hsh _ _ rfl) (Nat.le_of_ble_eq_true rfl) (Nat.le_of_eq (Nat.zero_add _)) (Nat.le_of_eq (Nat.zero_add _)) (sc_al0 hs hRJ (by omega) ⟨hz0, by omega⟩ e) ?_
      refine j_if_eq (tgt := 65) dX11_rank_38 rfl (by first | omega | (split <;> omega)) (fun c_38 => ?_) (fun c_38 => by exact absurd c_38 (by decide))
      refine j_iinc dX11_rank_65 rfl (by decide) ?_
      refine j_goto (tgt := 19) dX11_rank_68 rfl ?_
      exact ih
/-! ### the draft's days -/
theorem sc_firstOver (hsh : ShOK sh) (hfx : FxOK F) {s : Nat} (hs : StAt sh F s) (hR : Rp I s w) {f : Int → Int} (hF : ∀ q, 0 ≤ q → q < aPe w → I 164 q = f q) : jS G d mX2_firstOver [jR (some 160), jR (some s)] (sh, I, F) 0 0 (rI (mFO w f) (sh, I, F)) := by
  obtain ⟨g0, g1, g2, g3, g4, g5, g6, g7, g8, g9, e1, e2, e3, e4, e5, e6, e7, e8, e9⟩ := id hs
  obtain ⟨r0, r1, rP, rO, rA, r9, r10, r11, r12, r13, r14, r15, r16, r17⟩ := id hR
  refine jS_go [some (jR (some 160)), some (jR (some s)), none] (by decide +kernel) rfl (by simp [jone]) (Nat.le_of_ble_eq_true rfl) rfl (fun hok => ?_)
  have key : ∀ (m : Nat) (z : Int), z + m = aPe w → 0 ≤ z → (∀ j, 0 ≤ j → j < z → ¬ aOf w j 0 < f j) → jW G mX2_firstOver d (rI (mFO w f) (sh, I, F)) 2 [some (jR (some 160)), some (jR (some s)), some (jI z)] [] (sh, I, F) 0 0 := by
    intro m
    induction m with
    | zero =>
      intro z hz hz0 hj
      refine j_iload_n dX2_firstOver_2 rfl ?_
      refine j_aload_n dX2_firstOver_3 rfl ?_
      refine r_getIE dX2_firstOver_4 flX2_45 (by first | assumption | exact hsh _ _ rfl) r0 (fun b_4 => ?_)
      refine j_icmp_ge (tgt := 33) dX2_firstOver_7 rfl (by first | omega | (split <;> omega)) (by first | omega | (split <;> omega)) (fun c_7 => ?_) (fun c_7 => by exact absurd (by omega) c_7)
      refine j_iconst dX2_firstOver_33 ?_
      refine j_iret dX2_firstOver_34 rfl ?_
      exact rI_of (jfirst_none (fun j j0 j1 => hj j j0 (by omega))).symm rfl
    | succ m ih =>
      intro z hz hz0 hj
      have u := rP z hz0 (by omega)
      have hfz := hF z hz0 (by omega)
      refine j_iload_n dX2_firstOver_2 rfl ?_
      refine j_aload_n dX2_firstOver_3 rfl ?_
      refine r_getIE dX2_firstOver_4 flX2_45 (by first | assumption | exact hsh _ _ rfl) r0 (fun b_4 => ?_)
      refine j_icmp_ge (tgt := 33) dX2_firstOver_7 rfl (by first | omega | (split <;> omega)) (by first | omega | (split <;> omega)) (fun c_7 => by exact absurd c_7 (by omega)) (fun c_7 => ?_)
      refine j_aload_n dX2_firstOver_10 rfl ?_
      refine r_getS dX2_firstOver_11 flX2_21 (by first | assumption | exact hsh _ _ rfl) (fx_160_3 hfx) ?_
      refine j_iload_n dX2_firstOver_14 rfl ?_
      refine r_ialoadE dX2_firstOver_15 (by first | assumption | exact hsh _ _ rfl) (by first | omega | (split <;> omega)) (by first | omega | (split <;> omega)) hfz (fun b_15 => ?_)
      refine j_aload_n dX2_firstOver_16 rfl ?_
      refine r_getS dX2_firstOver_17 flX2_91 (by first | assumption | exact hsh _ _ rfl) (by assumption) ?_
      refine j_iload_n dX2_firstOver_20 rfl ?_
      refine r_ialoadE dX2_firstOver_21 (by first | assumption | exact hsh _ _ rfl) (by first | omega | (split <;> omega)) (by first | omega | (split <;> omega)) u.1 (fun b_21 => ?_)
      refine j_icmp_le (tgt := 27) dX2_firstOver_22 rfl (by first | omega | (split <;> omega)) (by first | omega | (split <;> omega)) (fun c_22 => ?_) (fun c_22 => ?_)
      · refine j_iinc dX2_firstOver_27 rfl (by decide) ?_
        refine j_goto (tgt := 2) dX2_firstOver_30 rfl ?_
        exact ih (z + 1) (by omega) (by omega) (fun j a b => by
          by_cases e : j = z
          · subst e; omega
          · exact hj j a (by omega))
      · refine j_iload_n dX2_firstOver_25 rfl ?_
        refine j_iret dX2_firstOver_26 rfl ?_
        exact rI_of (jfirst_hit (P := fun p => aOf w p 0 < f p) hz0 (by omega) (by omega) hj).symm rfl
  refine j_iconst dX2_firstOver_0 ?_
  refine j_istore_n dX2_firstOver_1 (by decide) ?_
  exact key (aPe w).toNat 0 (by omega) (by omega) (fun j a b => by omega)
theorem cp_first (hsh : ShOK sh) (hfx : FxOK F) (hst : StAt sh F 2) (h12 : StAt sh F 12) (hR : Rp I 2 w) (hL : LwR sh I F 2 w) (hW : WF w) (h9 : 0 ≤ w 9) (h10 : 0 ≤ w 10 ∧ w 10 ≤ 60) (a0 b0 f0 : Int → Int) {b : Int} (hb : b = 0 ∨ b = 1) : jS G (d + 9) mX11_first [jR (some 0), jI b] (sh, I, F) 0 0 (rEI (vFst (w, a0, b0, f0) b) sh (jup F 12 18 (F 2 18)) (FrG I)) := by
  have h17 : I 2 17 = 0 ∨ I 2 17 = 1 := by rw [hR.2.2.2.2.2.2.2.2.2.2.2.2.2]; exact hW.2.2.2.1
  have hL2 := LwR_tk (e := 12) hL
  have hfx2 := FxOK_F (e := 12) (r := F 2 18) hfx
  have h122 := StAt_F (e := 12) (r := F 2 18) h12
  refine jS_go [some (jR (some 0)), some (jI b), none] (by decide +kernel) rfl (by simp [jone]) (Nat.le_of_ble_eq_true rfl) rfl (fun hok => ?_)
  generalize hQ : rEI (vFst (w, a0, b0, f0) b) sh (jup F 12 18 (F 2 18)) (FrG I) = Q9
  have g8 := hW.1
  have key : ∀ (m : Nat) (z : Int) (J : Nat → Int → Int) (X : dX), z + m = 60 → 0 ≤ z → X = mDays 1 (w, a0, b0, f0) z.toNat → (∀ j, 0 ≤ j → j < z → ¬ vOv (w, a0, b0, f0) j) → dOK w X z → Rp J 12 X.1 → FrG I J → jW G mX11_first (d + 9) Q9 13 [some (jR (some 0)), some (jI b), some (jI (z + 1))] [] (sh, J, jup F 12 18 (F 2 18)) 0 0 := by
    intro m
    induction m with
    | zero =>
      intro z J X hz hz0 hX hno hO hRJ hfr
      have hv : vFst (w, a0, b0, f0) b = -1 := by unfold vFst; rw [if_pos (by rw [dFst_none (fun j j0 j1 => hno j j0 (by omega))]; decide)]
      refine j_iload_n dX11_first_13 rfl ?_
      refine j_bipush dX11_first_14 (by decide) ?_
      refine j_icmp_gt (tgt := 60) dX11_first_16 rfl (by first | omega | (split <;> omega)) (by first | omega | (split <;> omega)) (fun c_16 => ?_) (fun c_16 => by exact absurd (by omega) c_16)
      refine j_iconst dX11_first_60 ?_
      refine j_iret dX11_first_61 rfl ?_
      rw [← hQ]
      exact ⟨J, by rw [hv], rfl, hfr⟩
    | succ m ih =>
      intro z J X hz hz0 hX hno hO hRJ hfr
      have hfx := hfx2
      have hO1 := dOK_s (calm := 1) hO h9
      have e0 : aPe X.1 = aPe w := hO.2.2.2 0 (by omega)
      have e1 : aPe (dStep 1 X).1 = aPe w := hO1.2.2.2 0 (by omega)
      have hXs : mDays 1 (w, a0, b0, f0) (z + 1).toNat = dStep 1 X := by rw [hX]; exact mDays_s _ _ hz0
      have hvO : vOv (w, a0, b0, f0) z ↔ 0 < mOver X.1 (dStep 1 X).2.2.2 := by unfold vOv; rw [hXs, ← hX]
      have hin := mOver_in (w := X.1) (f := (dStep 1 X).2.2.2) (by omega)
      have hcg : mFO (dStep 1 X).1 (dStep 1 X).2.2.2 = mFO X.1 (dStep 1 X).2.2.2 := mFO_cong (by omega) (fun q q0 q1 => mDay_o hO.1 (Or.inr (Or.inr (Or.inr (Or.inr ⟨q, q0, Or.inl (Int.add_zero _), by omega⟩))))) (by omega)
      have hv : 0 < mOver X.1 (dStep 1 X).2.2.2 → vFst (w, a0, b0, f0) b = if b = 0 then z + 1 else mFO (dStep 1 X).1 (dStep 1 X).2.2.2 := fun h => by
        unfold vFst
        rw [dFst_hit hz0 (by omega) (hvO.2 h) hno, if_neg (by omega), hXs, ← hX, hcg]
      refine j_iload_n dX11_first_13 rfl ?_
      refine j_bipush dX11_first_14 (by decide) ?_
      refine j_icmp_gt (tgt := 60) dX11_first_16 rfl (by first | omega | (split <;> omega)) (by first | omega | (split <;> omega)) (fun c_16 => by exact absurd c_16 (by omega)) (fun c_16 => ?_)
      refine j_aload_n dX11_first_19 rfl ?_
      refine r_getS dX11_first_20 flX11_54 (by first | assumption | exact hsh _ _ rfl) (fx_0_10 hfx) ?_
      refine j_aload_n dX11_first_23 rfl ?_
      refine r_getS dX11_first_24 flX11_24 (by first | assumption | exact hsh _ _ rfl) (fx_0_4 hfx) ?_
      refine j_iconst dX11_first_27 ?_
      refine r_cv2EI dX11_first_28 cvX11_233 (by decide) (by first | assumption | exact hsh _ _ rfl) (Nat.le_of_ble_eq_true rfl) (Nat.le_of_eq (Nat.zero_add _)) (Nat.le_of_eq (Nat.zero_add _)) (sc_day1 (d := d + 2) hsh hfx2 h122 (calm := 1) (Or.inr ⟨rfl, rfl⟩) hO hRJ hL2 hfr) (fun K hK => ?_)
      refine j_if_le (tgt := 54) dX11_first_31 rfl (by first | omega | (split <;> omega)) (fun c_31 => ?_) (fun c_31 => ?_)
      · refine j_iinc dX11_first_54 rfl (by decide) ?_
        refine j_goto (tgt := 13) dX11_first_57 rfl ?_
        exact ih (z + 1) K _ (by omega) (by omega) hXs.symm (fun j j0 j1 => by
          by_cases e : j = z
          · subst e; rw [hvO]; omega
          · exact hno j j0 (by omega)) hO1 hK.1 hK.2.2
      · refine j_iload_n dX11_first_34 rfl ?_
        refine j_if_eq (tgt := 52) dX11_first_35 rfl (by first | omega | (split <;> omega)) (fun c_35 => ?_) (fun c_35 => ?_)
        · refine j_iload_n dX11_first_52 rfl ?_
          refine j_iret dX11_first_53 rfl ?_
          rw [← hQ]
          refine ⟨K, ?_, rfl, hK.2.2⟩
          rw [hv (by omega)]
          first | rw [if_pos (by omega)] | rw [if_neg (by omega)]
        · refine j_aload_n dX11_first_38 rfl ?_
          refine r_getS dX11_first_39 flX11_54 (by first | assumption | exact hsh _ _ rfl) (fx_0_10 hfx) ?_
          refine j_aload_n dX11_first_42 rfl ?_
          refine r_getS dX11_first_43 flX11_24 (by first | assumption | exact hsh _ _ rfl) (fx_0_4 hfx) ?_
          refine r_cv1I dX11_first_46 cvX11_244 (by decide) (by first | assumption | exact hsh _ _ rfl) (Nat.le_of_ble_eq_true rfl) (Nat.le_of_eq (Nat.zero_add _)) (Nat.le_of_eq (Nat.zero_add _)) (sc_firstOver hsh hfx2 h122 hK.1 (f := (dStep 1 X).2.2.2) (fun q q0 q1 => (hK.2.1 q q0 (by omega)).1)) ?_
          refine j_goto (tgt := 53) dX11_first_49 rfl ?_
          refine j_iret dX11_first_53 rfl ?_
          rw [← hQ]
          refine ⟨K, ?_, rfl, hK.2.2⟩
          rw [hv (by omega)]
          first | rw [if_pos (by omega)] | rw [if_neg (by omega)]
  refine j_aload_n dX11_first_0 rfl ?_
  refine r_getS dX11_first_1 flX11_24 (by first | assumption | exact hsh _ _ rfl) (fx_0_4 hfx) ?_
  refine j_aload_n dX11_first_4 rfl ?_
  refine r_getS dX11_first_5 flX11_20 (by first | assumption | exact hsh _ _ rfl) (fx_0_3 hfx) ?_
  refine r_cv1GV dX11_first_8 cvX11_76 (by decide) (by first | assumption | exact hsh _ _ rfl) (Nat.le_of_ble_eq_true rfl) (Nat.le_of_eq (Nat.zero_add _)) (Nat.le_of_eq (Nat.zero_add _)) (sc_takeFrom h12 hst (Or.inr (by decide)) h17) (fun J k3 => ?_)
  refine j_iconst dX11_first_11 ?_
  refine j_istore_n dX11_first_12 (by decide) ?_
  exact key 60 0 J _ (by omega) (by omega) rfl (fun j j0 j1 => by omega) (dOK_0 hW h10) (TkO_Rp k3 hR) (fun a x0 x1 => k3.2.2.2.2 a (by omega))
/-! ### peak -/
theorem cp_peak_1 (hsh : ShOK sh) (hfx : FxOK F) (hR : Rp I 2 w) {p n b : Int} (h1 : jin p) (h2 : ¬ gP w p) : jS G (d + 9) mX11_peak [jR (some 0), jI p, jI n, jI b] (sh, I, F) 1 6 (rX xIob (sh, I, F)) := by
  refine jS_go [some (jR (some 0)), some (jI p), some (jI n), some (jI b), none, none, none] (by decide +kernel) rfl (by simp [jone]) (Nat.le_of_ble_eq_true rfl) rfl (fun hok => ?_)
  refine j_aload_n dX11_peak_0 rfl ?_
  refine j_iload_n dX11_peak_1 rfl ?_
  exact r_cv1X dX11_peak_2 cvX11_119 (by decide) (by first | assumption | exact hsh _ _ rfl) (Nat.le_of_ble_eq_true rfl) (Nat.le_refl _) (Nat.le_refl _) rfl (cg_person1 hsh hfx hR (by omega) h2) (⟨rfl, rfl⟩)
theorem cp_peak_2 (hsh : ShOK sh) (hfx : FxOK F) (hR : Rp I 2 w) {p n b : Int} (h1 : gP w p) (hn : jin n) (h3 : ¬ (1 ≤ n ∧ n ≤ 60)) : jS G (d + 9) mX11_peak [jR (some 0), jI p, jI n, jI b] (sh, I, F) 1 6 (rX xIae (sh, I, F)) := by
  have g8 := hR.2.1
  have g1 : 0 ≤ p ∧ p < aPe w := by have := h1.1; have := h1.2; omega
  refine jS_go [some (jR (some 0)), some (jI p), some (jI n), some (jI b), none, none, none] (by decide +kernel) rfl (by simp [jone]) (Nat.le_of_ble_eq_true rfl) rfl (fun hok => ?_)
  refine j_aload_n dX11_peak_0 rfl ?_
  refine j_iload_n dX11_peak_1 rfl ?_
  refine r_cv1V dX11_peak_2 cvX11_119 (by decide) (by first | assumption | exact hsh _ _ rfl) (Nat.le_of_ble_eq_true rfl) (Nat.le_of_eq (Nat.zero_add _)) (Nat.le_of_eq (Nat.zero_add _)) (cg_person0 hsh hfx hR (by omega) h1) ?_
  refine j_aload_n dX11_peak_5 rfl ?_
  refine j_iload_n dX11_peak_6 rfl ?_
  refine j_iconst dX11_peak_7 ?_
  refine j_bipush dX11_peak_8 (by decide) ?_
  exact r_cv3X dX11_peak_10 cvX11_191 (by decide) (by first | assumption | exact hsh _ _ rfl) (Nat.le_of_ble_eq_true rfl) (Nat.le_refl _) (Nat.le_refl _) rfl (cg_lie1 hsh (by omega) (by omega) (by omega) h3) (⟨rfl, rfl⟩)
theorem cp_peak_3 (hsh : ShOK sh) (hfx : FxOK F) (hst : StAt sh F 2) (hR : Rp I 2 w) {p n b : Int} (h1 : gP w p) (h3 : 1 ≤ n ∧ n ≤ 60) (h2 : ¬ aOf w p 3 = 0) : jS G (d + 9) mX11_peak [jR (some 0), jI p, jI n, jI b] (sh, I, F) 1 6 (rX xIse (sh, I, F)) := by
  have g8 := hR.2.1
  have g1 : 0 ≤ p ∧ p < aPe w := by have := h1.1; have := h1.2; omega
  refine jS_go [some (jR (some 0)), some (jI p), some (jI n), some (jI b), none, none, none] (by decide +kernel) rfl (by simp [jone]) (Nat.le_of_ble_eq_true rfl) rfl (fun hok => ?_)
  refine j_aload_n dX11_peak_0 rfl ?_
  refine j_iload_n dX11_peak_1 rfl ?_
  refine r_cv1V dX11_peak_2 cvX11_119 (by decide) (by first | assumption | exact hsh _ _ rfl) (Nat.le_of_ble_eq_true rfl) (Nat.le_of_eq (Nat.zero_add _)) (Nat.le_of_eq (Nat.zero_add _)) (cg_person0 hsh hfx hR (by omega) h1) ?_
  refine j_aload_n dX11_peak_5 rfl ?_
  refine j_iload_n dX11_peak_6 rfl ?_
  refine j_iconst dX11_peak_7 ?_
  refine j_bipush dX11_peak_8 (by decide) ?_
  refine r_cv3V dX11_peak_10 cvX11_191 (by decide) (by first | assumption | exact hsh _ _ rfl) (Nat.le_of_ble_eq_true rfl) (Nat.le_of_eq (Nat.zero_add _)) (Nat.le_of_eq (Nat.zero_add _)) (cg_lie0 hsh (by omega) (by omega) (by omega) h3) ?_
  refine j_aload_n dX11_peak_13 rfl ?_
  refine j_iload_n dX11_peak_14 rfl ?_
  exact r_cv1X dX11_peak_15 cvX11_176 (by decide) (by first | assumption | exact hsh _ _ rfl) (Nat.le_of_ble_eq_true rfl) (Nat.le_refl _) (Nat.le_refl _) rfl (cg_live0 hsh hfx hst hR (by omega) h1 h2) (⟨rfl, rfl⟩)
theorem cp_peak_0 (hsh : ShOK sh) (hfx : FxOK F) (hst : StAt sh F 2) (h12 : StAt sh F 12) (hR : Rp I 2 w) (hL : LwR sh I F 2 w) (hW : WF w) (h9 : 0 ≤ w 9) (h10 : 0 ≤ w 10 ∧ w 10 ≤ 60) (a0 b0 f0 : Int → Int) {p n b : Int} (h1 : gP w p) (h3 : 1 ≤ n ∧ n ≤ 60) (h2 : aOf w p 3 = 0) (hb : b = 0 ∨ b = 1) : jS G (d + 9) mX11_peak [jR (some 0), jI p, jI n, jI b] (sh, I, F) 0 0 (rEI (if b = 0 then (mPk (w, a0, b0, f0) p n.toNat).2.1 else (mPk (w, a0, b0, f0) p n.toNat).2.2) sh (jup F 12 18 (F 2 18)) (FrG I)) := by
  have h17 : I 2 17 = 0 ∨ I 2 17 = 1 := by rw [hR.2.2.2.2.2.2.2.2.2.2.2.2.2]; exact hW.2.2.2.1
  have hL2 := LwR_tk (e := 12) hL
  have hfx2 := FxOK_F (e := 12) (r := F 2 18) hfx
  have h122 := StAt_F (e := 12) (r := F 2 18) h12
  have g8 := hR.2.1
  have g1 : 0 ≤ p ∧ p < aPe w := by have := h1.1; have := h1.2; omega
  refine jS_go [some (jR (some 0)), some (jI p), some (jI n), some (jI b), none, none, none] (by decide +kernel) rfl (by simp [jone]) (Nat.le_of_ble_eq_true rfl) rfl (fun hok => ?_)
  generalize hQ : rEI (if b = 0 then (mPk (w, a0, b0, f0) p n.toNat).2.1 else (mPk (w, a0, b0, f0) p n.toNat).2.2) sh (jup F 12 18 (F 2 18)) (FrG I) = Q9
  have key : ∀ (m : Nat) (z : Int) (J : Nat → Int → Int) (a : dX × Int × Int), z + m = n → 0 ≤ z → a = mPk (w, a0, b0, f0) p z.toNat → dOK w a.1 z → (-1 ≤ a.2.1 ∧ a.2.1 ≤ 300000) → (0 ≤ a.2.2 ∧ a.2.2 ≤ z) → Rp J 12 a.1.1 → FrG I J → jW G mX11_peak (d + 9) Q9 38 [some (jR (some 0)), some (jI p), some (jI n), some (jI b), some (jI a.2.1), some (jI a.2.2), some (jI z)] [] (sh, J, jup F 12 18 (F 2 18)) 0 0 := by
    intro m
    induction m with
    | zero =>
      intro z J a hz hz0 ha hO b1 b2 hRJ hfr
      rw [show n = z by omega, ← ha] at hQ
      refine j_iload dX11_peak_38 rfl ?_
      refine j_iload_n dX11_peak_40 rfl ?_
      refine j_icmp_ge (tgt := 92) dX11_peak_41 rfl (by first | omega | (split <;> omega)) (by first | omega | (split <;> omega)) (fun c_41 => ?_) (fun c_41 => by exact absurd (by omega) c_41)
      refine j_iload_n dX11_peak_92 rfl ?_
      refine j_if_eq (tgt := 101) dX11_peak_93 rfl (by first | omega | (split <;> omega)) (fun c_93 => ?_) (fun c_93 => ?_)
      · refine j_iload dX11_peak_101 rfl ?_
        refine j_iret dX11_peak_103 rfl ?_
        rw [← hQ]
        refine ⟨J, ?_, rfl, hfr⟩
        first | rw [if_pos (by omega)] | rw [if_neg (by omega)]
      · refine j_iload dX11_peak_96 rfl ?_
        refine j_goto (tgt := 103) dX11_peak_98 rfl ?_
        refine j_iret dX11_peak_103 rfl ?_
        rw [← hQ]
        refine ⟨J, ?_, rfl, hfr⟩
        first | rw [if_pos (by omega)] | rw [if_neg (by omega)]
    | succ m ih =>
      intro z J a hz hz0 ha hO b1 b2 hRJ hfr
      have hfx := hfx2
      have e0 : aPe a.1.1 = aPe w := hO.2.2.2 0 (by omega)
      have hf := dStep_fe (calm := 1) (X := a.1) hO.1 (q := p) (by omega) (by omega)
      have ih1 := fun K hK hG => ih (z + 1) K (mPkS p z a) (by omega) (by omega) (by rw [ha]; exact (mPk_s _ _ hz0).symm) (dOK_s hO h9) (by show -1 ≤ max _ _ ∧ max _ _ ≤ _; omega) (by show 0 ≤ ite _ _ _ ∧ ite _ _ _ ≤ _; split <;> omega) hK hG
      refine j_iload dX11_peak_38 rfl ?_
      refine j_iload_n dX11_peak_40 rfl ?_
      refine j_icmp_ge (tgt := 92) dX11_peak_41 rfl (by first | omega | (split <;> omega)) (by first | omega | (split <;> omega)) (fun c_41 => by exact absurd c_41 (by omega)) (fun c_41 => ?_)
      refine j_aload_n dX11_peak_44 rfl ?_
      refine r_getS dX11_peak_45 flX11_54 (by first | assumption | exact hsh _ _ rfl) (fx_0_10 hfx) ?_
      refine j_aload_n dX11_peak_48 rfl ?_
      refine r_getS dX11_peak_49 flX11_24 (by first | assumption | exact hsh _ _ rfl) (fx_0_4 hfx) ?_
      refine j_iconst dX11_peak_52 ?_
      refine r_cv2EI dX11_peak_53 cvX11_233 (by decide) (by first | assumption | exact hsh _ _ rfl) (Nat.le_of_ble_eq_true rfl) (Nat.le_of_eq (Nat.zero_add _)) (Nat.le_of_eq (Nat.zero_add _)) (sc_day1 (d := d + 2) hsh hfx2 h122 (calm := 1) (Or.inr ⟨rfl, rfl⟩) hO hRJ hL2 hfr) (fun K hK => ?_)
      have ih2 := ih1 K hK.1 hK.2.2
      have ek := (hK.2.1 p g1.1 g1.2).1
      refine j_pop dX11_peak_56 trivial ?_
      refine j_aload_n dX11_peak_57 rfl ?_
      refine r_getS dX11_peak_58 flX11_54 (by first | assumption | exact hsh _ _ rfl) (fx_0_10 hfx) ?_
      refine r_getS dX11_peak_61 flX11_188 (by first | assumption | exact hsh _ _ rfl) (fx_160_3 hfx) ?_
      refine j_iload_n dX11_peak_64 rfl ?_
      refine r_ialoadE dX11_peak_65 (by first | assumption | exact hsh _ _ rfl) (by first | omega | (split <;> omega)) (by first | omega | (split <;> omega)) ek (fun b_65 => ?_)
      refine j_iload dX11_peak_66 rfl ?_
      refine j_icmp_le (tgt := 86) dX11_peak_68 rfl (by first | omega | (split <;> omega)) (by first | omega | (split <;> omega)) (fun c_68 => ?_) (fun c_68 => ?_)
      · refine j_iinc dX11_peak_86 rfl (by decide) ?_
        refine j_goto (tgt := 38) dX11_peak_89 rfl ?_
        unfold mPkS at ih2
        first | (rw [if_pos (by omega), Int.max_eq_right (by omega)] at ih2; exact ih2) | (rw [if_neg (by omega), Int.max_eq_left (by omega)] at ih2; exact ih2)
      · refine j_aload_n dX11_peak_71 rfl ?_
        refine r_getS dX11_peak_72 flX11_54 (by first | assumption | exact hsh _ _ rfl) (fx_0_10 hfx) ?_
        refine r_getS dX11_peak_75 flX11_188 (by first | assumption | exact hsh _ _ rfl) (fx_160_3 hfx) ?_
        refine j_iload_n dX11_peak_78 rfl ?_
        refine r_ialoadE dX11_peak_79 (by first | assumption | exact hsh _ _ rfl) (by first | omega | (split <;> omega)) (by first | omega | (split <;> omega)) ek (fun b_79 => ?_)
        refine j_istore dX11_peak_80 (by decide) ?_
        refine j_iload dX11_peak_82 rfl ?_
        refine j_istore dX11_peak_84 (by decide) ?_
        refine j_iinc dX11_peak_86 rfl (by decide) ?_
        refine j_goto (tgt := 38) dX11_peak_89 rfl ?_
        unfold mPkS at ih2
        first | (rw [if_pos (by omega), Int.max_eq_right (by omega)] at ih2; exact ih2) | (rw [if_neg (by omega), Int.max_eq_left (by omega)] at ih2; exact ih2)
  refine j_aload_n dX11_peak_0 rfl ?_
  refine j_iload_n dX11_peak_1 rfl ?_
  refine r_cv1V dX11_peak_2 cvX11_119 (by decide) (by first | assumption | exact hsh _ _ rfl) (Nat.le_of_ble_eq_true rfl) (Nat.le_of_eq (Nat.zero_add _)) (Nat.le_of_eq (Nat.zero_add _)) (cg_person0 hsh hfx hR (by omega) h1) ?_
  refine j_aload_n dX11_peak_5 rfl ?_
  refine j_iload_n dX11_peak_6 rfl ?_
  refine j_iconst dX11_peak_7 ?_
  refine j_bipush dX11_peak_8 (by decide) ?_
  refine r_cv3V dX11_peak_10 cvX11_191 (by decide) (by first | assumption | exact hsh _ _ rfl) (Nat.le_of_ble_eq_true rfl) (Nat.le_of_eq (Nat.zero_add _)) (Nat.le_of_eq (Nat.zero_add _)) (cg_lie0 hsh (by omega) (by omega) (by omega) h3) ?_
  refine j_aload_n dX11_peak_13 rfl ?_
  refine j_iload_n dX11_peak_14 rfl ?_
  refine r_cv1V dX11_peak_15 cvX11_176 (by decide) (by first | assumption | exact hsh _ _ rfl) (Nat.le_of_ble_eq_true rfl) (Nat.le_of_eq (Nat.zero_add _)) (Nat.le_of_eq (Nat.zero_add _)) (cg_live1 hsh hfx hst hR (by omega) h1 h2) ?_
  refine j_aload_n dX11_peak_18 rfl ?_
  refine r_getS dX11_peak_19 flX11_24 (by first | assumption | exact hsh _ _ rfl) (fx_0_4 hfx) ?_
  refine j_aload_n dX11_peak_22 rfl ?_
  refine r_getS dX11_peak_23 flX11_20 (by first | assumption | exact hsh _ _ rfl) (fx_0_3 hfx) ?_
  refine r_cv1GV dX11_peak_26 cvX11_76 (by decide) (by first | assumption | exact hsh _ _ rfl) (Nat.le_of_ble_eq_true rfl) (Nat.le_of_eq (Nat.zero_add _)) (Nat.le_of_eq (Nat.zero_add _)) (sc_takeFrom h12 hst (Or.inr (by decide)) h17) (fun J k3 => ?_)
  refine j_iconst dX11_peak_29 ?_
  refine j_istore dX11_peak_30 (by decide) ?_
  refine j_iconst dX11_peak_32 ?_
  refine j_istore dX11_peak_33 (by decide) ?_
  refine j_iconst dX11_peak_35 ?_
  refine j_istore dX11_peak_36 (by decide) ?_
  exact key n.toNat 0 J _ (by omega) (by omega) rfl (dOK_0 hW h10) (by show (-1 : Int) ≤ -1 ∧ (-1 : Int) ≤ 300000; decide) (by show (0 : Int) ≤ 0 ∧ (0 : Int) ≤ 0; decide) (TkO_Rp k3 hR) (fun a x0 x1 => k3.2.2.2.2 a (by omega))
/-! ### needed -/
theorem cp_needed_1 (hsh : ShOK sh) (hfx : FxOK F) {n : Int} (hn : jin n) (h3 : ¬ (0 ≤ n ∧ n ≤ 60)) : jS G (d + 9) mX11_needed [jR (some 0), jI n] (sh, I, F) 1 6 (rX xIae (sh, I, F)) := by
  refine jS_go [some (jR (some 0)), some (jI n), none, none] (by decide +kernel) rfl (by simp [jone]) (Nat.le_of_ble_eq_true rfl) rfl (fun hok => ?_)
  refine j_aload_n dX11_needed_0 rfl ?_
  refine j_iload_n dX11_needed_1 rfl ?_
  refine j_iconst dX11_needed_2 ?_
  refine j_bipush dX11_needed_3 (by decide) ?_
  exact r_cv3X dX11_needed_5 cvX11_191 (by decide) (by first | assumption | exact hsh _ _ rfl) (Nat.le_of_ble_eq_true rfl) (Nat.le_refl _) (Nat.le_refl _) rfl (cg_lie1 hsh (by omega) (by omega) (by omega) h3) (⟨rfl, rfl⟩)
theorem cp_needed_0 (hsh : ShOK sh) (hfx : FxOK F) (hst : StAt sh F 2) (h12 : StAt sh F 12) (hR : Rp I 2 w) (hL : LwR sh I F 2 w) (hW : WF w) (h9 : 0 ≤ w 9) (h10 : 0 ≤ w 10 ∧ w 10 ≤ 60) (a0 b0 f0 : Int → Int) {n : Int} (h3 : 0 ≤ n ∧ n ≤ 60) : jS G (d + 9) mX11_needed [jR (some 0), jI n] (sh, I, F) 0 0 (rEI (mNd (wup w 4 1000000000, a0, b0, f0) n.toNat).2 sh (jup F 12 18 (F 2 18)) (FrG I)) := by
  have h17 : I 2 17 = 0 ∨ I 2 17 = 1 := by rw [hR.2.2.2.2.2.2.2.2.2.2.2.2.2]; exact hW.2.2.2.1
  have hW4 : WF (wup w 4 799992) := WF_4 hW
  have h94 : 0 ≤ wup w 4 799992 9 := by rw [wup_ne _ _ (by decide)]; exact h9
  have h104 : 0 ≤ wup w 4 799992 10 ∧ wup w 4 799992 10 ≤ 60 := by rw [wup_ne _ _ (by decide)]; exact h10
  have hLw : LwR sh I F 2 (wup w 4 799992) := LwR_w hL (wup_ne _ _ (by decide)) (fun k hk => wup_ne _ _ (by omega))
  have hL2 := LwR_tk (e := 12) hLw
  have hfx2 := FxOK_F (e := 12) (r := F 2 18) hfx
  have h122 := StAt_F (e := 12) (r := F 2 18) h12
  have e4 : (mNd (wup w 4 1000000000, a0, b0, f0) n.toNat).2 = (mNd (wup w 4 799992, a0, b0, f0) n.toNat).2 := by
    have := mNd_4 (u := 1000000000) (a := a0) (b := b0) (f := f0) hW4 h94 h104 (by rw [wup_same]; decide) (by decide) n.toNat
    rw [wup_wup] at this
    rw [this]
  rw [e4]
  refine jS_go [some (jR (some 0)), some (jI n), none, none] (by decide +kernel) rfl (by simp [jone]) (Nat.le_of_ble_eq_true rfl) rfl (fun hok => ?_)
  generalize hQ : rEI (mNd (wup w 4 799992, a0, b0, f0) n.toNat).2 sh (jup F 12 18 (F 2 18)) (FrG I) = Q9
  have key : ∀ (m : Nat) (z : Int) (J : Nat → Int → Int) (a : dX × Int), z + m = n → 0 ≤ z → a = mNd (wup w 4 799992, a0, b0, f0) z.toNat → dOK (wup w 4 799992) a.1 z → (0 ≤ a.2 ∧ a.2 ≤ 800000) → Rp J 12 a.1.1 → FrG I J → jW G mX11_needed (d + 9) Q9 33 [some (jR (some 0)), some (jI n), some (jI a.2), some (jI z)] [] (sh, J, jup F 12 18 (F 2 18)) 0 0 := by
    intro m
    induction m with
    | zero =>
      intro z J a hz hz0 ha hO b1 hRJ hfr
      rw [show n = z by omega, ← ha] at hQ
      refine j_iload_n dX11_needed_33 rfl ?_
      refine j_iload_n dX11_needed_34 rfl ?_
      refine j_icmp_ge (tgt := 76) dX11_needed_35 rfl (by first | omega | (split <;> omega)) (by first | omega | (split <;> omega)) (fun c_35 => ?_) (fun c_35 => by exact absurd (by omega) c_35)
      refine j_iload_n dX11_needed_76 rfl ?_
      refine j_iret dX11_needed_77 rfl ?_
      rw [← hQ]
      exact ⟨J, rfl, rfl, hfr⟩
    | succ m ih =>
      intro z J a hz hz0 ha hO b1 hRJ hfr
      have hfx := hfx2
      have hO1 := dOK_s (calm := 1) hO h94
      have hal := mAll_in hO1.1.1 (WF_A1 hO1.1)
      have e9 := mAcc_all (w := (dStep 1 a.1).1) hO1.1.1
      have ih1 := fun K hK hG => ih (z + 1) K (mNdS a) (by omega) (by omega) (by rw [ha]; exact (mNd_s _ hz0).symm) hO1 (by show 0 ≤ max _ _ ∧ max _ _ ≤ _; omega) hK hG
      refine j_iload_n dX11_needed_33 rfl ?_
      refine j_iload_n dX11_needed_34 rfl ?_
      refine j_icmp_ge (tgt := 76) dX11_needed_35 rfl (by first | omega | (split <;> omega)) (by first | omega | (split <;> omega)) (fun c_35 => by exact absurd c_35 (by omega)) (fun c_35 => ?_)
      refine j_aload_n dX11_needed_38 rfl ?_
      refine r_getS dX11_needed_39 flX11_54 (by first | assumption | exact hsh _ _ rfl) (fx_0_10 hfx) ?_
      refine j_aload_n dX11_needed_42 rfl ?_
      refine r_getS dX11_needed_43 flX11_24 (by first | assumption | exact hsh _ _ rfl) (fx_0_4 hfx) ?_
      refine j_iconst dX11_needed_46 ?_
      refine r_cv2EI dX11_needed_47 cvX11_233 (by decide) (by first | assumption | exact hsh _ _ rfl) (Nat.le_of_ble_eq_true rfl) (Nat.le_of_eq (Nat.zero_add _)) (Nat.le_of_eq (Nat.zero_add _)) (sc_day1 (d := d + 2) hsh hfx2 h122 (calm := 1) (Or.inr ⟨rfl, rfl⟩) hO hRJ hL2 hfr) (fun K hK => ?_)
      have ih2 := ih1 K hK.1 hK.2.2
      refine j_pop dX11_needed_50 trivial ?_
      refine j_iload_n dX11_needed_51 rfl ?_
      refine j_aload_n dX11_needed_52 rfl ?_
      refine r_getS dX11_needed_53 flX11_24 (by first | assumption | exact hsh _ _ rfl) (fx_0_4 hfx) ?_
      refine j_aload_n dX11_needed_56 rfl ?_
      refine r_getS dX11_needed_57 flX11_24 (by first | assumption | exact hsh _ _ rfl) (fx_0_4 hfx) ?_
      refine r_cv0I dX11_needed_60 cvX11_222 (by decide) (by first | assumption | exact hsh _ _ rfl) (Nat.le_of_ble_eq_true rfl) (Nat.le_of_eq (Nat.zero_add _)) (Nat.le_of_eq (Nat.zero_add _)) (sc_everybody h122 hK.1) ?_
      refine r_cv1I dX11_needed_63 cvX11_269 (by decide) (by first | assumption | exact hsh _ _ rfl) (Nat.le_of_ble_eq_true rfl) (Nat.le_of_eq (Nat.zero_add _)) (Nat.le_of_eq (Nat.zero_add _)) (sc_accountsOf h122 hK.1) ?_
      rw [show mAcc (dStep 1 a.1).1 (jShl 1 (aPe (dStep 1 a.1).1) - 1) = mAll (dStep 1 a.1).1 1 from e9]
      refine r_max dX11_needed_66 lmX11_207 (Nat.le_of_ble_eq_true rfl) (by first | omega | (split <;> omega)) (by first | omega | (split <;> omega)) ?_
      refine j_istore_n dX11_needed_69 (by decide) ?_
      refine j_iinc dX11_needed_70 rfl (by decide) ?_
      refine j_goto (tgt := 33) dX11_needed_73 rfl ?_
      exact ih2
  refine j_aload_n dX11_needed_0 rfl ?_
  refine j_iload_n dX11_needed_1 rfl ?_
  refine j_iconst dX11_needed_2 ?_
  refine j_bipush dX11_needed_3 (by decide) ?_
  refine r_cv3V dX11_needed_5 cvX11_191 (by decide) (by first | assumption | exact hsh _ _ rfl) (Nat.le_of_ble_eq_true rfl) (Nat.le_of_eq (Nat.zero_add _)) (Nat.le_of_eq (Nat.zero_add _)) (cg_lie0 hsh (by omega) (by omega) (by omega) h3) ?_
  refine j_aload_n dX11_needed_8 rfl ?_
  refine r_getS dX11_needed_9 flX11_24 (by first | assumption | exact hsh _ _ rfl) (fx_0_4 hfx) ?_
  refine j_aload_n dX11_needed_12 rfl ?_
  refine r_getS dX11_needed_13 flX11_20 (by first | assumption | exact hsh _ _ rfl) (fx_0_3 hfx) ?_
  refine r_cv1GV dX11_needed_16 cvX11_76 (by decide) (by first | assumption | exact hsh _ _ rfl) (Nat.le_of_ble_eq_true rfl) (Nat.le_of_eq (Nat.zero_add _)) (Nat.le_of_eq (Nat.zero_add _)) (sc_takeFrom h12 hst (Or.inr (by decide)) h17) (fun J k3 => ?_)
  have hfx := hfx2
  obtain ⟨g0, -⟩ := id h122
  refine j_aload_n dX11_needed_19 rfl ?_
  refine r_getS dX11_needed_20 flX11_24 (by first | assumption | exact hsh _ _ rfl) (fx_0_4 hfx) ?_
  refine j_ldcw (n := 799992) dX11_needed_23 kcX11_305 ?_
  refine r_putI dX11_needed_26 flX11_306 rfl (by first | assumption | exact hsh _ _ rfl) (by first | omega | (split <;> omega)) (fun q => by cases q) ?_
  refine j_iconst dX11_needed_29 ?_
  refine j_istore_n dX11_needed_30 (by decide) ?_
  refine j_iconst dX11_needed_31 ?_
  refine j_istore_n dX11_needed_32 (by decide) ?_
  exact key n.toNat 0 _ _ (by omega) (by omega) rfl (dOK_0 hW4 h104) (by show (0 : Int) ≤ 0 ∧ (0 : Int) ≤ 800000; decide) (Rp_fld (TkO_Rp k3 hR) (by omega)) (fun a x0 x1 => (jup_ne _ _ _ (by omega)).trans (k3.2.2.2.2 a (by omega)))
/-! ### trial, span -/
theorem cs_tryDays (hsh : ShOK sh) (hfx : FxOK F) (hst : StAt sh F 2) (h12 : StAt sh F 12) (hR : Rp I 2 w) (hL : LwR sh I F 2 w) (hW : WF w) (h9 : 0 ≤ w 9) (h10 : 0 ≤ w 10 ∧ w 10 ≤ 60) (a0 b0 f0 : Int → Int) {n x : Int} (hx : jin x) (h3 : 0 ≤ n ∧ n ≤ 40) : jS G (d + 7) mX11_tryDays [jR (some 0), jI n, jI x] (sh, I, F) 0 0 (rEI ((mDays 0 (wup w 11 x, a0, b0, f0) n.toNat).1 9 - w 9) sh (jup F 12 18 (F 2 18)) (fun J => Rp J 12 (mDays 0 (wup w 11 x, a0, b0, f0) n.toNat).1 ∧ FrG I J)) := by
  have h17 : I 2 17 = 0 ∨ I 2 17 = 1 := by rw [hR.2.2.2.2.2.2.2.2.2.2.2.2.2]; exact hW.2.2.2.1
  have hW4 : WF (wup w 11 x) := WF_11 hW
  have e9 : wup w 11 x 9 = w 9 := wup_ne _ _ (by decide)
  have h104 : 0 ≤ wup w 11 x 10 ∧ wup w 11 x 10 ≤ 60 := by rw [wup_ne _ _ (by decide)]; exact h10
  have hLw : LwR sh I F 2 (wup w 11 x) := LwR_w hL (wup_ne _ _ (by decide)) (fun k hk => wup_ne _ _ (by omega))
  have hL2 := LwR_tk (e := 12) hLw
  have hfx2 := FxOK_F (e := 12) (r := F 2 18) hfx
  have h122 := StAt_F (e := 12) (r := F 2 18) h12
  refine jS_go [some (jR (some 0)), some (jI n), some (jI x), none, none] (by decide +kernel) rfl (by simp [jone]) (Nat.le_of_ble_eq_true rfl) rfl (fun hok => ?_)
  generalize hQ : rEI ((mDays 0 (wup w 11 x, a0, b0, f0) n.toNat).1 9 - w 9) sh (jup F 12 18 (F 2 18)) (fun J => Rp J 12 (mDays 0 (wup w 11 x, a0, b0, f0) n.toNat).1 ∧ FrG I J) = Q9
  have key : ∀ (m : Nat) (z : Int) (J : Nat → Int → Int) (X : dX), z + m = n → 0 ≤ z → X = mDays 0 (wup w 11 x, a0, b0, f0) z.toNat → dOK (wup w 11 x) X z → Rp J 12 X.1 → FrG I J → jW G mX11_tryDays (d + 7) Q9 24 [some (jR (some 0)), some (jI n), some (jI x), some (jI (X.1 9 - w 9)), some (jI z)] [] (sh, J, jup F 12 18 (F 2 18)) 0 0 := by
    intro m
    induction m with
    | zero =>
      intro z J X hz hz0 hX hO hRJ hfr
      rw [show n = z by omega, ← hX] at hQ
      refine j_iload dX11_tryDays_24 rfl ?_
      refine j_iload_n dX11_tryDays_26 rfl ?_
      refine j_icmp_ge (tgt := 51) dX11_tryDays_27 rfl (by first | omega | (split <;> omega)) (by first | omega | (split <;> omega)) (fun c_27 => ?_) (fun c_27 => by exact absurd (by omega) c_27)
      refine j_iload_n dX11_tryDays_51 rfl ?_
      refine j_iret dX11_tryDays_52 rfl ?_
      rw [← hQ]
      exact ⟨J, rfl, rfl, hRJ, hfr⟩
    | succ m ih =>
      intro z J X hz hz0 hX hO hRJ hfr
      have hfx := hfx2
      have h9s := dStep_9 (calm := 0) hO.1
      have ih1 := fun K hK hG => ih (z + 1) K (dStep 0 X) (by omega) (by omega) (by rw [hX]; exact (mDays_s _ _ hz0).symm) (dOK_s hO (by rw [e9]; exact h9)) hK hG
      rw [show (dStep 0 X).1 9 - w 9 = X.1 9 - w 9 + mOver X.1 (dStep 0 X).2.2.2 by omega] at ih1
      refine j_iload dX11_tryDays_24 rfl ?_
      refine j_iload_n dX11_tryDays_26 rfl ?_
      refine j_icmp_ge (tgt := 51) dX11_tryDays_27 rfl (by first | omega | (split <;> omega)) (by first | omega | (split <;> omega)) (fun c_27 => by exact absurd c_27 (by omega)) (fun c_27 => ?_)
      refine j_iload_n dX11_tryDays_30 rfl ?_
      refine j_aload_n dX11_tryDays_31 rfl ?_
      refine r_getS dX11_tryDays_32 flX11_54 (by first | assumption | exact hsh _ _ rfl) (fx_0_10 hfx) ?_
      refine j_aload_n dX11_tryDays_35 rfl ?_
      refine r_getS dX11_tryDays_36 flX11_24 (by first | assumption | exact hsh _ _ rfl) (fx_0_4 hfx) ?_
      refine j_iconst dX11_tryDays_39 ?_
      refine r_cv2EI dX11_tryDays_40 cvX11_233 (by decide) (by first | assumption | exact hsh _ _ rfl) (Nat.le_of_ble_eq_true rfl) (Nat.le_of_eq (Nat.zero_add _)) (Nat.le_of_eq (Nat.zero_add _)) (sc_day1 hsh hfx2 h122 (calm := 0) (Or.inl ⟨rfl, rfl⟩) hO hRJ hL2 hfr) (fun K hK => ?_)
      refine j_iadd dX11_tryDays_43 ?_
      refine j_istore_n dX11_tryDays_44 (by decide) ?_
      refine j_iinc dX11_tryDays_45 rfl (by decide) ?_
      refine j_goto (tgt := 24) dX11_tryDays_48 rfl ?_
      exact ih1 K hK.1 hK.2.2
  have k0 := fun J hR hG => key n.toNat 0 J (wup w 11 x, a0, b0, f0) (by omega) (by omega) rfl (dOK_0 hW4 h104) hR hG
  rw [show (wup w 11 x, a0, b0, f0).1 9 - w 9 = 0 by show wup w 11 x 9 - w 9 = 0; rw [e9]; omega] at k0
  refine j_aload_n dX11_tryDays_0 rfl ?_
  refine r_getS dX11_tryDays_1 flX11_24 (by first | assumption | exact hsh _ _ rfl) (fx_0_4 hfx) ?_
  refine j_aload_n dX11_tryDays_4 rfl ?_
  refine r_getS dX11_tryDays_5 flX11_20 (by first | assumption | exact hsh _ _ rfl) (fx_0_3 hfx) ?_
  refine r_cv1GV dX11_tryDays_8 cvX11_76 (by decide) (by first | assumption | exact hsh _ _ rfl) (Nat.le_of_ble_eq_true rfl) (Nat.le_of_eq (Nat.zero_add _)) (Nat.le_of_eq (Nat.zero_add _)) (sc_takeFrom h12 hst (Or.inr (by decide)) h17) (fun J k3 => ?_)
  have hfx := hfx2
  obtain ⟨g0, -⟩ := id h122
  refine j_aload_n dX11_tryDays_11 rfl ?_
  refine r_getS dX11_tryDays_12 flX11_24 (by first | assumption | exact hsh _ _ rfl) (fx_0_4 hfx) ?_
  refine j_iload_n dX11_tryDays_15 rfl ?_
  refine r_putI dX11_tryDays_16 flX11_318 rfl (by first | assumption | exact hsh _ _ rfl) (by first | omega | (split <;> omega)) (fun q => by cases q) ?_
  refine j_iconst dX11_tryDays_19 ?_
  refine j_istore_n dX11_tryDays_20 (by decide) ?_
  refine j_iconst dX11_tryDays_21 ?_
  refine j_istore dX11_tryDays_22 (by decide) ?_
  exact k0 _ (Rp_fld (TkO_Rp k3 hR) (by omega)) (fun a x0 x1 => (jup_ne _ _ _ (by omega)).trans (k3.2.2.2.2 a (by omega)))
theorem cp_trial_1 (hsh : ShOK sh) (hfx : FxOK F) {n b : Int} (hn : jin n) (h3 : ¬ (0 ≤ n ∧ n ≤ 40)) : jS G (d + 9) mX11_trial [jR (some 0), jI n, jI b] (sh, I, F) 1 6 (rX xIae (sh, I, F)) := by
  refine jS_go [some (jR (some 0)), some (jI n), some (jI b), none] (by decide +kernel) rfl (by simp [jone]) (Nat.le_of_ble_eq_true rfl) rfl (fun hok => ?_)
  refine j_aload_n dX11_trial_0 rfl ?_
  refine j_iload_n dX11_trial_1 rfl ?_
  refine j_iconst dX11_trial_2 ?_
  refine j_bipush dX11_trial_3 (by decide) ?_
  exact r_cv3X dX11_trial_5 cvX11_191 (by decide) (by first | assumption | exact hsh _ _ rfl) (Nat.le_of_ble_eq_true rfl) (Nat.le_refl _) (Nat.le_refl _) rfl (cg_lie1 hsh (by omega) (by omega) (by omega) h3) (⟨rfl, rfl⟩)
theorem cp_trial_0 (hsh : ShOK sh) (hfx : FxOK F) (hst : StAt sh F 2) (h12 : StAt sh F 12) (hR : Rp I 2 w) (hL : LwR sh I F 2 w) (hW : WF w) (h9 : 0 ≤ w 9) (h10 : 0 ≤ w 10 ∧ w 10 ≤ 60) (a0 b0 f0 : Int → Int) {n b : Int} (h3 : 0 ≤ n ∧ n ≤ 40) (hb : b = 0 ∨ b = 1) : jS G (d + 9) mX11_trial [jR (some 0), jI n, jI b] (sh, I, F) 0 0 (rEI (vTri (w, a0, b0, f0) n b) sh (jup F 12 18 (F 2 18)) (FrG I)) := by
  have hfx2 := FxOK_F (e := 12) (r := F 2 18) hfx
  have h122 := StAt_F (e := 12) (r := F 2 18) h12
  have hO := mDays_ok (calm := 0) (a := a0) (b := b0) (f := f0) hW h9 h10 n.toNat
  have eA := mAcc_all (w := (mDays 0 (w, a0, b0, f0) n.toNat).1) hO.1.1
  have hal := mAll_in hO.1.1 (WF_A1 hO.1)
  have r14 := hR.2.2.2.2.2.2.2.2.2.2.1
  obtain ⟨g0, g1, g2, g3, g4, g5, g6, g7, g8, g9, e1, e2, e3, e4, e5, e6, e7, e8, e9⟩ := id hst
  refine jS_go [some (jR (some 0)), some (jI n), some (jI b), none] (by decide +kernel) rfl (by simp [jone]) (Nat.le_of_ble_eq_true rfl) rfl (fun hok => ?_)
  have st := fun hx => cs_tryDays (G := G) (d := d + 1) (I := I) hsh hfx hst h12 hR hL hW h9 h10 a0 b0 f0 (x := w 11) hx h3
  rw [wup_id] at st
  refine j_aload_n dX11_trial_0 rfl ?_
  refine j_iload_n dX11_trial_1 rfl ?_
  refine j_iconst dX11_trial_2 ?_
  refine j_bipush dX11_trial_3 (by decide) ?_
  refine r_cv3V dX11_trial_5 cvX11_191 (by decide) (by first | assumption | exact hsh _ _ rfl) (Nat.le_of_ble_eq_true rfl) (Nat.le_of_eq (Nat.zero_add _)) (Nat.le_of_eq (Nat.zero_add _)) (cg_lie0 hsh (by omega) (by omega) (by omega) h3) ?_
  refine j_aload_n dX11_trial_8 rfl ?_
  refine j_iload_n dX11_trial_9 rfl ?_
  refine j_aload_n dX11_trial_10 rfl ?_
  refine r_getS dX11_trial_11 flX11_20 (by first | assumption | exact hsh _ _ rfl) (fx_0_3 hfx) ?_
  refine r_getIE dX11_trial_14 flX11_318 (by first | assumption | exact hsh _ _ rfl) r14 (fun b_14 => ?_)
  refine r_cv2GI dX11_trial_17 cvX11_321 (by decide) (by first | assumption | exact hsh _ _ rfl) (Nat.le_of_ble_eq_true rfl) (Nat.le_of_eq (Nat.zero_add _)) (Nat.le_of_eq (Nat.zero_add _)) (st b_14) (fun J hJ => ?_)
  have hfx := hfx2
  refine j_istore_n dX11_trial_20 (by decide) ?_
  refine j_iload_n dX11_trial_21 rfl ?_
  refine j_if_eq (tgt := 42) dX11_trial_22 rfl (by first | omega | (split <;> omega)) (fun c_22 => ?_) (fun c_22 => ?_)
  · refine j_iload_n dX11_trial_42 rfl ?_
    refine j_iret dX11_trial_43 rfl ?_
    refine ⟨J, ?_, rfl, hJ.2⟩
    unfold vTri
    first | rw [if_pos (by omega)] | rw [if_neg (by omega)]
  · refine j_aload_n dX11_trial_25 rfl ?_
    refine r_getS dX11_trial_26 flX11_24 (by first | assumption | exact hsh _ _ rfl) (fx_0_4 hfx) ?_
    refine j_aload_n dX11_trial_29 rfl ?_
    refine r_getS dX11_trial_30 flX11_24 (by first | assumption | exact hsh _ _ rfl) (fx_0_4 hfx) ?_
    refine r_cv0I dX11_trial_33 cvX11_222 (by decide) (by first | assumption | exact hsh _ _ rfl) (Nat.le_of_ble_eq_true rfl) (Nat.le_of_eq (Nat.zero_add _)) (Nat.le_of_eq (Nat.zero_add _)) (sc_everybody h122 hJ.1) ?_
    refine r_cv1I dX11_trial_36 cvX11_269 (by decide) (by first | assumption | exact hsh _ _ rfl) (Nat.le_of_ble_eq_true rfl) (Nat.le_of_eq (Nat.zero_add _)) (Nat.le_of_eq (Nat.zero_add _)) (sc_accountsOf h122 hJ.1) ?_
    rw [show mAcc (mDays 0 (w, a0, b0, f0) n.toNat).1 (jShl 1 (aPe (mDays 0 (w, a0, b0, f0) n.toNat).1) - 1) = mAll (mDays 0 (w, a0, b0, f0) n.toNat).1 1 from eA]
    refine j_goto (tgt := 43) dX11_trial_39 rfl ?_
    refine j_iret dX11_trial_43 rfl ?_
    refine ⟨J, ?_, rfl, hJ.2⟩
    unfold vTri
    first | rw [if_pos (by omega)] | rw [if_neg (by omega)]
theorem cp_span_1 (hsh : ShOK sh) (hfx : FxOK F) {n b : Int} (hn : jin n) (h3 : ¬ (0 ≤ n ∧ n ≤ 40)) : jS G (d + 9) mX11_span [jR (some 0), jI n, jI b] (sh, I, F) 1 6 (rX xIae (sh, I, F)) := by
  refine jS_go [some (jR (some 0)), some (jI n), some (jI b), none, none, none] (by decide +kernel) rfl (by simp [jone]) (Nat.le_of_ble_eq_true rfl) rfl (fun hok => ?_)
  refine j_aload_n dX11_span_0 rfl ?_
  refine j_iload_n dX11_span_1 rfl ?_
  refine j_iconst dX11_span_2 ?_
  refine j_bipush dX11_span_3 (by decide) ?_
  exact r_cv3X dX11_span_5 cvX11_191 (by decide) (by first | assumption | exact hsh _ _ rfl) (Nat.le_of_ble_eq_true rfl) (Nat.le_refl _) (Nat.le_refl _) rfl (cg_lie1 hsh (by omega) (by omega) (by omega) h3) (⟨rfl, rfl⟩)
theorem mSpX_in {w : Int → Int} {n k : Int} {a : Int × (Int → Int) × (Int → Int) × (Int → Int)} (hW : WF w) (h9 : 0 ≤ w 9) (h10 : 0 ≤ w 10 ∧ w 10 ≤ 60) (h3 : 0 ≤ n ∧ n ≤ 40) : 0 ≤ (mSpX w n k a).1 9 - w 9 ∧ (mSpX w n k a).1 9 - w 9 ≤ 320 := by
  have e9 : wup w 11 (k + 1) 9 = w 9 := wup_ne _ _ (by decide)
  have := mDays_ok (calm := 0) (a := a.2.1) (b := a.2.2.1) (f := a.2.2.2) (WF_11 (v := k + 1) hW) (by rw [e9]; exact h9) (by rw [wup_ne _ _ (by decide)]; exact h10) n.toNat
  have := this.2.1
  rw [e9] at this
  show 0 ≤ (mDays 0 (wup w 11 (k + 1), a.2.1, a.2.2.1, a.2.2.2) n.toNat).1 9 - w 9 ∧ (mDays 0 (wup w 11 (k + 1), a.2.1, a.2.2.1, a.2.2.2) n.toNat).1 9 - w 9 ≤ 320
  omega
theorem cp_span_0 (hsh : ShOK sh) (hfx : FxOK F) (hst : StAt sh F 2) (h12 : StAt sh F 12) (hR : Rp I 2 w) (hL : LwR sh I F 2 w) (hW : WF w) (h9 : 0 ≤ w 9) (h10 : 0 ≤ w 10 ∧ w 10 ≤ 60) (a0 b0 f0 : Int → Int) {n b : Int} (h3 : 0 ≤ n ∧ n ≤ 40) (hb : b = 0 ∨ b = 1) : jS G (d + 9) mX11_span [jR (some 0), jI n, jI b] (sh, I, F) 0 0 (rEI (mSp (w, a0, b0, f0) n b 6).1 sh (jup F 12 18 (F 2 18)) (FrG I)) := by
  have hfx2 := FxOK_F (e := 12) (r := F 2 18) hfx
  have h122 := StAt_F (e := 12) (r := F 2 18) h12
  have hst2 := StAt_F (e := 12) (r := F 2 18) hst
  refine jS_go [some (jR (some 0)), some (jI n), some (jI b), none, none, none] (by decide +kernel) rfl (by simp [jone]) (Nat.le_of_ble_eq_true rfl) rfl (fun hok => ?_)
  generalize hQ : rEI (mSp (w, a0, b0, f0) n b 6).1 sh (jup F 12 18 (F 2 18)) (FrG I) = Q9
  have key : ∀ (m : Nat) (z : Int) (J : Nat → Int → Int) (a : Int × (Int → Int) × (Int → Int) × (Int → Int)) (o : Option jzV), z + m = 6 → 1 ≤ z → a = mSp (w, a0, b0, f0) n b z.toNat → (0 ≤ a.1 ∧ a.1 ≤ 320) → FrG I J → jW G mX11_span (d + 9) Q9 18 [some (jR (some 0)), some (jI n), some (jI b), some (jI a.1), some (jI (z + 1)), o] [] (sh, J, jup F 12 18 (F 2 18)) 0 0 := by
    intro m
    induction m with
    | zero =>
      intro z J a o hz hz0 ha b1 hfr
      have e6 : z = 6 := by omega
      subst e6
      refine j_iload dX11_span_18 rfl ?_
      refine j_bipush dX11_span_20 (by decide) ?_
      refine j_icmp_gt (tgt := 60) dX11_span_22 rfl (by first | omega | (split <;> omega)) (by first | omega | (split <;> omega)) (fun c_22 => ?_) (fun c_22 => by exact absurd (by omega) c_22)
      refine j_iload_n dX11_span_60 rfl ?_
      refine j_iret dX11_span_61 rfl ?_
      rw [← hQ]
      exact ⟨J, by rw [ha]; rfl, rfl, hfr⟩
    | succ m ih =>
      intro z J a o hz hz0 ha b1 hfr
      have hfx := hfx2
      have hin := mSpX_in (k := z) (a := a) hW h9 h10 h3
      have hin2 : 0 ≤ (mDays 0 (wup w 11 (z + 1), a.2.1, a.2.2.1, a.2.2.2) n.toNat).1 9 - w 9 ∧ (mDays 0 (wup w 11 (z + 1), a.2.1, a.2.2.1, a.2.2.2) n.toNat).1 9 - w 9 ≤ 320 := hin
      have st := cs_tryDays (G := G) (d := d + 1) (I := J) hsh hfx2 hst2 h122 (Rp_FrG hR hfr) (LwR_FrG hL hfr) hW h9 h10 a.2.1 a.2.2.1 a.2.2.2 (x := z + 1) (by omega) h3
      rw [jup_F12] at st
      have ih1 := fun K o hG => ih (z + 1) K (mSpS w n b z a) o (by omega) (by omega) (by rw [ha]; exact (mSp_s _ _ _ (by omega)).symm) (by show 0 ≤ ite _ _ _ ∧ ite _ _ _ ≤ _; rw [if_neg (by omega)]; split <;> omega) hG
      unfold mSpS at ih1
      rw [if_neg (by omega)] at ih1
      refine j_iload dX11_span_18 rfl ?_
      refine j_bipush dX11_span_20 (by decide) ?_
      refine j_icmp_gt (tgt := 60) dX11_span_22 rfl (by first | omega | (split <;> omega)) (by first | omega | (split <;> omega)) (fun c_22 => by exact absurd c_22 (by omega)) (fun c_22 => ?_)
      refine j_aload_n dX11_span_25 rfl ?_
      refine j_iload_n dX11_span_26 rfl ?_
      refine j_iload dX11_span_27 rfl ?_
      refine r_cv2EI dX11_span_29 cvX11_321 (by decide) (by first | assumption | exact hsh _ _ rfl) (Nat.le_of_ble_eq_true rfl) (Nat.le_of_eq (Nat.zero_add _)) (Nat.le_of_eq (Nat.zero_add _)) (st) (fun K hK => ?_)
      have ih2 := fun o => ih1 K o (FrG_tr hfr hK.2)
      refine j_istore dX11_span_32 (by decide) ?_
      refine j_iload_n dX11_span_34 rfl ?_
      refine j_if_eq (tgt := 47) dX11_span_35 rfl (by first | omega | (split <;> omega)) (fun c_35 => ?_) (fun c_35 => ?_)
      · refine j_iload_n dX11_span_47 rfl ?_
        refine j_iload dX11_span_48 rfl ?_
        refine r_min dX11_span_50 lmX11_202 (Nat.le_of_ble_eq_true rfl) (by first | omega | (split <;> omega)) (by first | omega | (split <;> omega)) ?_
        refine j_istore_n dX11_span_53 (by decide) ?_
        refine j_iinc dX11_span_54 rfl (by decide) ?_
        refine j_goto (tgt := 18) dX11_span_57 rfl ?_
        first | (rw [if_pos (by omega)] at ih2; exact ih2 _) | (rw [if_neg (by omega)] at ih2; exact ih2 _)
      · refine j_iload_n dX11_span_38 rfl ?_
        refine j_iload dX11_span_39 rfl ?_
        refine r_max dX11_span_41 lmX11_207 (Nat.le_of_ble_eq_true rfl) (by first | omega | (split <;> omega)) (by first | omega | (split <;> omega)) ?_
        refine j_goto (tgt := 53) dX11_span_44 rfl ?_
        refine j_istore_n dX11_span_53 (by decide) ?_
        refine j_iinc dX11_span_54 rfl (by decide) ?_
        refine j_goto (tgt := 18) dX11_span_57 rfl ?_
        first | (rw [if_pos (by omega)] at ih2; exact ih2 _) | (rw [if_neg (by omega)] at ih2; exact ih2 _)
  have hin0 := mSpX_in (k := 0) (a := ((-1 : Int), a0, b0, f0)) hW h9 h10 h3
  have s1 : mSp (w, a0, b0, f0) n b (1 : Int).toNat = ((mSpX w n 0 ((-1 : Int), a0, b0, f0)).1 9 - w 9, (mSpX w n 0 ((-1 : Int), a0, b0, f0)).2) := by
    show mSpS w n b 0 ((-1 : Int), a0, b0, f0) = _
    unfold mSpS
    rw [if_pos (by show (-1 : Int) < 0; decide)]
  have st := cs_tryDays (G := G) (d := d + 1) (I := I) hsh hfx hst h12 hR hL hW h9 h10 a0 b0 f0 (x := 1) (by decide) h3
  refine j_aload_n dX11_span_0 rfl ?_
  refine j_iload_n dX11_span_1 rfl ?_
  refine j_iconst dX11_span_2 ?_
  refine j_bipush dX11_span_3 (by decide) ?_
  refine r_cv3V dX11_span_5 cvX11_191 (by decide) (by first | assumption | exact hsh _ _ rfl) (Nat.le_of_ble_eq_true rfl) (Nat.le_of_eq (Nat.zero_add _)) (Nat.le_of_eq (Nat.zero_add _)) (cg_lie0 hsh (by omega) (by omega) (by omega) h3) ?_
  refine j_aload_n dX11_span_8 rfl ?_
  refine j_iload_n dX11_span_9 rfl ?_
  refine j_iconst dX11_span_10 ?_
  refine r_cv2GI dX11_span_11 cvX11_321 (by decide) (by first | assumption | exact hsh _ _ rfl) (Nat.le_of_ble_eq_true rfl) (Nat.le_of_eq (Nat.zero_add _)) (Nat.le_of_eq (Nat.zero_add _)) (st) (fun J hJ => ?_)
  have hfx := hfx2
  refine j_istore_n dX11_span_14 (by decide) ?_
  refine j_iconst dX11_span_15 ?_
  refine j_istore dX11_span_16 (by decide) ?_
  exact key 5 1 J _ none (by omega) (by omega) s1.symm hin0 hJ.2
end
