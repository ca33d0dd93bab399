/-! SHARE, SHARES: what is thrown -/
section
variable {G : jzG} {d : Nat} {sh : List (Nat × Nat)} {I : Nat → Int → Int} {F : Nat → Int → Option Nat} {s : Nat} {w : Int → Int}
theorem mp_share_1 (hsh : ShOK sh) (hfx : FxOK F) (hP : WfP (I 171)) {p q : Int} (h1 : jin p) (h2 : jin q) (h3 : ¬ (gP (I 171) p ∧ gP (I 171) q)) : jS G (d + 4) mX12_share [jR (some 170), jI p, jI q] (sh, I, F) 0 0 (rI 0 (sh, jup I 170 0 1, F)) := by
  refine jS_go [some (jR (some 170)), some (jI p), some (jI q)] (by decide +kernel) rfl (by simp [jone]) (Nat.le_of_ble_eq_true rfl) rfl (fun hok => ?_)
  refine j_aload_n dX12_share_0 rfl ?_
  refine j_iconst dX12_share_1 ?_
  refine r_putI dX12_share_2 flX12_3 rfl (by first | assumption | exact hsh _ _ rfl) (by first | omega | (split <;> omega)) (fun q => by cases q) ?_
  skip
  have hok1 : jzok (sh, jup I 170 0 0, F) := jzok_I hok jin_lit0
  have hw0 : (jup I 170 0 0) 171 = I 171 := jup_ne _ _ _ (by decide)
  clear hok
  rw [← jup_up I 170 0 0 1]
  rw [← hw0] at hP h3
  try rw [← hw0]
  obtain ⟨I1, hI1⟩ : ∃ J, J = jup I 170 0 0 := ⟨_, rfl⟩
  rw [← hI1] at hok1 hw0 hP h3 ⊢
  have hok := hok1
  by_cases h4 : gP (I1 171) p
  · have h5 : ¬ gP (I1 171) q := fun z => h3 ⟨h4, z⟩
    refine j_aload_n dX12_share_5 rfl ?_
    refine j_aload_n dX12_share_6 rfl ?_
    refine j_iload_n dX12_share_7 rfl ?_
    refine r_cv1I dX12_share_8 cvX12_335 (by decide) (by first | assumption | exact hsh _ _ rfl) (Nat.le_of_ble_eq_true rfl) (Nat.le_of_eq (Nat.zero_add _)) (Nat.le_of_eq (Nat.zero_add _)) (sm_noP0 hsh hfx hok (by omega) hP h4) ?_
    refine j_if_ne (tgt := 22) dX12_share_11 rfl (by first | omega | (split <;> omega)) (fun c_11 => by exact absurd c_11 (by decide)) (fun c_11 => ?_)
    refine j_aload_n dX12_share_14 rfl ?_
    refine j_iload_n dX12_share_15 rfl ?_
    refine r_cv1I dX12_share_16 cvX12_335 (by decide) (by first | assumption | exact hsh _ _ rfl) (Nat.le_of_ble_eq_true rfl) (Nat.le_of_eq (Nat.zero_add _)) (Nat.le_of_eq (Nat.zero_add _)) (sm_noP1 hsh hfx hok (by omega) hP h5) ?_
    refine j_if_eq (tgt := 26) dX12_share_19 rfl (by first | omega | (split <;> omega)) (fun c_19 => by exact absurd c_19 (by decide)) (fun c_19 => ?_)
    refine j_iconst dX12_share_22 ?_
    refine j_goto (tgt := 27) dX12_share_23 rfl ?_
    refine j_iconst dX12_share_27 ?_
    refine r_cv2I dX12_share_28 cvX12_253 (by decide) (by first | assumption | exact hsh _ _ rfl) (Nat.le_of_ble_eq_true rfl) (Nat.le_of_eq (Nat.zero_add _)) (Nat.le_of_eq (Nat.zero_add _)) (sm_thr1 hsh (by omega)) ?_
    refine j_if_ne (tgt := 66) dX12_share_31 rfl (by first | omega | (split <;> omega)) (fun c_31 => ?_) (fun c_31 => by exact absurd c_31 (by decide))
    refine j_iconst dX12_share_66 ?_
    refine j_zret dX12_share_67 rfl (by omega) ?_
    exact rI_of rfl rfl
  · refine j_aload_n dX12_share_5 rfl ?_
    refine j_aload_n dX12_share_6 rfl ?_
    refine j_iload_n dX12_share_7 rfl ?_
    refine r_cv1I dX12_share_8 cvX12_335 (by decide) (by first | assumption | exact hsh _ _ rfl) (Nat.le_of_ble_eq_true rfl) (Nat.le_of_eq (Nat.zero_add _)) (Nat.le_of_eq (Nat.zero_add _)) (sm_noP1 hsh hfx hok (by omega) hP h4) ?_
    refine j_if_ne (tgt := 22) dX12_share_11 rfl (by first | omega | (split <;> omega)) (fun c_11 => ?_) (fun c_11 => by exact absurd c_11 (by decide))
    refine j_iconst dX12_share_22 ?_
    refine j_goto (tgt := 27) dX12_share_23 rfl ?_
    refine j_iconst dX12_share_27 ?_
    refine r_cv2I dX12_share_28 cvX12_253 (by decide) (by first | assumption | exact hsh _ _ rfl) (Nat.le_of_ble_eq_true rfl) (Nat.le_of_eq (Nat.zero_add _)) (Nat.le_of_eq (Nat.zero_add _)) (sm_thr1 hsh (by omega)) ?_
    refine j_if_ne (tgt := 66) dX12_share_31 rfl (by first | omega | (split <;> omega)) (fun c_31 => ?_) (fun c_31 => by exact absurd c_31 (by decide))
    refine j_iconst dX12_share_66 ?_
    refine j_zret dX12_share_67 rfl (by omega) ?_
    exact rI_of rfl rfl
theorem mp_share_2 (hsh : ShOK sh) (hfx : FxOK F) (hP : WfP (I 171)) {p q : Int} (h1 : jin p) (h2 : jin q) (h3 : gP (I 171) p ∧ gP (I 171) q) (h5 : p = q) : jS G (d + 4) mX12_share [jR (some 170), jI p, jI q] (sh, I, F) 0 0 (rI 0 (sh, jup I 170 0 2, F)) := by
  refine jS_go [some (jR (some 170)), some (jI p), some (jI q)] (by decide +kernel) rfl (by simp [jone]) (Nat.le_of_ble_eq_true rfl) rfl (fun hok => ?_)
  refine j_aload_n dX12_share_0 rfl ?_
  refine j_iconst dX12_share_1 ?_
  refine r_putI dX12_share_2 flX12_3 rfl (by first | assumption | exact hsh _ _ rfl) (by first | omega | (split <;> omega)) (fun q => by cases q) ?_
  skip
  have hok1 : jzok (sh, jup I 170 0 0, F) := jzok_I hok jin_lit0
  have hw0 : (jup I 170 0 0) 171 = I 171 := jup_ne _ _ _ (by decide)
  clear hok
  rw [← jup_up I 170 0 0 2]
  rw [← hw0] at hP h3
  try rw [← hw0]
  obtain ⟨I1, hI1⟩ : ∃ J, J = jup I 170 0 0 := ⟨_, rfl⟩
  rw [← hI1] at hok1 hw0 hP h3 ⊢
  have hok := hok1
  refine j_aload_n dX12_share_5 rfl ?_
  refine j_aload_n dX12_share_6 rfl ?_
  refine j_iload_n dX12_share_7 rfl ?_
  refine r_cv1I dX12_share_8 cvX12_335 (by decide) (by first | assumption | exact hsh _ _ rfl) (Nat.le_of_ble_eq_true rfl) (Nat.le_of_eq (Nat.zero_add _)) (Nat.le_of_eq (Nat.zero_add _)) (sm_noP0 hsh hfx hok (by omega) hP h3.1) ?_
  refine j_if_ne (tgt := 22) dX12_share_11 rfl (by first | omega | (split <;> omega)) (fun c_11 => by exact absurd c_11 (by decide)) (fun c_11 => ?_)
  refine j_aload_n dX12_share_14 rfl ?_
  refine j_iload_n dX12_share_15 rfl ?_
  refine r_cv1I dX12_share_16 cvX12_335 (by decide) (by first | assumption | exact hsh _ _ rfl) (Nat.le_of_ble_eq_true rfl) (Nat.le_of_eq (Nat.zero_add _)) (Nat.le_of_eq (Nat.zero_add _)) (sm_noP0 hsh hfx hok (by omega) hP h3.2) ?_
  refine j_if_eq (tgt := 26) dX12_share_19 rfl (by first | omega | (split <;> omega)) (fun c_19 => ?_) (fun c_19 => by exact absurd c_19 (by decide))
  refine j_iconst dX12_share_26 ?_
  refine j_iconst dX12_share_27 ?_
  refine r_cv2I dX12_share_28 cvX12_253 (by decide) (by first | assumption | exact hsh _ _ rfl) (Nat.le_of_ble_eq_true rfl) (Nat.le_of_eq (Nat.zero_add _)) (Nat.le_of_eq (Nat.zero_add _)) (sm_thr0 hsh) ?_
  refine j_if_ne (tgt := 66) dX12_share_31 rfl (by first | omega | (split <;> omega)) (fun c_31 => by exact absurd c_31 (by decide)) (fun c_31 => ?_)
  refine j_aload_n dX12_share_34 rfl ?_
  refine j_iload_n dX12_share_35 rfl ?_
  refine j_iload_n dX12_share_36 rfl ?_
  refine j_icmp_ne (tgt := 44) dX12_share_37 rfl (by first | omega | (split <;> omega)) (by first | omega | (split <;> omega)) (fun c_37 => by exact absurd h5 (by omega)) (fun c_37 => ?_)
  refine j_iconst dX12_share_40 ?_
  refine j_goto (tgt := 45) dX12_share_41 rfl ?_
  refine j_iconst dX12_share_45 ?_
  refine r_cv2I dX12_share_46 cvX12_253 (by decide) (by first | assumption | exact hsh _ _ rfl) (Nat.le_of_ble_eq_true rfl) (Nat.le_of_eq (Nat.zero_add _)) (Nat.le_of_eq (Nat.zero_add _)) (sm_thr1 hsh (by omega)) ?_
  refine j_if_ne (tgt := 66) dX12_share_49 rfl (by first | omega | (split <;> omega)) (fun c_49 => ?_) (fun c_49 => by exact absurd c_49 (by decide))
  refine j_iconst dX12_share_66 ?_
  refine j_zret dX12_share_67 rfl (by omega) ?_
  exact rI_of rfl rfl
theorem mp_share_3 (hsh : ShOK sh) (hfx : FxOK F) (hP : WfP (I 171)) {p q : Int} (h1 : jin p) (h2 : jin q) (h3 : gP (I 171) p ∧ gP (I 171) q) (h5 : ¬ p = q) (h6 : ¬ (aOf (I 171) p 3 = 0 ∧ aOf (I 171) q 3 = 0)) : jS G (d + 4) mX12_share [jR (some 170), jI p, jI q] (sh, I, F) 0 0 (rI 0 (sh, jup I 170 0 3, F)) := by
  refine jS_go [some (jR (some 170)), some (jI p), some (jI q)] (by decide +kernel) rfl (by simp [jone]) (Nat.le_of_ble_eq_true rfl) rfl (fun hok => ?_)
  refine j_aload_n dX12_share_0 rfl ?_
  refine j_iconst dX12_share_1 ?_
  refine r_putI dX12_share_2 flX12_3 rfl (by first | assumption | exact hsh _ _ rfl) (by first | omega | (split <;> omega)) (fun q => by cases q) ?_
  skip
  have hok1 : jzok (sh, jup I 170 0 0, F) := jzok_I hok jin_lit0
  have hw0 : (jup I 170 0 0) 171 = I 171 := jup_ne _ _ _ (by decide)
  clear hok
  rw [← jup_up I 170 0 0 3]
  rw [← hw0] at hP h3 h6
  try rw [← hw0]
  obtain ⟨I1, hI1⟩ : ∃ J, J = jup I 170 0 0 := ⟨_, rfl⟩
  rw [← hI1] at hok1 hw0 hP h3 h6 ⊢
  have hok := hok1
  have hP2 := hP.2
  refine j_aload_n dX12_share_5 rfl ?_
  refine j_aload_n dX12_share_6 rfl ?_
  refine j_iload_n dX12_share_7 rfl ?_
  refine r_cv1I dX12_share_8 cvX12_335 (by decide) (by first | assumption | exact hsh _ _ rfl) (Nat.le_of_ble_eq_true rfl) (Nat.le_of_eq (Nat.zero_add _)) (Nat.le_of_eq (Nat.zero_add _)) (sm_noP0 hsh hfx hok (by omega) hP h3.1) ?_
  refine j_if_ne (tgt := 22) dX12_share_11 rfl (by first | omega | (split <;> omega)) (fun c_11 => by exact absurd c_11 (by decide)) (fun c_11 => ?_)
  refine j_aload_n dX12_share_14 rfl ?_
  refine j_iload_n dX12_share_15 rfl ?_
  refine r_cv1I dX12_share_16 cvX12_335 (by decide) (by first | assumption | exact hsh _ _ rfl) (Nat.le_of_ble_eq_true rfl) (Nat.le_of_eq (Nat.zero_add _)) (Nat.le_of_eq (Nat.zero_add _)) (sm_noP0 hsh hfx hok (by omega) hP h3.2) ?_
  refine j_if_eq (tgt := 26) dX12_share_19 rfl (by first | omega | (split <;> omega)) (fun c_19 => ?_) (fun c_19 => by exact absurd c_19 (by decide))
  refine j_iconst dX12_share_26 ?_
  refine j_iconst dX12_share_27 ?_
  refine r_cv2I dX12_share_28 cvX12_253 (by decide) (by first | assumption | exact hsh _ _ rfl) (Nat.le_of_ble_eq_true rfl) (Nat.le_of_eq (Nat.zero_add _)) (Nat.le_of_eq (Nat.zero_add _)) (sm_thr0 hsh) ?_
  refine j_if_ne (tgt := 66) dX12_share_31 rfl (by first | omega | (split <;> omega)) (fun c_31 => by exact absurd c_31 (by decide)) (fun c_31 => ?_)
  refine j_aload_n dX12_share_34 rfl ?_
  refine j_iload_n dX12_share_35 rfl ?_
  refine j_iload_n dX12_share_36 rfl ?_
  refine j_icmp_ne (tgt := 44) dX12_share_37 rfl (by first | omega | (split <;> omega)) (by first | omega | (split <;> omega)) (fun c_37 => ?_) (fun c_37 => by exact absurd (by omega) c_37)
  refine j_iconst dX12_share_44 ?_
  refine j_iconst dX12_share_45 ?_
  refine r_cv2I dX12_share_46 cvX12_253 (by decide) (by first | assumption | exact hsh _ _ rfl) (Nat.le_of_ble_eq_true rfl) (Nat.le_of_eq (Nat.zero_add _)) (Nat.le_of_eq (Nat.zero_add _)) (sm_thr0 hsh) ?_
  refine j_if_ne (tgt := 66) dX12_share_49 rfl (by first | omega | (split <;> omega)) (fun c_49 => by exact absurd c_49 (by decide)) (fun c_49 => ?_)
  refine j_aload_n dX12_share_52 rfl ?_
  refine j_aload_n dX12_share_53 rfl ?_
  refine j_iload_n dX12_share_54 rfl ?_
  refine j_iload_n dX12_share_55 rfl ?_
  refine r_cv2I dX12_share_56 cvX12_399 (by decide) (by first | assumption | exact hsh _ _ rfl) (Nat.le_of_ble_eq_true rfl) (Nat.le_of_eq (Nat.zero_add _)) (Nat.le_of_eq (Nat.zero_add _)) (sm_areDead1 hsh hfx (by omega) (by omega) h6) ?_
  refine j_iconst dX12_share_59 ?_
  refine r_cv2I dX12_share_60 cvX12_253 (by decide) (by first | assumption | exact hsh _ _ rfl) (Nat.le_of_ble_eq_true rfl) (Nat.le_of_eq (Nat.zero_add _)) (Nat.le_of_eq (Nat.zero_add _)) (sm_thr1 hsh (by omega)) ?_
  refine j_if_eq (tgt := 68) dX12_share_63 rfl (by first | omega | (split <;> omega)) (fun c_63 => by exact absurd c_63 (by decide)) (fun c_63 => ?_)
  refine j_iconst dX12_share_66 ?_
  refine j_zret dX12_share_67 rfl (by omega) ?_
  exact rI_of rfl rfl
theorem cp_share_1 (hsh : ShOK sh) (hfx : FxOK F) (hR : Rp I 2 w) {p q : Int} (h1 : jin p) (h2 : jin q) (h3 : ¬ (gP w p ∧ gP w q)) : jS G (d + 3) mX11_share [jR (some 0), jI p, jI q] (sh, I, F) 1 6 (rX xIob (sh, I, F)) := by
  refine jS_go [some (jR (some 0)), some (jI p), some (jI q), none] (by decide +kernel) rfl (by simp [jone]) (Nat.le_of_ble_eq_true rfl) rfl (fun hok => ?_)
  refine j_aload_n dX11_share_0 rfl ?_
  refine j_iload_n dX11_share_1 rfl ?_
  refine j_iload_n dX11_share_2 rfl ?_
  exact r_cv2X dX11_share_3 cvX11_169 (by decide) (by first | assumption | exact hsh _ _ rfl) (Nat.le_of_ble_eq_true rfl) (Nat.le_refl _) (Nat.le_refl _) rfl (cg_two1 hsh hfx hR (by omega) (by omega) h3) (⟨rfl, rfl⟩)
theorem cp_share_2 (hsh : ShOK sh) (hfx : FxOK F) (hR : Rp I 2 w) {p q : Int} (h1 : jin p) (h2 : jin q) (h3 : gP w p ∧ gP w q) (h5 : p = q) : jS G (d + 3) mX11_share [jR (some 0), jI p, jI q] (sh, I, F) 1 6 (rX xIae (sh, I, F)) := by
  refine jS_go [some (jR (some 0)), some (jI p), some (jI q), none] (by decide +kernel) rfl (by simp [jone]) (Nat.le_of_ble_eq_true rfl) rfl (fun hok => ?_)
  refine j_aload_n dX11_share_0 rfl ?_
  refine j_iload_n dX11_share_1 rfl ?_
  refine j_iload_n dX11_share_2 rfl ?_
  exact r_cv2X dX11_share_3 cvX11_169 (by decide) (by first | assumption | exact hsh _ _ rfl) (Nat.le_of_ble_eq_true rfl) (Nat.le_refl _) (Nat.le_refl _) rfl (cg_two2 hsh hfx hR (by omega) (by omega) h3 h5) (⟨rfl, rfl⟩)
theorem cp_share_3 (hsh : ShOK sh) (hfx : FxOK F) (hst : StAt sh F 2) (hR : Rp I 2 w) {p q : Int} (h1 : jin p) (h2 : jin q) (h3 : gP w p ∧ gP w q) (h5 : ¬ p = q) (h6 : ¬ (aOf w p 3 = 0 ∧ aOf w q 3 = 0)) : jS G (d + 3) mX11_share [jR (some 0), jI p, jI q] (sh, I, F) 1 6 (rX xIse (sh, I, F)) := by
  refine jS_go [some (jR (some 0)), some (jI p), some (jI q), none] (by decide +kernel) rfl (by simp [jone]) (Nat.le_of_ble_eq_true rfl) rfl (fun hok => ?_)
  by_cases h7 : aOf w p 3 = 0
  · have h8 : ¬ aOf w q 3 = 0 := fun z => h6 ⟨h7, z⟩
    refine j_aload_n dX11_share_0 rfl ?_
    refine j_iload_n dX11_share_1 rfl ?_
    refine j_iload_n dX11_share_2 rfl ?_
    refine r_cv2V dX11_share_3 cvX11_169 (by decide) (by first | assumption | exact hsh _ _ rfl) (Nat.le_of_ble_eq_true rfl) (Nat.le_of_eq (Nat.zero_add _)) (Nat.le_of_eq (Nat.zero_add _)) (cg_two0 hsh hfx hR (by omega) (by omega) h3 h5) ?_
    refine j_aload_n dX11_share_6 rfl ?_
    refine j_iload_n dX11_share_7 rfl ?_
    refine r_cv1V dX11_share_8 cvX11_176 (by decide) (by first | assumption | exact hsh _ _ rfl) (Nat.le_of_ble_eq_true rfl) (Nat.le_of_eq (Nat.zero_add _)) (Nat.le_of_eq (Nat.zero_add _)) (cg_live1 hsh hfx hst hR (by omega) h3.1 h7) ?_
    refine j_aload_n dX11_share_11 rfl ?_
    refine j_iload_n dX11_share_12 rfl ?_
    exact r_cv1X dX11_share_13 cvX11_176 (by decide) (by first | assumption | exact hsh _ _ rfl) (Nat.le_of_ble_eq_true rfl) (Nat.le_refl _) (Nat.le_refl _) rfl (cg_live0 hsh hfx hst hR (by omega) h3.2 h8) (⟨rfl, rfl⟩)
  · refine j_aload_n dX11_share_0 rfl ?_
    refine j_iload_n dX11_share_1 rfl ?_
    refine j_iload_n dX11_share_2 rfl ?_
    refine r_cv2V dX11_share_3 cvX11_169 (by decide) (by first | assumption | exact hsh _ _ rfl) (Nat.le_of_ble_eq_true rfl) (Nat.le_of_eq (Nat.zero_add _)) (Nat.le_of_eq (Nat.zero_add _)) (cg_two0 hsh hfx hR (by omega) (by omega) h3 h5) ?_
    refine j_aload_n dX11_share_6 rfl ?_
    refine j_iload_n dX11_share_7 rfl ?_
    exact r_cv1X dX11_share_8 cvX11_176 (by decide) (by first | assumption | exact hsh _ _ rfl) (Nat.le_of_ble_eq_true rfl) (Nat.le_refl _) (Nat.le_refl _) rfl (cg_live0 hsh hfx hst hR (by omega) h3.1 h7) (⟨rfl, rfl⟩)
theorem mp_shares_1 (hsh : ShOK sh) (hfx : FxOK F) (hP : WfP (I 171)) {p q : Int} (h1 : jin p) (h2 : jin q) (h3 : ¬ (gP (I 171) p ∧ gP (I 171) q)) : jS G (d + 4) mX12_shares [jR (some 170), jI p, jI q] (sh, I, F) 0 0 (rI 0 (sh, jup I 170 0 1, F)) := by
  refine jS_go [some (jR (some 170)), some (jI p), some (jI q), none, none] (by decide +kernel) rfl (by simp [jone]) (Nat.le_of_ble_eq_true rfl) rfl (fun hok => ?_)
  refine j_aload_n dX12_shares_0 rfl ?_
  refine j_iconst dX12_shares_1 ?_
  refine r_putI dX12_shares_2 flX12_3 rfl (by first | assumption | exact hsh _ _ rfl) (by first | omega | (split <;> omega)) (fun q => by cases q) ?_
  skip
  have hok1 : jzok (sh, jup I 170 0 0, F) := jzok_I hok jin_lit0
  have hw0 : (jup I 170 0 0) 171 = I 171 := jup_ne _ _ _ (by decide)
  clear hok
  rw [← jup_up I 170 0 0 1]
  rw [← hw0] at hP h3
  try rw [← hw0]
  obtain ⟨I1, hI1⟩ : ∃ J, J = jup I 170 0 0 := ⟨_, rfl⟩
  rw [← hI1] at hok1 hw0 hP h3 ⊢
  have hok := hok1
  by_cases h4 : gP (I1 171) p
  · have h5 : ¬ gP (I1 171) q := fun z => h3 ⟨h4, z⟩
    refine j_aload_n dX12_shares_5 rfl ?_
    refine j_aload_n dX12_shares_6 rfl ?_
    refine j_iload_n dX12_shares_7 rfl ?_
    refine r_cv1I dX12_shares_8 cvX12_335 (by decide) (by first | assumption | exact hsh _ _ rfl) (Nat.le_of_ble_eq_true rfl) (Nat.le_of_eq (Nat.zero_add _)) (Nat.le_of_eq (Nat.zero_add _)) (sm_noP0 hsh hfx hok (by omega) hP h4) ?_
    refine j_if_ne (tgt := 22) dX12_shares_11 rfl (by first | omega | (split <;> omega)) (fun c_11 => by exact absurd c_11 (by decide)) (fun c_11 => ?_)
    refine j_aload_n dX12_shares_14 rfl ?_
    refine j_iload_n dX12_shares_15 rfl ?_
    refine r_cv1I dX12_shares_16 cvX12_335 (by decide) (by first | assumption | exact hsh _ _ rfl) (Nat.le_of_ble_eq_true rfl) (Nat.le_of_eq (Nat.zero_add _)) (Nat.le_of_eq (Nat.zero_add _)) (sm_noP1 hsh hfx hok (by omega) hP h5) ?_
    refine j_if_eq (tgt := 26) dX12_shares_19 rfl (by first | omega | (split <;> omega)) (fun c_19 => by exact absurd c_19 (by decide)) (fun c_19 => ?_)
    refine j_iconst dX12_shares_22 ?_
    refine j_goto (tgt := 27) dX12_shares_23 rfl ?_
    refine j_iconst dX12_shares_27 ?_
    refine r_cv2I dX12_shares_28 cvX12_253 (by decide) (by first | assumption | exact hsh _ _ rfl) (Nat.le_of_ble_eq_true rfl) (Nat.le_of_eq (Nat.zero_add _)) (Nat.le_of_eq (Nat.zero_add _)) (sm_thr1 hsh (by omega)) ?_
    refine j_if_ne (tgt := 66) dX12_shares_31 rfl (by first | omega | (split <;> omega)) (fun c_31 => ?_) (fun c_31 => by exact absurd c_31 (by decide))
    refine j_iconst dX12_shares_66 ?_
    refine j_iret dX12_shares_67 rfl ?_
    exact rI_of rfl rfl
  · refine j_aload_n dX12_shares_5 rfl ?_
    refine j_aload_n dX12_shares_6 rfl ?_
    refine j_iload_n dX12_shares_7 rfl ?_
    refine r_cv1I dX12_shares_8 cvX12_335 (by decide) (by first | assumption | exact hsh _ _ rfl) (Nat.le_of_ble_eq_true rfl) (Nat.le_of_eq (Nat.zero_add _)) (Nat.le_of_eq (Nat.zero_add _)) (sm_noP1 hsh hfx hok (by omega) hP h4) ?_
    refine j_if_ne (tgt := 22) dX12_shares_11 rfl (by first | omega | (split <;> omega)) (fun c_11 => ?_) (fun c_11 => by exact absurd c_11 (by decide))
    refine j_iconst dX12_shares_22 ?_
    refine j_goto (tgt := 27) dX12_shares_23 rfl ?_
    refine j_iconst dX12_shares_27 ?_
    refine r_cv2I dX12_shares_28 cvX12_253 (by decide) (by first | assumption | exact hsh _ _ rfl) (Nat.le_of_ble_eq_true rfl) (Nat.le_of_eq (Nat.zero_add _)) (Nat.le_of_eq (Nat.zero_add _)) (sm_thr1 hsh (by omega)) ?_
    refine j_if_ne (tgt := 66) dX12_shares_31 rfl (by first | omega | (split <;> omega)) (fun c_31 => ?_) (fun c_31 => by exact absurd c_31 (by decide))
    refine j_iconst dX12_shares_66 ?_
    refine j_iret dX12_shares_67 rfl ?_
    exact rI_of rfl rfl
theorem mp_shares_2 (hsh : ShOK sh) (hfx : FxOK F) (hP : WfP (I 171)) {p q : Int} (h1 : jin p) (h2 : jin q) (h3 : gP (I 171) p ∧ gP (I 171) q) (h5 : p = q) : jS G (d + 4) mX12_shares [jR (some 170), jI p, jI q] (sh, I, F) 0 0 (rI 0 (sh, jup I 170 0 2, F)) := by
  refine jS_go [some (jR (some 170)), some (jI p), some (jI q), none, none] (by decide +kernel) rfl (by simp [jone]) (Nat.le_of_ble_eq_true rfl) rfl (fun hok => ?_)
  refine j_aload_n dX12_shares_0 rfl ?_
  refine j_iconst dX12_shares_1 ?_
  refine r_putI dX12_shares_2 flX12_3 rfl (by first | assumption | exact hsh _ _ rfl) (by first | omega | (split <;> omega)) (fun q => by cases q) ?_
  skip
  have hok1 : jzok (sh, jup I 170 0 0, F) := jzok_I hok jin_lit0
  have hw0 : (jup I 170 0 0) 171 = I 171 := jup_ne _ _ _ (by decide)
  clear hok
  rw [← jup_up I 170 0 0 2]
  rw [← hw0] at hP h3
  try rw [← hw0]
  obtain ⟨I1, hI1⟩ : ∃ J, J = jup I 170 0 0 := ⟨_, rfl⟩
  rw [← hI1] at hok1 hw0 hP h3 ⊢
  have hok := hok1
  refine j_aload_n dX12_shares_5 rfl ?_
  refine j_aload_n dX12_shares_6 rfl ?_
  refine j_iload_n dX12_shares_7 rfl ?_
  refine r_cv1I dX12_shares_8 cvX12_335 (by decide) (by first | assumption | exact hsh _ _ rfl) (Nat.le_of_ble_eq_true rfl) (Nat.le_of_eq (Nat.zero_add _)) (Nat.le_of_eq (Nat.zero_add _)) (sm_noP0 hsh hfx hok (by omega) hP h3.1) ?_
  refine j_if_ne (tgt := 22) dX12_shares_11 rfl (by first | omega | (split <;> omega)) (fun c_11 => by exact absurd c_11 (by decide)) (fun c_11 => ?_)
  refine j_aload_n dX12_shares_14 rfl ?_
  refine j_iload_n dX12_shares_15 rfl ?_
  refine r_cv1I dX12_shares_16 cvX12_335 (by decide) (by first | assumption | exact hsh _ _ rfl) (Nat.le_of_ble_eq_true rfl) (Nat.le_of_eq (Nat.zero_add _)) (Nat.le_of_eq (Nat.zero_add _)) (sm_noP0 hsh hfx hok (by omega) hP h3.2) ?_
  refine j_if_eq (tgt := 26) dX12_shares_19 rfl (by first | omega | (split <;> omega)) (fun c_19 => ?_) (fun c_19 => by exact absurd c_19 (by decide))
  refine j_iconst dX12_shares_26 ?_
  refine j_iconst dX12_shares_27 ?_
  refine r_cv2I dX12_shares_28 cvX12_253 (by decide) (by first | assumption | exact hsh _ _ rfl) (Nat.le_of_ble_eq_true rfl) (Nat.le_of_eq (Nat.zero_add _)) (Nat.le_of_eq (Nat.zero_add _)) (sm_thr0 hsh) ?_
  refine j_if_ne (tgt := 66) dX12_shares_31 rfl (by first | omega | (split <;> omega)) (fun c_31 => by exact absurd c_31 (by decide)) (fun c_31 => ?_)
  refine j_aload_n dX12_shares_34 rfl ?_
  refine j_iload_n dX12_shares_35 rfl ?_
  refine j_iload_n dX12_shares_36 rfl ?_
  refine j_icmp_ne (tgt := 44) dX12_shares_37 rfl (by first | omega | (split <;> omega)) (by first | omega | (split <;> omega)) (fun c_37 => by exact absurd h5 (by omega)) (fun c_37 => ?_)
  refine j_iconst dX12_shares_40 ?_
  refine j_goto (tgt := 45) dX12_shares_41 rfl ?_
  refine j_iconst dX12_shares_45 ?_
  refine r_cv2I dX12_shares_46 cvX12_253 (by decide) (by first | assumption | exact hsh _ _ rfl) (Nat.le_of_ble_eq_true rfl) (Nat.le_of_eq (Nat.zero_add _)) (Nat.le_of_eq (Nat.zero_add _)) (sm_thr1 hsh (by omega)) ?_
  refine j_if_ne (tgt := 66) dX12_shares_49 rfl (by first | omega | (split <;> omega)) (fun c_49 => ?_) (fun c_49 => by exact absurd c_49 (by decide))
  refine j_iconst dX12_shares_66 ?_
  refine j_iret dX12_shares_67 rfl ?_
  exact rI_of rfl rfl
theorem mp_shares_3 (hsh : ShOK sh) (hfx : FxOK F) (hP : WfP (I 171)) {p q : Int} (h1 : jin p) (h2 : jin q) (h3 : gP (I 171) p ∧ gP (I 171) q) (h5 : ¬ p = q) (h6 : ¬ (aOf (I 171) p 3 = 0 ∧ aOf (I 171) q 3 = 0)) : jS G (d + 4) mX12_shares [jR (some 170), jI p, jI q] (sh, I, F) 0 0 (rI 0 (sh, jup I 170 0 3, F)) := by
  refine jS_go [some (jR (some 170)), some (jI p), some (jI q), none, none] (by decide +kernel) rfl (by simp [jone]) (Nat.le_of_ble_eq_true rfl) rfl (fun hok => ?_)
  refine j_aload_n dX12_shares_0 rfl ?_
  refine j_iconst dX12_shares_1 ?_
  refine r_putI dX12_shares_2 flX12_3 rfl (by first | assumption | exact hsh _ _ rfl) (by first | omega | (split <;> omega)) (fun q => by cases q) ?_
  skip
  have hok1 : jzok (sh, jup I 170 0 0, F) := jzok_I hok jin_lit0
  have hw0 : (jup I 170 0 0) 171 = I 171 := jup_ne _ _ _ (by decide)
  clear hok
  rw [← jup_up I 170 0 0 3]
  rw [← hw0] at hP h3 h6
  try rw [← hw0]
  obtain ⟨I1, hI1⟩ : ∃ J, J = jup I 170 0 0 := ⟨_, rfl⟩
  rw [← hI1] at hok1 hw0 hP h3 h6 ⊢
  have hok := hok1
  have hP2 := hP.2
  refine j_aload_n dX12_shares_5 rfl ?_
  refine j_aload_n dX12_shares_6 rfl ?_
  refine j_iload_n dX12_shares_7 rfl ?_
  refine r_cv1I dX12_shares_8 cvX12_335 (by decide) (by first | assumption | exact hsh _ _ rfl) (Nat.le_of_ble_eq_true rfl) (Nat.le_of_eq (Nat.zero_add _)) (Nat.le_of_eq (Nat.zero_add _)) (sm_noP0 hsh hfx hok (by omega) hP h3.1) ?_
  refine j_if_ne (tgt := 22) dX12_shares_11 rfl (by first | omega | (split <;> omega)) (fun c_11 => by exact absurd c_11 (by decide)) (fun c_11 => ?_)
  refine j_aload_n dX12_shares_14 rfl ?_
  refine j_iload_n dX12_shares_15 rfl ?_
  refine r_cv1I dX12_shares_16 cvX12_335 (by decide) (by first | assumption | exact hsh _ _ rfl) (Nat.le_of_ble_eq_true rfl) (Nat.le_of_eq (Nat.zero_add _)) (Nat.le_of_eq (Nat.zero_add _)) (sm_noP0 hsh hfx hok (by omega) hP h3.2) ?_
  refine j_if_eq (tgt := 26) dX12_shares_19 rfl (by first | omega | (split <;> omega)) (fun c_19 => ?_) (fun c_19 => by exact absurd c_19 (by decide))
  refine j_iconst dX12_shares_26 ?_
  refine j_iconst dX12_shares_27 ?_
  refine r_cv2I dX12_shares_28 cvX12_253 (by decide) (by first | assumption | exact hsh _ _ rfl) (Nat.le_of_ble_eq_true rfl) (Nat.le_of_eq (Nat.zero_add _)) (Nat.le_of_eq (Nat.zero_add _)) (sm_thr0 hsh) ?_
  refine j_if_ne (tgt := 66) dX12_shares_31 rfl (by first | omega | (split <;> omega)) (fun c_31 => by exact absurd c_31 (by decide)) (fun c_31 => ?_)
  refine j_aload_n dX12_shares_34 rfl ?_
  refine j_iload_n dX12_shares_35 rfl ?_
  refine j_iload_n dX12_shares_36 rfl ?_
  refine j_icmp_ne (tgt := 44) dX12_shares_37 rfl (by first | omega | (split <;> omega)) (by first | omega | (split <;> omega)) (fun c_37 => ?_) (fun c_37 => by exact absurd (by omega) c_37)
  refine j_iconst dX12_shares_44 ?_
  refine j_iconst dX12_shares_45 ?_
  refine r_cv2I dX12_shares_46 cvX12_253 (by decide) (by first | assumption | exact hsh _ _ rfl) (Nat.le_of_ble_eq_true rfl) (Nat.le_of_eq (Nat.zero_add _)) (Nat.le_of_eq (Nat.zero_add _)) (sm_thr0 hsh) ?_
  refine j_if_ne (tgt := 66) dX12_shares_49 rfl (by first | omega | (split <;> omega)) (fun c_49 => by exact absurd c_49 (by decide)) (fun c_49 => ?_)
  refine j_aload_n dX12_shares_52 rfl ?_
  refine j_aload_n dX12_shares_53 rfl ?_
  refine j_iload_n dX12_shares_54 rfl ?_
  refine j_iload_n dX12_shares_55 rfl ?_
  refine r_cv2I dX12_shares_56 cvX12_399 (by decide) (by first | assumption | exact hsh _ _ rfl) (Nat.le_of_ble_eq_true rfl) (Nat.le_of_eq (Nat.zero_add _)) (Nat.le_of_eq (Nat.zero_add _)) (sm_areDead1 hsh hfx (by omega) (by omega) h6) ?_
  refine j_iconst dX12_shares_59 ?_
  refine r_cv2I dX12_shares_60 cvX12_253 (by decide) (by first | assumption | exact hsh _ _ rfl) (Nat.le_of_ble_eq_true rfl) (Nat.le_of_eq (Nat.zero_add _)) (Nat.le_of_eq (Nat.zero_add _)) (sm_thr1 hsh (by omega)) ?_
  refine j_if_eq (tgt := 68) dX12_shares_63 rfl (by first | omega | (split <;> omega)) (fun c_63 => by exact absurd c_63 (by decide)) (fun c_63 => ?_)
  refine j_iconst dX12_shares_66 ?_
  refine j_iret dX12_shares_67 rfl ?_
  exact rI_of rfl rfl
theorem cp_shares_1 (hsh : ShOK sh) (hfx : FxOK F) (hR : Rp I 2 w) {p q : Int} (h1 : jin p) (h2 : jin q) (h3 : ¬ (gP w p ∧ gP w q)) : jS G (d + 3) mX11_shares [jR (some 0), jI p, jI q] (sh, I, F) 1 6 (rX xIob (sh, I, F)) := by
  refine jS_go [some (jR (some 0)), some (jI p), some (jI q)] (by decide +kernel) rfl (by simp [jone]) (Nat.le_of_ble_eq_true rfl) rfl (fun hok => ?_)
  refine j_aload_n dX11_shares_0 rfl ?_
  refine j_iload_n dX11_shares_1 rfl ?_
  refine j_iload_n dX11_shares_2 rfl ?_
  exact r_cv2X dX11_shares_3 cvX11_169 (by decide) (by first | assumption | exact hsh _ _ rfl) (Nat.le_of_ble_eq_true rfl) (Nat.le_refl _) (Nat.le_refl _) rfl (cg_two1 hsh hfx hR (by omega) (by omega) h3) (⟨rfl, rfl⟩)
theorem cp_shares_2 (hsh : ShOK sh) (hfx : FxOK F) (hR : Rp I 2 w) {p q : Int} (h1 : jin p) (h2 : jin q) (h3 : gP w p ∧ gP w q) (h5 : p = q) : jS G (d + 3) mX11_shares [jR (some 0), jI p, jI q] (sh, I, F) 1 6 (rX xIae (sh, I, F)) := by
  refine jS_go [some (jR (some 0)), some (jI p), some (jI q)] (by decide +kernel) rfl (by simp [jone]) (Nat.le_of_ble_eq_true rfl) rfl (fun hok => ?_)
  refine j_aload_n dX11_shares_0 rfl ?_
  refine j_iload_n dX11_shares_1 rfl ?_
  refine j_iload_n dX11_shares_2 rfl ?_
  exact r_cv2X dX11_shares_3 cvX11_169 (by decide) (by first | assumption | exact hsh _ _ rfl) (Nat.le_of_ble_eq_true rfl) (Nat.le_refl _) (Nat.le_refl _) rfl (cg_two2 hsh hfx hR (by omega) (by omega) h3 h5) (⟨rfl, rfl⟩)
theorem cp_shares_3 (hsh : ShOK sh) (hfx : FxOK F) (hst : StAt sh F 2) (hR : Rp I 2 w) {p q : Int} (h1 : jin p) (h2 : jin q) (h3 : gP w p ∧ gP w q) (h5 : ¬ p = q) (h6 : ¬ (aOf w p 3 = 0 ∧ aOf w q 3 = 0)) : jS G (d + 3) mX11_shares [jR (some 0), jI p, jI q] (sh, I, F) 1 6 (rX xIse (sh, I, F)) := by
  refine jS_go [some (jR (some 0)), some (jI p), some (jI q)] (by decide +kernel) rfl (by simp [jone]) (Nat.le_of_ble_eq_true rfl) rfl (fun hok => ?_)
  by_cases h7 : aOf w p 3 = 0
  · have h8 : ¬ aOf w q 3 = 0 := fun z => h6 ⟨h7, z⟩
    refine j_aload_n dX11_shares_0 rfl ?_
    refine j_iload_n dX11_shares_1 rfl ?_
    refine j_iload_n dX11_shares_2 rfl ?_
    refine r_cv2V dX11_shares_3 cvX11_169 (by decide) (by first | assumption | exact hsh _ _ rfl) (Nat.le_of_ble_eq_true rfl) (Nat.le_of_eq (Nat.zero_add _)) (Nat.le_of_eq (Nat.zero_add _)) (cg_two0 hsh hfx hR (by omega) (by omega) h3 h5) ?_
    refine j_aload_n dX11_shares_6 rfl ?_
    refine j_iload_n dX11_shares_7 rfl ?_
    refine r_cv1V dX11_shares_8 cvX11_176 (by decide) (by first | assumption | exact hsh _ _ rfl) (Nat.le_of_ble_eq_true rfl) (Nat.le_of_eq (Nat.zero_add _)) (Nat.le_of_eq (Nat.zero_add _)) (cg_live1 hsh hfx hst hR (by omega) h3.1 h7) ?_
    refine j_aload_n dX11_shares_11 rfl ?_
    refine j_iload_n dX11_shares_12 rfl ?_
    exact r_cv1X dX11_shares_13 cvX11_176 (by decide) (by first | assumption | exact hsh _ _ rfl) (Nat.le_of_ble_eq_true rfl) (Nat.le_refl _) (Nat.le_refl _) rfl (cg_live0 hsh hfx hst hR (by omega) h3.2 h8) (⟨rfl, rfl⟩)
  · refine j_aload_n dX11_shares_0 rfl ?_
    refine j_iload_n dX11_shares_1 rfl ?_
    refine j_iload_n dX11_shares_2 rfl ?_
    refine r_cv2V dX11_shares_3 cvX11_169 (by decide) (by first | assumption | exact hsh _ _ rfl) (Nat.le_of_ble_eq_true rfl) (Nat.le_of_eq (Nat.zero_add _)) (Nat.le_of_eq (Nat.zero_add _)) (cg_two0 hsh hfx hR (by omega) (by omega) h3 h5) ?_
    refine j_aload_n dX11_shares_6 rfl ?_
    refine j_iload_n dX11_shares_7 rfl ?_
    exact r_cv1X dX11_shares_8 cvX11_176 (by decide) (by first | assumption | exact hsh _ _ rfl) (Nat.le_of_ble_eq_true rfl) (Nat.le_refl _) (Nat.le_refl _) rfl (cg_live0 hsh hfx hst hR (by omega) h3.1 h7) (⟨rfl, rfl⟩)
end
