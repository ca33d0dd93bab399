/-! SHARE, PARTED, RINGS, HEIRS -/
section
variable {G : jzG} {d : Nat} {sh : List (Nat × Nat)} {I : Nat → Int → Int} {F : Nat → Int → Option Nat} {s : Nat} {w : Int → Int}
theorem cp_shares_0 (hsh : ShOK sh) (hfx : FxOK F) (hst : StAt sh F 2) (hR : Rp I 2 w) (hD : WfD w) (hB : WfB w) (hA : WfA w) {p q : Int} (h1 : jin p) (h2 : jin q) (h3 : gP w p ∧ gP w q) (h5 : ¬ p = q) (h6 : aOf w p 3 = 0 ∧ aOf w q 3 = 0) : jS G (d + 3) mX11_shares [jR (some 0), jI p, jI q] (sh, I, F) 0 0 (rI (mShares w p q) (sh, I, F)) := by
  refine jS_go [some (jR (some 0)), some (jI p), some (jI q)] (by decide +kernel) rfl (by simp [jone]) (Nat.le_of_ble_eq_true rfl) rfl (fun hok => ?_)
  refine j_aload_n dX11_shares_0 rfl ?_
  refine j_iload_n dX11_shares_1 rfl ?_
  refine j_iload_n dX11_shares_2 rfl ?_
  refine r_cv2V dX11_shares_3 cvX11_169 (by decide) (by first | assumption | exact hsh _ _ rfl) (Nat.le_of_ble_eq_true rfl) (Nat.le_of_eq (Nat.zero_add _)) (Nat.le_of_eq (Nat.zero_add _)) (cg_two0 hsh hfx hR (by omega) (by omega) h3 h5) ?_
  refine j_aload_n dX11_shares_6 rfl ?_
  refine j_iload_n dX11_shares_7 rfl ?_
  refine r_cv1V dX11_shares_8 cvX11_176 (by decide) (by first | assumption | exact hsh _ _ rfl) (Nat.le_of_ble_eq_true rfl) (Nat.le_of_eq (Nat.zero_add _)) (Nat.le_of_eq (Nat.zero_add _)) (cg_live1 hsh hfx hst hR (by omega) h3.1 h6.1) ?_
  refine j_aload_n dX11_shares_11 rfl ?_
  refine j_iload_n dX11_shares_12 rfl ?_
  refine r_cv1V dX11_shares_13 cvX11_176 (by decide) (by first | assumption | exact hsh _ _ rfl) (Nat.le_of_ble_eq_true rfl) (Nat.le_of_eq (Nat.zero_add _)) (Nat.le_of_eq (Nat.zero_add _)) (cg_live1 hsh hfx hst hR (by omega) h3.2 h6.2) ?_
  refine j_aload_n dX11_shares_16 rfl ?_
  refine r_getS dX11_shares_17 flX11_20 (by first | assumption | exact hsh _ _ rfl) (fx_0_3 hfx) ?_
  refine j_iload_n dX11_shares_20 rfl ?_
  refine j_iload_n dX11_shares_21 rfl ?_
  refine r_cs3I dX11_shares_22 csX11_290 (Nat.le_of_ble_eq_true rfl) (Nat.le_of_eq (Nat.zero_add _)) (Nat.le_of_eq (Nat.zero_add _)) (sc_daysOfTwo hst hR hD hB hA (by omega) (by omega)) ?_
  refine j_iret dX11_shares_25 rfl ?_
  exact rI_of rfl rfl
abbrev vShare (w : Int → Int) (p q : Int) : Prop := aOf w p 1 + aOf w q 1 ≤ aRm2 w p q (w 3)
theorem mAcc_two (hP : 0 ≤ aPe w ∧ aPe w ≤ 8) {p q : Int} (h3 : gP w p ∧ gP w q) (h5 : ¬ p = q) : mAcc w (jOr (jShl 1 p) (jShl 1 q)) = aOf w p 1 + aOf w q 1 := by
  have hp := jShl_set h3.1.1 (by omega)
  have hq := jShl_set h3.2.1 (by omega)
  have ho := jOr_set (a := jShl 1 p) (b := jShl 1 q) (by omega) (by omega)
  have := jfold_ind (f := fun k a => a + (if jbit (jOr (jShl 1 p) (jShl 1 q)) k then aOf w k 1 else 0)) (a := 0) (fun k a => a = (if p < k then aOf w p 1 else 0) + (if q < k then aOf w q 1 else 0)) (by rw [if_neg (by omega), if_neg (by omega)]; rfl) (n := (aPe w).toNat) (fun k y h0 h1 e => by
    have e1 : jbit (jOr (jShl 1 p) (jShl 1 q)) k ↔ k = p ∨ k = q := by rw [ho.2.2 k h0 (by omega), hp.2 k h0 (by omega), hq.2 k h0 (by omega)]
    by_cases ep : k = p
    · rw [if_pos (e1.mpr (Or.inl ep)), if_pos (show p < k + 1 by omega), e, if_neg (show ¬ p < k by omega), ep]
      by_cases eq : q < k
      · rw [if_pos (by omega), if_pos (by omega)]; omega
      · rw [if_neg (by omega), if_neg (by omega)]; omega
    · by_cases eq : k = q
      · rw [if_pos (e1.mpr (Or.inr eq)), if_pos (show q < k + 1 by omega), e, if_neg (show ¬ q < k by omega), eq]
        by_cases ep : p < k
        · rw [if_pos (by omega), if_pos (by omega)]; omega
        · rw [if_neg (by omega), if_neg (by omega)]; omega
      · rw [if_neg (fun z => (e1.mp z).elim ep eq), e]
        by_cases ep : p < k
        · by_cases eq : q < k
          · rw [if_pos ep, if_pos eq, if_pos (by omega), if_pos (by omega)]; omega
          · rw [if_pos ep, if_neg eq, if_pos (by omega), if_neg (by omega)]; omega
        · by_cases eq : q < k
          · rw [if_neg ep, if_pos eq, if_neg (by omega), if_pos (by omega)]; omega
          · rw [if_neg ep, if_neg eq, if_neg (by omega), if_neg (by omega)]; omega)
  rw [if_pos (by omega), if_pos (by omega)] at this
  exact this
theorem mp_share_0 (hsh : ShOK sh) (hfx : FxOK F) (hP : WfP (I 171)) (hD : WfD (I 171)) (hB : WfB (I 171)) (hA : WfA (I 171)) {p q : Int} (h1 : jin p) (h2 : jin q) (h3 : gP (I 171) p ∧ gP (I 171) q) (h5 : ¬ p = q) (h6 : aOf (I 171) p 3 = 0 ∧ aOf (I 171) q 3 = 0) : jS G (d + 4) mX12_share [jR (some 170), jI p, jI q] (sh, I, F) 0 0 (rI (if vShare (I 171) p q then 1 else 0) (sh, jup I 170 0 0, F)) := by
  refine jS_go [some (jR (some 170)), some (jI p), some (jI q)] (by decide +kernel) rfl (by simp [jone]) (Nat.le_of_ble_eq_true rfl) rfl (fun hok => ?_)
  refine j_aload_n dX12_share_0 rfl ?_
  refine j_iconst dX12_share_1 ?_
  refine r_putI dX12_share_2 flX12_3 rfl (by first | assumption | exact hsh _ _ rfl) (by first | omega | (split <;> omega)) (fun q => by cases q) ?_
  skip
  have hok1 : jzok (sh, jup I 170 0 0, F) := jzok_I hok jin_lit0
  have hw0 : (jup I 170 0 0) 171 = I 171 := jup_ne _ _ _ (by decide)
  clear hok
  rw [← hw0] at hP hD hB hA h3 h6
  try rw [← hw0]
  obtain ⟨I1, hI1⟩ : ∃ J, J = jup I 170 0 0 := ⟨_, rfl⟩
  rw [← hI1] at hok1 hw0 hP hD hB hA h3 h6 ⊢
  have hok := hok1
  have hP2 := hP.2
  have a1 := aPaD_in hB (p := p) ⟨h3.1.1, by omega⟩ (day := I1 171 3) (by omega)
  have a2 := aPaD_in hB (p := q) ⟨h3.2.1, by omega⟩ (day := I1 171 3) (by omega)
  have b1 := (hB p h3.1.1 (by omega)).1
  have b2 := (hB q h3.2.1 (by omega)).1
  have c1 := hA p h3.1.1 (by omega)
  have c2 := hA q h3.2.1 (by omega)
  have e3 : aTwo (I1 171) p q (I1 171 3) = aPaD (I1 171) p (I1 171 3) + aPaD (I1 171) q (I1 171 3) := rfl
  have e4 : aRm2 (I1 171) p q (I1 171 3) = aOf (I1 171) p 0 + aOf (I1 171) q 0 - aPaD (I1 171) p (I1 171 3) - aPaD (I1 171) q (I1 171 3) := rfl
  refine j_aload_n dX12_share_5 rfl ?_
  refine j_aload_n dX12_share_6 rfl ?_
  refine j_iload_n dX12_share_7 rfl ?_
  refine r_cv1I dX12_share_8 cvX12_335 (by decide) (by first | assumption | exact hsh _ _ rfl) (Nat.le_of_ble_eq_true rfl) (Nat.le_of_eq (Nat.zero_add _)) (Nat.le_of_eq (Nat.zero_add _)) (sm_noP0 hsh hfx hok (by omega) hP h3.1) ?_
  refine j_if_ne (tgt := 22) dX12_share_11 rfl (by first | omega | (split <;> omega)) (fun c_11 => by exact absurd c_11 (by decide)) (fun c_11 => ?_)
  refine j_aload_n dX12_share_14 rfl ?_
  refine j_iload_n dX12_share_15 rfl ?_
  refine r_cv1I dX12_share_16 cvX12_335 (by decide) (by first | assumption | exact hsh _ _ rfl) (Nat.le_of_ble_eq_true rfl) (Nat.le_of_eq (Nat.zero_add _)) (Nat.le_of_eq (Nat.zero_add _)) (sm_noP0 hsh hfx hok (by omega) hP h3.2) ?_
  refine j_if_eq (tgt := 26) dX12_share_19 rfl (by first | omega | (split <;> omega)) (fun c_19 => ?_) (fun c_19 => by exact absurd c_19 (by decide))
  refine j_iconst dX12_share_26 ?_
  refine j_iconst dX12_share_27 ?_
  refine r_cv2I dX12_share_28 cvX12_253 (by decide) (by first | assumption | exact hsh _ _ rfl) (Nat.le_of_ble_eq_true rfl) (Nat.le_of_eq (Nat.zero_add _)) (Nat.le_of_eq (Nat.zero_add _)) (sm_thr0 hsh) ?_
  refine j_if_ne (tgt := 66) dX12_share_31 rfl (by first | omega | (split <;> omega)) (fun c_31 => by exact absurd c_31 (by decide)) (fun c_31 => ?_)
  refine j_aload_n dX12_share_34 rfl ?_
  refine j_iload_n dX12_share_35 rfl ?_
  refine j_iload_n dX12_share_36 rfl ?_
  refine j_icmp_ne (tgt := 44) dX12_share_37 rfl (by first | omega | (split <;> omega)) (by first | omega | (split <;> omega)) (fun c_37 => ?_) (fun c_37 => by exact absurd (by omega) c_37)
  refine j_iconst dX12_share_44 ?_
  refine j_iconst dX12_share_45 ?_
  refine r_cv2I dX12_share_46 cvX12_253 (by decide) (by first | assumption | exact hsh _ _ rfl) (Nat.le_of_ble_eq_true rfl) (Nat.le_of_eq (Nat.zero_add _)) (Nat.le_of_eq (Nat.zero_add _)) (sm_thr0 hsh) ?_
  refine j_if_ne (tgt := 66) dX12_share_49 rfl (by first | omega | (split <;> omega)) (fun c_49 => by exact absurd c_49 (by decide)) (fun c_49 => ?_)
  refine j_aload_n dX12_share_52 rfl ?_
  refine j_aload_n dX12_share_53 rfl ?_
  refine j_iload_n dX12_share_54 rfl ?_
  refine j_iload_n dX12_share_55 rfl ?_
  refine r_cv2I dX12_share_56 cvX12_399 (by decide) (by first | assumption | exact hsh _ _ rfl) (Nat.le_of_ble_eq_true rfl) (Nat.le_of_eq (Nat.zero_add _)) (Nat.le_of_eq (Nat.zero_add _)) (sm_areDead0 hsh hfx (by omega) (by omega) h6) ?_
  refine j_iconst dX12_share_59 ?_
  refine r_cv2I dX12_share_60 cvX12_253 (by decide) (by first | assumption | exact hsh _ _ rfl) (Nat.le_of_ble_eq_true rfl) (Nat.le_of_eq (Nat.zero_add _)) (Nat.le_of_eq (Nat.zero_add _)) (sm_thr0 hsh) ?_
  refine j_if_eq (tgt := 68) dX12_share_63 rfl (by first | omega | (split <;> omega)) (fun c_63 => ?_) (fun c_63 => by exact absurd c_63 (by decide))
  refine j_aload_n dX12_share_68 rfl ?_
  refine j_iload_n dX12_share_69 rfl ?_
  refine j_iload_n dX12_share_70 rfl ?_
  refine j_aload_n dX12_share_71 rfl ?_
  refine r_getS dX12_share_72 flX12_13 (by first | assumption | exact hsh _ _ rfl) (fx_170_1 hfx) ?_
  refine j_iconst dX12_share_75 ?_
  refine r_iaload dX12_share_76 (by first | assumption | exact hsh _ _ rfl) (by first | omega | (split <;> omega)) (by first | omega | (split <;> omega)) (fun b_76 => ?_)
  refine r_cv3I dX12_share_77 cvX12_402 (by decide) (by first | assumption | exact hsh _ _ rfl) (Nat.le_of_ble_eq_true rfl) (Nat.le_of_eq (Nat.zero_add _)) (Nat.le_of_eq (Nat.zero_add _)) (sm_painOfTwo hsh hfx (by omega) (by omega) (by omega)) ?_
  refine j_aload_n dX12_share_80 rfl ?_
  refine j_iload_n dX12_share_81 rfl ?_
  refine j_iconst dX12_share_82 ?_
  refine r_cv2J dX12_share_83 cvX12_68 (by decide) (by first | assumption | exact hsh _ _ rfl) (Nat.le_of_ble_eq_true rfl) (Nat.le_of_eq (Nat.zero_add _)) (Nat.le_of_eq (Nat.zero_add _)) (sm_of hsh hfx (by omega)) (hok.2.1 171 _) (fun b_83 => ?_)
  refine j_iadd dX12_share_86 ?_
  refine j_aload_n dX12_share_87 rfl ?_
  refine j_iload_n dX12_share_88 rfl ?_
  refine j_iconst dX12_share_89 ?_
  refine r_cv2J dX12_share_90 cvX12_68 (by decide) (by first | assumption | exact hsh _ _ rfl) (Nat.le_of_ble_eq_true rfl) (Nat.le_of_eq (Nat.zero_add _)) (Nat.le_of_eq (Nat.zero_add _)) (sm_of hsh hfx (by omega)) (hok.2.1 171 _) (fun b_90 => ?_)
  refine j_iadd dX12_share_93 ?_
  refine j_aload_n dX12_share_94 rfl ?_
  refine j_iload_n dX12_share_95 rfl ?_
  refine j_iconst dX12_share_96 ?_
  refine r_cv2J dX12_share_97 cvX12_68 (by decide) (by first | assumption | exact hsh _ _ rfl) (Nat.le_of_ble_eq_true rfl) (Nat.le_of_eq (Nat.zero_add _)) (Nat.le_of_eq (Nat.zero_add _)) (sm_of hsh hfx (by omega)) (hok.2.1 171 _) (fun b_97 => ?_)
  refine j_aload_n dX12_share_100 rfl ?_
  refine j_iload_n dX12_share_101 rfl ?_
  refine j_iconst dX12_share_102 ?_
  refine r_cv2J dX12_share_103 cvX12_68 (by decide) (by first | assumption | exact hsh _ _ rfl) (Nat.le_of_ble_eq_true rfl) (Nat.le_of_eq (Nat.zero_add _)) (Nat.le_of_eq (Nat.zero_add _)) (sm_of hsh hfx (by omega)) (hok.2.1 171 _) (fun b_103 => ?_)
  refine j_iadd dX12_share_106 ?_
  refine j_icmp_gt (tgt := 114) dX12_share_107 rfl (by first | omega | (split <;> omega)) (by first | omega | (split <;> omega)) (fun c_107 => ?_) (fun c_107 => ?_)
  · refine j_iconst dX12_share_114 ?_
    refine j_zret dX12_share_115 rfl (by omega) ?_
    exact rI_of (by first | rw [if_pos (by omega)] | rw [if_neg (by omega)]) rfl
  · refine j_iconst dX12_share_110 ?_
    refine j_goto (tgt := 115) dX12_share_111 rfl ?_
    refine j_zret dX12_share_115 rfl (by omega) ?_
    exact rI_of (by first | rw [if_pos (by omega)] | rw [if_neg (by omega)]) rfl
theorem cp_share_0 (hsh : ShOK sh) (hfx : FxOK F) (hst : StAt sh F 2) (hR : Rp I 2 w) (hD : WfD w) (hB : WfB w) (hA : WfA w) {p q : Int} (h1 : jin p) (h2 : jin q) (h3 : gP w p ∧ gP w q) (h5 : ¬ p = q) (h6 : aOf w p 3 = 0 ∧ aOf w q 3 = 0) : jS G (d + 3) mX11_share [jR (some 0), jI p, jI q] (sh, I, F) 0 0 (rI (if vShare w p q then 1 else 0) (sh, I, F)) := by
  obtain ⟨r0, r1, rP, rO, rA, r9, r10, r11, r12, r13, r14, r15, r16, r17⟩ := id hR
  have hs := hst
  obtain ⟨g0, g1, g2, g3, g4, g5, g6, g7, g8, g9, e1, e2, e3, e4, e5, e6, e7, e8, e9⟩ := id hs
  have a1 := aPaD_in hB (p := p) ⟨h3.1.1, by omega⟩ (day := w 3) (by omega)
  have a2 := aPaD_in hB (p := q) ⟨h3.2.1, by omega⟩ (day := w 3) (by omega)
  have b1 := (hB p h3.1.1 (by omega)).1
  have b2 := (hB q h3.2.1 (by omega)).1
  have c1 := hA p h3.1.1 (by omega)
  have c2 := hA q h3.2.1 (by omega)
  have e4 : aRm2 w p q (w 3) = aOf w p 0 + aOf w q 0 - aPaD w p (w 3) - aPaD w q (w 3) := rfl
  have e5 := mAcc_two r1 h3 h5
  refine jS_go [some (jR (some 0)), some (jI p), some (jI q), none] (by decide +kernel) rfl (by simp [jone]) (Nat.le_of_ble_eq_true rfl) rfl (fun hok => ?_)
  refine j_aload_n dX11_share_0 rfl ?_
  refine j_iload_n dX11_share_1 rfl ?_
  refine j_iload_n dX11_share_2 rfl ?_
  refine r_cv2V dX11_share_3 cvX11_169 (by decide) (by first | assumption | exact hsh _ _ rfl) (Nat.le_of_ble_eq_true rfl) (Nat.le_of_eq (Nat.zero_add _)) (Nat.le_of_eq (Nat.zero_add _)) (cg_two0 hsh hfx hR (by omega) (by omega) h3 h5) ?_
  refine j_aload_n dX11_share_6 rfl ?_
  refine j_iload_n dX11_share_7 rfl ?_
  refine r_cv1V dX11_share_8 cvX11_176 (by decide) (by first | assumption | exact hsh _ _ rfl) (Nat.le_of_ble_eq_true rfl) (Nat.le_of_eq (Nat.zero_add _)) (Nat.le_of_eq (Nat.zero_add _)) (cg_live1 hsh hfx hst hR (by omega) h3.1 h6.1) ?_
  refine j_aload_n dX11_share_11 rfl ?_
  refine j_iload_n dX11_share_12 rfl ?_
  refine r_cv1V dX11_share_13 cvX11_176 (by decide) (by first | assumption | exact hsh _ _ rfl) (Nat.le_of_ble_eq_true rfl) (Nat.le_of_eq (Nat.zero_add _)) (Nat.le_of_eq (Nat.zero_add _)) (cg_live1 hsh hfx hst hR (by omega) h3.2 h6.2) ?_
  refine j_iconst dX11_share_16 ?_
  refine j_iload_n dX11_share_17 rfl ?_
  refine r_ishl dX11_share_18 (fun b_18 => ?_)
  refine j_iconst dX11_share_19 ?_
  refine j_iload_n dX11_share_20 rfl ?_
  refine r_ishl dX11_share_21 (fun b_21 => ?_)
  refine r_ior dX11_share_22 (fun b_22 => ?_)
  refine j_istore_n dX11_share_23 (by decide) ?_
  refine j_aload_n dX11_share_24 rfl ?_
  refine r_getS dX11_share_25 flX11_20 (by first | assumption | exact hsh _ _ rfl) (fx_0_3 hfx) ?_
  refine j_iload_n dX11_share_28 rfl ?_
  refine r_cv1I dX11_share_29 cvX11_269 (by decide) (by first | assumption | exact hsh _ _ rfl) (Nat.le_of_ble_eq_true rfl) (Nat.le_of_eq (Nat.zero_add _)) (Nat.le_of_eq (Nat.zero_add _)) (sc_accountsOf hst hR) ?_
  refine j_aload_n dX11_share_32 rfl ?_
  refine r_getS dX11_share_33 flX11_20 (by first | assumption | exact hsh _ _ rfl) (fx_0_3 hfx) ?_
  refine j_iload_n dX11_share_36 rfl ?_
  refine j_iload_n dX11_share_37 rfl ?_
  refine j_aload_n dX11_share_38 rfl ?_
  refine r_getS dX11_share_39 flX11_20 (by first | assumption | exact hsh _ _ rfl) (fx_0_3 hfx) ?_
  refine r_getIE dX11_share_42 flX11_230 (by first | assumption | exact hsh _ _ rfl) r13 (fun b_42 => ?_)
  refine r_cs4I dX11_share_45 csX11_287 (Nat.le_of_ble_eq_true rfl) (Nat.le_of_eq (Nat.zero_add _)) (Nat.le_of_eq (Nat.zero_add _)) (sc_roomOfTwo hst hR (by omega) (by omega) hD) ?_
  refine j_icmp_gt (tgt := 55) dX11_share_48 rfl (by first | omega | (split <;> omega)) (by first | omega | (split <;> omega)) (fun c_48 => ?_) (fun c_48 => ?_)
  · refine j_iconst dX11_share_55 ?_
    refine j_zret dX11_share_56 rfl (by omega) ?_
    exact rI_of (by first | rw [if_pos (by omega)] | rw [if_neg (by omega)]) rfl
  · refine j_iconst dX11_share_51 ?_
    refine j_goto (tgt := 56) dX11_share_52 rfl ?_
    refine j_zret dX11_share_56 rfl (by omega) ?_
    exact rI_of (by first | rw [if_pos (by omega)] | rw [if_neg (by omega)]) rfl
/-! parted -/
theorem fa_xor (a b : Nat) : nI a ^^^ nI b = nI (a ^^^ b) := by
  apply Int32.toBitVec_inj.mp
  show BitVec.ofNat 32 a ^^^ BitVec.ofNat 32 b = BitVec.ofNat 32 (a ^^^ b)
  apply BitVec.eq_of_getLsbD_eq
  intro i hi
  simp [BitVec.getLsbD_ofNat, hi]
theorem jandn_set {a x : Int} (ha : 0 ≤ a ∧ a < 256) (hx : 0 ≤ x ∧ x < 256) : (0 ≤ jAnd a (jXor x (-1)) ∧ jAnd a (jXor x (-1)) ≤ a) ∧ ∀ p : Int, 0 ≤ p → p < 31 → (jbit (jAnd a (jXor x (-1))) p ↔ jbit a p ∧ ¬ jbit x p) := by
  obtain ⟨m, rfl⟩ := Int.eq_ofNat_of_zero_le ha.1
  obtain ⟨n, rfl⟩ := Int.eq_ofNat_of_zero_le hx.1
  have e : jAnd (m : Int) (jXor (n : Int) (-1)) = ((m &&& (n ^^^ (2 ^ 32 - 1)) : Nat) : Int) := by
    unfold jAnd jXor
    rw [jn_of, jnn, jnn, show Int32.ofInt (-1) = nI (2 ^ 32 - 1) from by decide +kernel, fa_xor, fa_and, nI_toInt (Nat.lt_of_le_of_lt Nat.and_le_left (show m < 2 ^ 31 by omega))]
  have h3 : m &&& (n ^^^ (2 ^ 32 - 1)) ≤ m := Nat.and_le_left
  rw [e]
  refine ⟨⟨by omega, by omega⟩, fun p hp0 hp1 => ?_⟩
  obtain ⟨q, rfl⟩ := Int.eq_ofNat_of_zero_le hp0
  rw [jbit_nat (by omega) (by omega), jbit_nat (by omega) (by omega), jbit_nat (by omega) (by omega), Nat.testBit_and, Nat.testBit_xor, Nat.testBit_two_pow_sub_one, decide_eq_true (show q < 32 by omega)]
  cases m.testBit q <;> cases n.testBit q <;> simp
abbrev mOff (w : Int → Int) (x : Int) : Int := if 0 ≤ mAcc w (mAlive w) - 2 * mAcc w x then mAcc w (mAlive w) - 2 * mAcc w x else -(mAcc w (mAlive w) - 2 * mAcc w x)
def mEven (w : Int → Int) (n : Nat) : Int := jfold (fun t b => if vSub w (t + 1) ∧ mOff w (t + 1) < mOff w b then t + 1 else b) 0 n
theorem mAcc_0 (hP : 0 ≤ aPe w ∧ aPe w ≤ 8) : mAcc w 0 = 0 := by
  have := jfold_ind (f := fun k a => a + (if jbit 0 k then aOf w k 1 else 0)) (a := 0) (fun k a => a = 0) rfl (n := (aPe w).toNat) (fun k y h0 h1 e => by rw [if_neg (jbit_0 h0 (by omega)), e]; rfl)
  exact this
theorem mAcc_diff (hP : 0 ≤ aPe w ∧ aPe w ≤ 8) {x : Int} (hx : 0 ≤ x ∧ x < 256) (h : vSub w x) : mAcc w (jAnd (mAlive w) (jXor x (-1))) = mAcc w (mAlive w) - mAcc w x := by
  have ha := mAlive_set hP
  have hs := jan_sub hx ha.1 h
  have hd := jandn_set ha.1 hx
  have := jfold_rel (f := fun k a => a + (if jbit (jAnd (mAlive w) (jXor x (-1))) k then aOf w k 1 else 0)) (g := fun k (b : Int × Int) => (b.1 + (if jbit (mAlive w) k then aOf w k 1 else 0), b.2 + (if jbit x k then aOf w k 1 else 0))) (a := 0) (b := ((0 : Int), (0 : Int))) (fun k y b => y = b.1 - b.2) rfl (n := (aPe w).toNat) (fun k y b h0 h1 e => by
    have e1 := hd.2 k h0 (by omega)
    have e2 := hs.2 k h0 (by omega)
    rw [e]
    by_cases q1 : jbit (mAlive w) k
    · by_cases q2 : jbit x k
      · rw [if_neg (fun z => (e1.mp z).2 q2), if_pos q1, if_pos q2]; omega
      · rw [if_pos (e1.mpr ⟨q1, q2⟩), if_pos q1, if_neg q2]; omega
    · rw [if_neg (fun z => q1 (e1.mp z).1), if_neg q1, if_neg (fun z => q1 (e2 z))]; omega)
  have hN : ∀ n : Nat, jfold (fun k (b : Int × Int) => (b.1 + (if jbit (mAlive w) k then aOf w k 1 else 0), b.2 + (if jbit x k then aOf w k 1 else 0))) ((0 : Int), (0 : Int)) n = (jfold (fun k a => a + (if jbit (mAlive w) k then aOf w k 1 else 0)) 0 n, jfold (fun k a => a + (if jbit x k then aOf w k 1 else 0)) 0 n) := by
    intro n
    induction n with
    | zero => rfl
    | succ n ih => show (_, _) = (_, _); rw [ih]; rfl
  rw [hN] at this
  exact this
theorem mEven_in (hP : 0 ≤ aPe w ∧ aPe w ≤ 8) {n : Nat} (hn : n ≤ 255) : (0 ≤ mEven w n ∧ mEven w n ≤ n) ∧ vSub w (mEven w n) := by
  have h0 : vSub w 0 := by
    have ha := mAlive_set hP
    have := (jandn_set (a := 0) (x := mAlive w) (by omega) ha.1).1
    show jAnd 0 (jXor (mAlive w) (-1)) = 0
    omega
  have := jfold_ind (f := fun t b => if vSub w (t + 1) ∧ mOff w (t + 1) < mOff w b then t + 1 else b) (a := 0) (fun k b => (0 ≤ b ∧ b ≤ k) ∧ vSub w b) ⟨by omega, h0⟩ (n := n) (fun k b h1 h2 q => by
    split
    · rename_i c; exact ⟨by omega, c.1⟩
    · exact ⟨by omega, q.2⟩)
  exact this
/-- beyond all the living nothing changes -/
theorem mEven_up (hP : 0 ≤ aPe w ∧ aPe w ≤ 8) : mEven w (aAllS w).toNat = mEven w (mAlive w).toNat := by
  have ha := mAlive_set hP
  have hle := mAlive_all hP
  have hall := aAllS_in hP
  have key : ∀ k : Nat, (mAlive w).toNat + k ≤ 255 → mEven w ((mAlive w).toNat + k) = mEven w (mAlive w).toNat := by
    intro k
    induction k with
    | zero => intro _; rfl
    | succ k ih =>
      intro hk
      rw [← Nat.add_assoc]
      show (if vSub w ((((mAlive w).toNat + k : Nat) : Int) + 1) ∧ _ then _ else _) = _
      rw [if_neg (fun z => by have := (jan_sub (x := (((mAlive w).toNat + k : Nat) : Int) + 1) (by omega) ha.1 z.1).1; omega)]
      exact ih (by omega)
  have := key ((aAllS w).toNat - (mAlive w).toNat) (by omega)
  rw [show (mAlive w).toNat + ((aAllS w).toNat - (mAlive w).toNat) = (aAllS w).toNat by omega] at this
  exact this
theorem mOff_in (hP : 0 ≤ aPe w ∧ aPe w ≤ 8) (hA : WfA w) (x : Int) : 0 ≤ mOff w x ∧ mOff w x ≤ 2400000 := by
  have h1 := mAcc_in hP hA (mAlive w)
  have h2 := mAcc_in hP hA x
  unfold mOff
  split <;> omega
theorem mp_parted (hsh : ShOK sh) (hfx : FxOK F) (hP : WfP (I 171)) (hA : WfA (I 171)) {b : Int} (hb : b = 0 ∨ b = 1) : jS G (d + 4) mX12_parted [jR (some 170), jI b] (sh, I, F) 0 0 (rI (if b = 0 then mOff (I 171) (mEven (I 171) (aAllS (I 171)).toNat) else mEven (I 171) (aAllS (I 171)).toNat) (sh, jup I 170 0 0, F)) := by
  refine jS_go [some (jR (some 170)), some (jI b), none, none, none, none, none, none] (by decide +kernel) rfl (by simp [jone]) (Nat.le_of_ble_eq_true rfl) rfl (fun hok => ?_)
  refine j_aload_n dX12_parted_0 rfl ?_
  refine j_iconst dX12_parted_1 ?_
  refine r_putI dX12_parted_2 flX12_3 rfl (by first | assumption | exact hsh _ _ rfl) (by first | omega | (split <;> omega)) (fun q => by cases q) ?_
  skip
  have hok1 : jzok (sh, jup I 170 0 0, F) := jzok_I hok jin_lit0
  have hw0 : (jup I 170 0 0) 171 = I 171 := jup_ne _ _ _ (by decide)
  clear hok
  rw [← hw0] at hP hA
  try rw [← hw0]
  obtain ⟨I1, hI1⟩ : ∃ J, J = jup I 170 0 0 := ⟨_, rfl⟩
  rw [← hI1] at hok1 hw0 hP hA ⊢
  have hok := hok1
  rw [mEven_up hP]
  have hal := mAlive_set hP
  have h1 := mAcc_in hP hA (mAlive (I1 171))
  have loop : ∀ (m : Nat) (z e : Int) (o : Option jzV), z + m = mAlive (I1 171) → 0 ≤ z → e = mEven (I1 171) z.toNat → jW G mX12_parted (d + 4) (rI (if b = 0 then mOff (I1 171) (mEven (I1 171) (mAlive (I1 171)).toNat) else mEven (I1 171) (mAlive (I1 171)).toNat) (sh, I1, F)) 25 [some (jR (some 170)), some (jI b), some (jI (mAlive (I1 171))), some (jI (mAcc (I1 171) (mAlive (I1 171)))), some (jI e), some (jI (mOff (I1 171) e)), some (jI (z + 1)), o] [] (sh, I1, F) 0 0 := by
    intro m
    induction m with
    | zero =>
      intro z e o hz hz0 he
      have e9 : e = mEven (I1 171) (mAlive (I1 171)).toNat := by rw [he, show z = mAlive (I1 171) by omega]
      refine j_iload dX12_parted_25 rfl ?_
      refine j_iload_n dX12_parted_27 rfl ?_
      refine j_icmp_gt (tgt := 79) dX12_parted_28 rfl (by first | omega | (split <;> omega)) (by first | omega | (split <;> omega)) (fun c_28 => ?_) (fun c_28 => by exact absurd (by omega) c_28)
      refine j_iload_n dX12_parted_79 rfl ?_
      refine j_if_eq (tgt := 88) dX12_parted_80 rfl (by first | omega | (split <;> omega)) (fun c_80 => ?_) (fun c_80 => ?_)
      · refine j_iload dX12_parted_88 rfl ?_
        refine j_iret dX12_parted_90 rfl ?_
        subst e9
        exact rI_of (by first | rw [if_pos c_80] | rw [if_neg c_80]) rfl
      · refine j_iload dX12_parted_83 rfl ?_
        refine j_goto (tgt := 90) dX12_parted_85 rfl ?_
        refine j_iret dX12_parted_90 rfl ?_
        subst e9
        exact rI_of (by first | rw [if_pos c_80] | rw [if_neg c_80]) rfl
    | succ m ih =>
      intro z e o hz hz0 he
      have h2 := mAcc_in hP hA (z + 1)
      have h3 := mOff_in hP hA e
      have h4 := mOff_in hP hA (z + 1)
      have hst : mEven (I1 171) (z + 1).toNat = if vSub (I1 171) (z + 1) ∧ mOff (I1 171) (z + 1) < mOff (I1 171) e then z + 1 else e := by
        rw [he]; exact jfold_s _ _ hz0
      have ih2 := ih (z + 1)
      generalize hQ : rI (if b = 0 then mOff (I1 171) (mEven (I1 171) (mAlive (I1 171)).toNat) else mEven (I1 171) (mAlive (I1 171)).toNat) (sh, I1, F) = Q9 at ih2 ⊢
      refine j_iload dX12_parted_25 rfl ?_
      refine j_iload_n dX12_parted_27 rfl ?_
      refine j_icmp_gt (tgt := 79) dX12_parted_28 rfl (by first | omega | (split <;> omega)) (by first | omega | (split <;> omega)) (fun c_28 => by exact absurd c_28 (by omega)) (fun c_28 => ?_)
      refine j_iload_n dX12_parted_31 rfl ?_
      refine j_iconst dX12_parted_32 ?_
      refine j_aload_n dX12_parted_33 rfl ?_
      refine j_iload dX12_parted_34 rfl ?_
      refine r_cv1I dX12_parted_36 cvX12_390 (by decide) (by first | assumption | exact hsh _ _ rfl) (Nat.le_of_ble_eq_true rfl) (Nat.le_of_eq (Nat.zero_add _)) (Nat.le_of_eq (Nat.zero_add _)) (sm_accountsOf hsh hfx hP) ?_
      refine j_imul dX12_parted_39 ?_
      refine j_isub dX12_parted_40 ?_
      refine r_abs dX12_parted_41 lmX12_411 (Nat.le_of_ble_eq_true rfl) (by first | omega | (split <;> omega)) ?_
      rw [show (if 0 ≤ mAcc (I1 171) (mAlive (I1 171)) - 2 * mAcc (I1 171) (z + 1) then mAcc (I1 171) (mAlive (I1 171)) - 2 * mAcc (I1 171) (z + 1) else -(mAcc (I1 171) (mAlive (I1 171)) - 2 * mAcc (I1 171) (z + 1))) = mOff (I1 171) (z + 1) from rfl]
      refine j_istore dX12_parted_44 (by decide) ?_
      refine j_iload dX12_parted_46 rfl ?_
      refine j_iload_n dX12_parted_48 rfl ?_
      refine j_iconst dX12_parted_49 ?_
      refine r_ixor dX12_parted_50 (fun b_50 => ?_)
      refine r_iand dX12_parted_51 (fun b_51 => ?_)
      refine j_if_ne (tgt := 73) dX12_parted_52 rfl (by first | omega | (split <;> omega)) (fun c_52 => ?_) (fun c_52 => ?_)
      · refine j_iinc dX12_parted_73 rfl (by decide) ?_
        refine j_goto (tgt := 25) dX12_parted_76 rfl ?_
        first | exact ih2 _ _ (by omega) (by omega) (by rw [hst, if_pos (by omega)]) | exact ih2 _ _ (by omega) (by omega) (by rw [hst, if_neg (by omega)])
      · refine j_iload dX12_parted_55 rfl ?_
        refine j_iload dX12_parted_57 rfl ?_
        refine j_icmp_lt (tgt := 65) dX12_parted_59 rfl (by first | omega | (split <;> omega)) (by first | omega | (split <;> omega)) (fun c_59 => ?_) (fun c_59 => ?_)
        · refine j_iload dX12_parted_65 rfl ?_
          refine j_istore dX12_parted_67 (by decide) ?_
          refine j_iload dX12_parted_69 rfl ?_
          refine j_istore dX12_parted_71 (by decide) ?_
          refine j_iinc dX12_parted_73 rfl (by decide) ?_
          refine j_goto (tgt := 25) dX12_parted_76 rfl ?_
          first | exact ih2 _ _ (by omega) (by omega) (by rw [hst, if_pos (by omega)]) | exact ih2 _ _ (by omega) (by omega) (by rw [hst, if_neg (by omega)])
        · refine j_goto (tgt := 73) dX12_parted_62 rfl ?_
          refine j_iinc dX12_parted_73 rfl (by decide) ?_
          refine j_goto (tgt := 25) dX12_parted_76 rfl ?_
          first | exact ih2 _ _ (by omega) (by omega) (by rw [hst, if_pos (by omega)]) | exact ih2 _ _ (by omega) (by omega) (by rw [hst, if_neg (by omega)])
  have e0 : mOff (I1 171) 0 = mAcc (I1 171) (mAlive (I1 171)) := by
    unfold mOff
    rw [mAcc_0 hP, if_pos (by omega)]; omega
  have hl := loop (mAlive (I1 171)).toNat 0 0 none (by omega) (by omega) rfl
  rw [e0] at hl
  refine j_aload_n dX12_parted_5 rfl ?_
  refine r_cv0I dX12_parted_6 cvX12_393 (by decide) (by first | assumption | exact hsh _ _ rfl) (Nat.le_of_ble_eq_true rfl) (Nat.le_of_eq (Nat.zero_add _)) (Nat.le_of_eq (Nat.zero_add _)) (sm_alive hsh hfx hP) ?_
  refine j_istore_n dX12_parted_9 (by decide) ?_
  refine j_aload_n dX12_parted_10 rfl ?_
  refine j_iload_n dX12_parted_11 rfl ?_
  refine r_cv1I dX12_parted_12 cvX12_390 (by decide) (by first | assumption | exact hsh _ _ rfl) (Nat.le_of_ble_eq_true rfl) (Nat.le_of_eq (Nat.zero_add _)) (Nat.le_of_eq (Nat.zero_add _)) (sm_accountsOf hsh hfx hP) ?_
  refine j_istore_n dX12_parted_15 (by decide) ?_
  refine j_iconst dX12_parted_16 ?_
  refine j_istore dX12_parted_17 (by decide) ?_
  refine j_iload_n dX12_parted_19 rfl ?_
  refine j_istore dX12_parted_20 (by decide) ?_
  refine j_iconst dX12_parted_22 ?_
  refine j_istore dX12_parted_23 (by decide) ?_
  exact hl
theorem sc_partedBy (hs : StAt sh F s) (hR : Rp I s w) (hA : WfA w) {x : Int} (hx : 0 ≤ x ∧ x < 256) (h : vSub w x) : jS G (d + 1) mX3_partedBy [jR (some s), jI x] (sh, I, F) 0 0 (rI (mOff w x) (sh, I, F)) := by
  obtain ⟨g0, g1, g2, g3, g4, g5, g6, g7, g8, g9, e1, e2, e3, e4, e5, e6, e7, e8, e9⟩ := id hs
  obtain ⟨r0, r1, rP, rO, rA, r9, r10, r11, r12, r13, r14, r15, r16, r17⟩ := id hR
  have h1 := mAcc_in r1 hA (mAlive w)
  have h2 := mAcc_in r1 hA x
  have h3 := mAcc_diff r1 hx h
  refine jS_go [some (jR (some s)), some (jI x)] (by decide +kernel) rfl (by simp [jone]) (Nat.le_of_ble_eq_true rfl) rfl (fun hok => ?_)
  refine j_aload_n dX3_partedBy_0 rfl ?_
  refine j_iload_n dX3_partedBy_1 rfl ?_
  refine r_cv1I dX3_partedBy_2 cvX3_43 (by decide) (by first | assumption | exact hsh _ _ rfl) (Nat.le_of_ble_eq_true rfl) (Nat.le_of_eq (Nat.zero_add _)) (Nat.le_of_eq (Nat.zero_add _)) (sc_accountsOf hs hR) ?_
  refine j_aload_n dX3_partedBy_5 rfl ?_
  refine j_aload_n dX3_partedBy_6 rfl ?_
  refine r_getIE dX3_partedBy_7 flX3_30 (by first | assumption | exact hsh _ _ rfl) rA (fun b_7 => ?_)
  refine j_iload_n dX3_partedBy_10 rfl ?_
  refine j_iconst dX3_partedBy_11 ?_
  refine r_ixor dX3_partedBy_12 (fun b_12 => ?_)
  refine r_iand dX3_partedBy_13 (fun b_13 => ?_)
  refine r_cv1I dX3_partedBy_14 cvX3_43 (by decide) (by first | assumption | exact hsh _ _ rfl) (Nat.le_of_ble_eq_true rfl) (Nat.le_of_eq (Nat.zero_add _)) (Nat.le_of_eq (Nat.zero_add _)) (sc_accountsOf hs hR) ?_
  rw [h3]
  refine j_isub dX3_partedBy_17 ?_
  refine r_abs dX3_partedBy_18 lmX3_75 (Nat.le_of_ble_eq_true rfl) (by first | omega | (split <;> omega)) ?_
  refine j_iret dX3_partedBy_21 rfl ?_
  exact rI_of (by unfold mOff; split <;> split <;> omega) rfl
theorem sc_evenPart (hs : StAt sh F s) (hR : Rp I s w) (hA : WfA w) : jS G (d + 2) mX3_evenPart [jR (some s)] (sh, I, F) 0 0 (rI (mEven w (aAllS w).toNat) (sh, I, F)) := by
  obtain ⟨g0, g1, g2, g3, g4, g5, g6, g7, g8, g9, e1, e2, e3, e4, e5, e6, e7, e8, e9⟩ := id hs
  obtain ⟨r0, r1, rP, rO, rA, r9, r10, r11, r12, r13, r14, r15, r16, r17⟩ := id hR
  have hall := aAllS_in r1
  have hall2 : aAllS w = jShl 1 (aPe w) - 1 := rfl
  refine jS_go [some (jR (some s)), none, none] (by decide +kernel) rfl (by simp [jone]) (Nat.le_of_ble_eq_true rfl) rfl (fun hok => ?_)
  refine j_iconst dX3_evenPart_0 ?_
  refine j_istore_n dX3_evenPart_1 (by decide) ?_
  refine j_iconst dX3_evenPart_2 ?_
  refine j_istore_n dX3_evenPart_3 (by decide) ?_
  skip
  refine jW_loop 4 (fun z a => ((0 ≤ a ∧ a ≤ z) ∧ vSub w a) ∧ True) (fun t b => if vSub w (t + 1) ∧ mOff w (t + 1) < mOff w b then t + 1 else b) 0 (aAllS w) (fun z a => [some (jR (some s)), some (jI a), some (jI (z + 1))]) (fun _ _ => (sh, I, F)) hall.1 ⟨(mEven_in r1 (n := 0) (by omega)), trivial⟩ (fun z a h3 h4 h5 => by
    split
    · rename_i c; exact ⟨⟨by omega, c.1⟩, trivial⟩
    · exact ⟨⟨by omega, h5.1.2⟩, trivial⟩) (fun a ha hPa => ?_) (fun z a hz0 hz1 hPa ih => ?_)
  · refine j_iload_n dX3_evenPart_4 rfl ?_
    refine j_aload_n dX3_evenPart_5 rfl ?_
    refine r_cv0I dX3_evenPart_6 cvX3_26 (by decide) (by first | assumption | exact hsh _ _ rfl) (Nat.le_of_ble_eq_true rfl) (Nat.le_of_eq (Nat.zero_add _)) (Nat.le_of_eq (Nat.zero_add _)) (sc_everybody hs hR) ?_
    refine j_icmp_gt (tgt := 44) dX3_evenPart_9 rfl (by first | omega | (split <;> omega)) (by first | omega | (split <;> omega)) (fun c_9 => ?_) (fun c_9 => by exact absurd (by omega) c_9)
    refine j_iload_n dX3_evenPart_44 rfl ?_
    refine j_iret dX3_evenPart_45 rfl ?_
    exact rI_of ha rfl
  · have h3 := mOff_in r1 hA a
    have h4 := mOff_in r1 hA (z + 1)
    refine j_iload_n dX3_evenPart_4 rfl ?_
    refine j_aload_n dX3_evenPart_5 rfl ?_
    refine r_cv0I dX3_evenPart_6 cvX3_26 (by decide) (by first | assumption | exact hsh _ _ rfl) (Nat.le_of_ble_eq_true rfl) (Nat.le_of_eq (Nat.zero_add _)) (Nat.le_of_eq (Nat.zero_add _)) (sc_everybody hs hR) ?_
    refine j_icmp_gt (tgt := 44) dX3_evenPart_9 rfl (by first | omega | (split <;> omega)) (by first | omega | (split <;> omega)) (fun c_9 => by exact absurd c_9 (by omega)) (fun c_9 => ?_)
    refine j_iload_n dX3_evenPart_12 rfl ?_
    refine j_aload_n dX3_evenPart_13 rfl ?_
    refine r_getIE dX3_evenPart_14 flX3_30 (by first | assumption | exact hsh _ _ rfl) rA (fun b_14 => ?_)
    refine j_iconst dX3_evenPart_17 ?_
    refine r_ixor dX3_evenPart_18 (fun b_18 => ?_)
    refine r_iand dX3_evenPart_19 (fun b_19 => ?_)
    refine j_if_ne (tgt := 38) dX3_evenPart_20 rfl (by first | omega | (split <;> omega)) (fun c_20 => ?_) (fun c_20 => ?_)
    · refine j_iinc dX3_evenPart_38 rfl (by decide) ?_
      refine j_goto (tgt := 4) dX3_evenPart_41 rfl ?_
      first | (rw [if_pos (show vSub w (z + 1) ∧ mOff w (z + 1) < mOff w a by omega)] at ih; exact ih) | (rw [if_neg (show ¬ (vSub w (z + 1) ∧ mOff w (z + 1) < mOff w a) by omega)] at ih; exact ih)
    · refine j_aload_n dX3_evenPart_23 rfl ?_
      refine j_iload_n dX3_evenPart_24 rfl ?_
      refine r_cs2I dX3_evenPart_25 csX3_72 (Nat.le_of_ble_eq_true rfl) (Nat.le_of_eq (Nat.zero_add _)) (Nat.le_of_eq (Nat.zero_add _)) (sc_partedBy hs hR hA (by omega) (by omega)) ?_
      refine j_aload_n dX3_evenPart_28 rfl ?_
      refine j_iload_n dX3_evenPart_29 rfl ?_
      refine r_cs2I dX3_evenPart_30 csX3_72 (Nat.le_of_ble_eq_true rfl) (Nat.le_of_eq (Nat.zero_add _)) (Nat.le_of_eq (Nat.zero_add _)) (sc_partedBy hs hR hA (by omega) hPa.1.2) ?_
      refine j_icmp_ge (tgt := 38) dX3_evenPart_33 rfl (by first | omega | (split <;> omega)) (by first | omega | (split <;> omega)) (fun c_33 => ?_) (fun c_33 => ?_)
      · refine j_iinc dX3_evenPart_38 rfl (by decide) ?_
        refine j_goto (tgt := 4) dX3_evenPart_41 rfl ?_
        first | (rw [if_pos (show vSub w (z + 1) ∧ mOff w (z + 1) < mOff w a by omega)] at ih; exact ih) | (rw [if_neg (show ¬ (vSub w (z + 1) ∧ mOff w (z + 1) < mOff w a) by omega)] at ih; exact ih)
      · refine j_iload_n dX3_evenPart_36 rfl ?_
        refine j_istore_n dX3_evenPart_37 (by decide) ?_
        refine j_iinc dX3_evenPart_38 rfl (by decide) ?_
        refine j_goto (tgt := 4) dX3_evenPart_41 rfl ?_
        first | (rw [if_pos (show vSub w (z + 1) ∧ mOff w (z + 1) < mOff w a by omega)] at ih; exact ih) | (rw [if_neg (show ¬ (vSub w (z + 1) ∧ mOff w (z + 1) < mOff w a) by omega)] at ih; exact ih)
theorem cp_parted (hsh : ShOK sh) (hfx : FxOK F) (hst : StAt sh F 2) (hR : Rp I 2 w) (hA : WfA w) {b : Int} (hb : b = 0 ∨ b = 1) : jS G (d + 3) mX11_parted [jR (some 0), jI b] (sh, I, F) 0 0 (rI (if b = 0 then mOff w (mEven w (aAllS w).toNat) else mEven w (aAllS w).toNat) (sh, I, F)) := by
  have r1 := hR.2.1
  have hall := aAllS_in r1
  have he := mEven_in r1 (n := (aAllS w).toNat) (by omega)
  refine jS_go [some (jR (some 0)), some (jI b), none] (by decide +kernel) rfl (by simp [jone]) (Nat.le_of_ble_eq_true rfl) rfl (fun hok => ?_)
  refine j_aload_n dX11_parted_0 rfl ?_
  refine r_getS dX11_parted_1 flX11_20 (by first | assumption | exact hsh _ _ rfl) (fx_0_3 hfx) ?_
  refine r_cs1I dX11_parted_4 csX11_309 (Nat.le_of_ble_eq_true rfl) (Nat.le_of_eq (Nat.zero_add _)) (Nat.le_of_eq (Nat.zero_add _)) (sc_evenPart hst hR hA) ?_
  refine j_istore_n dX11_parted_7 (by decide) ?_
  refine j_iload_n dX11_parted_8 rfl ?_
  refine j_if_eq (tgt := 16) dX11_parted_9 rfl (by first | omega | (split <;> omega)) (fun c_9 => ?_) (fun c_9 => ?_)
  · refine j_aload_n dX11_parted_16 rfl ?_
    refine r_getS dX11_parted_17 flX11_20 (by first | assumption | exact hsh _ _ rfl) (fx_0_3 hfx) ?_
    refine j_iload_n dX11_parted_20 rfl ?_
    refine r_cs2I dX11_parted_21 csX11_312 (Nat.le_of_ble_eq_true rfl) (Nat.le_of_eq (Nat.zero_add _)) (Nat.le_of_eq (Nat.zero_add _)) (sc_partedBy hst hR hA (by omega) he.2) ?_
    refine j_iret dX11_parted_24 rfl ?_
    exact rI_of (by first | rw [if_pos (by omega)] | rw [if_neg (by omega)]) rfl
  · refine j_iload_n dX11_parted_12 rfl ?_
    refine j_goto (tgt := 24) dX11_parted_13 rfl ?_
    refine j_iret dX11_parted_24 rfl ?_
    exact rI_of (by first | rw [if_pos (by omega)] | rw [if_neg (by omega)]) rfl
end
