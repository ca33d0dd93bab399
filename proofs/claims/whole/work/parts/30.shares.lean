/-! SHARES, COST: both sides; the class's crowd -/
section
variable {G : jzG} {d : Nat} {sh : List (Nat × Nat)} {I : Nat → Int → Int} {F : Nat → Int → Option Nat}
abbrev aRm2 (w : Int → Int) (p q day : Int) : Int := aOf w p 0 + aOf w q 0 - aPaD w p day - aPaD w q day
theorem sc_roomOfTwo {s : Nat} {w : Int → Int} (hs : StAt sh F s) (hR : Rp I s w) {p q day : Int} (h0 : 0 ≤ p ∧ p < aPe w) (h1 : 0 ≤ q ∧ q < aPe w) (h2 : 0 ≤ day ∧ day ≤ 9999) : jS G (d + 1) mX1_roomOfTwo [jR (some s), jI p, jI q, jI day] (sh, I, F) 0 0 (rI (aRm2 w p q day) (sh, I, F)) := by
  obtain ⟨g0, g1, g2, g3, g4, g5, g6, g7, g8, g9, e1, e2, e3, e4, e5, e6, e7, e8, e9⟩ := id hs
  obtain ⟨r0, r1, rP, rO, rA, r9, r10, r11, r12, r13, r14, r15, r16, r17⟩ := id hR
  have u0 := (rP p h0.1 h0.2).1
  have v0 := (rP q h1.1 h1.2).1
  refine jS_go [some (jR (some s)), some (jI p), some (jI q), some (jI day)] (by decide +kernel) rfl (by simp [jone]) (Nat.le_of_ble_eq_true rfl) rfl (fun hok => ?_)
  refine j_aload_n dX1_roomOfTwo_0 rfl ?_
  refine r_getS dX1_roomOfTwo_1 flX1_48 (by first | assumption | exact hsh _ _ rfl) (by assumption) ?_
  refine j_iload_n dX1_roomOfTwo_4 rfl ?_
  refine r_ialoadE dX1_roomOfTwo_5 (by first | assumption | exact hsh _ _ rfl) (by first | omega | (split <;> omega)) (by first | omega | (split <;> omega)) u0 (fun b_5 => ?_)
  refine j_aload_n dX1_roomOfTwo_6 rfl ?_
  refine r_getS dX1_roomOfTwo_7 flX1_48 (by first | assumption | exact hsh _ _ rfl) (by assumption) ?_
  refine j_iload_n dX1_roomOfTwo_10 rfl ?_
  refine r_ialoadE dX1_roomOfTwo_11 (by first | assumption | exact hsh _ _ rfl) (by first | omega | (split <;> omega)) (by first | omega | (split <;> omega)) v0 (fun b_11 => ?_)
  refine j_iadd dX1_roomOfTwo_12 ?_
  refine j_aload_n dX1_roomOfTwo_13 rfl ?_
  refine j_iload_n dX1_roomOfTwo_14 rfl ?_
  refine j_iload_n dX1_roomOfTwo_15 rfl ?_
  refine r_cv2I dX1_roomOfTwo_16 cvX1_9 (by decide) (by first | assumption | exact hsh _ _ rfl) (Nat.le_of_ble_eq_true rfl) (Nat.le_of_eq (Nat.zero_add _)) (Nat.le_of_eq (Nat.zero_add _)) (sc_painOn hs hR h0 h2) ?_
  refine j_isub dX1_roomOfTwo_19 ?_
  refine j_aload_n dX1_roomOfTwo_20 rfl ?_
  refine j_iload_n dX1_roomOfTwo_21 rfl ?_
  refine j_iload_n dX1_roomOfTwo_22 rfl ?_
  refine r_cv2I dX1_roomOfTwo_23 cvX1_9 (by decide) (by first | assumption | exact hsh _ _ rfl) (Nat.le_of_ble_eq_true rfl) (Nat.le_of_eq (Nat.zero_add _)) (Nat.le_of_eq (Nat.zero_add _)) (sc_painOn hs hR h1 h2) ?_
  refine j_isub dX1_roomOfTwo_26 ?_
  refine j_iret dX1_roomOfTwo_27 rfl ?_
  exact rI_of rfl rfl
theorem sc_daysOfTwo {s : Nat} {w : Int → Int} (hs : StAt sh F s) (hR : Rp I s w) (hD : WfD w) (hB : WfB w) (hA : WfA w) {p q : Int} (h0 : 0 ≤ p ∧ p < aPe w) (h1 : 0 ≤ q ∧ q < aPe w) : jS G (d + 2) mX1_daysOfTwo [jR (some s), jI p, jI q] (sh, I, F) 0 0 (rI (mShares w p q) (sh, I, F)) := by
  obtain ⟨g0, g1, g2, g3, g4, g5, g6, g7, g8, g9, e1, e2, e3, e4, e5, e6, e7, e8, e9⟩ := id hs
  obtain ⟨r0, r1, rP, rO, rA, r9, r10, r11, r12, r13, r14, r15, r16, r17⟩ := id hR
  have u1 := (rP p h0.1 h0.2).2.1
  have v1 := (rP q h1.1 h1.2).2.1
  refine jS_go [some (jR (some s)), some (jI p), some (jI q), none, none] (by decide +kernel) rfl (by simp [jone]) (Nat.le_of_ble_eq_true rfl) rfl (fun hok => ?_)
  have loop : ∀ (m : Nat) (z : Int), z + m = 41 → 0 ≤ z → (∀ j, 0 ≤ j → j < z → ¬ mRest w p q j ≤ 0) → jW G mX1_daysOfTwo (d + 2) (rI (mShares w p q) (sh, I, F)) 17 [some (jR (some s)), some (jI p), some (jI q), some (jI (mRest w p q z)), some (jI z)] [] (sh, I, F) 0 0 := by
    intro m
    induction m with
    | zero =>
      intro z hz hz0 hj
      refine j_iload dX1_daysOfTwo_17 rfl ?_
      refine j_bipush dX1_daysOfTwo_19 (by decide) ?_
      refine j_icmp_gt (tgt := 56) dX1_daysOfTwo_21 rfl (by first | omega | (split <;> omega)) (by first | omega | (split <;> omega)) (fun c_21 => ?_) (fun c_21 => by exact absurd (by omega) c_21)
      refine j_iconst dX1_daysOfTwo_56 ?_
      refine j_iret dX1_daysOfTwo_57 rfl ?_
      exact rI_of (jfirst_none (fun j a b => hj j a (by omega))).symm rfl
    | succ m ih =>
      intro z hz hz0 hj
      have hr := mRest_in hD hB hA h0 h1 (z := z) (by omega)
      have a1 := aPaD_in hB h0 (day := w 3 + z) (by omega)
      have a2 := aPaD_in hB h1 (day := w 3 + z) (by omega)
      have b1 := (hB p h0.1 h0.2).1
      have b2 := (hB q h1.1 h1.2).1
      have hs1 := mRest_s (w := w) (p := p) (q := q) hz0
      have e2 : aOf w p 0 + aOf w q 0 - aTwo w p q (w 3 + z) = aRm2 w p q (min 9999 (w 3 + z)) := by
        unfold aTwo aRm2
        rw [aPaD_min, aPaD_min]; omega
      rw [e2] at hs1
      have e3 : aRm2 w p q (min 9999 (w 3 + z)) = aOf w p 0 + aOf w q 0 - aPaD w p (w 3 + z) - aPaD w q (w 3 + z) := by
        unfold aRm2
        rw [aPaD_min, aPaD_min]
      refine j_iload dX1_daysOfTwo_17 rfl ?_
      refine j_bipush dX1_daysOfTwo_19 (by decide) ?_
      refine j_icmp_gt (tgt := 56) dX1_daysOfTwo_21 rfl (by first | omega | (split <;> omega)) (by first | omega | (split <;> omega)) (fun c_21 => by exact absurd c_21 (by omega)) (fun c_21 => ?_)
      refine j_iload_n dX1_daysOfTwo_24 rfl ?_
      refine j_if_gt (tgt := 31) dX1_daysOfTwo_25 rfl (by first | omega | (split <;> omega)) (fun c_25 => ?_) (fun c_25 => ?_)
      · refine j_iload_n dX1_daysOfTwo_31 rfl ?_
        refine j_iconst dX1_daysOfTwo_32 ?_
        refine j_aload_n dX1_daysOfTwo_33 rfl ?_
        refine j_iload_n dX1_daysOfTwo_34 rfl ?_
        refine j_iload_n dX1_daysOfTwo_35 rfl ?_
        refine j_aload_n dX1_daysOfTwo_36 rfl ?_
        refine j_iload dX1_daysOfTwo_37 rfl ?_
        refine r_cv1I dX1_daysOfTwo_39 cvX1_41 (by decide) (by first | assumption | exact hsh _ _ rfl) (Nat.le_of_ble_eq_true rfl) (Nat.le_of_eq (Nat.zero_add _)) (Nat.le_of_eq (Nat.zero_add _)) (sc_dayIn hs hR (by omega) hD) ?_
        refine r_cs4I dX1_daysOfTwo_42 csX1_51 (Nat.le_of_ble_eq_true rfl) (Nat.le_of_eq (Nat.zero_add _)) (Nat.le_of_eq (Nat.zero_add _)) (sc_roomOfTwo hs hR h0 h1 (by omega)) ?_
        refine r_max dX1_daysOfTwo_45 lmX1_54 (Nat.le_of_ble_eq_true rfl) (by first | omega | (split <;> omega)) (by first | omega | (split <;> omega)) ?_
        refine j_isub dX1_daysOfTwo_48 ?_
        refine j_istore_n dX1_daysOfTwo_49 (by decide) ?_
        refine j_iinc dX1_daysOfTwo_50 rfl (by decide) ?_
        refine j_goto (tgt := 17) dX1_daysOfTwo_53 rfl ?_
        rw [← hs1]
        exact ih (z + 1) (by omega) (by omega) (fun j a b => by
          by_cases e : j = z
          · subst e; omega
          · exact hj j a (by omega))
      · refine j_iload dX1_daysOfTwo_28 rfl ?_
        refine j_iret dX1_daysOfTwo_30 rfl ?_
        exact rI_of (jfirst_hit hz0 (by omega) (by omega) hj).symm rfl
  refine j_aload_n dX1_daysOfTwo_0 rfl ?_
  refine r_getS dX1_daysOfTwo_1 flX1_27 (by first | assumption | exact hsh _ _ rfl) (by assumption) ?_
  refine j_iload_n dX1_daysOfTwo_4 rfl ?_
  refine r_ialoadE dX1_daysOfTwo_5 (by first | assumption | exact hsh _ _ rfl) (by first | omega | (split <;> omega)) (by first | omega | (split <;> omega)) u1 (fun b_5 => ?_)
  refine j_aload_n dX1_daysOfTwo_6 rfl ?_
  refine r_getS dX1_daysOfTwo_7 flX1_27 (by first | assumption | exact hsh _ _ rfl) (by assumption) ?_
  refine j_iload_n dX1_daysOfTwo_10 rfl ?_
  refine r_ialoadE dX1_daysOfTwo_11 (by first | assumption | exact hsh _ _ rfl) (by first | omega | (split <;> omega)) (by first | omega | (split <;> omega)) v1 (fun b_11 => ?_)
  refine j_iadd dX1_daysOfTwo_12 ?_
  refine j_istore_n dX1_daysOfTwo_13 (by decide) ?_
  refine j_iconst dX1_daysOfTwo_14 ?_
  refine j_istore dX1_daysOfTwo_15 (by decide) ?_
  exact loop 41 0 (by omega) (by omega) (fun j a b => by omega)
theorem mp_shares_0 (hsh : ShOK sh) (hfx : FxOK F) (hP : WfP (I 171)) (hD : WfD (I 171)) (hB : WfB (I 171)) (hA : WfA (I 171)) {p q : Int} (h1 : jin p) (h2 : jin q) (h3 : gP (I 171) p) (h4 : gP (I 171) q) (h5 : ¬ p = q) (h6 : aOf (I 171) p 3 = 0 ∧ aOf (I 171) q 3 = 0) : jS G (d + 4) mX12_shares [jR (some 170), jI p, jI q] (sh, I, F) 0 0 (rI (mShares (I 171) p q) (sh, jup I 170 0 0, F)) := by
  refine jS_go [some (jR (some 170)), some (jI p), some (jI q), none, none] (by decide +kernel) rfl (by simp [jone]) (Nat.le_of_ble_eq_true rfl) rfl (fun hok => ?_)
  refine j_aload_n dX12_shares_0 rfl ?_
  refine j_iconst dX12_shares_1 ?_
  refine r_putI dX12_shares_2 flX12_3 rfl (by first | assumption | exact hsh _ _ rfl) (by first | omega | (split <;> omega)) (fun q => by cases q) ?_
  skip
  have hok1 : jzok (sh, jup I 170 0 0, F) := jzok_I hok jin_lit0
  have hw0 : (jup I 170 0 0) 171 = I 171 := jup_ne _ _ _ (by decide)
  clear hok
  rw [← hw0] at hP hD hB hA h3 h4 h6
  try rw [← hw0]
  obtain ⟨I1, hI1⟩ : ∃ J, J = jup I 170 0 0 := ⟨_, rfl⟩
  rw [← hI1] at hok1 hw0 hP hD hB hA h3 h4 h6 ⊢
  have hok := hok1
  have hP2 := hP.2
  have h0 : 0 ≤ p ∧ p < aPe (I1 171) := by omega
  have h9 : 0 ≤ q ∧ q < aPe (I1 171) := by omega
  have loop : ∀ (m : Nat) (z : Int), z + m = 41 → 0 ≤ z → z ≤ 40 → (∀ j, 0 ≤ j → j < z → ¬ mRest (I1 171) p q j ≤ 0) → jW G mX12_shares (d + 4) (rI (mShares (I1 171) p q) (sh, I1, F)) 85 [some (jR (some 170)), some (jI p), some (jI q), some (jI (mRest (I1 171) p q z)), some (jI z)] [] (sh, I1, F) 0 0 := by
    intro m
    induction m with
    | zero =>
      intro z hz hz0 hz9 hj
      omega
    | succ m ih =>
      intro z hz hz0 hz9 hj
      have hr := mRest_in hD hB hA h0 h9 (z := z) (by omega)
      have a1 := aPaD_in hB h0 (day := I1 171 3 + z) (by omega)
      have a2 := aPaD_in hB h9 (day := I1 171 3 + z) (by omega)
      have b1 := (hB p h0.1 h0.2).1
      have b2 := (hB q h9.1 h9.2).1
      have hs1 := mRest_s (w := I1 171) (p := p) (q := q) hz0
      have e3 : aTwo (I1 171) p q (I1 171 3 + z) = aPaD (I1 171) p (I1 171 3 + z) + aPaD (I1 171) q (I1 171 3 + z) := rfl
      refine j_iload dX12_shares_85 rfl ?_
      refine j_bipush dX12_shares_87 (by decide) ?_
      refine j_icmp_ge (tgt := 138) dX12_shares_89 rfl (by first | omega | (split <;> omega)) (by first | omega | (split <;> omega)) (fun c_89 => ?_) (fun c_89 => ?_)
      · refine j_iload_n dX12_shares_138 rfl ?_
        refine j_if_le (tgt := 146) dX12_shares_139 rfl (by first | omega | (split <;> omega)) (fun c_139 => ?_) (fun c_139 => ?_)
        · refine j_iload dX12_shares_146 rfl ?_
          refine j_iret dX12_shares_148 rfl ?_
          first | exact rI_of (jfirst_hit hz0 (by omega) (by omega) hj).symm rfl | exact rI_of (jfirst_none (fun j a b => by by_cases e : j = z; (subst e; omega); exact hj j a (by omega))).symm rfl
        · refine j_iconst dX12_shares_142 ?_
          refine j_goto (tgt := 148) dX12_shares_143 rfl ?_
          refine j_iret dX12_shares_148 rfl ?_
          first | exact rI_of (jfirst_hit hz0 (by omega) (by omega) hj).symm rfl | exact rI_of (jfirst_none (fun j a b => by by_cases e : j = z; (subst e; omega); exact hj j a (by omega))).symm rfl
      · refine j_iload_n dX12_shares_92 rfl ?_
        refine j_if_le (tgt := 138) dX12_shares_93 rfl (by first | omega | (split <;> omega)) (fun c_93 => ?_) (fun c_93 => ?_)
        · refine j_iload_n dX12_shares_138 rfl ?_
          refine j_if_le (tgt := 146) dX12_shares_139 rfl (by first | omega | (split <;> omega)) (fun c_139 => ?_) (fun c_139 => ?_)
          · refine j_iload dX12_shares_146 rfl ?_
            refine j_iret dX12_shares_148 rfl ?_
            first | exact rI_of (jfirst_hit hz0 (by omega) (by omega) hj).symm rfl | exact rI_of (jfirst_none (fun j a b => by by_cases e : j = z; (subst e; omega); exact hj j a (by omega))).symm rfl
          · refine j_iconst dX12_shares_142 ?_
            refine j_goto (tgt := 148) dX12_shares_143 rfl ?_
            refine j_iret dX12_shares_148 rfl ?_
            first | exact rI_of (jfirst_hit hz0 (by omega) (by omega) hj).symm rfl | exact rI_of (jfirst_none (fun j a b => by by_cases e : j = z; (subst e; omega); exact hj j a (by omega))).symm rfl
        · refine j_iload_n dX12_shares_96 rfl ?_
          refine j_iconst dX12_shares_97 ?_
          refine j_aload_n dX12_shares_98 rfl ?_
          refine j_iload_n dX12_shares_99 rfl ?_
          refine j_iconst dX12_shares_100 ?_
          refine r_cv2J dX12_shares_101 cvX12_68 (by decide) (by first | assumption | exact hsh _ _ rfl) (Nat.le_of_ble_eq_true rfl) (Nat.le_of_eq (Nat.zero_add _)) (Nat.le_of_eq (Nat.zero_add _)) (sm_of hsh hfx (by omega)) (hok.2.1 171 _) (fun b_101 => ?_)
          refine j_aload_n dX12_shares_104 rfl ?_
          refine j_iload_n dX12_shares_105 rfl ?_
          refine j_iconst dX12_shares_106 ?_
          refine r_cv2J dX12_shares_107 cvX12_68 (by decide) (by first | assumption | exact hsh _ _ rfl) (Nat.le_of_ble_eq_true rfl) (Nat.le_of_eq (Nat.zero_add _)) (Nat.le_of_eq (Nat.zero_add _)) (sm_of hsh hfx (by omega)) (hok.2.1 171 _) (fun b_107 => ?_)
          refine j_iadd dX12_shares_110 ?_
          refine j_aload_n dX12_shares_111 rfl ?_
          refine j_iload_n dX12_shares_112 rfl ?_
          refine j_iload_n dX12_shares_113 rfl ?_
          refine j_aload_n dX12_shares_114 rfl ?_
          refine r_getS dX12_shares_115 flX12_13 (by first | assumption | exact hsh _ _ rfl) (fx_170_1 hfx) ?_
          refine j_iconst dX12_shares_118 ?_
          refine r_iaload dX12_shares_119 (by first | assumption | exact hsh _ _ rfl) (by first | omega | (split <;> omega)) (by first | omega | (split <;> omega)) (fun b_119 => ?_)
          refine j_iload dX12_shares_120 rfl ?_
          refine j_iadd dX12_shares_122 ?_
          refine r_cv3I dX12_shares_123 cvX12_402 (by decide) (by first | assumption | exact hsh _ _ rfl) (Nat.le_of_ble_eq_true rfl) (Nat.le_of_eq (Nat.zero_add _)) (Nat.le_of_eq (Nat.zero_add _)) (sm_painOfTwo hsh hfx (by omega) (by omega) (by omega)) ?_
          refine j_isub dX12_shares_126 ?_
          refine r_max dX12_shares_127 lmX12_280 (Nat.le_of_ble_eq_true rfl) (by first | omega | (split <;> omega)) (by first | omega | (split <;> omega)) ?_
          refine j_isub dX12_shares_130 ?_
          refine j_istore_n dX12_shares_131 (by decide) ?_
          refine j_iinc dX12_shares_132 rfl (by decide) ?_
          refine j_goto (tgt := 85) dX12_shares_135 rfl ?_
          rw [← hs1]
          exact ih (z + 1) (by omega) (by omega) (by omega) (fun j a b => by
            by_cases e : j = z
            · subst e; omega
            · exact hj j a (by omega))
  refine j_aload_n dX12_shares_5 rfl ?_
  refine j_aload_n dX12_shares_6 rfl ?_
  refine j_iload_n dX12_shares_7 rfl ?_
  refine r_cv1I dX12_shares_8 cvX12_335 (by decide) (by first | assumption | exact hsh _ _ rfl) (Nat.le_of_ble_eq_true rfl) (Nat.le_of_eq (Nat.zero_add _)) (Nat.le_of_eq (Nat.zero_add _)) (sm_noP0 hsh hfx hok h1 hP h3) ?_
  refine j_if_ne (tgt := 22) dX12_shares_11 rfl (by first | omega | (split <;> omega)) (fun c_11 => by exact absurd rfl c_11) (fun c_11 => ?_)
  refine j_aload_n dX12_shares_14 rfl ?_
  refine j_iload_n dX12_shares_15 rfl ?_
  refine r_cv1I dX12_shares_16 cvX12_335 (by decide) (by first | assumption | exact hsh _ _ rfl) (Nat.le_of_ble_eq_true rfl) (Nat.le_of_eq (Nat.zero_add _)) (Nat.le_of_eq (Nat.zero_add _)) (sm_noP0 hsh hfx hok h2 hP h4) ?_
  refine j_if_eq (tgt := 26) dX12_shares_19 rfl (by first | omega | (split <;> omega)) (fun c_19 => ?_) (fun c_19 => by exact absurd rfl c_19)
  refine j_iconst dX12_shares_26 ?_
  refine j_iconst dX12_shares_27 ?_
  refine r_cv2I dX12_shares_28 cvX12_253 (by decide) (by first | assumption | exact hsh _ _ rfl) (Nat.le_of_ble_eq_true rfl) (Nat.le_of_eq (Nat.zero_add _)) (Nat.le_of_eq (Nat.zero_add _)) (sm_thr0 hsh) ?_
  refine j_if_ne (tgt := 66) dX12_shares_31 rfl (by first | omega | (split <;> omega)) (fun c_31 => by exact absurd rfl c_31) (fun c_31 => ?_)
  refine j_aload_n dX12_shares_34 rfl ?_
  refine j_iload_n dX12_shares_35 rfl ?_
  refine j_iload_n dX12_shares_36 rfl ?_
  refine j_icmp_ne (tgt := 44) dX12_shares_37 rfl (by first | omega | (split <;> omega)) (by first | omega | (split <;> omega)) (fun c_37 => ?_) (fun c_37 => by exact absurd (by omega) c_37)
  refine j_iconst dX12_shares_44 ?_
  refine j_iconst dX12_shares_45 ?_
  refine r_cv2I dX12_shares_46 cvX12_253 (by decide) (by first | assumption | exact hsh _ _ rfl) (Nat.le_of_ble_eq_true rfl) (Nat.le_of_eq (Nat.zero_add _)) (Nat.le_of_eq (Nat.zero_add _)) (sm_thr0 hsh) ?_
  refine j_if_ne (tgt := 66) dX12_shares_49 rfl (by first | omega | (split <;> omega)) (fun c_49 => by exact absurd rfl c_49) (fun c_49 => ?_)
  refine j_aload_n dX12_shares_52 rfl ?_
  refine j_aload_n dX12_shares_53 rfl ?_
  refine j_iload_n dX12_shares_54 rfl ?_
  refine j_iload_n dX12_shares_55 rfl ?_
  refine r_cv2I dX12_shares_56 cvX12_399 (by decide) (by first | assumption | exact hsh _ _ rfl) (Nat.le_of_ble_eq_true rfl) (Nat.le_of_eq (Nat.zero_add _)) (Nat.le_of_eq (Nat.zero_add _)) (sm_areDead0 hsh hfx (by omega) (by omega) h6) ?_
  refine j_iconst dX12_shares_59 ?_
  refine r_cv2I dX12_shares_60 cvX12_253 (by decide) (by first | assumption | exact hsh _ _ rfl) (Nat.le_of_ble_eq_true rfl) (Nat.le_of_eq (Nat.zero_add _)) (Nat.le_of_eq (Nat.zero_add _)) (sm_thr0 hsh) ?_
  refine j_if_eq (tgt := 68) dX12_shares_63 rfl (by first | omega | (split <;> omega)) (fun c_63 => ?_) (fun c_63 => by exact absurd rfl c_63)
  refine j_aload_n dX12_shares_68 rfl ?_
  refine j_iload_n dX12_shares_69 rfl ?_
  refine j_iconst dX12_shares_70 ?_
  refine r_cv2J dX12_shares_71 cvX12_68 (by decide) (by first | assumption | exact hsh _ _ rfl) (Nat.le_of_ble_eq_true rfl) (Nat.le_of_eq (Nat.zero_add _)) (Nat.le_of_eq (Nat.zero_add _)) (sm_of hsh hfx (by omega)) (hok.2.1 171 _) (fun b_71 => ?_)
  refine j_aload_n dX12_shares_74 rfl ?_
  refine j_iload_n dX12_shares_75 rfl ?_
  refine j_iconst dX12_shares_76 ?_
  refine r_cv2J dX12_shares_77 cvX12_68 (by decide) (by first | assumption | exact hsh _ _ rfl) (Nat.le_of_ble_eq_true rfl) (Nat.le_of_eq (Nat.zero_add _)) (Nat.le_of_eq (Nat.zero_add _)) (sm_of hsh hfx (by omega)) (hok.2.1 171 _) (fun b_77 => ?_)
  refine j_iadd dX12_shares_80 ?_
  refine j_istore_n dX12_shares_81 (by decide) ?_
  refine j_iconst dX12_shares_82 ?_
  refine j_istore dX12_shares_83 (by decide) ?_
  exact loop 41 0 (by omega) (by omega) (by omega) (fun j a b => by omega)
def mCost (w : Int → Int) (p n : Int) : Int := jfold (fun k a => if aOf w p 3 = 0 ∧ (min 9999 (w 3 + k) + 1) % 10 = 0 then aRate w a else a) (aOf w p 1) n.toNat - aOf w p 1
theorem sm_isRateDay (hsh : ShOK sh) {x : Int} (h : 0 ≤ x ∧ x ≤ 9999) : jS G d mX12_isRateDay [jR (some 170), jI x] (sh, I, F) 0 0 (rI (if (x + 1) % 10 = 0 then 1 else 0) (sh, I, F)) := by
  refine jS_go [some (jR (some 170)), some (jI x)] (by decide +kernel) rfl (by simp [jone]) (Nat.le_of_ble_eq_true rfl) rfl (fun hok => ?_)
  refine j_iload_n dX12_isRateDay_0 rfl ?_
  refine j_iconst dX12_isRateDay_1 ?_
  refine j_iadd dX12_isRateDay_2 ?_
  refine j_bipush dX12_isRateDay_3 (by decide) ?_
  refine r_iremN dX12_isRateDay_5 (by first | omega | (split <;> omega)) (by first | omega | (split <;> omega)) ?_
  refine j_if_ne (tgt := 13) dX12_isRateDay_6 rfl (by first | omega | (split <;> omega)) (fun c_6 => ?_) (fun c_6 => ?_)
  · refine j_iconst dX12_isRateDay_13 ?_
    refine j_zret dX12_isRateDay_14 rfl (by omega) ?_
    exact rI_of (by split <;> omega) rfl
  · refine j_iconst dX12_isRateDay_9 ?_
    refine j_goto (tgt := 14) dX12_isRateDay_10 rfl ?_
    refine j_zret dX12_isRateDay_14 rfl (by omega) ?_
    exact rI_of (by split <;> omega) rfl
theorem sm_withRate (hsh : ShOK sh) (hfx : FxOK F) {a : Int} (h1 : 0 ≤ a ∧ a ≤ 99999) (h2 : 0 ≤ I 171 5 ∧ I 171 5 ≤ 20) : jS G d mX12_withRate [jR (some 170), jI a] (sh, I, F) 0 0 (rI (aRate (I 171) a) (sh, I, F)) := by
  have hm : 0 ≤ a * I 171 5 ∧ a * I 171 5 ≤ 2000000 := by
    have h3 : a * I 171 5 ≤ 99999 * 20 := Int.mul_le_mul h1.2 h2.2 h2.1 (by omega)
    exact ⟨Int.mul_nonneg h1.1 h2.1, by omega⟩
  refine jS_go [some (jR (some 170)), some (jI a)] (by decide +kernel) rfl (by simp [jone]) (Nat.le_of_ble_eq_true rfl) rfl (fun hok => ?_)
  refine j_ldc (n := 99999) dX12_withRate_0 kcX12_140 ?_
  refine j_iload_n dX12_withRate_2 rfl ?_
  refine j_iload_n dX12_withRate_3 rfl ?_
  refine j_aload_n dX12_withRate_4 rfl ?_
  refine r_getS dX12_withRate_5 flX12_13 (by first | assumption | exact hsh _ _ rfl) (fx_170_1 hfx) ?_
  refine j_iconst dX12_withRate_8 ?_
  refine r_iaload dX12_withRate_9 (by first | assumption | exact hsh _ _ rfl) (by first | omega | (split <;> omega)) (by first | omega | (split <;> omega)) (fun b_9 => ?_)
  refine j_imul dX12_withRate_10 ?_
  refine j_bipush dX12_withRate_11 (by decide) ?_
  refine j_iadd dX12_withRate_13 ?_
  refine j_bipush dX12_withRate_14 (by decide) ?_
  refine r_idivN dX12_withRate_16 (by first | omega | (split <;> omega)) (by first | omega | (split <;> omega)) ?_
  refine j_iadd dX12_withRate_17 ?_
  refine r_min dX12_withRate_18 lmX12_275 (Nat.le_of_ble_eq_true rfl) (by first | omega | (split <;> omega)) (by first | omega | (split <;> omega)) ?_
  refine j_iret dX12_withRate_21 rfl ?_
  exact rI_of rfl rfl
theorem aRate_in {w : Int → Int} {a : Int} (h1 : 0 ≤ a ∧ a ≤ 99999) (h2 : 0 ≤ w 5 ∧ w 5 ≤ 20) : 0 ≤ aRate w a ∧ aRate w a ≤ 99999 := by
  have hm : 0 ≤ a * w 5 := Int.mul_nonneg h1.1 h2.1
  unfold aRate
  omega
abbrev WfR (w : Int → Int) : Prop := 0 ≤ w 5 ∧ w 5 ≤ 20
theorem mp_cost_0 (hsh : ShOK sh) (hfx : FxOK F) (hP : WfP (I 171)) (hD : WfD (I 171)) (hA : WfA (I 171)) (hRt : WfR (I 171)) {p n : Int} (h1 : jin p) (h2 : gP (I 171) p) (h3 : 0 ≤ n ∧ n ≤ 60) : jS G (d + 3) mX12_cost [jR (some 170), jI p, jI n] (sh, I, F) 0 0 (rI (mCost (I 171) p n) (sh, jup I 170 0 0, F)) := by
  refine jS_go [some (jR (some 170)), some (jI p), some (jI n), none, none] (by decide +kernel) rfl (by simp [jone]) (Nat.le_of_ble_eq_true rfl) rfl (fun hok => ?_)
  refine j_aload_n dX12_cost_0 rfl ?_
  refine j_iconst dX12_cost_1 ?_
  refine r_putI dX12_cost_2 flX12_3 rfl (by first | assumption | exact hsh _ _ rfl) (by first | omega | (split <;> omega)) (fun q => by cases q) ?_
  skip
  have hok1 : jzok (sh, jup I 170 0 0, F) := jzok_I hok jin_lit0
  have hw0 : (jup I 170 0 0) 171 = I 171 := jup_ne _ _ _ (by decide)
  clear hok
  rw [← hw0] at hP hD hA hRt h2
  try rw [← hw0]
  obtain ⟨I1, hI1⟩ : ∃ J, J = jup I 170 0 0 := ⟨_, rfl⟩
  rw [← hI1] at hok1 hw0 hP hD hA hRt h2 ⊢
  have hok := hok1
  have hP2 := hP.2
  have hAp := hA p h2.1 (by omega)
  refine j_aload_n dX12_cost_5 rfl ?_
  refine j_aload_n dX12_cost_6 rfl ?_
  refine j_iload_n dX12_cost_7 rfl ?_
  refine r_cv1I dX12_cost_8 cvX12_335 (by decide) (by first | assumption | exact hsh _ _ rfl) (Nat.le_of_ble_eq_true rfl) (Nat.le_of_eq (Nat.zero_add _)) (Nat.le_of_eq (Nat.zero_add _)) (sm_noP0 hsh hfx hok h1 hP h2) ?_
  refine j_iconst dX12_cost_11 ?_
  refine r_cv2I dX12_cost_12 cvX12_253 (by decide) (by first | assumption | exact hsh _ _ rfl) (Nat.le_of_ble_eq_true rfl) (Nat.le_of_eq (Nat.zero_add _)) (Nat.le_of_eq (Nat.zero_add _)) (sm_thr0 hsh) ?_
  refine j_if_ne (tgt := 41) dX12_cost_15 rfl (by first | omega | (split <;> omega)) (fun c_15 => by exact absurd rfl c_15) (fun c_15 => ?_)
  refine j_aload_n dX12_cost_18 rfl ?_
  refine j_iload_n dX12_cost_19 rfl ?_
  refine j_iconst dX12_cost_20 ?_
  refine j_bipush dX12_cost_21 (by decide) ?_
  refine r_cs3I dX12_cost_23 csX12_78 (Nat.le_of_ble_eq_true rfl) (Nat.le_of_eq (Nat.zero_add _)) (Nat.le_of_eq (Nat.zero_add _)) (sm_in1 (by omega) (by omega) (by omega) h3) ?_
  refine j_if_ne (tgt := 33) dX12_cost_26 rfl (by first | omega | (split <;> omega)) (fun c_26 => ?_) (fun c_26 => by exact absurd (by decide) c_26)
  refine j_iconst dX12_cost_33 ?_
  refine j_iconst dX12_cost_34 ?_
  refine r_cv2I dX12_cost_35 cvX12_253 (by decide) (by first | assumption | exact hsh _ _ rfl) (Nat.le_of_ble_eq_true rfl) (Nat.le_of_eq (Nat.zero_add _)) (Nat.le_of_eq (Nat.zero_add _)) (sm_thr0 hsh) ?_
  refine j_if_eq (tgt := 43) dX12_cost_38 rfl (by first | omega | (split <;> omega)) (fun c_38 => ?_) (fun c_38 => by exact absurd rfl c_38)
  refine j_aload_n dX12_cost_43 rfl ?_
  refine j_iload_n dX12_cost_44 rfl ?_
  refine j_iconst dX12_cost_45 ?_
  refine r_cv2J dX12_cost_46 cvX12_68 (by decide) (by first | assumption | exact hsh _ _ rfl) (Nat.le_of_ble_eq_true rfl) (Nat.le_of_eq (Nat.zero_add _)) (Nat.le_of_eq (Nat.zero_add _)) (sm_of hsh hfx (by omega)) (hok.2.1 171 _) (fun b_46 => ?_)
  refine j_istore_n dX12_cost_49 (by decide) ?_
  refine j_iconst dX12_cost_50 ?_
  refine j_istore dX12_cost_51 (by decide) ?_
  skip
  refine jW_loop 53 (fun _ a => 0 ≤ a ∧ a ≤ 99999) (fun k a => if aOf (I1 171) p 3 = 0 ∧ (min 9999 (I1 171 3 + k) + 1) % 10 = 0 then aRate (I1 171) a else a) (aOf (I1 171) p 1) n (fun z a => [some (jR (some 170)), some (jI p), some (jI n), some (jI a), some (jI z)]) (fun _ _ => (sh, I1, F)) h3.1 hAp (fun z a h4 h5 h6 => by have := aRate_in (w := I1 171) h6 hRt; split <;> omega) (fun a ha hPa => ?_) (fun z a hz0 hz1 hPa ih => ?_)
  · refine j_iload dX12_cost_53 rfl ?_
    refine j_iload_n dX12_cost_55 rfl ?_
    refine j_icmp_ge (tgt := 105) dX12_cost_56 rfl (by first | omega | (split <;> omega)) (by first | omega | (split <;> omega)) (fun c_56 => ?_) (fun c_56 => by exact absurd (by omega) c_56)
    refine j_iload_n dX12_cost_105 rfl ?_
    refine j_aload_n dX12_cost_106 rfl ?_
    refine j_iload_n dX12_cost_107 rfl ?_
    refine j_iconst dX12_cost_108 ?_
    refine r_cv2J dX12_cost_109 cvX12_68 (by decide) (by first | assumption | exact hsh _ _ rfl) (Nat.le_of_ble_eq_true rfl) (Nat.le_of_eq (Nat.zero_add _)) (Nat.le_of_eq (Nat.zero_add _)) (sm_of hsh hfx (by omega)) (hok.2.1 171 _) (fun b_109 => ?_)
    refine j_isub dX12_cost_112 ?_
    refine j_iret dX12_cost_113 rfl ?_
    exact rI_of (by rw [ha]; rfl) rfl
  · refine j_iload dX12_cost_53 rfl ?_
    refine j_iload_n dX12_cost_55 rfl ?_
    refine j_icmp_ge (tgt := 105) dX12_cost_56 rfl (by first | omega | (split <;> omega)) (by first | omega | (split <;> omega)) (fun c_56 => by exact absurd c_56 (by omega)) (fun c_56 => ?_)
    refine j_aload_n dX12_cost_59 rfl ?_
    refine j_iload_n dX12_cost_60 rfl ?_
    refine r_cv1I dX12_cost_61 cvX12_296 (by decide) (by first | assumption | exact hsh _ _ rfl) (Nat.le_of_ble_eq_true rfl) (Nat.le_of_eq (Nat.zero_add _)) (Nat.le_of_eq (Nat.zero_add _)) (sm_isAlive hsh hfx (by omega)) ?_
    refine j_if_eq (tgt := 97) dX12_cost_64 rfl (by first | omega | (split <;> omega)) (fun c_64 => ?_) (fun c_64 => ?_)
    · rw [ite0] at c_64
      refine j_iload_n dX12_cost_97 rfl ?_
      refine j_istore_n dX12_cost_98 (by decide) ?_
      refine j_iinc dX12_cost_99 rfl (by decide) ?_
      refine j_goto (tgt := 53) dX12_cost_102 rfl ?_
      first | (rw [if_pos (by omega)] at ih; exact ih) | (rw [if_neg (by omega)] at ih; exact ih)
    · rw [ite0] at c_64
      refine j_aload_n dX12_cost_67 rfl ?_
      refine j_sipush dX12_cost_68 (by decide) ?_
      refine j_aload_n dX12_cost_71 rfl ?_
      refine r_getS dX12_cost_72 flX12_13 (by first | assumption | exact hsh _ _ rfl) (fx_170_1 hfx) ?_
      refine j_iconst dX12_cost_75 ?_
      refine r_iaload dX12_cost_76 (by first | assumption | exact hsh _ _ rfl) (by first | omega | (split <;> omega)) (by first | omega | (split <;> omega)) (fun b_76 => ?_)
      refine j_iload dX12_cost_77 rfl ?_
      refine j_iadd dX12_cost_79 ?_
      refine r_min dX12_cost_80 lmX12_275 (Nat.le_of_ble_eq_true rfl) (by first | omega | (split <;> omega)) (by first | omega | (split <;> omega)) ?_
      refine r_cv1I dX12_cost_83 cvX12_306 (by decide) (by first | assumption | exact hsh _ _ rfl) (Nat.le_of_ble_eq_true rfl) (Nat.le_of_eq (Nat.zero_add _)) (Nat.le_of_eq (Nat.zero_add _)) (sm_isRateDay hsh (by omega)) ?_
      refine j_if_eq (tgt := 97) dX12_cost_86 rfl (by first | omega | (split <;> omega)) (fun c_86 => ?_) (fun c_86 => ?_)
      · rw [ite0] at c_86
        refine j_iload_n dX12_cost_97 rfl ?_
        refine j_istore_n dX12_cost_98 (by decide) ?_
        refine j_iinc dX12_cost_99 rfl (by decide) ?_
        refine j_goto (tgt := 53) dX12_cost_102 rfl ?_
        first | (rw [if_pos (by omega)] at ih; exact ih) | (rw [if_neg (by omega)] at ih; exact ih)
      · rw [ite0] at c_86
        refine j_aload_n dX12_cost_89 rfl ?_
        refine j_iload_n dX12_cost_90 rfl ?_
        refine r_cv1I dX12_cost_91 cvX12_309 (by decide) (by first | assumption | exact hsh _ _ rfl) (Nat.le_of_ble_eq_true rfl) (Nat.le_of_eq (Nat.zero_add _)) (Nat.le_of_eq (Nat.zero_add _)) (sm_withRate hsh hfx hPa hRt) ?_
        refine j_goto (tgt := 98) dX12_cost_94 rfl ?_
        refine j_istore_n dX12_cost_98 (by decide) ?_
        refine j_iinc dX12_cost_99 rfl (by decide) ?_
        refine j_goto (tgt := 53) dX12_cost_102 rfl ?_
        first | (rw [if_pos (by omega)] at ih; exact ih) | (rw [if_neg (by omega)] at ih; exact ih)
theorem sc_interestOver {s : Nat} {w : Int → Int} (hs : StAt sh F s) (hR : Rp I s w) (hD : WfD w) (hA : WfA w) (hRt : WfR w) {p n : Int} (h0 : 0 ≤ p ∧ p < aPe w) (h3 : 0 ≤ n ∧ n ≤ 60) (h4 : aOf w p 3 = 0) : jS G (d + 1) mX1_interestOver [jR (some s), jI p, jI n] (sh, I, F) 0 0 (rI (mCost w p n) (sh, I, F)) := by
  obtain ⟨g0, g1, g2, g3, g4, g5, g6, g7, g8, g9, e1, e2, e3, e4, e5, e6, e7, e8, e9⟩ := id hs
  obtain ⟨r0, r1, rP, rO, rA, r9, r10, r11, r12, r13, r14, r15, r16, r17⟩ := id hR
  have hAp := hA p h0.1 h0.2
  have u1 := (rP p h0.1 h0.2).2.1
  refine jS_go [some (jR (some s)), some (jI p), some (jI n), none, none] (by decide +kernel) rfl (by simp [jone]) (Nat.le_of_ble_eq_true rfl) rfl (fun hok => ?_)
  refine j_aload_n dX1_interestOver_0 rfl ?_
  refine r_getS dX1_interestOver_1 flX1_27 (by first | assumption | exact hsh _ _ rfl) (by assumption) ?_
  refine j_iload_n dX1_interestOver_4 rfl ?_
  refine r_ialoadE dX1_interestOver_5 (by first | assumption | exact hsh _ _ rfl) (by first | omega | (split <;> omega)) (by first | omega | (split <;> omega)) u1 (fun b_5 => ?_)
  refine j_istore_n dX1_interestOver_6 (by decide) ?_
  refine j_iconst dX1_interestOver_7 ?_
  refine j_istore dX1_interestOver_8 (by decide) ?_
  skip
  refine jW_loop 10 (fun _ a => 0 ≤ a ∧ a ≤ 99999) (fun k a => if aOf w p 3 = 0 ∧ (min 9999 (w 3 + k) + 1) % 10 = 0 then aRate w a else a) (aOf w p 1) n (fun z a => [some (jR (some s)), some (jI p), some (jI n), some (jI a), some (jI z)]) (fun _ _ => (sh, I, F)) h3.1 hAp (fun z a h4 h5 h6 => by have := aRate_in (w := w) h6 hRt; split <;> omega) (fun a ha hPa => ?_) (fun z a hz0 hz1 hPa ih => ?_)
  · refine j_iload dX1_interestOver_10 rfl ?_
    refine j_iload_n dX1_interestOver_12 rfl ?_
    refine j_icmp_ge (tgt := 42) dX1_interestOver_13 rfl (by first | omega | (split <;> omega)) (by first | omega | (split <;> omega)) (fun c_13 => ?_) (fun c_13 => by exact absurd (by omega) c_13)
    refine j_iload_n dX1_interestOver_42 rfl ?_
    refine j_aload_n dX1_interestOver_43 rfl ?_
    refine r_getS dX1_interestOver_44 flX1_27 (by first | assumption | exact hsh _ _ rfl) (by assumption) ?_
    refine j_iload_n dX1_interestOver_47 rfl ?_
    refine r_ialoadE dX1_interestOver_48 (by first | assumption | exact hsh _ _ rfl) (by first | omega | (split <;> omega)) (by first | omega | (split <;> omega)) u1 (fun b_48 => ?_)
    refine j_isub dX1_interestOver_49 ?_
    refine j_iret dX1_interestOver_50 rfl ?_
    exact rI_of (by rw [ha]; rfl) rfl
  · refine j_iload dX1_interestOver_10 rfl ?_
    refine j_iload_n dX1_interestOver_12 rfl ?_
    refine j_icmp_ge (tgt := 42) dX1_interestOver_13 rfl (by first | omega | (split <;> omega)) (by first | omega | (split <;> omega)) (fun c_13 => by exact absurd c_13 (by omega)) (fun c_13 => ?_)
    refine j_aload_n dX1_interestOver_16 rfl ?_
    refine j_iload dX1_interestOver_17 rfl ?_
    refine r_cv1I dX1_interestOver_19 cvX1_41 (by decide) (by first | assumption | exact hsh _ _ rfl) (Nat.le_of_ble_eq_true rfl) (Nat.le_of_eq (Nat.zero_add _)) (Nat.le_of_eq (Nat.zero_add _)) (sc_dayIn hs hR (by omega) hD) ?_
    refine j_iconst dX1_interestOver_22 ?_
    refine j_iadd dX1_interestOver_23 ?_
    refine j_bipush dX1_interestOver_24 (by decide) ?_
    refine r_iremN dX1_interestOver_26 (by first | omega | (split <;> omega)) (by first | omega | (split <;> omega)) ?_
    refine j_if_ne (tgt := 36) dX1_interestOver_27 rfl (by first | omega | (split <;> omega)) (fun c_27 => ?_) (fun c_27 => ?_)
    · refine j_iinc dX1_interestOver_36 rfl (by decide) ?_
      refine j_goto (tgt := 10) dX1_interestOver_39 rfl ?_
      first | (rw [if_pos (by omega)] at ih; exact ih) | (rw [if_neg (by omega)] at ih; exact ih)
    · refine j_aload_n dX1_interestOver_30 rfl ?_
      refine j_iload_n dX1_interestOver_31 rfl ?_
      refine r_cv1I dX1_interestOver_32 cvX1_45 (by decide) (by first | assumption | exact hsh _ _ rfl) (Nat.le_of_ble_eq_true rfl) (Nat.le_of_eq (Nat.zero_add _)) (Nat.le_of_eq (Nat.zero_add _)) (sc_withInterest hs hR hPa hRt) ?_
      refine j_istore_n dX1_interestOver_35 (by decide) ?_
      refine j_iinc dX1_interestOver_36 rfl (by decide) ?_
      refine j_goto (tgt := 10) dX1_interestOver_39 rfl ?_
      first | (rw [if_pos (by omega)] at ih; exact ih) | (rw [if_neg (by omega)] at ih; exact ih)
end
