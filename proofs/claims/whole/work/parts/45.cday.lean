/-! A DAY OF THE CLASS -/
section
variable {G : jzG} {d : Nat} {sh : List (Nat × Nat)} {I : Nat → Int → Int} {F : Nat → Int → Option Nat} {s : Nat} {w : Int → Int}
theorem sc_settle (hsh : ShOK sh) (hfx : FxOK F) (hs : StAt sh F s) (hs9 : s + 9 < 154) (hR : Rp I s w) (hW : WF w) {p pain wet : Int} (hp : 0 ≤ p ∧ p < aPe w) (h1 : I 161 p = pain) (h2 : 0 ≤ pain ∧ pain ≤ 100) (e162 : I 162 p = mPut w p pain wet) (e163 : I 163 p = mDrw w p pain wet) : jS G (d + 5) mX2_settle [jR (some 160), jR (some s), jI p] (sh, I, F) 0 0 (rEV sh F (fun J => Rp J s (mLive w p pain wet) ∧ J 164 = wup (I 164) p (mFeltV w p pain wet) ∧ ∀ a, a ≠ s + 3 → a ≠ s + 4 → a ≠ 164 → J a = I a)) := by
  obtain ⟨g0, g1, g2, g3, g4, g5, g6, g7, g8, g9, e1, e2, e3, e4, e5, e6, e7, e8, e9⟩ := id hs
  obtain ⟨r0, r1, rP, rO, rA, r9, r10, r11, r12, r13, r14, r15, r16, r17⟩ := id hR
  have uJ := rP p hp.1 hp.2
  have hq := hW.2.1.2.2 p hp.1 hp.2
  have hpu := mPut_in hW (wet := wet) hp h2
  have hdr := mDrw_in hW (pain := pain) (wet := wet) hp
  have hfe := mFeltV_in hW (wet := wet) hp h2
  refine jS_go [some (jR (some 160)), some (jR (some s)), some (jI p), none, none, none] (by decide +kernel) rfl (by simp [jone]) (Nat.le_of_ble_eq_true rfl) rfl (fun hok => ?_)
  generalize hpu9 : mPut w p pain wet = pu at *
  generalize hdr9 : mDrw w p pain wet = dr at *
  have hfe9 : mFeltV w p pain wet = pain - pu + dr - min (aOf w p 2) dr + max 0 (aOf w p 1 + pu - dr - 99999) := by unfold mFeltV mUnf mRes; rw [hpu9, hdr9]; omega
  have hlv9 : mLive w p pain wet = wAF w p (aOf w p 1 + pu - dr - max 0 (aOf w p 1 + pu - dr - 99999)) (aOf w p 2 - min (aOf w p 2) dr) := by
    unfold mLive mUnf mRes
    rw [hpu9, hdr9, show min 99999 (aOf w p 1 - dr + pu) = aOf w p 1 + pu - dr - max 0 (aOf w p 1 + pu - dr - 99999) by omega, show min dr (aOf w p 2) = min (aOf w p 2) dr by omega]
  obtain ⟨J1, hJ1⟩ : ∃ K, K = jup I (s + 4) p (aOf w p 2 - min (aOf w p 2) dr) := ⟨_, rfl⟩
  have m1 : ∀ a, a ≠ s + 4 → J1 a = I a := fun a ha => by rw [hJ1, jup_ne _ _ _ ha]
  have hR1 : Rp J1 s (wup w (12 + 13 * p + 2) (aOf w p 2 - min (aOf w p 2) dr)) := by rw [hJ1]; exact Rp_one hR hp (Or.inr (Or.inl ⟨rfl, rfl⟩))
  have a58 : J1 (s + 3) p = aOf w p 1 := by rw [m1 _ (by omega)]; exact uJ.2.1
  have a64 : J1 162 p = pu := by rw [m1 _ (by omega)]; exact e162
  have a71 : J1 163 p = dr := by rw [m1 _ (by omega)]; exact e163
  obtain ⟨J2, hJ2⟩ : ∃ K, K = jup J1 (s + 3) p (aOf w p 1 + pu - dr - max 0 (aOf w p 1 + pu - dr - 99999)) := ⟨_, rfl⟩
  have m2 : ∀ a, a ≠ s + 3 → a ≠ s + 4 → J2 a = I a := fun a ha hb => by rw [hJ2, jup_ne _ _ _ ha, m1 _ hb]
  have hR2 : Rp J2 s (mLive w p pain wet) := by rw [hlv9, hJ2]; exact Rp_one hR1 (by rw [show aPe (wup w (12 + 13 * p + 2) (aOf w p 2 - min (aOf w p 2) dr)) = aPe w from wup_ne _ _ (by omega)]; exact hp) (Or.inl ⟨rfl, rfl⟩)
  have a107 : J2 161 p = pain := by rw [m2 _ (by omega) (by omega)]; exact h1
  have a113 : J2 162 p = pu := by rw [m2 _ (by omega) (by omega)]; exact e162
  have a120 : J2 163 p = dr := by rw [m2 _ (by omega) (by omega)]; exact e163
  refine j_aload_n dX2_settle_0 rfl ?_
  refine r_getS dX2_settle_1 flX2_139 (by first | assumption | exact hsh _ _ rfl) (by assumption) ?_
  refine j_iload_n dX2_settle_4 rfl ?_
  refine r_ialoadE dX2_settle_5 (by first | assumption | exact hsh _ _ rfl) (by first | omega | (split <;> omega)) (by first | omega | (split <;> omega)) uJ.2.2.1 (fun b_5 => ?_)
  refine j_aload_n dX2_settle_6 rfl ?_
  refine r_getS dX2_settle_7 flX2_18 (by first | assumption | exact hsh _ _ rfl) (fx_160_2 hfx) ?_
  refine j_iload_n dX2_settle_10 rfl ?_
  refine r_ialoadE dX2_settle_11 (by first | assumption | exact hsh _ _ rfl) (by first | omega | (split <;> omega)) (by first | omega | (split <;> omega)) e163 (fun b_11 => ?_)
  refine r_min dX2_settle_12 lmX2_131 (Nat.le_of_ble_eq_true rfl) (by first | omega | (split <;> omega)) (by first | omega | (split <;> omega)) ?_
  refine j_istore_n dX2_settle_15 (by decide) ?_
  refine j_aload_n dX2_settle_16 rfl ?_
  refine r_getS dX2_settle_17 flX2_139 (by first | assumption | exact hsh _ _ rfl) (by assumption) ?_
  refine j_iload_n dX2_settle_20 rfl ?_
  refine j_dup2 dX2_settle_21 trivial trivial ?_
  refine r_ialoadE dX2_settle_22 (by first | assumption | exact hsh _ _ rfl) (by first | omega | (split <;> omega)) (by first | omega | (split <;> omega)) uJ.2.2.1 (fun b_22 => ?_)
  refine j_iload_n dX2_settle_23 rfl ?_
  refine j_isub dX2_settle_24 ?_
  refine r_iastore dX2_settle_25 (by first | assumption | exact hsh _ _ rfl) (by first | omega | (split <;> omega)) (by first | omega | (split <;> omega)) (by first | omega | (split <;> omega)) ?_
  rw [← hJ1]
  refine j_aload_n dX2_settle_26 rfl ?_
  refine r_getS dX2_settle_27 flX2_116 (by first | assumption | exact hsh _ _ rfl) (by assumption) ?_
  refine j_iload_n dX2_settle_30 rfl ?_
  refine r_ialoadE dX2_settle_31 (by first | assumption | exact hsh _ _ rfl) (by first | omega | (split <;> omega)) (by first | omega | (split <;> omega)) a58 (fun b_31 => ?_)
  refine j_aload_n dX2_settle_32 rfl ?_
  refine r_getS dX2_settle_33 flX2_15 (by first | assumption | exact hsh _ _ rfl) (fx_160_1 hfx) ?_
  refine j_iload_n dX2_settle_36 rfl ?_
  refine r_ialoadE dX2_settle_37 (by first | assumption | exact hsh _ _ rfl) (by first | omega | (split <;> omega)) (by first | omega | (split <;> omega)) a64 (fun b_37 => ?_)
  refine j_iadd dX2_settle_38 ?_
  refine j_aload_n dX2_settle_39 rfl ?_
  refine r_getS dX2_settle_40 flX2_18 (by first | assumption | exact hsh _ _ rfl) (fx_160_2 hfx) ?_
  refine j_iload_n dX2_settle_43 rfl ?_
  refine r_ialoadE dX2_settle_44 (by first | assumption | exact hsh _ _ rfl) (by first | omega | (split <;> omega)) (by first | omega | (split <;> omega)) a71 (fun b_44 => ?_)
  refine j_isub dX2_settle_45 ?_
  refine j_istore dX2_settle_46 (by decide) ?_
  refine j_iconst dX2_settle_48 ?_
  refine j_iload dX2_settle_49 rfl ?_
  refine j_ldc (n := 99999) dX2_settle_51 kcX2_142 ?_
  refine j_isub dX2_settle_53 ?_
  refine r_max dX2_settle_54 lmX2_136 (Nat.le_of_ble_eq_true rfl) (by first | omega | (split <;> omega)) (by first | omega | (split <;> omega)) ?_
  refine j_istore dX2_settle_57 (by decide) ?_
  refine j_aload_n dX2_settle_59 rfl ?_
  refine r_getS dX2_settle_60 flX2_116 (by first | assumption | exact hsh _ _ rfl) (by assumption) ?_
  refine j_iload_n dX2_settle_63 rfl ?_
  refine j_iload dX2_settle_64 rfl ?_
  refine j_iload dX2_settle_66 rfl ?_
  refine j_isub dX2_settle_68 ?_
  refine r_iastore dX2_settle_69 (by first | assumption | exact hsh _ _ rfl) (by first | omega | (split <;> omega)) (by first | omega | (split <;> omega)) (by first | omega | (split <;> omega)) ?_
  rw [← hJ2]
  refine j_aload_n dX2_settle_70 rfl ?_
  refine r_getS dX2_settle_71 flX2_21 (by first | assumption | exact hsh _ _ rfl) (fx_160_3 hfx) ?_
  refine j_iload_n dX2_settle_74 rfl ?_
  refine j_aload_n dX2_settle_75 rfl ?_
  refine r_getS dX2_settle_76 flX2_9 (by first | assumption | exact hsh _ _ rfl) (fx_160_0 hfx) ?_
  refine j_iload_n dX2_settle_79 rfl ?_
  refine r_ialoadE dX2_settle_80 (by first | assumption | exact hsh _ _ rfl) (by first | omega | (split <;> omega)) (by first | omega | (split <;> omega)) a107 (fun b_80 => ?_)
  refine j_aload_n dX2_settle_81 rfl ?_
  refine r_getS dX2_settle_82 flX2_15 (by first | assumption | exact hsh _ _ rfl) (fx_160_1 hfx) ?_
  refine j_iload_n dX2_settle_85 rfl ?_
  refine r_ialoadE dX2_settle_86 (by first | assumption | exact hsh _ _ rfl) (by first | omega | (split <;> omega)) (by first | omega | (split <;> omega)) a113 (fun b_86 => ?_)
  refine j_isub dX2_settle_87 ?_
  refine j_aload_n dX2_settle_88 rfl ?_
  refine r_getS dX2_settle_89 flX2_18 (by first | assumption | exact hsh _ _ rfl) (fx_160_2 hfx) ?_
  refine j_iload_n dX2_settle_92 rfl ?_
  refine r_ialoadE dX2_settle_93 (by first | assumption | exact hsh _ _ rfl) (by first | omega | (split <;> omega)) (by first | omega | (split <;> omega)) a120 (fun b_93 => ?_)
  refine j_iadd dX2_settle_94 ?_
  refine j_iload_n dX2_settle_95 rfl ?_
  refine j_isub dX2_settle_96 ?_
  refine j_iload dX2_settle_97 rfl ?_
  refine j_iadd dX2_settle_99 ?_
  refine r_iastore dX2_settle_100 (by first | assumption | exact hsh _ _ rfl) (by first | omega | (split <;> omega)) (by first | omega | (split <;> omega)) (by first | omega | (split <;> omega)) ?_
  refine j_vret dX2_settle_101 rfl ?_
  rw [← hfe9]
  refine rEV_of ⟨Rp_fr hR2 (fun a a0 a1 => jup_ne _ _ _ (by omega)), ?_, fun a a0 a1 a2 => ?_⟩
  · rw [jup_at, m2 _ (by omega) (by omega)]
  · rw [jup_ne _ _ _ a2, m2 _ a0 a1]
theorem sc_addInterest (hs : StAt sh F s) (hs9 : s + 9 < 154) (hR : Rp I s w) (hW : WF w) (hd : (w 3 + 1) % 10 = 0) : jS G (d + 1) mX2_addInterest [jR (some s)] (sh, I, F) 0 0 (rEV sh F (fun J => Rp J s (jfold dInt w (aPe w).toNat) ∧ ∀ a, a ≠ s + 3 → J a = I a)) := by
  obtain ⟨g0, g1, g2, g3, g4, g5, g6, g7, g8, g9, e1, e2, e3, e4, e5, e6, e7, e8, e9⟩ := id hs
  have r1 := hR.2.1
  refine jS_go [some (jR (some s)), none] (by decide +kernel) rfl (by simp [jone]) (Nat.le_of_ble_eq_true rfl) rfl (fun hok => ?_)
  have key : ∀ (m : Nat) (z : Int) (J : Nat → Int → Int) (v : Int → Int), z + m = aPe w → 0 ≤ z → v = jfold dInt w z.toNat → WF v → aPe v = aPe w → v 3 = w 3 → Rp J s v → (∀ a, a ≠ s + 3 → J a = I a) → jW G mX2_addInterest (d + 1) (rEV sh F (fun J => Rp J s (jfold dInt w (aPe w).toNat) ∧ ∀ a, a ≠ s + 3 → J a = I a)) 2 [some (jR (some s)), some (jI z)] [] (sh, J, F) 0 0 := by
    intro m
    induction m with
    | zero =>
      intro z J v hz hz0 hv hWv hn h3 hRJ hfr
      have r0 := hRJ.1
      refine j_iload_n dX2_addInterest_2 rfl ?_
      refine j_aload_n dX2_addInterest_3 rfl ?_
      refine r_getIE dX2_addInterest_4 flX2_45 (by first | assumption | exact hsh _ _ rfl) r0 (fun b_4 => ?_)
      refine j_icmp_ge (tgt := 40) dX2_addInterest_7 rfl (by first | omega | (split <;> omega)) (by first | omega | (split <;> omega)) (fun c_7 => ?_) (fun c_7 => by exact absurd (by omega) c_7)
      refine j_vret dX2_addInterest_40 rfl ?_
      exact rEV_of ⟨by rw [show aPe w = z by omega, ← hv]; exact hRJ, hfr⟩
    | succ m ih =>
      intro z J v hz hz0 hv hWv hn h3 hRJ hfr
      have r0 := hRJ.1
      have hst : jfold dInt w (z + 1).toNat = dInt z v := by rw [hv]; exact jfold_s _ _ hz0
      have ht := dInt_ok hWv (p := z) (by omega)
      have h4 := hWv.2.1.2.2 z hz0 (by omega)
      have hrt := aRate_in (w := v) h4.2.1 hWv.2.1.2.1
      have uJ := hRJ.2.2.1 z hz0 (by omega)
      have ih2 := fun J' => ih (z + 1) J' (dInt z v) (by omega) (by omega) hst.symm ht.1 (by rw [← hn]; exact ht.2 0 (by omega)) (by rw [← h3]; exact ht.2 3 (by omega))
      clear ih
      by_cases e : aOf v z 3 = 0
      · rw [show dInt z v = wup v (12 + 13 * z + 1) (aRate v (aOf v z 1)) from if_pos ⟨e, by rw [h3]; exact hd⟩] at ih2
        refine j_iload_n dX2_addInterest_2 rfl ?_
        refine j_aload_n dX2_addInterest_3 rfl ?_
        refine r_getIE dX2_addInterest_4 flX2_45 (by first | assumption | exact hsh _ _ rfl) r0 (fun b_4 => ?_)
        refine j_icmp_ge (tgt := 40) dX2_addInterest_7 rfl (by first | omega | (split <;> omega)) (by first | omega | (split <;> omega)) (fun c_7 => by exact absurd c_7 (by omega)) (fun c_7 => ?_)
        refine j_aload_n dX2_addInterest_10 rfl ?_
        refine j_iload_n dX2_addInterest_11 rfl ?_
        refine r_cv1I dX2_addInterest_12 cvX2_48 (by decide) (by first | assumption | exact hsh _ _ rfl) (Nat.le_of_ble_eq_true rfl) (Nat.le_of_eq (Nat.zero_add _)) (Nat.le_of_eq (Nat.zero_add _)) (sc_al1 hs hRJ (by omega) ⟨hz0, by omega⟩ e) ?_
        refine j_if_eq (tgt := 34) dX2_addInterest_15 rfl (by first | omega | (split <;> omega)) (fun c_15 => by exact absurd c_15 (by decide)) (fun c_15 => ?_)
        refine j_aload_n dX2_addInterest_18 rfl ?_
        refine r_getS dX2_addInterest_19 flX2_116 (by first | assumption | exact hsh _ _ rfl) (by assumption) ?_
        refine j_iload_n dX2_addInterest_22 rfl ?_
        refine j_aload_n dX2_addInterest_23 rfl ?_
        refine j_aload_n dX2_addInterest_24 rfl ?_
        refine r_getS dX2_addInterest_25 flX2_116 (by first | assumption | exact hsh _ _ rfl) (by assumption) ?_
        refine j_iload_n dX2_addInterest_28 rfl ?_
        refine r_ialoadE dX2_addInterest_29 (by first | assumption | exact hsh _ _ rfl) (by first | omega | (split <;> omega)) (by first | omega | (split <;> omega)) uJ.2.1 (fun b_29 => ?_)
        refine r_cv1I dX2_addInterest_30 cvX2_143 (by decide) (by first | assumption | exact hsh _ _ rfl) (Nat.le_of_ble_eq_true rfl) (Nat.le_of_eq (Nat.zero_add _)) (Nat.le_of_eq (Nat.zero_add _)) (sc_withInterest hs hRJ h4.2.1 hWv.2.1.2.1) ?_
        refine r_iastore dX2_addInterest_33 (by first | assumption | exact hsh _ _ rfl) (by first | omega | (split <;> omega)) (by first | omega | (split <;> omega)) (by first | omega | (split <;> omega)) ?_
        refine j_iinc dX2_addInterest_34 rfl (by decide) ?_
        refine j_goto (tgt := 2) dX2_addInterest_37 rfl ?_
        exact ih2 _ (Rp_one hRJ (by omega) (Or.inl ⟨rfl, rfl⟩)) (fun a ha => by rw [jup_ne _ _ _ ha]; exact hfr a ha)
      · rw [show dInt z v = v from if_neg (fun q => e q.1)] at ih2
        refine j_iload_n dX2_addInterest_2 rfl ?_
        refine j_aload_n dX2_addInterest_3 rfl ?_
        refine r_getIE dX2_addInterest_4 flX2_45 (by first | assumption | exact hsh _ _ rfl) r0 (fun b_4 => ?_)
        refine j_icmp_ge (tgt := 40) dX2_addInterest_7 rfl (by first | omega | (split <;> omega)) (by first | omega | (split <;> omega)) (fun c_7 => by exact absurd c_7 (by omega)) (fun c_7 => ?_)
        refine j_aload_n dX2_addInterest_10 rfl ?_
        refine j_iload_n dX2_addInterest_11 rfl ?_
        refine r_cv1I dX2_addInterest_12 cvX2_48 (by decide) (by first | assumption | exact hsh _ _ rfl) (Nat.le_of_ble_eq_true rfl) (Nat.le_of_eq (Nat.zero_add _)) (Nat.le_of_eq (Nat.zero_add _)) (sc_al0 hs hRJ (by omega) ⟨hz0, by omega⟩ e) ?_
        refine j_if_eq (tgt := 34) dX2_addInterest_15 rfl (by first | omega | (split <;> omega)) (fun c_15 => ?_) (fun c_15 => by exact absurd c_15 (by decide))
        refine j_iinc dX2_addInterest_34 rfl (by decide) ?_
        refine j_goto (tgt := 2) dX2_addInterest_37 rfl ?_
        exact ih2 _ hRJ hfr
  refine j_iconst dX2_addInterest_0 ?_
  refine j_istore_n dX2_addInterest_1 (by decide) ?_
  exact key (aPe w).toNat 0 I w (by omega) (by omega) rfl hW rfl rfl hR (fun _ _ => rfl)
/-- on days without interest nothing comes to it -/
theorem dInt_no (hd : ¬ (w 3 + 1) % 10 = 0) : ∀ n : Nat, jfold dInt w n = w
  | 0 => rfl
  | n + 1 => by
    show dInt n (jfold dInt w n) = w
    rw [dInt_no hd n]
    exact if_neg (fun q => hd q.2)
theorem sc_breakBank (hsh : ShOK sh) (hfx : FxOK F) (hs : StAt sh F s) (hs9 : s + 9 < 154) (hR : Rp I s w) (hW : WF w) {f : Int → Int} (hf : vFe f (aPe w)) (hF : ∀ q, 0 ≤ q → q < aPe w → I 164 q = f q) : jS G (d + 1) mX2_breakBank [jR (some 160), jR (some s)] (sh, I, F) 0 0 (rEV sh F (fun J => Rp J s (dBreak w f).1 ∧ (∀ q, 0 ≤ q → q < aPe w → J 164 q = (dBreak w f).2 q) ∧ J s 16 = I s 16 ∧ ∀ a, a ≠ s → a ≠ s + 3 → a ≠ s + 4 → a ≠ 164 → J a = I a)) := by
  obtain ⟨g0, g1, g2, g3, g4, g5, g6, g7, g8, g9, e1, e2, e3, e4, e5, e6, e7, e8, e9⟩ := id hs
  have r1 := hR.2.1
  refine jS_go [some (jR (some 160)), some (jR (some s)), none] (by decide +kernel) rfl (by simp [jone]) (Nat.le_of_ble_eq_true rfl) rfl (fun hok => ?_)
  have key : ∀ (m : Nat) (z : Int) (J : Nat → Int → Int) (Y : (Int → Int) × (Int → Int)), z + m = aPe w → 0 ≤ z → Y = jfold dBrk (wup w 8 1, f) z.toNat → WF Y.1 → aPe Y.1 = aPe w → (∀ p, z ≤ p → p < aPe w → 0 ≤ Y.2 p ∧ Y.2 p ≤ 200000) → Rp J s Y.1 → (∀ q, 0 ≤ q → q < aPe w → J 164 q = Y.2 q) → J s 16 = I s 16 → (∀ a, a ≠ s → a ≠ s + 3 → a ≠ s + 4 → a ≠ 164 → J a = I a) → jW G mX2_breakBank (d + 1) (rEV sh F (fun J => Rp J s (dBreak w f).1 ∧ (∀ q, 0 ≤ q → q < aPe w → J 164 q = (dBreak w f).2 q) ∧ J s 16 = I s 16 ∧ ∀ a, a ≠ s → a ≠ s + 3 → a ≠ s + 4 → a ≠ 164 → J a = I a)) 7 [some (jR (some 160)), some (jR (some s)), some (jI z)] [] (sh, J, F) 0 0 := by
    intro m
    induction m with
    | zero =>
      intro z J Y hz hz0 hY hWY hn hfy hRJ hJf h16 hfr
      have r0 := hRJ.1
      have hY2 : Y = dBreak w f := by rw [hY, show z = aPe w by omega]; rfl
      refine j_iload_n dX2_breakBank_7 rfl ?_
      refine j_aload_n dX2_breakBank_8 rfl ?_
      refine r_getIE dX2_breakBank_9 flX2_45 (by first | assumption | exact hsh _ _ rfl) r0 (fun b_9 => ?_)
      refine j_icmp_ge (tgt := 65) dX2_breakBank_12 rfl (by first | omega | (split <;> omega)) (by first | omega | (split <;> omega)) (fun c_12 => ?_) (fun c_12 => by exact absurd (by omega) c_12)
      refine j_vret dX2_breakBank_65 rfl ?_
      subst hY2
      exact rEV_of ⟨hRJ, hJf, h16, hfr⟩
    | succ m ih =>
      intro z J Y hz hz0 hY hWY hn hfy hRJ hJf h16 hfr
      have r0 := hRJ.1
      have hst : jfold dBrk (wup w 8 1, f) (z + 1).toNat = dBrk z Y := by rw [hY]; exact jfold_s _ _ hz0
      have hb := dBrk_ok (n := 0) hWY (p := z) (by omega)
      have h4 := hWY.2.1.2.2 z hz0 (by omega)
      have hfz := hfy z (Int.le_refl _) (by omega)
      have uJ := hRJ.2.2.1 z hz0 (by omega)
      have ih2 := fun J' => ih (z + 1) J' (dBrk z Y) (by omega) (by omega) hst.symm hb.1 (by rw [← hn]; exact hb.2.2.2 0 (by omega)) (fun p h0 h1 => by rw [hb.2.1 p (by omega)]; exact hfy p (by omega) h1)
      clear ih
      by_cases e : aOf Y.1 z 3 = 0
      · have hst : dBrk z Y = (wAF Y.1 z 0 0, wup Y.2 z (Y.2 z + (aOf Y.1 z 1 - aOf Y.1 z 2))) := by unfold dBrk; rw [if_pos e]
        rw [hst] at ih2
        have q29 : J 164 z = Y.2 z := hJf z hz0 (by omega)
        obtain ⟨K, hK⟩ : ∃ K, K = jup J 164 z (Y.2 z + (aOf Y.1 z 1 - aOf Y.1 z 2)) := ⟨_, rfl⟩
        have k1 : ∀ a, a ≠ 164 → K a = J a := fun a ha => by rw [hK, jup_ne _ _ _ ha]
        have hRK : Rp K s Y.1 := Rp_fr hRJ (fun a a0 a1 => k1 a (by omega))
        have hR2 := Rp_one (x := 0) hRK (p := z) (by omega) (Or.inl ⟨rfl, rfl⟩)
        have hR3 := Rp_one (x := 0) hR2 (p := z) (by rw [show aPe (wup Y.1 (12 + 13 * z + 1) 0) = aPe Y.1 from wup_ne _ _ (by omega)]; omega) (Or.inr (Or.inl ⟨rfl, rfl⟩))
        rw [wup_comm _ _ _ (by omega)] at hR3
        refine j_iload_n dX2_breakBank_7 rfl ?_
        refine j_aload_n dX2_breakBank_8 rfl ?_
        refine r_getIE dX2_breakBank_9 flX2_45 (by first | assumption | exact hsh _ _ rfl) r0 (fun b_9 => ?_)
        refine j_icmp_ge (tgt := 65) dX2_breakBank_12 rfl (by first | omega | (split <;> omega)) (by first | omega | (split <;> omega)) (fun c_12 => by exact absurd c_12 (by omega)) (fun c_12 => ?_)
        refine j_aload_n dX2_breakBank_15 rfl ?_
        refine j_iload_n dX2_breakBank_16 rfl ?_
        refine r_cv1I dX2_breakBank_17 cvX2_48 (by decide) (by first | assumption | exact hsh _ _ rfl) (Nat.le_of_ble_eq_true rfl) (Nat.le_of_eq (Nat.zero_add _)) (Nat.le_of_eq (Nat.zero_add _)) (sc_al1 hs hRJ (by omega) ⟨hz0, by omega⟩ e) ?_
        refine j_if_eq (tgt := 59) dX2_breakBank_20 rfl (by first | omega | (split <;> omega)) (fun c_20 => by exact absurd c_20 (by decide)) (fun c_20 => ?_)
        refine j_aload_n dX2_breakBank_23 rfl ?_
        refine r_getS dX2_breakBank_24 flX2_21 (by first | assumption | exact hsh _ _ rfl) (fx_160_3 hfx) ?_
        refine j_iload_n dX2_breakBank_27 rfl ?_
        refine j_dup2 dX2_breakBank_28 trivial trivial ?_
        refine r_ialoadE dX2_breakBank_29 (by first | assumption | exact hsh _ _ rfl) (by first | omega | (split <;> omega)) (by first | omega | (split <;> omega)) q29 (fun b_29 => ?_)
        refine j_aload_n dX2_breakBank_30 rfl ?_
        refine r_getS dX2_breakBank_31 flX2_116 (by first | assumption | exact hsh _ _ rfl) (by assumption) ?_
        refine j_iload_n dX2_breakBank_34 rfl ?_
        refine r_ialoadE dX2_breakBank_35 (by first | assumption | exact hsh _ _ rfl) (by first | omega | (split <;> omega)) (by first | omega | (split <;> omega)) uJ.2.1 (fun b_35 => ?_)
        refine j_aload_n dX2_breakBank_36 rfl ?_
        refine r_getS dX2_breakBank_37 flX2_139 (by first | assumption | exact hsh _ _ rfl) (by assumption) ?_
        refine j_iload_n dX2_breakBank_40 rfl ?_
        refine r_ialoadE dX2_breakBank_41 (by first | assumption | exact hsh _ _ rfl) (by first | omega | (split <;> omega)) (by first | omega | (split <;> omega)) uJ.2.2.1 (fun b_41 => ?_)
        refine j_isub dX2_breakBank_42 ?_
        refine j_iadd dX2_breakBank_43 ?_
        refine r_iastore dX2_breakBank_44 (by first | assumption | exact hsh _ _ rfl) (by first | omega | (split <;> omega)) (by first | omega | (split <;> omega)) (by first | omega | (split <;> omega)) ?_
        rw [← hK]
        refine j_aload_n dX2_breakBank_45 rfl ?_
        refine r_getS dX2_breakBank_46 flX2_116 (by first | assumption | exact hsh _ _ rfl) (by assumption) ?_
        refine j_iload_n dX2_breakBank_49 rfl ?_
        refine j_iconst dX2_breakBank_50 ?_
        refine r_iastore dX2_breakBank_51 (by first | assumption | exact hsh _ _ rfl) (by first | omega | (split <;> omega)) (by first | omega | (split <;> omega)) (by first | omega | (split <;> omega)) ?_
        refine j_aload_n dX2_breakBank_52 rfl ?_
        refine r_getS dX2_breakBank_53 flX2_139 (by first | assumption | exact hsh _ _ rfl) (by assumption) ?_
        refine j_iload_n dX2_breakBank_56 rfl ?_
        refine j_iconst dX2_breakBank_57 ?_
        refine r_iastore dX2_breakBank_58 (by first | assumption | exact hsh _ _ rfl) (by first | omega | (split <;> omega)) (by first | omega | (split <;> omega)) (by first | omega | (split <;> omega)) ?_
        refine j_iinc dX2_breakBank_59 rfl (by decide) ?_
        refine j_goto (tgt := 7) dX2_breakBank_62 rfl ?_
        refine ih2 _ hR3 (fun q q0 q1 => ?_) ?_ (fun a a0 a1 a2 a3 => ?_)
        · rw [jup_ne _ _ _ (by omega), jup_ne _ _ _ (by omega), hK, jup_at]
          show wup _ _ _ q = wup _ _ _ q
          by_cases eq : q = z
          · subst eq; rw [wup_same, wup_same]
          · rw [wup_ne _ _ eq, wup_ne _ _ eq]; exact hJf q q0 q1
        · rw [jup_ne _ _ _ (by omega), jup_ne _ _ _ (by omega), k1 s (by omega)]; exact h16
        · rw [jup_ne _ _ _ a2, jup_ne _ _ _ a1, k1 a a3]; exact hfr a a0 a1 a2 a3
      · have hst : dBrk z Y = Y := by unfold dBrk; rw [if_neg e]
        rw [hst] at ih2
        refine j_iload_n dX2_breakBank_7 rfl ?_
        refine j_aload_n dX2_breakBank_8 rfl ?_
        refine r_getIE dX2_breakBank_9 flX2_45 (by first | assumption | exact hsh _ _ rfl) r0 (fun b_9 => ?_)
        refine j_icmp_ge (tgt := 65) dX2_breakBank_12 rfl (by first | omega | (split <;> omega)) (by first | omega | (split <;> omega)) (fun c_12 => by exact absurd c_12 (by omega)) (fun c_12 => ?_)
        refine j_aload_n dX2_breakBank_15 rfl ?_
        refine j_iload_n dX2_breakBank_16 rfl ?_
        refine r_cv1I dX2_breakBank_17 cvX2_48 (by decide) (by first | assumption | exact hsh _ _ rfl) (Nat.le_of_ble_eq_true rfl) (Nat.le_of_eq (Nat.zero_add _)) (Nat.le_of_eq (Nat.zero_add _)) (sc_al0 hs hRJ (by omega) ⟨hz0, by omega⟩ e) ?_
        refine j_if_eq (tgt := 59) dX2_breakBank_20 rfl (by first | omega | (split <;> omega)) (fun c_20 => ?_) (fun c_20 => by exact absurd c_20 (by decide))
        refine j_iinc dX2_breakBank_59 rfl (by decide) ?_
        refine j_goto (tgt := 7) dX2_breakBank_62 rfl ?_
        exact ih2 _ hRJ hJf h16 hfr
  refine j_aload_n dX2_breakBank_0 rfl ?_
  refine j_iconst dX2_breakBank_1 ?_
  refine r_putI dX2_breakBank_2 flX2_118 rfl (by first | assumption | exact hsh _ _ rfl) (by first | omega | (split <;> omega)) (fun _ => Or.inr rfl) ?_
  refine j_iconst dX2_breakBank_5 ?_
  refine j_istore_n dX2_breakBank_6 (by decide) ?_
  exact key (aPe w).toNat 0 _ (wup w 8 1, f) (by omega) (by omega) rfl (WF_fail hW (Or.inr rfl)) (wup_ne w 1 (show (0 : Int) ≠ 8 by decide)) (fun p h0 h1 => hf p h0 h1) (Rp_fld hR (by omega)) (fun q q0 q1 => by rw [jup_ne _ _ _ (by omega)]; exact hF q q0 q1) (jup_row _ _ _ (by decide)) (fun a a0 a1 a2 a3 => jup_ne _ _ _ a0)
def mOver (w f : Int → Int) : Int := jfold (fun p a => if aOf w p 0 < f p then a + 1 else a) 0 (aPe w).toNat
theorem sc_howManyOver (hsh : ShOK sh) (hfx : FxOK F) (hs : StAt sh F s) (hR : Rp I s w) {f : Int → Int} (hF : ∀ q, 0 ≤ q → q < aPe w → I 164 q = f q) : jS G d mX2_howManyOver [jR (some 160), jR (some s)] (sh, I, F) 0 0 (rI (mOver w f) (sh, I, F)) := by
  obtain ⟨g0, g1, g2, g3, g4, g5, g6, g7, g8, g9, e1, e2, e3, e4, e5, e6, e7, e8, e9⟩ := id hs
  obtain ⟨r0, r1, rP, rO, rA, r9, r10, r11, r12, r13, r14, r15, r16, r17⟩ := id hR
  refine jS_go [some (jR (some 160)), some (jR (some s)), none, none] (by decide +kernel) rfl (by simp [jone]) (Nat.le_of_ble_eq_true rfl) rfl (fun hok => ?_)
  refine j_iconst dX2_howManyOver_0 ?_
  refine j_istore_n dX2_howManyOver_1 (by decide) ?_
  refine j_iconst dX2_howManyOver_2 ?_
  refine j_istore_n dX2_howManyOver_3 (by decide) ?_
  skip
  refine jW_loop 4 (fun _ _ => True) (fun p a => if aOf w p 0 < f p then a + 1 else a) 0 (aPe w) (fun z a => [some (jR (some 160)), some (jR (some s)), some (jI a), some (jI z)]) (fun _ _ => (sh, I, F)) r1.1 trivial (fun _ _ _ _ _ => trivial) (fun a ha _ => ?_) (fun z a hz0 hz1 _ ih => ?_)
  · refine j_iload_n dX2_howManyOver_4 rfl ?_
    refine j_aload_n dX2_howManyOver_5 rfl ?_
    refine r_getIE dX2_howManyOver_6 flX2_45 (by first | assumption | exact hsh _ _ rfl) r0 (fun b_6 => ?_)
    refine j_icmp_ge (tgt := 36) dX2_howManyOver_9 rfl (by first | omega | (split <;> omega)) (by first | omega | (split <;> omega)) (fun c_9 => ?_) (fun c_9 => by exact absurd (by omega) c_9)
    refine j_iload_n dX2_howManyOver_36 rfl ?_
    refine j_iret dX2_howManyOver_37 rfl ?_
    exact rI_of ha rfl
  · have u := rP z hz0 hz1
    have hfz := hF z hz0 hz1
    refine j_iload_n dX2_howManyOver_4 rfl ?_
    refine j_aload_n dX2_howManyOver_5 rfl ?_
    refine r_getIE dX2_howManyOver_6 flX2_45 (by first | assumption | exact hsh _ _ rfl) r0 (fun b_6 => ?_)
    refine j_icmp_ge (tgt := 36) dX2_howManyOver_9 rfl (by first | omega | (split <;> omega)) (by first | omega | (split <;> omega)) (fun c_9 => by exact absurd c_9 (by omega)) (fun c_9 => ?_)
    refine j_aload_n dX2_howManyOver_12 rfl ?_
    refine r_getS dX2_howManyOver_13 flX2_21 (by first | assumption | exact hsh _ _ rfl) (fx_160_3 hfx) ?_
    refine j_iload_n dX2_howManyOver_16 rfl ?_
    refine r_ialoadE dX2_howManyOver_17 (by first | assumption | exact hsh _ _ rfl) (by first | omega | (split <;> omega)) (by first | omega | (split <;> omega)) hfz (fun b_17 => ?_)
    refine j_aload_n dX2_howManyOver_18 rfl ?_
    refine r_getS dX2_howManyOver_19 flX2_91 (by first | assumption | exact hsh _ _ rfl) (by assumption) ?_
    refine j_iload_n dX2_howManyOver_22 rfl ?_
    refine r_ialoadE dX2_howManyOver_23 (by first | assumption | exact hsh _ _ rfl) (by first | omega | (split <;> omega)) (by first | omega | (split <;> omega)) u.1 (fun b_23 => ?_)
    refine j_icmp_le (tgt := 30) dX2_howManyOver_24 rfl (by first | omega | (split <;> omega)) (by first | omega | (split <;> omega)) (fun c_24 => ?_) (fun c_24 => ?_)
    · refine j_iinc dX2_howManyOver_30 rfl (by decide) ?_
      refine j_goto (tgt := 4) dX2_howManyOver_33 rfl ?_
      first | (rw [if_pos (by omega)] at ih; exact ih) | (rw [if_neg (by omega)] at ih; exact ih)
    · refine j_iinc dX2_howManyOver_27 rfl (by decide) ?_
      refine j_iinc dX2_howManyOver_30 rfl (by decide) ?_
      refine j_goto (tgt := 4) dX2_howManyOver_33 rfl ?_
      first | (rw [if_pos (by omega)] at ih; exact ih) | (rw [if_neg (by omega)] at ih; exact ih)
end
