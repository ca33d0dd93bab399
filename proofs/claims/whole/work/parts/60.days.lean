/-! DAYS PASS -/
theorem dTold_no {calm : Int} {w a b f : Int → Int} (hW : WF w) (h : ¬ 0 < mOver w (dEnd calm w a b f).2) : dTold calm w a b f = (dEnd calm w a b f).1 := by
  have h8 := hW.1
  have he := dEnd_ok (calm := calm) (a := a) (b := b) (f := f) hW
  rw [mOver_iff h8.1] at h
  unfold dTold
  have key : ∀ n : Nat, (n : Int) ≤ aPe w → jfold (dTell (dEnd calm w a b f).2) (dEnd calm w a b f).1 n = (dEnd calm w a b f).1 := by
    intro n
    induction n with
    | zero => intro _; rfl
    | succ n ih =>
      intro hn
      show dTell _ n (jfold _ _ n) = _
      rw [ih (by omega)]
      unfold dTell
      rw [if_neg (fun q => h ⟨n, by omega, by
        have e0 : aOf (dEnd calm w a b f).1 n 0 = aOf w n 0 := he.2.2 _ (Or.inr (Or.inr ⟨n, by omega, Or.inl (Int.add_zero _)⟩))
        rw [← e0]; exact q.2⟩)]
  exact key _ (by omega)
/-- heirs stay what they are -/
theorem mDay_h {calm : Int} {w a b f : Int → Int} (hW : WF w) {q : Int} : mDay calm w a b f (12 + 13 * q + 4) = w (12 + 13 * q + 4) ∨ ¬ (0 ≤ q ∧ q < 8) := by
  by_cases hq : 0 ≤ q ∧ q < 8
  · refine Or.inl ?_
    have h8 := hW.1
    have hc : (dCore calm w a b f).1 (12 + 13 * q + 4) = w (12 + 13 * q + 4) := by
      have := jfold_ind (f := dOne calm (dFl calm (dSeed calm w) (w 6))) (a := (dSeed calm w, a, b, f)) (fun _ X => X.1 (12 + 13 * q + 4) = w (12 + 13 * q + 4)) (dSeed_o (by omega)) (n := (aPe w).toNat) (fun z X z0 z1 ih => by
        unfold dOne
        split
        · show mLive _ _ _ _ _ = _
          unfold mLive
          rw [wAF_o (by omega) (by omega), dSeed_o (by omega)]; exact ih
        · exact ih)
      exact this
    have hr : dRate calm w a b f (12 + 13 * q + 4) = w (12 + 13 * q + 4) := by
      have := jfold_ind (f := dInt) (a := (dCore calm w a b f).1) (fun _ v => v (12 + 13 * q + 4) = w (12 + 13 * q + 4)) hc (n := (aPe w).toNat) (fun z v z0 z1 ih => by
        unfold dInt
        split
        · rw [wup_ne _ _ (by omega)]; exact ih
        · exact ih)
      exact this
    have he : (dEnd calm w a b f).1 (12 + 13 * q + 4) = w (12 + 13 * q + 4) := by
      unfold dEnd
      split
      · have := jfold_ind (f := dBrk) (a := (wup (dRate calm w a b f) 8 1, (dCore calm w a b f).2.2.2)) (fun _ X => X.1 (12 + 13 * q + 4) = w (12 + 13 * q + 4)) ((wup_ne _ _ (by omega)).trans hr) (n := (aPe (dRate calm w a b f)).toNat) (fun z X z0 z1 ih => by
          unfold dBrk
          split
          · show wAF _ _ _ _ _ = _
            rw [wAF_o (by omega) (by omega)]; exact ih
          · exact ih)
        exact this
      · exact hr
    unfold mDay
    rw [wup_ne _ _ (by omega), dTold_o (by omega)]
    exact he
  · exact Or.inr hq
theorem OKw_days {B : Int} {calm : Int} {w a b f : Int → Int} (h : OKw B w) {n : Int} (hn : 0 ≤ n ∧ n ≤ 60) : OKw (B + 480) (mDays calm (w, a, b, f) n.toNat).1 := by
  obtain ⟨h1, h2, h3, h4, h5, h6, h7⟩ := h
  have hO := mDays_ok (calm := calm) (a := a) (b := b) (f := f) h1 h2.1 h4 n.toNat
  have h8 := h1.1
  have hh : ∀ q, 0 ≤ q → q < 8 → (mDays calm (w, a, b, f) n.toNat).1 (12 + 13 * q + 4) = w (12 + 13 * q + 4) := fun q q0 q1 => by
    have := jfold_ind (f := fun _ X => dStep calm X) (a := (w, a, b, f)) (fun k X => dOK w X k ∧ X.1 (12 + 13 * q + 4) = w (12 + 13 * q + 4)) ⟨dOK_0 h1 h4, rfl⟩ (n := n.toNat) (fun k X k0 k1 ih => ⟨dOK_s ih.1 h2.1, by
      rcases mDay_h (calm := calm) (a := X.2.1) (b := X.2.2.1) (f := X.2.2.2) ih.1.1 (q := q) with e | e
      · exact e.trans ih.2
      · exact absurd ⟨q0, q1⟩ e⟩)
    exact this.2
  have e0 : aPe (mDays calm (w, a, b, f) n.toNat).1 = aPe w := hO.2.2.2 0 (by omega)
  have e9 := hO.2.1
  refine ⟨hO.1, by omega, by rw [hO.2.2.2 1 (by omega)]; exact h3, hO.2.2.1, fun p p0 p1 => ?_, fun p q p0 p1 q0 q1 => ?_, ?_⟩
  rotate_left
  · rw [show aOw (mDays calm (w, a, b, f) n.toNat).1 p q = aOw w p q from hO.2.2.2 _ (by omega)]
    exact h6 p q p0 (by omega) q0 (by omega)
  · rw [mTot_cong e0 (fun p q p0 p1 q0 q1 => hO.2.2.2 _ (by omega))]
    omega
  rw [show aOf (mDays calm (w, a, b, f) n.toNat).1 p 4 = aOf w p 4 from hh p p0 (by omega)]
  exact h5 p p0 (by omega)
section
variable {G : jzG} {d : Nat} {sh : List (Nat × Nat)} {I M : Nat → Int → Int} {F : Nat → Int → Option Nat} {w : Int → Int}
theorem Ac_of2 {I I1 J K : Nat → Int → Int} {X : dX} (fr1 : ∀ a, a ≠ 170 → I1 a = I a) (fr1k : ∀ k, k ≠ 0 → I1 170 k = I 170 k) (fr1c : I1 170 0 = 0) (hJ : ReO I1 J (I 170 7)) (hD : DX J K X) : AcO 0 I (mzW (mzR I) X.1) K := by
  obtain ⟨h1, h2, h3, h4⟩ := hJ
  obtain ⟨d1, d2, d3, d4, d5, d6⟩ := hD
  rw [fr1 175 (by decide), fr1 171 (by decide)] at h2
  refine ⟨by rw [d6 0 (by decide) (by decide), h4 0 (by decide), fr1c], ⟨d1, ?_, ?_, ?_, ?_, ?_, ?_, ?_⟩, fun a ha => by rw [d5 a (by omega) (by omega) (by omega) (by omega) (by omega) (by omega), h3 a (by omega) (by omega), fr1 a (by omega)]⟩
  · rw [d5 172 (by decide) (by decide) (by decide) (by decide) (by decide) (by decide), h3 172 (by decide) (by decide), fr1 172 (by decide)]; rfl
  · rw [d5 175 (by decide) (by decide) (by decide) (by decide) (by decide) (by decide), h2]; rfl
  · rw [d5 176 (by decide) (by decide) (by decide) (by decide) (by decide) (by decide), h3 176 (by decide) (by decide), fr1 176 (by decide)]; rfl
  · rw [d6 6 (by decide) (by decide), h4 6 (by decide), fr1k 6 (by decide)]; exact (mzR_k (by decide)).symm
  · rw [d6 7 (by decide) (by decide), h1]; rfl
  · rw [d6 9 (by decide) (by decide), h4 9 (by decide), fr1k 9 (by decide)]; exact (mzR_k (by decide)).symm
  · rw [d6 14 (by decide) (by decide), h4 14 (by decide), fr1k 14 (by decide)]; exact (mzR_k (by decide)).symm
theorem mp_days_1 (hsh : ShOK sh) (hfx : FxOK F) {n : Int} (hn : jin n) (h3 : ¬ (1 ≤ n ∧ n ≤ 60)) : jS G (d + 9) mX12_days [jR (some 170), jI n] (sh, I, F) 0 0 (rI 0 (sh, jup I 170 0 1, F)) := by
  refine jS_go [some (jR (some 170)), some (jI n), none, none] (by decide +kernel) rfl (by simp [jone]) (Nat.le_of_ble_eq_true rfl) rfl (fun hok => ?_)
  refine j_aload_n dX12_days_0 rfl ?_
  refine j_iconst dX12_days_1 ?_
  refine r_putI dX12_days_2 flX12_3 rfl (by first | assumption | exact hsh _ _ rfl) (by first | omega | (split <;> omega)) (fun q => by cases q) ?_
  skip
  have hok1 : jzok (sh, jup I 170 0 0, F) := jzok_I hok jin_lit0
  have hw0 : (jup I 170 0 0) 171 = I 171 := jup_ne _ _ _ (by decide)
  clear hok
  rw [← jup_up I 170 0 0 1]
  try rw [← hw0]
  obtain ⟨I1, hI1⟩ : ∃ J, J = jup I 170 0 0 := ⟨_, rfl⟩
  rw [← hI1] at hok1 hw0  ⊢
  have hok := hok1
  refine j_aload_n dX12_days_5 rfl ?_
  refine j_iload_n dX12_days_6 rfl ?_
  refine j_iconst dX12_days_7 ?_
  refine j_bipush dX12_days_8 (by decide) ?_
  refine r_cs3I dX12_days_10 csX12_78 (Nat.le_of_ble_eq_true rfl) (Nat.le_of_eq (Nat.zero_add _)) (Nat.le_of_eq (Nat.zero_add _)) (sm_in0 (by omega) (by omega) (by omega) h3) ?_
  refine j_if_ne (tgt := 20) dX12_days_13 rfl (by first | omega | (split <;> omega)) (fun c_13 => by exact absurd c_13 (by decide)) (fun c_13 => ?_)
  refine j_iconst dX12_days_16 ?_
  refine j_goto (tgt := 21) dX12_days_17 rfl ?_
  refine j_iconst dX12_days_21 ?_
  refine r_cv2I dX12_days_22 cvX12_253 (by decide) (by first | assumption | exact hsh _ _ rfl) (Nat.le_of_ble_eq_true rfl) (Nat.le_of_eq (Nat.zero_add _)) (Nat.le_of_eq (Nat.zero_add _)) (sm_thr1 hsh (by omega)) ?_
  refine j_if_eq (tgt := 30) dX12_days_25 rfl (by first | omega | (split <;> omega)) (fun c_25 => by exact absurd c_25 (by decide)) (fun c_25 => ?_)
  refine j_iconst dX12_days_28 ?_
  refine j_iret dX12_days_29 rfl ?_
  exact rI_of rfl rfl
theorem mp_days_0 (hsh : ShOK sh) (hfx : FxOK F) (hW : WF (I 171)) (hr : 0 ≤ I 170 7 ∧ I 170 7 ≤ 12) (h9 : 0 ≤ I 171 9 ∧ I 171 9 ≤ 900000000) (h10 : 0 ≤ I 171 10 ∧ I 171 10 ≤ 60) {n : Int} (h3 : 1 ≤ n ∧ n ≤ 60) : jS G (d + 9) mX12_days [jR (some 170), jI n] (sh, I, F) 0 0 (rEI ((mDays 0 (mX I) n.toNat).1 9 - I 171 9) sh F (AcO 0 I (mzW (mzR I) (mDays 0 (mX I) n.toNat).1))) := by
  refine jS_go [some (jR (some 170)), some (jI n), none, none] (by decide +kernel) rfl (by simp [jone]) (Nat.le_of_ble_eq_true rfl) rfl (fun hok => ?_)
  refine j_aload_n dX12_days_0 rfl ?_
  refine j_iconst dX12_days_1 ?_
  refine r_putI dX12_days_2 flX12_3 rfl (by first | assumption | exact hsh _ _ rfl) (by first | omega | (split <;> omega)) (fun q => by cases q) ?_
  skip
  have hok1 : jzok (sh, jup I 170 0 0, F) := jzok_I hok jin_lit0
  obtain ⟨I1, hI1⟩ : ∃ J, J = jup I 170 0 0 := ⟨_, rfl⟩
  rw [← hI1] at hok1 ⊢
  have hok0 := hok
  clear hok
  have hok := hok1
  have fr1 : ∀ a, a ≠ 170 → I1 a = I a := fun a ha => by rw [hI1, jup_ne _ _ _ ha]
  have fr1k : ∀ k, k ≠ 0 → I1 170 k = I 170 k := fun k hk => by rw [hI1, jup_row _ _ _ hk]
  have fr1c : I1 170 0 = 0 := by rw [hI1, jup_same]
  have hw0 : I1 171 = I 171 := fr1 171 (by decide)
  have hr7 : I1 170 7 = I 170 7 := fr1k 7 (by decide)
  generalize hQ : rEI ((mDays 0 (mX I) n.toNat).1 9 - I 171 9) sh F (AcO 0 I (mzW (mzR I) (mDays 0 (mX I) n.toNat).1)) = Q9
  refine j_aload_n dX12_days_5 rfl ?_
  refine j_iload_n dX12_days_6 rfl ?_
  refine j_iconst dX12_days_7 ?_
  refine j_bipush dX12_days_8 (by decide) ?_
  refine r_cs3I dX12_days_10 csX12_78 (Nat.le_of_ble_eq_true rfl) (Nat.le_of_eq (Nat.zero_add _)) (Nat.le_of_eq (Nat.zero_add _)) (sm_in1 (by omega) (by omega) (by omega) h3) ?_
  refine j_if_ne (tgt := 20) dX12_days_13 rfl (by first | omega | (split <;> omega)) (fun c_13 => ?_) (fun c_13 => by exact absurd c_13 (by decide))
  refine j_iconst dX12_days_20 ?_
  refine j_iconst dX12_days_21 ?_
  refine r_cv2I dX12_days_22 cvX12_253 (by decide) (by first | assumption | exact hsh _ _ rfl) (Nat.le_of_ble_eq_true rfl) (Nat.le_of_eq (Nat.zero_add _)) (Nat.le_of_eq (Nat.zero_add _)) (sm_thr0 hsh) ?_
  refine j_if_eq (tgt := 30) dX12_days_25 rfl (by first | omega | (split <;> omega)) (fun c_25 => ?_) (fun c_25 => by exact absurd c_25 (by decide))
  refine j_aload_n dX12_days_30 rfl ?_
  refine r_cv0EV dX12_days_31 cvX12_356 (by decide) (by first | assumption | exact hsh _ _ rfl) (Nat.le_of_ble_eq_true rfl) (Nat.le_of_eq (Nat.zero_add _)) (Nat.le_of_eq (Nat.zero_add _)) (sm_remembers hsh hfx hr7 hr) (fun J hJ => ?_)
  have hm : mX J = mX I := by
    show (J 171, J 179, J 180, J 181) = (I 171, I 179, I 180, I 181)
    rw [hJ.2.2.1 171 (by decide) (by decide), hJ.2.2.1 179 (by decide) (by decide), hJ.2.2.1 180 (by decide) (by decide), hJ.2.2.1 181 (by decide) (by decide), fr1 171 (by decide), fr1 179 (by decide), fr1 180 (by decide), fr1 181 (by decide)]
  have e9 : J 171 9 = I 171 9 := congrFun (congrArg Prod.fst hm) 9
  refine j_aload_n dX12_days_34 rfl ?_
  refine r_getS dX12_days_35 flX12_13 (by first | assumption | exact hsh _ _ rfl) (fx_170_1 hfx) ?_
  refine j_bipush dX12_days_38 (by decide) ?_
  refine r_ialoadE dX12_days_40 (by first | assumption | exact hsh _ _ rfl) (by first | omega | (split <;> omega)) (by first | omega | (split <;> omega)) e9 (fun b_40 => ?_)
  refine j_istore_n dX12_days_41 (by decide) ?_
  refine j_iconst dX12_days_42 ?_
  refine j_istore_n dX12_days_43 (by decide) ?_
  skip
  have key : ∀ (m : Nat) (z : Int) (K : Nat → Int → Int) (X : dX), z + m = n → 0 ≤ z → X = mDays 0 (mX I) z.toNat → dOK (I 171) X z → DX J K X → jW G mX12_days (d + 9) Q9 44 [some (jR (some 170)), some (jI n), some (jI (I 171 9)), some (jI z)] [] (sh, K, F) 0 0 := by
    intro m
    induction m with
    | zero =>
      intro z K X hz hz0 hX hO hD
      rw [show n = z by omega, ← hX] at hQ
      have q : K 171 9 = X.1 9 := by rw [hD.1]
      have hO2 := hO.2.1
      refine j_iload_n dX12_days_44 rfl ?_
      refine j_iload_n dX12_days_45 rfl ?_
      refine j_icmp_ge (tgt := 60) dX12_days_46 rfl (by first | omega | (split <;> omega)) (by first | omega | (split <;> omega)) (fun c_46 => ?_) (fun c_46 => by exact absurd (by omega) c_46)
      refine j_aload_n dX12_days_60 rfl ?_
      refine r_getS dX12_days_61 flX12_13 (by first | assumption | exact hsh _ _ rfl) (fx_170_1 hfx) ?_
      refine j_bipush dX12_days_64 (by decide) ?_
      refine r_ialoadE dX12_days_66 (by first | assumption | exact hsh _ _ rfl) (by first | omega | (split <;> omega)) (by first | omega | (split <;> omega)) q (fun b_66 => ?_)
      refine j_iload_n dX12_days_67 rfl ?_
      refine j_isub dX12_days_68 ?_
      refine j_iret dX12_days_69 rfl ?_
      rw [← hQ]
      exact rEI_of rfl (Ac_of2 fr1 fr1k fr1c hJ hD)
    | succ m ih =>
      intro z K X hz hz0 hX hO hD
      refine j_iload_n dX12_days_44 rfl ?_
      refine j_iload_n dX12_days_45 rfl ?_
      refine j_icmp_ge (tgt := 60) dX12_days_46 rfl (by first | omega | (split <;> omega)) (by first | omega | (split <;> omega)) (fun c_46 => by exact absurd c_46 (by omega)) (fun c_46 => ?_)
      refine j_aload_n dX12_days_49 rfl ?_
      refine j_iconst dX12_days_50 ?_
      refine r_cv1EV dX12_days_51 cvX12_325 (by decide) (by first | assumption | exact hsh _ _ rfl) (Nat.le_of_ble_eq_true rfl) (Nat.le_of_eq (Nat.zero_add _)) (Nat.le_of_eq (Nat.zero_add _)) (sm_day1 (d := d + 1) (w := I 171) hsh hfx (Or.inl rfl) (k := z) (by omega) h9 hO hD) (fun K hK => ?_)
      refine j_iinc dX12_days_54 rfl (by decide) ?_
      refine j_goto (tgt := 44) dX12_days_57 rfl ?_
      exact ih (z + 1) K _ (by omega) (by omega) (by rw [hX]; exact (mDays_s _ _ hz0).symm) (dOK_s hO h9.1) hK
  exact key n.toNat 0 J _ (by omega) (by omega) rfl (dOK_0 hW h10) (DX_0 hm)
theorem cp_days_1 (hP : Pl sh F) {n : Int} (hn : jin n) (h3 : ¬ (1 ≤ n ∧ n ≤ 60)) : jS G (d + 9) mX11_days [jR (some 0), jI n] (sh, I, F) 1 6 (rX xIae (sh, I, F)) := by
  obtain ⟨hsh, hfx, hmm, hst, h12, h22⟩ := id hP
  refine jS_go [some (jR (some 0)), some (jI n), none, none, none, none] (by decide +kernel) rfl (by simp [jone]) (Nat.le_of_ble_eq_true rfl) rfl (fun hok => ?_)
  refine j_aload_n dX11_days_0 rfl ?_
  refine j_iload_n dX11_days_1 rfl ?_
  refine j_iconst dX11_days_2 ?_
  refine j_bipush dX11_days_3 (by decide) ?_
  exact r_cv3X dX11_days_5 cvX11_191 (by decide) (by first | assumption | exact hsh _ _ rfl) (Nat.le_of_ble_eq_true rfl) (Nat.le_refl _) (Nat.le_refl _) rfl (cg_lie1 hsh (by omega) (by omega) (by omega) h3) (⟨rfl, rfl⟩)
theorem cp_days_0 (hP : Pl sh F) (hC : CR sh I F M) (hw : M 171 = w) (hW : WF w) (h9 : 0 ≤ w 9 ∧ w 9 ≤ 900000000) (h10 : 0 ≤ w 10 ∧ w 10 ≤ 60) (a0 b0 f0 : Int → Int) {n : Int} (h3 : 1 ≤ n ∧ n ≤ 60) : jS G (d + 9) mX11_days [jR (some 0), jI n] (sh, I, F) 0 0 (rHI ((mDays 0 (w, a0, b0, f0) n.toNat).1 9 - w 9) sh (CaO sh I (mzW (mzR M) (mDays 0 (w, a0, b0, f0) n.toNat).1))) := by
  obtain ⟨hsh, hfx, hmm, hst, h12, h22⟩ := id hP
  have hR : Rp I 2 w := by rw [← hw]; exact hC.1.1
  refine jS_go [some (jR (some 0)), some (jI n), none, none, none, none] (by decide +kernel) rfl (by simp [jone]) (Nat.le_of_ble_eq_true rfl) rfl (fun hok => ?_)
  generalize hQ : rHI ((mDays 0 (w, a0, b0, f0) n.toNat).1 9 - w 9) sh (CaO sh I (mzW (mzR M) (mDays 0 (w, a0, b0, f0) n.toNat).1)) = Q9
  refine j_aload_n dX11_days_0 rfl ?_
  refine j_iload_n dX11_days_1 rfl ?_
  refine j_iconst dX11_days_2 ?_
  refine j_bipush dX11_days_3 (by decide) ?_
  refine r_cv3V dX11_days_5 cvX11_191 (by decide) (by first | assumption | exact hsh _ _ rfl) (Nat.le_of_ble_eq_true rfl) (Nat.le_of_eq (Nat.zero_add _)) (Nat.le_of_eq (Nat.zero_add _)) (cg_lie0 hsh (by omega) (by omega) (by omega) h3) ?_
  refine j_aload_n dX11_days_8 rfl ?_
  refine r_getS dX11_days_9 flX11_33 (by first | assumption | exact hsh _ _ rfl) (fx_0_7 hfx) ?_
  refine j_aload_n dX11_days_12 rfl ?_
  refine r_getS dX11_days_13 flX11_20 (by first | assumption | exact hsh _ _ rfl) (fx_0_3 hfx) ?_
  refine r_cv1HV dX11_days_16 cvX11_199 (by decide) (by first | assumption | exact hsh _ _ rfl) (Nat.le_of_ble_eq_true rfl) (Nat.le_of_eq (Nat.zero_add _)) (Nat.le_of_eq (Nat.zero_add _)) (cr_remember hP hC (by rw [hw]; exact hW)) (fun J F1 hJ => ?_)
  refine j_iconst dX11_days_19 ?_
  refine j_istore_n dX11_days_20 (by decide) ?_
  refine j_iconst dX11_days_21 ?_
  refine j_istore_n dX11_days_22 (by decide) ?_
  skip
  obtain ⟨-, hfx, -, hst1, -, -⟩ := id hJ.1
  obtain ⟨g0, g1, g2, g3, g4, g5, g6, g7, g8, g9, e1, e2, e3, e4, e5, e6, e7, e8, e9⟩ := id hst1
  obtain ⟨s1, s2, s3, s4⟩ : Sr sh J F1 2 w := by rw [← hw]; exact hJ.2.1.1
  have key : ∀ (m : Nat) (z : Int) (K : Nat → Int → Int) (X : dX) (o4 o5 : Option jzV), z + m = n → 0 ≤ z → X = mDays 0 (w, a0, b0, f0) z.toNat → dOK w X z → Rp K 2 X.1 → Lg K 2 X.1 → K 2 16 = w 9 → (∀ a, (a < 2 ∨ 11 < a) → (a < 160 ∨ 165 < a) → K a = J a) → jW G mX11_days (d + 9) Q9 23 [some (jR (some 0)), some (jI n), some (jI (X.1 9 - w 9)), some (jI z), o4, o5] [] (sh, K, F1) 0 0 := by
    intro m
    induction m with
    | zero =>
      intro z K X o4 o5 hz hz0 hX hO hRK hGK h16 hfr
      rw [show n = z by omega, ← hX] at hQ
      have hO2 := hO.2.1
      obtain ⟨K2, hK2⟩ : ∃ K2, K2 = jup K 2 16 (X.1 9) := ⟨_, rfl⟩
      have k1 : ∀ a, a ≠ 2 → K2 a = K a := fun a ha => by rw [hK2, jup_ne _ _ _ ha]
      have hS : Sr sh K2 F1 2 X.1 := by
        refine ⟨?_, Lg_fr hGK (k1 _ (by decide)) (k1 _ (by decide)), by rw [hK2, jup_same], LwR_w (LwR_fr s4 (fun a ha => (k1 a (by omega)).trans (hfr a (by omega) (by omega)))) (hO.2.2.2 2 (by omega)) (fun k hk => hO.2.2.2 k (by omega))⟩
        obtain ⟨r0, r1, rP, rO, rA, r9, r10, r11, r12, r13, r14, r15, r16, r17⟩ := hRK
        have ek : ∀ k, k ≠ 16 → K2 2 k = K 2 k := fun k hk => by rw [hK2, jup_row _ _ _ hk]
        refine ⟨by rw [ek 0 (by decide)]; exact r0, r1, fun p p0 p1 => ?_, fun p q p0 p1 q0 q1 => by rw [k1 _ (by decide)]; exact rO p q p0 p1 q0 q1, by rw [ek 1 (by decide)]; exact rA, by rw [ek 9 (by decide)]; exact r9, by rw [ek 10 (by decide)]; exact r10, by rw [ek 11 (by decide)]; exact r11, by rw [ek 12 (by decide)]; exact r12, by rw [ek 13 (by decide)]; exact r13, by rw [ek 14 (by decide)]; exact r14, by rw [ek 15 (by decide)]; exact r15, by rw [hK2]; exact RpZ_fld r16, by rw [ek 17 (by decide)]; exact r17⟩
        have u := rP p p0 p1
        unfold RpP at u ⊢
        rw [k1 (2 + 1) (by decide), k1 (2 + 2) (by decide), k1 (2 + 3) (by decide), k1 (2 + 4) (by decide), k1 (2 + 5) (by decide), k1 (2 + 6) (by decide), ek 1 (by decide)]
        exact u
      refine j_iload_n dX11_days_23 rfl ?_
      refine j_iload_n dX11_days_24 rfl ?_
      refine j_icmp_ge (tgt := 80) dX11_days_25 rfl (by first | omega | (split <;> omega)) (by first | omega | (split <;> omega)) (fun c_25 => ?_) (fun c_25 => by exact absurd (by omega) c_25)
      refine j_aload_n dX11_days_80 rfl ?_
      refine r_getS dX11_days_81 flX11_20 (by first | assumption | exact hsh _ _ rfl) (fx_0_3 hfx) ?_
      refine j_dup dX11_days_84 trivial ?_
      refine r_getIE dX11_days_85 flX11_241 (by first | assumption | exact hsh _ _ rfl) h16 (fun b_85 => ?_)
      refine j_iload_n dX11_days_88 rfl ?_
      refine j_iadd dX11_days_89 ?_
      rw [show w 9 + (X.1 9 - w 9) = X.1 9 by omega]
      refine r_putI dX11_days_90 flX11_241 rfl (by first | assumption | exact hsh _ _ rfl) (by first | omega | (split <;> omega)) (fun q => by cases q) ?_
      rw [← hK2]
      refine j_iload_n dX11_days_93 rfl ?_
      refine j_iret dX11_days_94 rfl ?_
      rw [← hQ]
      exact ⟨K2, F1, rfl, rfl, Ca_of hJ hS (fun a x0 x1 => (k1 a (by omega)).trans (hfr a x0 x1)) (fun k hk => (hO.2.2.2 k (by omega)).trans (by rw [hw]))⟩
    | succ m ih =>
      intro z K X o4 o5 hz hz0 hX hO hRK hGK h16 hfr
      have r13 := hRK.2.2.2.2.2.2.2.2.2.1
      have hday := hO.1.2.1.1
      have h9s := dStep_9 (calm := 0) hO.1
      have hin := mOver_in (w := X.1) (f := (dStep 0 X).2.2.2) hO.1.1
      have hO1 := dOK_s (calm := 0) hO h9.1
      have hO2 := hO.2.1
      have hEn := dEnd_ok (calm := 0) (a := X.2.1) (b := X.2.2.1) (f := X.2.2.2) hO.1
      have hL : LwR sh K F1 2 X.1 := LwR_w (LwR_fr s4 (fun a ha => hfr a (by omega) (by omega))) (hO.2.2.2 2 (by omega)) (fun k hk => hO.2.2.2 k (by omega))
      have sp := sc_pass (G := G) (d := d + 2) (I := K) (a0 := X.2.1) (b0 := X.2.2.1) (f0 := X.2.2.2) hsh hfx hst1 (by decide) hRK hL hO.1 (calm := 0) (dr := 1) (Or.inl ⟨rfl, rfl⟩)
      have hXs : mDays 0 (w, a0, b0, f0) (z + 1).toNat = dStep 0 X := by rw [hX]; exact mDays_s _ _ hz0
      have ih1 := fun L o4 o5 h1 h2 h4 h5 => ih (z + 1) L (dStep 0 X) o4 o5 (by omega) (by omega) hXs.symm hO1 h1 h2 h4 h5
      rw [show (dStep 0 X).1 9 - w 9 = X.1 9 - w 9 + mOver X.1 (dStep 0 X).2.2.2 by omega] at ih1
      have ho : mOver X.1 (dStep 0 X).2.2.2 = mOver X.1 (dEnd 0 X.1 X.2.1 X.2.2.1 X.2.2.2).2 := rfl
      have hDo : ∀ j, (j = 10 ∨ (180 ≤ j ∧ j < 420)) → (dEnd 0 X.1 X.2.1 X.2.2.1 X.2.2.2).1 j = X.1 j := fun j hj => hEn.2.2 j (by omega)
      have hDay1 : ∀ j, j ≠ 3 → (dStep 0 X).1 j = dTold 0 X.1 X.2.1 X.2.2.1 X.2.2.2 j := fun j hj => wup_ne _ _ hj
      rw [ho] at ih1 hin
      by_cases ov : 0 < mOver X.1 (dEnd 0 X.1 X.2.1 X.2.2.1 X.2.2.2).2
      · have e0 : aPe (dStep 0 X).1 = aPe X.1 := (hO1.2.2.2 0 (by omega)).trans (hO.2.2.2 0 (by omega)).symm
        have hg8 := hO.1.1
        have sw := fun (L : Nat → Int → Int) (hL1 : PsO K 2 0 X.1 X.2.1 X.2.2.1 X.2.2.2 L) => sc_writeLog (G := G) (d := d + 7) (F := F1) (I := L) (w := (dStep 0 X).1) (f := (dEnd 0 X.1 X.2.1 X.2.2.1 X.2.2.2).2) (v := (dEnd 0 X.1 X.2.1 X.2.2.1 X.2.2.2).1) (day := X.1 3) hsh hfx hst1 (by decide) hL1.1 hO1.1 (fun q q0 q1 => by
          have eo : aOf (dStep 0 X).1 q 0 = aOf X.1 q 0 := mDay_o hO.1 (Or.inr (Or.inr (Or.inr (Or.inr ⟨q, q0, Or.inl (Int.add_zero _), by omega⟩))))
          refine ⟨(hL1.2.1 q q0 (by omega)).1, ?_, fun hq => ?_⟩
          · rw [eo]; exact hEn.2.2 _ (Or.inr (Or.inr ⟨q, q0, Or.inl (Int.add_zero _)⟩))
          · rw [show aOf (dEnd 0 X.1 X.2.1 X.2.2.1 X.2.2.2).1 q 3 = aOf X.1 q 3 from hEn.2.2 _ (Or.inr (Or.inr ⟨q, q0, Or.inr rfl⟩))]
            by_cases e : aOf X.1 q 3 = 0
            · exact e
            · have z0 := dFelt_dead (calm := 0) (a := X.2.1) (b := X.2.2.1) (f := X.2.2.2) hO.1 q0 (by omega) e
              have b0 := (hO.1.2.1.2.2 q q0 (by omega)).1
              rw [eo] at hq
              omega) (Lg_w (Lg_fr hGK (hL1.2.2.2 _ (by decide) (by decide) (by decide) (by decide)) (hL1.2.2.2 _ (by decide) (by decide) (by decide) (by decide))) hDo) (hEn.2.2 3 (by omega)) (by omega)
        refine j_iload_n dX11_days_23 rfl ?_
        refine j_iload_n dX11_days_24 rfl ?_
        refine j_icmp_ge (tgt := 80) dX11_days_25 rfl (by first | omega | (split <;> omega)) (by first | omega | (split <;> omega)) (fun c_25 => by exact absurd c_25 (by omega)) (fun c_25 => ?_)
        refine j_aload_n dX11_days_28 rfl ?_
        refine r_getS dX11_days_29 flX11_20 (by first | assumption | exact hsh _ _ rfl) (fx_0_3 hfx) ?_
        refine r_getIE dX11_days_32 flX11_230 (by first | assumption | exact hsh _ _ rfl) r13 (fun b_32 => ?_)
        refine j_istore dX11_days_35 (by decide) ?_
        refine j_aload_n dX11_days_37 rfl ?_
        refine r_getS dX11_days_38 flX11_54 (by first | assumption | exact hsh _ _ rfl) (fx_0_10 hfx) ?_
        refine j_aload_n dX11_days_41 rfl ?_
        refine r_getS dX11_days_42 flX11_20 (by first | assumption | exact hsh _ _ rfl) (fx_0_3 hfx) ?_
        refine j_iconst dX11_days_45 ?_
        refine r_cv2EI dX11_days_46 cvX11_233 (by decide) (by first | assumption | exact hsh _ _ rfl) (Nat.le_of_ble_eq_true rfl) (Nat.le_of_eq (Nat.zero_add _)) (Nat.le_of_eq (Nat.zero_add _)) (sp) (fun L hL1 => ?_)
        refine j_istore dX11_days_49 (by decide) ?_
        refine j_iload dX11_days_51 rfl ?_
        refine j_if_le (tgt := 69) dX11_days_53 rfl (by first | omega | (split <;> omega)) (fun c_53 => by exact absurd ov (by omega)) (fun c_53 => ?_)
        refine j_aload_n dX11_days_56 rfl ?_
        refine r_getS dX11_days_57 flX11_54 (by first | assumption | exact hsh _ _ rfl) (fx_0_10 hfx) ?_
        refine j_aload_n dX11_days_60 rfl ?_
        refine r_getS dX11_days_61 flX11_20 (by first | assumption | exact hsh _ _ rfl) (fx_0_3 hfx) ?_
        refine j_iload dX11_days_64 rfl ?_
        refine r_cv2EV dX11_days_66 cvX11_237 (by decide) (by first | assumption | exact hsh _ _ rfl) (Nat.le_of_ble_eq_true rfl) (Nat.le_of_eq (Nat.zero_add _)) (Nat.le_of_eq (Nat.zero_add _)) (sw L hL1) (fun N hN => ?_)
        refine j_iload_n dX11_days_69 rfl ?_
        refine j_iload dX11_days_70 rfl ?_
        refine j_iadd dX11_days_72 ?_
        refine j_istore_n dX11_days_73 (by decide) ?_
        refine j_iinc dX11_days_74 rfl (by decide) ?_
        refine j_goto (tgt := 23) dX11_days_77 rfl ?_
        refine ih1 N _ _ (Rp_fr hL1.1 (fun a x0 x1 => hN.2 a (by omega) (by omega))) ?_ ?_ (fun a x0 x1 => ?_)
        · refine Lg_w (w := dTold 0 X.1 X.2.1 X.2.2.1 X.2.2.2) ?_ (fun k hk => hDay1 k (by omega))
          have := hN.1
          rw [e0] at this
          exact this
        · rw [hN.2 2 (by decide) (by decide), hL1.2.2.1]; exact h16
        · rw [hN.2 a (by omega) (by omega), hL1.2.2.2 a (by omega) (by omega) (by omega) x1]; exact hfr a x0 x1
      · have hno := dTold_no (calm := 0) (a := X.2.1) (b := X.2.2.1) (f := X.2.2.2) hO.1 ov
        refine j_iload_n dX11_days_23 rfl ?_
        refine j_iload_n dX11_days_24 rfl ?_
        refine j_icmp_ge (tgt := 80) dX11_days_25 rfl (by first | omega | (split <;> omega)) (by first | omega | (split <;> omega)) (fun c_25 => by exact absurd c_25 (by omega)) (fun c_25 => ?_)
        refine j_aload_n dX11_days_28 rfl ?_
        refine r_getS dX11_days_29 flX11_20 (by first | assumption | exact hsh _ _ rfl) (fx_0_3 hfx) ?_
        refine r_getIE dX11_days_32 flX11_230 (by first | assumption | exact hsh _ _ rfl) r13 (fun b_32 => ?_)
        refine j_istore dX11_days_35 (by decide) ?_
        refine j_aload_n dX11_days_37 rfl ?_
        refine r_getS dX11_days_38 flX11_54 (by first | assumption | exact hsh _ _ rfl) (fx_0_10 hfx) ?_
        refine j_aload_n dX11_days_41 rfl ?_
        refine r_getS dX11_days_42 flX11_20 (by first | assumption | exact hsh _ _ rfl) (fx_0_3 hfx) ?_
        refine j_iconst dX11_days_45 ?_
        refine r_cv2EI dX11_days_46 cvX11_233 (by decide) (by first | assumption | exact hsh _ _ rfl) (Nat.le_of_ble_eq_true rfl) (Nat.le_of_eq (Nat.zero_add _)) (Nat.le_of_eq (Nat.zero_add _)) (sp) (fun L hL1 => ?_)
        refine j_istore dX11_days_49 (by decide) ?_
        refine j_iload dX11_days_51 rfl ?_
        refine j_if_le (tgt := 69) dX11_days_53 rfl (by first | omega | (split <;> omega)) (fun c_53 => ?_) (fun c_53 => by exact absurd (by omega) ov)
        refine j_iload_n dX11_days_69 rfl ?_
        refine j_iload dX11_days_70 rfl ?_
        refine j_iadd dX11_days_72 ?_
        refine j_istore_n dX11_days_73 (by decide) ?_
        refine j_iinc dX11_days_74 rfl (by decide) ?_
        refine j_goto (tgt := 23) dX11_days_77 rfl ?_
        refine ih1 L _ _ hL1.1 ?_ (hL1.2.2.1.trans h16) (fun a x0 x1 => (hL1.2.2.2 a (by omega) (by omega) (by omega) x1).trans (hfr a x0 x1))
        refine Lg_w (Lg_fr hGK (hL1.2.2.2 _ (by decide) (by decide) (by decide) (by decide)) (hL1.2.2.2 _ (by decide) (by decide) (by decide) (by decide))) (fun k hk => ?_)
        rw [hDay1 k (by omega), hno]
        exact hDo k hk
  have k0 := key n.toNat 0 J (w, a0, b0, f0) none none (by omega) (by omega) rfl (dOK_0 hW h10) s1 s2 s3 (fun _ _ _ => rfl)
  rw [show (w, a0, b0, f0).1 9 - w 9 = 0 by show w 9 - w 9 = 0; omega] at k0
  exact k0
end
