/-! LAW, BOTH SIDES -/
section
variable {G : jzG} {d : Nat} {sh : List (Nat × Nat)} {I M : Nat → Int → Int} {F : Nat → Int → Option Nat} {B : Int → Int} {n : Int} {w : Int → Int}
theorem cp_law_1 (hP : Pl sh F) (hC : CR sh I F M) (hw : M 171 = w) (h159 : I 159 0 = 0) {R : pR} (hR : pTxt (I 1) (M 170 9) (lxB (I 1) (M 170 9) 0) w = R) (h : R.1 = -1) : jS G (d + 25) mX11_law [jR (some 0)] (sh, I, F) 1 6 (rHX xIae sh (CaL sh.length sh I (mzK M w R.2.1 (M 170 7)))) := by
  obtain ⟨hsh, hfx, hmm, hst, h12, h22⟩ := id hP
  obtain ⟨c1, c2, c3, ⟨m1, m2⟩, t1, t2, t3, t4⟩ := id hC
  rw [hw] at c1
  have fin : ∀ K : Nat → Int → Int, Tx K (I 1) (M 170 9) R.2.1 → (∀ a, a ≠ 0 → a ≠ 154 → a ≠ 155 → a ≠ 156 → a ≠ 157 → a ≠ 158 → a ≠ 159 → K a = I a) → (∀ k, k ≠ 1 → K 0 k = I 0 k) → K 0 1 = 0 → K 159 0 = I 159 0 → CaL sh.length sh I (mzK M w R.2.1 (M 170 7)) (jup K 0 2 R.2.1) F := by
    intro K hT hf h0k h01 h9
    have hf2 : ∀ a, a ≠ 0 → a ≠ 154 → a ≠ 155 → a ≠ 156 → a ≠ 157 → a ≠ 158 → a ≠ 159 → jup K 0 2 R.2.1 a = I a := fun a x0 x1 x2 x3 x4 x5 x6 => by rw [jup_ne _ _ _ x0, hf a x0 x1 x2 x3 x4 x5 x6]
    refine ⟨hP, ?_, fun a a0 _ => hf2 a (by omega) (by omega) (by omega) (by omega) (by omega) (by omega) (by omega), by rw [jup_ne _ _ _ (by decide)]; exact h9⟩
    exact CR_K hC (Sr_fr c1 (fun a a0 a1 => hf2 a (by omega) (by omega) (by omega) (by omega) (by omega) (by omega) (by omega)) (fun a ha => hf2 a (by omega) (by omega) (by omega) (by omega) (by omega) (by omega) (by omega))) (by rw [jup_row _ _ _ (by decide), h0k 6 (by decide)]) (by rw [jup_row _ _ _ (by decide)]; exact h01) (jup_same _ _ _ _) (hf2 1 (by decide) (by decide) (by decide) (by decide) (by decide) (by decide) (by decide)) (fun a a0 a1 a2 => hf2 a (by omega) (by omega) (by omega) (by omega) (by omega) (by omega) (by omega)) (fun a ha => hf2 a (by omega) (by omega) (by omega) (by omega) (by omega) (by omega) (by omega)) (fun s v hs h => h) (by rw [hf2 32 (by decide) (by decide) (by decide) (by decide) (by decide) (by decide) (by decide)]; exact m1) (by rw [hf2 32 (by decide) (by decide) (by decide) (by decide) (by decide) (by decide) (by decide)]) (Or.inl ⟨rfl, hw.symm⟩)
  refine jS_go [some (jR (some 0)), none] (by decide +kernel) rfl (by simp [jone]) (Nat.le_of_ble_eq_true rfl) rfl (fun hok => ?_)
  generalize hn : M 170 9 = n at *
  have sR := fun (J : Nat → Int → Int) (h1 : Tx J (I 1) n (lxB (I 1) n 0)) (h2 : J 159 0 = 0) => sl_read0 (G := G) (d := d) (F := F) hsh hfx h1 h2 hR h
  refine j_aload_n dX11_law_0 rfl ?_
  refine r_getS dX11_law_1 flX11_40 (by first | assumption | exact hsh _ _ rfl) (fx_0_8 hfx) ?_
  refine j_aload_n dX11_law_4 rfl ?_
  refine r_getS dX11_law_5 flX11_9 (by first | assumption | exact hsh _ _ rfl) (fx_0_0 hfx) ?_
  refine j_aload_n dX11_law_8 rfl ?_
  refine r_getIE dX11_law_9 flX11_65 (by first | assumption | exact hsh _ _ rfl) t1 (fun b_9 => ?_)
  refine r_cv2EV dX11_law_12 cvX11_72 (by decide) (by first | assumption | exact hsh _ _ rfl) (Nat.le_of_ble_eq_true rfl) (Nat.le_of_eq (Nat.zero_add _)) (Nat.le_of_eq (Nat.zero_add _)) (st_open (d := d + 22) hsh hfx t2) (fun J hJ => ?_)
  refine j_aload_n dX11_law_15 rfl ?_
  refine j_iconst dX11_law_16 ?_
  refine r_putI dX11_law_17 flX11_65 rfl (by first | assumption | exact hsh _ _ rfl) (by first | omega | (split <;> omega)) (fun q => by cases q) ?_
  refine j_aload_n dX11_law_20 rfl ?_
  refine r_getS dX11_law_21 flX11_47 (by first | assumption | exact hsh _ _ rfl) (fx_0_9 hfx) ?_
  refine j_aload_n dX11_law_24 rfl ?_
  refine r_getS dX11_law_25 flX11_40 (by first | assumption | exact hsh _ _ rfl) (fx_0_8 hfx) ?_
  refine j_callV (As := [jR (some 154)]) (S := []) (mc' := 0) (ms' := 0) (rc' := 1) (rs' := 6) dX11_law_28 cvX11_107 (by decide) (hsh 156 (3, 0) rfl) rfl (Nat.le_of_ble_eq_true rfl) (by decide) (by decide) (jS_mono (sR (jup J 0 1 0) (Tx_fr hJ.1 (jup_ne _ _ _ (by decide)) (jup_ne _ _ _ (by decide))) (by rw [jup_ne _ _ _ (by decide), hJ.2 159 (by decide) (by decide)]; exact h159)) (fun o h9 ⟨K, k1, k2, k3, k4⟩ => ?_))
  subst k1 k2
  show jW G mX11_law (d + 25) _ (28 + 3) _ (jR none :: []) (sh, K, F) 1 6
  have hK := fin K k3 (fun a x0 x1 x2 x3 x4 x5 x6 => by rw [k4.1 a x1 x3 x4 x5 x6, jup_ne _ _ _ x0, hJ.2 a x1 x2]) (fun k hk => by rw [k4.1 0 (by decide) (by decide) (by decide) (by decide) (by decide), jup_row _ _ _ hk, hJ.2 0 (by decide) (by decide)]) (by rw [k4.1 0 (by decide) (by decide) (by decide) (by decide) (by decide), jup_same]) (by rw [k4.2, jup_ne _ _ _ (by decide), hJ.2 159 (by decide) (by decide)])
  have kb := k3.2.2.2.1
  refine j_astoreN_n dX11_law_31 (by decide) ?_
  refine j_aload_n dX11_law_32 rfl ?_
  refine j_aload_n dX11_law_33 rfl ?_
  refine j_ifnonnull (tgt := 47) dX11_law_34 rfl (fun a_34 c_34 => by cases c_34) (fun c_34 => ?_)
  refine j_aload_n dX11_law_37 rfl ?_
  refine r_getS dX11_law_38 flX11_40 (by first | assumption | exact hsh _ _ rfl) (fx_0_8 hfx) ?_
  refine r_getIE dX11_law_41 flX11_86 (by first | assumption | exact hsh _ _ rfl) kb (fun b_41 => ?_)
  refine j_goto (tgt := 48) dX11_law_44 rfl ?_
  refine r_putI dX11_law_48 flX11_13 rfl (by first | assumption | exact hsh _ _ rfl) (by first | omega | (split <;> omega)) (fun q => by cases q) ?_
  refine j_aload_n dX11_law_51 rfl ?_
  refine j_ifnonnull (tgt := 65) dX11_law_52 rfl (fun a_52 c_52 => by cases c_52) (fun c_52 => ?_)
  exact j_throw dX11_law_55 dX11_law_58 dX11_law_59 dX11_law_61 dX11_law_64 rfl th_text (⟨_, _, rfl, rfl, hK⟩)
theorem cp_law_0 (hP : Pl sh F) (hC : CR sh I F M) (hw : M 171 = w) (h159 : I 159 0 = 0) {R : pR} (hR : pTxt (I 1) (M 170 9) (lxB (I 1) (M 170 9) 0) w = R) (h : 0 ≤ R.1) : jS G (d + 25) mX11_law [jR (some 0)] (sh, I, F) 4 430 (rHI R.1 (sh ++ lwX R.2.2.1) (CaL sh.length (sh ++ lwX R.2.2.1) I (mzK M (wLaw R.2.2.2 R.1) (-1) 0))) := by
  obtain ⟨hsh, hfx, hmm, hst, h12, h22⟩ := id hP
  obtain ⟨c1, c2, c3, ⟨m1, m2⟩, t1, t2, t3, t4⟩ := id hC
  rw [hw] at c1
  have hlen := ShOK_len hsh
  have hqi := lx_le (B := I 1) (n := M 170 9) (lo := 32) (hi := 32) (p := 0) t2.1
  have hg := pTxt_g (B := I 1) (n := M 170 9) (q := lxB (I 1) (M 170 9) 0) (w := w) hqi t2.2
  rw [hR] at hg
  have g4 : R.1 ≤ 12 ∧ ∀ i, i < 1270 → R.2.2.2 i = w i := by
    rcases hg.1 with h1 | h1
    · omega
    · exact ⟨h1.2.1, h1.2.2.2.2⟩
  obtain ⟨l, hl⟩ : ∃ x, x = sh.length := ⟨_, rfl⟩
  have fin : ∀ (K : Nat → Int → Int) (F1 : Nat → Int → Option Nat), LawAt (sh ++ lwX R.2.2.1) K F1 l (wLaw R.2.2.2 R.1) → (∀ a, a < l → a ≠ 0 → a ≠ 154 → a ≠ 155 → a ≠ 156 → a ≠ 157 → a ≠ 158 → a ≠ 159 → K a = I a) → (∀ k, k ≠ 1 → K 0 k = I 0 k) → K 0 1 = 0 → K 159 0 = I 159 0 → (∀ a, a < l → F1 a = F a) → CaL sh.length (sh ++ lwX R.2.2.1) I (mzK M (wLaw R.2.2.2 R.1) (-1) 0) (jup (jup K 0 2 (-1)) 32 1 0) (jup F1 2 18 (some l)) := by
    intro K F1 hLw hf h0k h01 h9 hF1
    have hf2 : ∀ a, a < l → a ≠ 0 → a ≠ 32 → a ≠ 154 → a ≠ 155 → a ≠ 156 → a ≠ 157 → a ≠ 158 → a ≠ 159 → jup (jup K 0 2 (-1)) 32 1 0 a = I a := fun a a0 x0 y0 x1 x2 x3 x4 x5 x6 => by rw [jup_ne _ _ _ y0, jup_ne _ _ _ x0, hf a a0 x0 x1 x2 x3 x4 x5 x6]
    have hPl : Pl (sh ++ lwX R.2.2.1) (jup F1 2 18 (some l)) := Pl_F (Pl_app hP (fun a ha => hF1 a (by omega)))
    have wo : ∀ k, k ≠ 2 → k < 420 → wLaw R.2.2.2 R.1 k = w k := fun k k0 k1 => (wLaw_o k0 k1).trans (g4.2 k (by omega))
    refine ⟨hPl, ?_, fun a a0 a1 => hf2 a (by omega) (by omega) (by omega) (by omega) (by omega) (by omega) (by omega) (by omega) (by omega), by rw [jup_ne _ _ _ (by decide), jup_ne _ _ _ (by decide)]; exact h9⟩
    have hLw2 : LawAt (sh ++ lwX R.2.2.1) (jup (jup K 0 2 (-1)) 32 1 0) (jup F1 2 18 (some l)) l (wLaw R.2.2.2 R.1) := LawAt_F (LawAt_fr hLw (fun a ha => by rw [jup_ne _ _ _ (by omega), jup_ne _ _ _ (by omega)]))
    have e16 : jup (jup K 0 2 (-1)) 32 1 0 2 16 = w 9 := by rw [hf2 2 (by omega) (by omega) (by omega) (by omega) (by omega) (by omega) (by omega) (by omega) (by omega)]; exact c1.2.2.1
    have hS : Sr (sh ++ lwX R.2.2.1) (jup (jup K 0 2 (-1)) 32 1 0) (jup F1 2 18 (some l)) 2 (wLaw R.2.2.2 R.1) := by
      refine ⟨Rp_cong (Rp_fr c1.1 (fun a a0 a1 => hf2 a (by omega) (by omega) (by omega) (by omega) (by omega) (by omega) (by omega) (by omega) (by omega))) (fun k k0 k1 => wo k k1 (by omega)), Lg_w (Lg_fr c1.2.1 (hf2 _ (by omega) (by omega) (by omega) (by omega) (by omega) (by omega) (by omega) (by omega) (by omega)) (hf2 _ (by omega) (by omega) (by omega) (by omega) (by omega) (by omega) (by omega) (by omega) (by omega))) (fun k hk => wo k (by omega) (by omega)), by rw [e16, wo 9 (by decide) (by decide)], Or.inr ⟨wLaw_2, l, jup_same _ _ _ _, hLw2⟩⟩
    refine CR_L hC hS (by rw [jup_ne _ _ _ (by decide), jup_row _ _ _ (by decide), h0k 6 (by decide)]) (by rw [jup_ne _ _ _ (by decide), jup_row _ _ _ (by decide)]; exact h01) (by rw [jup_ne _ _ _ (by decide), jup_same]) (hf2 1 (by omega) (by decide) (by decide) (by decide) (by decide) (by decide) (by decide) (by decide) (by decide)) (fun a a0 a1 => hf2 a (by omega) (by omega) (by omega) (by omega) (by omega) (by omega) (by omega) (by omega) (by omega)) (fun a a0 a1 => hf2 a (by omega) (by omega) (by omega) (by omega) (by omega) (by omega) (by omega) (by omega) (by omega)) ?_ (fun a a0 a1 => ?_) (jup_same _ _ _ _) (by rw [jup_row _ _ _ (by decide), jup_ne _ _ _ (by decide), hf 32 (by omega) (by decide) (by decide) (by decide) (by decide) (by decide) (by decide) (by decide)])
    · rw [jup_cell _ _ _ _ (by decide), hF1 22 (by omega)]
    · funext b
      rw [jup_cell _ _ _ _ (by omega), hF1 a (by omega)]
  refine jS_go [some (jR (some 0)), none] (by decide +kernel) rfl (by simp [jone]) (Nat.le_of_ble_eq_true rfl) rfl (fun hok => ?_)
  generalize hn : M 170 9 = n at *
  have sR := fun (J : Nat → Int → Int) (h1 : Tx J (I 1) n (lxB (I 1) n 0)) (h2 : J 159 0 = 0) => sl_read1 (G := G) (d := d) (F := F) hsh hfx h1 h2 hR h
  have hsh2 : ShOK (sh ++ lwX R.2.2.1) := ShOK_app hsh
  have hl2 : (sh ++ lwX R.2.2.1)[l]? = some (2, 0) := by rw [hl]; exact get_end
  refine j_aload_n dX11_law_0 rfl ?_
  refine r_getS dX11_law_1 flX11_40 (by first | assumption | exact hsh _ _ rfl) (fx_0_8 hfx) ?_
  refine j_aload_n dX11_law_4 rfl ?_
  refine r_getS dX11_law_5 flX11_9 (by first | assumption | exact hsh _ _ rfl) (fx_0_0 hfx) ?_
  refine j_aload_n dX11_law_8 rfl ?_
  refine r_getIE dX11_law_9 flX11_65 (by first | assumption | exact hsh _ _ rfl) t1 (fun b_9 => ?_)
  refine r_cv2EV dX11_law_12 cvX11_72 (by decide) (by first | assumption | exact hsh _ _ rfl) (Nat.le_of_ble_eq_true rfl) (Nat.le_of_eq (Nat.zero_add _)) (Nat.le_of_eq (Nat.zero_add _)) (st_open (d := d + 22) hsh hfx t2) (fun J hJ => ?_)
  refine j_aload_n dX11_law_15 rfl ?_
  refine j_iconst dX11_law_16 ?_
  refine r_putI dX11_law_17 flX11_65 rfl (by first | assumption | exact hsh _ _ rfl) (by first | omega | (split <;> omega)) (fun q => by cases q) ?_
  refine j_aload_n dX11_law_20 rfl ?_
  refine r_getS dX11_law_21 flX11_47 (by first | assumption | exact hsh _ _ rfl) (fx_0_9 hfx) ?_
  refine j_aload_n dX11_law_24 rfl ?_
  refine r_getS dX11_law_25 flX11_40 (by first | assumption | exact hsh _ _ rfl) (fx_0_8 hfx) ?_
  refine j_callV (As := [jR (some 154)]) (S := []) (mc' := 4) (ms' := 430) (rc' := 0) (rs' := 0) dX11_law_28 cvX11_107 (by decide) (hsh 156 (3, 0) rfl) rfl (Nat.le_of_ble_eq_true rfl) (by decide) (by decide) (jS_mono (sR (jup J 0 1 0) (Tx_fr hJ.1 (jup_ne _ _ _ (by decide)) (jup_ne _ _ _ (by decide))) (by rw [jup_ne _ _ _ (by decide), hJ.2 159 (by decide) (by decide)]; exact h159)) (fun o h9 ⟨K, F1, k1, k2, k3, k4, k5, k6, k7⟩ => ?_))
  subst k1 k2
  rw [← hl] at k3 k4 k5 k7 ⊢
  show jW G mX11_law (d + 25) _ (28 + 3) _ (jR (some l) :: []) (sh ++ lwX R.2.2.1, K, F1) 0 0
  have hK := fin K F1 k3 (fun a a0 x0 x1 x2 x3 x4 x5 x6 => by rw [k5 a a0 x1 x3 x4 x5 x6, jup_ne _ _ _ x0, hJ.2 a x1 x2]) (fun k hk => by rw [k5 0 (by omega) (by decide) (by decide) (by decide) (by decide) (by decide), jup_row _ _ _ hk, hJ.2 0 (by decide) (by decide)]) (by rw [k5 0 (by omega) (by decide) (by decide) (by decide) (by decide) (by decide), jup_same]) (by rw [k6, jup_ne _ _ _ (by decide), hJ.2 159 (by decide) (by decide)]) k7
  rw [← hl] at hK
  have q81 : jup (jup K 0 2 (-1)) 32 1 0 l 0 = R.1 := by rw [jup_ne _ _ _ (by omega), jup_ne _ _ _ (by omega)]; exact k4
  have hsh := hsh2
  have hfx : FxOK F1 := FxOK_eq hfx (fun a ha => k7 a (by omega))
  have hfx2 : FxOK (jup F1 2 18 (some l)) := FxOK_F hfx
  refine j_astore_n dX11_law_31 (by decide) ?_
  refine j_aload_n dX11_law_32 rfl ?_
  refine j_aload_n dX11_law_33 rfl ?_
  refine j_ifnonnull (tgt := 47) dX11_law_34 rfl (fun a_34 c_34 => ?_) (fun c_34 => by cases c_34)
  refine j_iconst dX11_law_47 ?_
  refine r_putI dX11_law_48 flX11_13 rfl (by first | assumption | exact hsh _ _ rfl) (by first | omega | (split <;> omega)) (fun q => by cases q) ?_
  refine j_aload_n dX11_law_51 rfl ?_
  refine j_ifnonnull (tgt := 65) dX11_law_52 rfl (fun a_52 c_52 => ?_) (fun c_52 => by cases c_52)
  refine j_aload_n dX11_law_65 rfl ?_
  refine r_getS dX11_law_66 flX11_20 (by first | assumption | exact hsh _ _ rfl) (fx_0_3 hfx) ?_
  refine j_aload_n dX11_law_69 rfl ?_
  refine r_putR dX11_law_70 flX11_110 rfl (by first | assumption | exact hsh _ _ rfl) ?_
  have hfx := hfx2
  refine j_aload_n dX11_law_73 rfl ?_
  refine r_getS dX11_law_74 flX11_33 (by first | assumption | exact hsh _ _ rfl) (fx_0_7 hfx) ?_
  refine r_cv0V dX11_law_77 cvX11_104 (by decide) (by first | assumption | exact hsh _ _ rfl) (Nat.le_of_ble_eq_true rfl) (Nat.le_of_eq (Nat.zero_add _)) (Nat.le_of_eq (Nat.zero_add _)) (sc_forget hsh) ?_
  refine j_aload_n dX11_law_80 rfl ?_
  refine r_getIE dX11_law_81 flX11_114 (by first | assumption | exact hsh _ _ rfl) q81 (fun b_81 => ?_)
  refine j_iret dX11_law_84 rfl ?_
  exact ⟨_, _, rfl, rfl, hK⟩
/-- the draft as far as it is the law -/
def wDr (v : Int → Int) (z : Int) : Int → Int := fun k => if 420 ≤ k ∧ k < 420 + z then v (k + 849) else v k
theorem wDr_0 {v : Int → Int} : wDr v 0 = v := by
  funext k
  unfold wDr
  rw [if_neg (by omega)]
theorem wDr_s {v : Int → Int} {z : Int} (hz : 0 ≤ z) : wup (wDr v z) (420 + z) (v (1269 + z)) = wDr v (z + 1) := by
  funext k
  unfold wDr
  by_cases c : k = 420 + z
  · subst c
    rw [wup_same, if_pos (by omega)]
    congr 1
    omega
  · rw [wup_ne _ _ c]
    by_cases c2 : 420 ≤ k ∧ k < 420 + z
    · rw [if_pos c2, if_pos (by omega)]
    · rw [if_neg c2, if_neg (by omega)]
theorem wDr_law {v : Int → Int} {c : Int} : wup (wDr (wup v 1269 c) 849) 2 1 = wLaw v c := by
  funext k
  unfold wLaw wDr
  by_cases e : k = 2
  · subst e; rw [wup_same, if_pos rfl]
  · rw [wup_ne _ _ e, if_neg e]
    by_cases e2 : 420 ≤ k ∧ k < 1269
    · rw [if_pos e2, if_pos (by omega)]
      by_cases e3 : k = 420
      · subst e3; rw [if_pos rfl]; exact wup_same _ _ _
      · rw [if_neg e3, wup_ne _ _ (by omega)]
    · rw [if_neg e2, if_neg (by omega)]
      by_cases e3 : k = 1269
      · subst e3; rw [if_pos rfl]; exact wup_same _ _ _
      · rw [if_neg e3, wup_ne _ _ e3]
theorem mp_law_1 (hsh : ShOK sh) (hfx : FxOK F) (hn : I 170 9 = n) (hn2 : 0 ≤ n ∧ n ≤ 400) (hB : ∀ k, 0 ≤ k → k < n → (0 ≤ B k ∧ B k ≤ 255) ∧ I 176 k = sg8 (B k)) (hw : I 171 = w) {R : pR} (hR : pTxt B n (lxB B n 0) w = R) (h : R.1 = -1) : jS G (d + 31) mX12_law [jR (some 170)] (sh, I, F) 0 0 (rEI 0 sh F (fun J => ∃ w', (∀ k, k < 1270 → w' k = w k) ∧ AcO 1 I (mzK I w' R.2.1 (I 170 7)) J)) := by
  have sR := ml_readAll (G := G) (d := d) (F := F) hsh hfx hn hn2 hB hw
  rw [hR, h] at sR
  refine jS_go [some (jR (some 170)), none, none] (by decide +kernel) rfl (by simp [jone]) (Nat.le_of_ble_eq_true rfl) rfl (fun hok => ?_)
  refine j_aload_n dX12_law_0 rfl ?_
  refine j_iconst dX12_law_1 ?_
  refine r_cv1EI dX12_law_2 cvX12_249 (by decide) (by first | assumption | exact hsh _ _ rfl) (Nat.le_of_ble_eq_true rfl) (Nat.le_of_eq (Nat.zero_add _)) (Nat.le_of_eq (Nat.zero_add _)) (sR) (fun K hK => ?_)
  obtain ⟨⟨v1, v2, v3, v4⟩, -, k3⟩ := hK
  have q12 := k3 rfl
  refine j_istore_n dX12_law_5 (by decide) ?_
  refine j_aload_n dX12_law_6 rfl ?_
  refine j_iload_n dX12_law_7 rfl ?_
  refine j_if_ge (tgt := 18) dX12_law_8 rfl (by first | omega | (split <;> omega)) (fun c_8 => by exact absurd c_8 (by decide)) (fun c_8 => ?_)
  refine j_aload_n dX12_law_11 rfl ?_
  refine r_getIE dX12_law_12 flX12_96 (by first | assumption | exact hsh _ _ rfl) q12 (fun b_12 => ?_)
  refine j_goto (tgt := 19) dX12_law_15 rfl ?_
  refine r_putI dX12_law_19 flX12_33 rfl (by first | assumption | exact hsh _ _ rfl) (by first | omega | (split <;> omega)) (fun q => by cases q) ?_
  refine j_aload_n dX12_law_22 rfl ?_
  refine j_iload_n dX12_law_23 rfl ?_
  refine j_if_ge (tgt := 31) dX12_law_24 rfl (by first | omega | (split <;> omega)) (fun c_24 => by exact absurd c_24 (by decide)) (fun c_24 => ?_)
  refine j_iconst dX12_law_27 ?_
  refine j_goto (tgt := 32) dX12_law_28 rfl ?_
  refine j_iconst dX12_law_32 ?_
  refine r_cv2I dX12_law_33 cvX12_253 (by decide) (by first | assumption | exact hsh _ _ rfl) (Nat.le_of_ble_eq_true rfl) (Nat.le_of_eq (Nat.zero_add _)) (Nat.le_of_eq (Nat.zero_add _)) (sm_thr1 hsh (by decide)) ?_
  refine j_if_eq (tgt := 41) dX12_law_36 rfl (by first | omega | (split <;> omega)) (fun c_36 => by exact absurd c_36 (by decide)) (fun c_36 => ?_)
  refine j_iconst dX12_law_39 ?_
  refine j_iret dX12_law_40 rfl ?_
  refine rEI_of rfl ⟨K 171, fun k hk => by rw [v4 k hk, hw], jup_same _ _ _ _, ⟨?_, ?_, ?_, ?_, ?_, ?_, ?_, ?_⟩, fun a ha => by rw [jup_ne _ _ _ (by omega), jup_ne _ _ _ (by omega), v1 a (by omega) (by omega)]⟩
  · rw [jup_ne _ _ _ (by decide), jup_ne _ _ _ (by decide)]; rfl
  · rw [jup_ne _ _ _ (by decide), jup_ne _ _ _ (by decide), v1 172 (by decide) (by decide), mzK_o (by decide) (by decide)]
  · rw [jup_ne _ _ _ (by decide), jup_ne _ _ _ (by decide), v1 175 (by decide) (by decide), mzK_o (by decide) (by decide)]
  · rw [jup_ne _ _ _ (by decide), jup_ne _ _ _ (by decide), v1 176 (by decide) (by decide), mzK_o (by decide) (by decide)]
  · rw [jup_row _ _ _ (by decide), jup_row _ _ _ (by decide), v2 6 (by decide) (by decide) (by decide) (by decide) (by decide) (by decide) (by decide)]; rfl
  · rw [jup_row _ _ _ (by decide), jup_row _ _ _ (by decide), v2 7 (by decide) (by decide) (by decide) (by decide) (by decide) (by decide) (by decide)]; rfl
  · rw [jup_row _ _ _ (by decide), jup_row _ _ _ (by decide), v3.2]; rfl
  · rw [jup_row _ _ _ (by decide), jup_same]; rfl
theorem mp_law_0 (hsh : ShOK sh) (hfx : FxOK F) (hn : I 170 9 = n) (hn2 : 0 ≤ n ∧ n ≤ 400) (hB : ∀ k, 0 ≤ k → k < n → (0 ≤ B k ∧ B k ≤ 255) ∧ I 176 k = sg8 (B k)) (hw : I 171 = w) {R : pR} (hR : pTxt B n (lxB B n 0) w = R) (h : 0 ≤ R.1) : jS G (d + 31) mX12_law [jR (some 170)] (sh, I, F) 0 0 (rEI R.1 sh F (AcO 0 I (mzK I (wLaw R.2.2.2 R.1) (-1) 0))) := by
  have sR := ml_readAll (G := G) (d := d) (F := F) hsh hfx hn hn2 hB hw
  rw [hR] at sR
  have hqi := lx_le (B := B) (n := n) (lo := 32) (hi := 32) (p := 0) hn2.1
  have hg := pTxt_g (B := B) (n := n) (q := lxB B n 0) (w := w) hqi hn2.2
  rw [hR] at hg
  have g1 : R.1 ≤ 12 := by
    rcases hg.1 with h1 | h1
    · omega
    · exact h1.2.1
  obtain ⟨c, hc⟩ : ∃ x, R.1 = x := ⟨_, rfl⟩
  obtain ⟨v, hv⟩ : ∃ x, R.2.2.2 = x := ⟨_, rfl⟩
  rw [hc, hv] at sR ⊢
  rw [hc] at h g1
  refine jS_go [some (jR (some 170)), none, none] (by decide +kernel) rfl (by simp [jone]) (Nat.le_of_ble_eq_true rfl) rfl (fun hok => ?_)
  have key : ∀ (K : Nat → Int → Int), FrV I K → ∀ (u : Nat) (z : Int) (J : Nat → Int → Int), z + u = 849 → 0 ≤ z → J 171 = wDr (wup v 1269 c) z → (∀ a, a ≠ 171 → J a = jup K 170 14 (-1) a) → jW G mX12_law (d + 31) (rEI c sh F (AcO 0 I (mzK I (wLaw v c) (-1) 0))) 52 [some (jR (some 170)), some (jI c), some (jI z)] [] (sh, J, F) 0 0 := by
    intro K hK
    obtain ⟨v1, v2, v3, v4⟩ := hK
    intro u
    induction u with
    | zero =>
      intro z J hz hz0 h171 hfr
      have ez : z = 849 := by omega
      subst ez
      refine j_iload_n dX12_law_52 rfl ?_
      refine j_sipush dX12_law_53 (by decide) ?_
      refine j_icmp_ge (tgt := 85) dX12_law_56 rfl (by first | omega | (split <;> omega)) (by first | omega | (split <;> omega)) (fun c_56 => ?_) (fun c_56 => by exact absurd (by decide) c_56)
      refine j_aload_n dX12_law_85 rfl ?_
      refine r_getS dX12_law_86 flX12_13 (by first | assumption | exact hsh _ _ rfl) (fx_170_1 hfx) ?_
      refine j_iconst dX12_law_89 ?_
      refine j_iconst dX12_law_90 ?_
      refine r_iastore dX12_law_91 (by first | assumption | exact hsh _ _ rfl) (by first | omega | (split <;> omega)) (by first | omega | (split <;> omega)) (by first | omega | (split <;> omega)) ?_
      refine j_aload_n dX12_law_92 rfl ?_
      refine j_iconst dX12_law_93 ?_
      refine r_putI dX12_law_94 flX12_61 rfl (by first | assumption | exact hsh _ _ rfl) (by first | omega | (split <;> omega)) (fun q => by cases q) ?_
      refine j_iload_n dX12_law_97 rfl ?_
      refine j_iret dX12_law_98 rfl ?_
      refine rEI_of rfl ⟨?_, ⟨?_, ?_, ?_, ?_, ?_, ?_, ?_, ?_⟩, fun a ha => by rw [jup_ne _ _ _ (by omega), jup_ne _ _ _ (by omega), hfr a (by omega), jup_ne _ _ _ (by omega), v1 a (by omega) (by omega)]⟩
      · rw [jup_row _ _ _ (by decide), jup_ne _ _ _ (by decide), hfr 170 (by decide), jup_row _ _ _ (by decide)]; exact v3.1
      · rw [jup_ne _ _ _ (by decide), jup_at, h171, wDr_law]; rfl
      · rw [jup_ne _ _ _ (by decide), jup_ne _ _ _ (by decide), hfr 172 (by decide), jup_ne _ _ _ (by decide), v1 172 (by decide) (by decide), mzK_o (by decide) (by decide)]
      · rw [jup_ne _ _ _ (by decide), jup_ne _ _ _ (by decide), hfr 175 (by decide), jup_ne _ _ _ (by decide), v1 175 (by decide) (by decide), mzK_o (by decide) (by decide)]
      · rw [jup_ne _ _ _ (by decide), jup_ne _ _ _ (by decide), hfr 176 (by decide), jup_ne _ _ _ (by decide), v1 176 (by decide) (by decide), mzK_o (by decide) (by decide)]
      · rw [jup_row _ _ _ (by decide), jup_ne _ _ _ (by decide), hfr 170 (by decide), jup_row _ _ _ (by decide), v2 6 (by decide) (by decide) (by decide) (by decide) (by decide) (by decide) (by decide)]; rfl
      · rw [jup_same]; rfl
      · rw [jup_row _ _ _ (by decide), jup_ne _ _ _ (by decide), hfr 170 (by decide), jup_row _ _ _ (by decide), v3.2]; rfl
      · rw [jup_row _ _ _ (by decide), jup_ne _ _ _ (by decide), hfr 170 (by decide), jup_same]; rfl
    | succ u ih =>
      intro z J hz hz0 h171 hfr
      have q : J 171 (1269 + z) = wup v 1269 c (1269 + z) := by rw [h171]; unfold wDr; rw [if_neg (by omega)]
      refine jW_ok (fun hokJ => ?_)
      have bq : jin (wup v 1269 c (1269 + z)) := by rw [← q]; exact hokJ.2.1 171 _
      refine j_iload_n dX12_law_52 rfl ?_
      refine j_sipush dX12_law_53 (by decide) ?_
      refine j_icmp_ge (tgt := 85) dX12_law_56 rfl (by first | omega | (split <;> omega)) (by first | omega | (split <;> omega)) (fun c_56 => by exact absurd c_56 (by omega)) (fun c_56 => ?_)
      refine j_aload_n dX12_law_59 rfl ?_
      refine r_getS dX12_law_60 flX12_13 (by first | assumption | exact hsh _ _ rfl) (fx_170_1 hfx) ?_
      refine j_sipush dX12_law_63 (by decide) ?_
      refine j_iload_n dX12_law_66 rfl ?_
      refine j_iadd dX12_law_67 ?_
      refine j_aload_n dX12_law_68 rfl ?_
      refine r_getS dX12_law_69 flX12_13 (by first | assumption | exact hsh _ _ rfl) (fx_170_1 hfx) ?_
      refine j_sipush dX12_law_72 (by decide) ?_
      refine j_iload_n dX12_law_75 rfl ?_
      refine j_iadd dX12_law_76 ?_
      refine r_ialoadE dX12_law_77 (by first | assumption | exact hsh _ _ rfl) (by first | omega | (split <;> omega)) (by first | omega | (split <;> omega)) q (fun b_77 => ?_)
      refine r_iastore dX12_law_78 (by first | assumption | exact hsh _ _ rfl) (by first | omega | (split <;> omega)) (by first | omega | (split <;> omega)) (by first | omega | (split <;> omega)) ?_
      refine j_iinc dX12_law_79 rfl (by decide) ?_
      refine j_goto (tgt := 52) dX12_law_82 rfl ?_
      exact ih (z + 1) _ (by omega) (by omega) (by rw [jup_at, h171, wDr_s hz0]) (fun a x1 => by rw [jup_ne _ _ _ x1]; exact hfr a x1)
  refine j_aload_n dX12_law_0 rfl ?_
  refine j_iconst dX12_law_1 ?_
  refine r_cv1EI dX12_law_2 cvX12_249 (by decide) (by first | assumption | exact hsh _ _ rfl) (Nat.le_of_ble_eq_true rfl) (Nat.le_of_eq (Nat.zero_add _)) (Nat.le_of_eq (Nat.zero_add _)) (sR) (fun K hK => ?_)
  obtain ⟨hV, k2, -⟩ := hK
  have q171 := k2 h
  refine j_istore_n dX12_law_5 (by decide) ?_
  refine j_aload_n dX12_law_6 rfl ?_
  refine j_iload_n dX12_law_7 rfl ?_
  refine j_if_ge (tgt := 18) dX12_law_8 rfl (by first | omega | (split <;> omega)) (fun c_8 => ?_) (fun c_8 => by exact absurd h c_8)
  refine j_iconst dX12_law_18 ?_
  refine r_putI dX12_law_19 flX12_33 rfl (by first | assumption | exact hsh _ _ rfl) (by first | omega | (split <;> omega)) (fun q => by cases q) ?_
  refine j_aload_n dX12_law_22 rfl ?_
  refine j_iload_n dX12_law_23 rfl ?_
  refine j_if_ge (tgt := 31) dX12_law_24 rfl (by first | omega | (split <;> omega)) (fun c_24 => ?_) (fun c_24 => by exact absurd h c_24)
  refine j_iconst dX12_law_31 ?_
  refine j_iconst dX12_law_32 ?_
  refine r_cv2I dX12_law_33 cvX12_253 (by decide) (by first | assumption | exact hsh _ _ rfl) (Nat.le_of_ble_eq_true rfl) (Nat.le_of_eq (Nat.zero_add _)) (Nat.le_of_eq (Nat.zero_add _)) (sm_thr0 hsh) ?_
  refine j_if_eq (tgt := 41) dX12_law_36 rfl (by first | omega | (split <;> omega)) (fun c_36 => ?_) (fun c_36 => by exact absurd c_36 (by decide))
  refine j_aload_n dX12_law_41 rfl ?_
  refine r_getS dX12_law_42 flX12_13 (by first | assumption | exact hsh _ _ rfl) (fx_170_1 hfx) ?_
  refine j_sipush dX12_law_45 (by decide) ?_
  refine j_iload_n dX12_law_48 rfl ?_
  refine r_iastore dX12_law_49 (by first | assumption | exact hsh _ _ rfl) (by first | omega | (split <;> omega)) (by first | omega | (split <;> omega)) (by first | omega | (split <;> omega)) ?_
  refine j_iconst dX12_law_50 ?_
  refine j_istore_n dX12_law_51 (by decide) ?_
  exact key K hV 849 0 _ (by decide) (by decide) (by rw [wDr_0, jup_at, jup_ne _ _ _ (by decide), q171]) (fun a ha => jup_ne _ _ _ ha)
end
