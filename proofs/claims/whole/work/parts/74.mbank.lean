/-! THE MODEL READS A BANK'S TEXT -/
def FrY (I J : Nat → Int → Int) : Prop := (∀ a, a ≠ 170 → a ≠ 171 → J a = I a) ∧ (∀ k, k ≠ 10 → k ≠ 12 → J 170 k = I 170 k) ∧ ∀ k, (k < 0 ∨ 180 ≤ k) → J 171 k = I 171 k
theorem FrY_X {I J : Nat → Int → Int} (h : FrX I J) : FrY I J := ⟨fun a ha _ => h.1 a ha, h.2, fun k _ => by rw [h.1 171 (by decide)]⟩
theorem FrY_tr {I J K : Nat → Int → Int} (h : FrY I J) (h2 : FrY J K) : FrY I K := ⟨fun a a0 a1 => (h2.1 a a0 a1).trans (h.1 a a0 a1), fun k k0 k1 => (h2.2.1 k k0 k1).trans (h.2.1 k k0 k1), fun k hk => (h2.2.2 k hk).trans (h.2.2 k hk)⟩
theorem FrY_w {I J : Nat → Int → Int} {k v : Int} (h : FrY I J) (hk : 0 ≤ k ∧ k < 180) : FrY I (jup J 171 k v) := ⟨fun a a0 a1 => by rw [jup_ne _ _ _ a1]; exact h.1 a a0 a1, fun j h0 h1 => by rw [jup_ne _ _ _ (by decide)]; exact h.2.1 j h0 h1, fun j hj => by rw [jup_row _ _ _ (by omega)]; exact h.2.2 j hj⟩
theorem FrX_171 {I J : Nat → Int → Int} (h : FrX I J) : J 171 = I 171 := h.1 171 (by decide)
theorem Mt_w {I : Nat → Int → Int} {B : Int → Int} {n p b k v : Int} (h : Mt I B n p b) : Mt (jup I 171 k v) B n p b := by
  unfold Mt
  rw [jup_ne _ _ _ (by decide), jup_ne _ _ _ (by decide)]
  exact h
/-- the model behind a line -/
def bMd (I : Nat → Int → Int) (B : Int → Int) (n : Int) (R : bR) (J : Nat → Int → Int) : Prop := FrY I J ∧ (R.1 = 1 → ∃ p b, Mt J B n p b ∧ lxB B n p = R.2.1 ∧ J 171 = R.2.2) ∧ (R.1 = 0 → ∃ p, Mt J B n p R.2.1)
theorem bMd_0 {I J : Nat → Int → Int} {B : Int → Int} {n p q : Int} {w : Int → Int} (hf : FrY I J) (h : Mt J B n p q) : bMd I B n (0, q, w) J := ⟨hf, fun h => absurd h (show ¬ (0 : Int) = 1 by decide), fun _ => ⟨p, h⟩⟩
theorem bMd_1 {I J : Nat → Int → Int} {B : Int → Int} {n q : Int} {w : Int → Int} (hf : FrY I J) (h : Mt J B n (tkE B n q) q) (hw : J 171 = w) : bMd I B n (1, tkN B n q, w) J := ⟨hf, fun _ => ⟨_, _, h, rfl, hw⟩, fun h => absurd h (show ¬ (1 : Int) = 0 by decide)⟩
section
variable {G : jzG} {d : Nat} {sh : List (Nat × Nat)} {I : Nat → Int → Int} {F : Nat → Int → Option Nat} {B : Int → Int} {n p b q : Int} {w : Int → Int}
theorem mt_num1 (hsh : ShOK sh) (hfx : FxOK F) (hM : Mt I B n p b) {lo hi : Int} (h1 : 0 ≤ lo) (h3 : jin lo) (h4 : jin hi) (h : vNm B n q 5 lo hi) (hp : lxB B n p = q) : jS G (d + 3) mX12_number [jR (some 170), jI lo, jI hi] (sh, I, F) 0 0 (rEI (tV B n q) sh F (fun J => Mt J B n (tkE B n q) q ∧ FrX I J)) := by
  have := mt_number (G := G) (d := d) (F := F) hsh hfx hM h1 h3 h4
  rw [hp, show vFg B n q 5 lo hi = tV B n q from if_pos h, if_pos h.1] at this
  exact this
theorem mt_num0 (hsh : ShOK sh) (hfx : FxOK F) (hM : Mt I B n p b) {lo hi : Int} (h1 : 0 ≤ lo) (h3 : jin lo) (h4 : jin hi) (h : ¬ vNm B n q 5 lo hi) (hp : lxB B n p = q) : jS G (d + 3) mX12_number [jR (some 170), jI lo, jI hi] (sh, I, F) 0 0 (rEI (-1) sh F (fun J => Mt J B n (if tkK B n q = 2 then tkE B n q else q) q ∧ FrX I J)) := by
  have := mt_number (G := G) (d := d) (F := F) hsh hfx hM h1 h3 h4
  rw [hp, show vFg B n q 5 lo hi = -1 from if_neg h] at this
  exact this
theorem mt_per1 (hsh : ShOK sh) (hfx : FxOK F) (hM : Mt I B n p b) (hw : I 171 = w) (h8 : 0 ≤ aPe w ∧ aPe w ≤ 8) (h : vPn B n w q) (hp : lxB B n p = q) : jS G (d + 4) mX12_personTold [jR (some 170)] (sh, I, F) 0 0 (rEI (tV B n q) sh F (fun J => Mt J B n (tkE B n q) q ∧ FrX I J)) := by
  refine jS_go [some (jR (some 170))] (by decide +kernel) rfl (by simp [jone]) (Nat.le_of_ble_eq_true rfl) rfl (fun hok => ?_)
  have e : aPe (I 171) = aPe w := by rw [hw]
  refine j_aload_n dX12_personTold_0 rfl ?_
  refine j_iconst dX12_personTold_1 ?_
  refine j_aload_n dX12_personTold_2 rfl ?_
  refine r_cv0I dX12_personTold_3 cvX12_74 (by decide) (by first | assumption | exact hsh _ _ rfl) (Nat.le_of_ble_eq_true rfl) (Nat.le_of_eq (Nat.zero_add _)) (Nat.le_of_eq (Nat.zero_add _)) (sm_people hsh hfx) ?_
  rw [e]
  refine j_iconst dX12_personTold_6 ?_
  refine j_isub dX12_personTold_7 ?_
  refine r_cv2EI dX12_personTold_8 cvX12_122 (by decide) (by first | assumption | exact hsh _ _ rfl) (Nat.le_of_ble_eq_true rfl) (Nat.le_of_eq (Nat.zero_add _)) (Nat.le_of_eq (Nat.zero_add _)) (mt_num1 hsh hfx hM (by decide) (by decide) (by omega) h hp) (fun J hJ => ?_)
  refine j_iret dX12_personTold_11 rfl ?_
  exact rEI_of rfl hJ
theorem mt_per0 (hsh : ShOK sh) (hfx : FxOK F) (hM : Mt I B n p b) (hw : I 171 = w) (h8 : 0 ≤ aPe w ∧ aPe w ≤ 8) (h : ¬ vPn B n w q) (hp : lxB B n p = q) : jS G (d + 4) mX12_personTold [jR (some 170)] (sh, I, F) 0 0 (rEI (-1) sh F (fun J => Mt J B n (if tkK B n q = 2 then tkE B n q else q) q ∧ FrX I J)) := by
  refine jS_go [some (jR (some 170))] (by decide +kernel) rfl (by simp [jone]) (Nat.le_of_ble_eq_true rfl) rfl (fun hok => ?_)
  have e : aPe (I 171) = aPe w := by rw [hw]
  refine j_aload_n dX12_personTold_0 rfl ?_
  refine j_iconst dX12_personTold_1 ?_
  refine j_aload_n dX12_personTold_2 rfl ?_
  refine r_cv0I dX12_personTold_3 cvX12_74 (by decide) (by first | assumption | exact hsh _ _ rfl) (Nat.le_of_ble_eq_true rfl) (Nat.le_of_eq (Nat.zero_add _)) (Nat.le_of_eq (Nat.zero_add _)) (sm_people hsh hfx) ?_
  rw [e]
  refine j_iconst dX12_personTold_6 ?_
  refine j_isub dX12_personTold_7 ?_
  refine r_cv2EI dX12_personTold_8 cvX12_122 (by decide) (by first | assumption | exact hsh _ _ rfl) (Nat.le_of_ble_eq_true rfl) (Nat.le_of_eq (Nat.zero_add _)) (Nat.le_of_eq (Nat.zero_add _)) (mt_num0 hsh hfx hM (by decide) (by decide) (by omega) h hp) (fun J hJ => ?_)
  refine j_iret dX12_personTold_11 rfl ?_
  exact rEI_of rfl hJ
theorem mb_number (hsh : ShOK sh) (hfx : FxOK F) (hM : Mt I B n (tkE B n q) q) (hw : I 171 = w) {c : Int} (hc : 4 ≤ c ∧ c ≤ 7) : jS G (d + 4) mX12_readNumber [jR (some 170), jI c, jI (bMost c)] (sh, I, F) 0 0 (rEI (bSet B n w q c).1 sh F (bMd I B n (bSet B n w q c))) := by
  have hm : 0 ≤ bMost c ∧ bMost c ≤ 99999 := by show 0 ≤ ite _ _ _ ∧ ite _ _ _ ≤ _; split; decide; split <;> decide
  refine jS_go [some (jR (some 170)), some (jI c), some (jI (bMost c)), none] (by decide +kernel) rfl (by simp [jone]) (Nat.le_of_ble_eq_true rfl) rfl (fun hok => ?_)
  unfold bSet
  by_cases hv : vNm B n (tkN B n q) 5 0 (bMost c)
  · have hx := tV_in hv
    rw [if_pos hv]
    refine j_aload_n dX12_readNumber_0 rfl ?_
    refine j_iconst dX12_readNumber_1 ?_
    refine j_iload_n dX12_readNumber_2 rfl ?_
    refine r_cv2EI dX12_readNumber_3 cvX12_122 (by decide) (by first | assumption | exact hsh _ _ rfl) (Nat.le_of_ble_eq_true rfl) (Nat.le_of_eq (Nat.zero_add _)) (Nat.le_of_eq (Nat.zero_add _)) (mt_num1 hsh hfx hM (by decide) (by decide) (by omega) hv rfl) (fun J hJ => ?_)
    refine j_istore_n dX12_readNumber_6 (by decide) ?_
    refine j_aload_n dX12_readNumber_7 rfl ?_
    refine r_getS dX12_readNumber_8 flX12_13 (by first | assumption | exact hsh _ _ rfl) (fx_170_1 hfx) ?_
    refine j_iload_n dX12_readNumber_11 rfl ?_
    refine j_iload_n dX12_readNumber_12 rfl ?_
    refine j_if_ge (tgt := 25) dX12_readNumber_13 rfl (by first | omega | (split <;> omega)) (fun c_13 => ?_) (fun c_13 => by exact absurd (by omega) c_13)
    refine j_iload_n dX12_readNumber_25 rfl ?_
    refine r_iastore dX12_readNumber_26 (by first | assumption | exact hsh _ _ rfl) (by first | omega | (split <;> omega)) (by first | omega | (split <;> omega)) (by first | omega | (split <;> omega)) ?_
    refine j_iload_n dX12_readNumber_27 rfl ?_
    refine j_if_lt (tgt := 35) dX12_readNumber_28 rfl (by first | omega | (split <;> omega)) (fun c_28 => by exact absurd c_28 (by omega)) (fun c_28 => ?_)
    refine j_iconst dX12_readNumber_31 ?_
    refine j_goto (tgt := 36) dX12_readNumber_32 rfl ?_
    refine j_zret dX12_readNumber_36 rfl (by omega) ?_
    exact rEI_of rfl (bMd_1 (FrY_w (FrY_X hJ.2) (by omega)) (Mt_w hJ.1) (by rw [jup_at, FrX_171 hJ.2, hw]))
  · rw [if_neg hv]
    refine j_aload_n dX12_readNumber_0 rfl ?_
    refine j_iconst dX12_readNumber_1 ?_
    refine j_iload_n dX12_readNumber_2 rfl ?_
    refine r_cv2EI dX12_readNumber_3 cvX12_122 (by decide) (by first | assumption | exact hsh _ _ rfl) (Nat.le_of_ble_eq_true rfl) (Nat.le_of_eq (Nat.zero_add _)) (Nat.le_of_eq (Nat.zero_add _)) (mt_num0 hsh hfx hM (by decide) (by decide) (by omega) hv rfl) (fun J hJ => ?_)
    refine j_istore_n dX12_readNumber_6 (by decide) ?_
    refine j_aload_n dX12_readNumber_7 rfl ?_
    refine r_getS dX12_readNumber_8 flX12_13 (by first | assumption | exact hsh _ _ rfl) (fx_170_1 hfx) ?_
    refine j_iload_n dX12_readNumber_11 rfl ?_
    refine j_iload_n dX12_readNumber_12 rfl ?_
    refine j_if_ge (tgt := 25) dX12_readNumber_13 rfl (by first | omega | (split <;> omega)) (fun c_13 => by exact absurd c_13 (by decide)) (fun c_13 => ?_)
    refine j_aload_n dX12_readNumber_16 rfl ?_
    refine r_getS dX12_readNumber_17 flX12_13 (by first | assumption | exact hsh _ _ rfl) (fx_170_1 hfx) ?_
    refine j_iload_n dX12_readNumber_20 rfl ?_
    refine r_iaload dX12_readNumber_21 (by first | assumption | exact hsh _ _ rfl) (by first | omega | (split <;> omega)) (by first | omega | (split <;> omega)) (fun b_21 => ?_)
    refine j_goto (tgt := 26) dX12_readNumber_22 rfl ?_
    refine r_iastore dX12_readNumber_26 (by first | assumption | exact hsh _ _ rfl) (by first | omega | (split <;> omega)) (by first | omega | (split <;> omega)) (by first | omega | (split <;> omega)) ?_
    refine j_iload_n dX12_readNumber_27 rfl ?_
    refine j_if_lt (tgt := 35) dX12_readNumber_28 rfl (by first | omega | (split <;> omega)) (fun c_28 => ?_) (fun c_28 => by exact absurd (by decide) c_28)
    refine j_iconst dX12_readNumber_35 ?_
    refine j_zret dX12_readNumber_36 rfl (by omega) ?_
    exact rEI_of rfl (bMd_0 (FrY_w (FrY_X hJ.2) (by omega)) (Mt_w hJ.1))
theorem mb_dead (hsh : ShOK sh) (hfx : FxOK F) (hM : Mt I B n (tkE B n q) q) (hw : I 171 = w) (h8 : 0 ≤ aPe w ∧ aPe w ≤ 8) : jS G (d + 5) mX12_readDead [jR (some 170)] (sh, I, F) 0 0 (rEI (bOne B n w q 3).1 sh F (bMd I B n (bOne B n w q 3))) := by
  refine jS_go [some (jR (some 170)), none] (by decide +kernel) rfl (by simp [jone]) (Nat.le_of_ble_eq_true rfl) rfl (fun hok => ?_)
  unfold bOne
  by_cases hv : vPn B n w (tkN B n q)
  · have hx := vPn_in hv
    rw [if_pos hv, if_pos rfl]
    refine j_aload_n dX12_readDead_0 rfl ?_
    refine r_cv0EI dX12_readDead_1 cvX12_137 (by decide) (by first | assumption | exact hsh _ _ rfl) (Nat.le_of_ble_eq_true rfl) (Nat.le_of_eq (Nat.zero_add _)) (Nat.le_of_eq (Nat.zero_add _)) (mt_per1 hsh hfx hM hw h8 hv rfl) (fun J hJ => ?_)
    refine j_istore_n dX12_readDead_4 (by decide) ?_
    refine j_iload_n dX12_readDead_5 rfl ?_
    refine j_if_lt (tgt := 20) dX12_readDead_6 rfl (by first | omega | (split <;> omega)) (fun c_6 => by exact absurd c_6 (by omega)) (fun c_6 => ?_)
    refine j_aload_n dX12_readDead_9 rfl ?_
    refine r_getS dX12_readDead_10 flX12_13 (by first | assumption | exact hsh _ _ rfl) (fx_170_1 hfx) ?_
    refine j_iload_n dX12_readDead_13 rfl ?_
    refine j_iconst dX12_readDead_14 ?_
    refine r_cs2I dX12_readDead_15 csX12_64 (Nat.le_of_ble_eq_true rfl) (Nat.le_of_eq (Nat.zero_add _)) (Nat.le_of_eq (Nat.zero_add _)) (sm_at) ?_
    refine j_iconst dX12_readDead_18 ?_
    refine r_iastore dX12_readDead_19 (by first | assumption | exact hsh _ _ rfl) (by first | omega | (split <;> omega)) (by first | omega | (split <;> omega)) (by first | omega | (split <;> omega)) ?_
    refine j_iload_n dX12_readDead_20 rfl ?_
    refine j_if_lt (tgt := 28) dX12_readDead_21 rfl (by first | omega | (split <;> omega)) (fun c_21 => by exact absurd c_21 (by omega)) (fun c_21 => ?_)
    refine j_iconst dX12_readDead_24 ?_
    refine j_goto (tgt := 29) dX12_readDead_25 rfl ?_
    refine j_zret dX12_readDead_29 rfl (by omega) ?_
    exact rEI_of rfl (bMd_1 (FrY_w (FrY_X hJ.2) (by omega)) (Mt_w hJ.1) (by rw [jup_at, FrX_171 hJ.2, hw]))
  · rw [if_neg hv]
    refine j_aload_n dX12_readDead_0 rfl ?_
    refine r_cv0EI dX12_readDead_1 cvX12_137 (by decide) (by first | assumption | exact hsh _ _ rfl) (Nat.le_of_ble_eq_true rfl) (Nat.le_of_eq (Nat.zero_add _)) (Nat.le_of_eq (Nat.zero_add _)) (mt_per0 hsh hfx hM hw h8 hv rfl) (fun J hJ => ?_)
    refine j_istore_n dX12_readDead_4 (by decide) ?_
    refine j_iload_n dX12_readDead_5 rfl ?_
    refine j_if_lt (tgt := 20) dX12_readDead_6 rfl (by first | omega | (split <;> omega)) (fun c_6 => ?_) (fun c_6 => by exact absurd (by decide) c_6)
    refine j_iload_n dX12_readDead_20 rfl ?_
    refine j_if_lt (tgt := 28) dX12_readDead_21 rfl (by first | omega | (split <;> omega)) (fun c_21 => ?_) (fun c_21 => by exact absurd (by decide) c_21)
    refine j_iconst dX12_readDead_28 ?_
    refine j_zret dX12_readDead_29 rfl (by omega) ?_
    exact rEI_of rfl (bMd_0 (FrY_X hJ.2) hJ.1)
theorem mb_forged (hsh : ShOK sh) (hfx : FxOK F) (hM : Mt I B n (tkE B n q) q) (hw : I 171 = w) (h8 : 0 ≤ aPe w ∧ aPe w ≤ 8) (hA : WfA w) : jS G (d + 5) mX12_readForged [jR (some 170)] (sh, I, F) 0 0 (rEI (bOne B n w q 2).1 sh F (bMd I B n (bOne B n w q 2))) := by
  refine jS_go [some (jR (some 170)), none, none] (by decide +kernel) rfl (by simp [jone]) (Nat.le_of_ble_eq_true rfl) rfl (fun hok => ?_)
  unfold bOne
  by_cases hv : vPn B n w (tkN B n q)
  · have hx := vPn_in hv
    have ha := hA _ hx.1 hx.2
    rw [if_pos hv, if_neg (by decide), if_pos rfl, if_pos rfl]
    have so := fun (J : Nat → Int → Int) (hJ : J 171 = w) => sm_of (G := G) (d := d + 3) (sh := sh) (I := J) hsh hfx (p := tV B n (tkN B n q)) (k := 1) (by omega)
    have so' : ∀ J : Nat → Int → Int, J 171 = w → jS G (d + 4) mX12_of [jR (some 170), jI (tV B n (tkN B n q)), jI 1] (sh, J, F) 0 0 (rI (aOf w (tV B n (tkN B n q)) 1) (sh, J, F)) := fun J hJ => by have := so J hJ; rw [hJ] at this; exact this
    by_cases hv2 : vNm B n (tkN B n (tkN B n q)) 5 0 (aOf w (tV B n (tkN B n q)) 1)
    · have hy := tV_in hv2
      rw [if_pos hv2]
      refine j_aload_n dX12_readForged_0 rfl ?_
      refine r_cv0EI dX12_readForged_1 cvX12_137 (by decide) (by first | assumption | exact hsh _ _ rfl) (Nat.le_of_ble_eq_true rfl) (Nat.le_of_eq (Nat.zero_add _)) (Nat.le_of_eq (Nat.zero_add _)) (mt_per1 hsh hfx hM hw h8 hv rfl) (fun J hJ => ?_)
      refine j_istore_n dX12_readForged_4 (by decide) ?_
      refine j_iload_n dX12_readForged_5 rfl ?_
      refine j_if_ge (tgt := 13) dX12_readForged_6 rfl (by first | omega | (split <;> omega)) (fun c_6 => ?_) (fun c_6 => by exact absurd (by omega) c_6)
      refine j_aload_n dX12_readForged_13 rfl ?_
      refine j_iconst dX12_readForged_14 ?_
      refine j_aload_n dX12_readForged_15 rfl ?_
      refine j_iload_n dX12_readForged_16 rfl ?_
      refine j_iconst dX12_readForged_17 ?_
      refine r_cv2I dX12_readForged_18 cvX12_68 (by decide) (by first | assumption | exact hsh _ _ rfl) (Nat.le_of_ble_eq_true rfl) (Nat.le_of_eq (Nat.zero_add _)) (Nat.le_of_eq (Nat.zero_add _)) (so' J ((FrX_171 hJ.2).trans hw)) ?_
      refine r_cv2EI dX12_readForged_21 cvX12_122 (by decide) (by first | assumption | exact hsh _ _ rfl) (Nat.le_of_ble_eq_true rfl) (Nat.le_of_eq (Nat.zero_add _)) (Nat.le_of_eq (Nat.zero_add _)) (mt_num1 hsh hfx hJ.1 (by decide) (by decide) (by omega) hv2 rfl) (fun K hK => ?_)
      refine j_istore_n dX12_readForged_24 (by decide) ?_
      refine j_iload_n dX12_readForged_25 rfl ?_
      refine j_if_lt (tgt := 40) dX12_readForged_26 rfl (by first | omega | (split <;> omega)) (fun c_26 => by exact absurd c_26 (by omega)) (fun c_26 => ?_)
      refine j_aload_n dX12_readForged_29 rfl ?_
      refine r_getS dX12_readForged_30 flX12_13 (by first | assumption | exact hsh _ _ rfl) (fx_170_1 hfx) ?_
      refine j_iload_n dX12_readForged_33 rfl ?_
      refine j_iconst dX12_readForged_34 ?_
      refine r_cs2I dX12_readForged_35 csX12_64 (Nat.le_of_ble_eq_true rfl) (Nat.le_of_eq (Nat.zero_add _)) (Nat.le_of_eq (Nat.zero_add _)) (sm_at) ?_
      refine j_iload_n dX12_readForged_38 rfl ?_
      refine r_iastore dX12_readForged_39 (by first | assumption | exact hsh _ _ rfl) (by first | omega | (split <;> omega)) (by first | omega | (split <;> omega)) (by first | omega | (split <;> omega)) ?_
      refine j_iload_n dX12_readForged_40 rfl ?_
      refine j_if_lt (tgt := 48) dX12_readForged_41 rfl (by first | omega | (split <;> omega)) (fun c_41 => by exact absurd c_41 (by omega)) (fun c_41 => ?_)
      refine j_iconst dX12_readForged_44 ?_
      refine j_goto (tgt := 49) dX12_readForged_45 rfl ?_
      refine j_zret dX12_readForged_49 rfl (by omega) ?_
      exact rEI_of rfl (bMd_1 (FrY_w (FrY_X (FrX_tr hJ.2 hK.2)) (by omega)) (Mt_w hK.1) (by rw [jup_at, FrX_171 hK.2, FrX_171 hJ.2, hw]))
    · rw [if_neg hv2]
      refine j_aload_n dX12_readForged_0 rfl ?_
      refine r_cv0EI dX12_readForged_1 cvX12_137 (by decide) (by first | assumption | exact hsh _ _ rfl) (Nat.le_of_ble_eq_true rfl) (Nat.le_of_eq (Nat.zero_add _)) (Nat.le_of_eq (Nat.zero_add _)) (mt_per1 hsh hfx hM hw h8 hv rfl) (fun J hJ => ?_)
      refine j_istore_n dX12_readForged_4 (by decide) ?_
      refine j_iload_n dX12_readForged_5 rfl ?_
      refine j_if_ge (tgt := 13) dX12_readForged_6 rfl (by first | omega | (split <;> omega)) (fun c_6 => ?_) (fun c_6 => by exact absurd (by omega) c_6)
      refine j_aload_n dX12_readForged_13 rfl ?_
      refine j_iconst dX12_readForged_14 ?_
      refine j_aload_n dX12_readForged_15 rfl ?_
      refine j_iload_n dX12_readForged_16 rfl ?_
      refine j_iconst dX12_readForged_17 ?_
      refine r_cv2I dX12_readForged_18 cvX12_68 (by decide) (by first | assumption | exact hsh _ _ rfl) (Nat.le_of_ble_eq_true rfl) (Nat.le_of_eq (Nat.zero_add _)) (Nat.le_of_eq (Nat.zero_add _)) (so' J ((FrX_171 hJ.2).trans hw)) ?_
      refine r_cv2EI dX12_readForged_21 cvX12_122 (by decide) (by first | assumption | exact hsh _ _ rfl) (Nat.le_of_ble_eq_true rfl) (Nat.le_of_eq (Nat.zero_add _)) (Nat.le_of_eq (Nat.zero_add _)) (mt_num0 hsh hfx hJ.1 (by decide) (by decide) (by omega) hv2 rfl) (fun K hK => ?_)
      refine j_istore_n dX12_readForged_24 (by decide) ?_
      refine j_iload_n dX12_readForged_25 rfl ?_
      refine j_if_lt (tgt := 40) dX12_readForged_26 rfl (by first | omega | (split <;> omega)) (fun c_26 => ?_) (fun c_26 => by exact absurd (by decide) c_26)
      refine j_iload_n dX12_readForged_40 rfl ?_
      refine j_if_lt (tgt := 48) dX12_readForged_41 rfl (by first | omega | (split <;> omega)) (fun c_41 => ?_) (fun c_41 => by exact absurd (by decide) c_41)
      refine j_iconst dX12_readForged_48 ?_
      refine j_zret dX12_readForged_49 rfl (by omega) ?_
      exact rEI_of rfl (bMd_0 (FrY_X (FrX_tr hJ.2 hK.2)) hK.1)
  · rw [if_neg hv]
    refine j_aload_n dX12_readForged_0 rfl ?_
    refine r_cv0EI dX12_readForged_1 cvX12_137 (by decide) (by first | assumption | exact hsh _ _ rfl) (Nat.le_of_ble_eq_true rfl) (Nat.le_of_eq (Nat.zero_add _)) (Nat.le_of_eq (Nat.zero_add _)) (mt_per0 hsh hfx hM hw h8 hv rfl) (fun J hJ => ?_)
    refine j_istore_n dX12_readForged_4 (by decide) ?_
    refine j_iload_n dX12_readForged_5 rfl ?_
    refine j_if_ge (tgt := 13) dX12_readForged_6 rfl (by first | omega | (split <;> omega)) (fun c_6 => by exact absurd c_6 (by decide)) (fun c_6 => ?_)
    refine j_iconst dX12_readForged_9 ?_
    refine j_goto (tgt := 24) dX12_readForged_10 rfl ?_
    refine j_istore_n dX12_readForged_24 (by decide) ?_
    refine j_iload_n dX12_readForged_25 rfl ?_
    refine j_if_lt (tgt := 40) dX12_readForged_26 rfl (by first | omega | (split <;> omega)) (fun c_26 => ?_) (fun c_26 => by exact absurd (by decide) c_26)
    refine j_iload_n dX12_readForged_40 rfl ?_
    refine j_if_lt (tgt := 48) dX12_readForged_41 rfl (by first | omega | (split <;> omega)) (fun c_41 => ?_) (fun c_41 => by exact absurd (by decide) c_41)
    refine j_iconst dX12_readForged_48 ?_
    refine j_zret dX12_readForged_49 rfl (by omega) ?_
    exact rEI_of rfl (bMd_0 (FrY_X hJ.2) hJ.1)
theorem mb_account (hsh : ShOK sh) (hfx : FxOK F) (hM : Mt I B n (tkE B n q) q) (hw : I 171 = w) (h8 : 0 ≤ aPe w ∧ aPe w ≤ 8) : jS G (d + 5) mX12_readAccount [jR (some 170)] (sh, I, F) 0 0 (rEI (bOne B n w q 1).1 sh F (bMd I B n (bOne B n w q 1))) := by
  refine jS_go [some (jR (some 170)), none, none] (by decide +kernel) rfl (by simp [jone]) (Nat.le_of_ble_eq_true rfl) rfl (fun hok => ?_)
  unfold bOne
  by_cases hv : vPn B n w (tkN B n q)
  · have hx := vPn_in hv
    rw [if_pos hv, if_neg (show ¬ (1 : Int) = 3 by decide), if_neg (show ¬ (1 : Int) = 2 by decide), if_neg (show ¬ (1 : Int) = 2 by decide)]
    by_cases hv2 : vNm B n (tkN B n (tkN B n q)) 5 0 99999
    · have hy := tV_in hv2
      rw [if_pos hv2]
      refine j_aload_n dX12_readAccount_0 rfl ?_
      refine r_cv0EI dX12_readAccount_1 cvX12_137 (by decide) (by first | assumption | exact hsh _ _ rfl) (Nat.le_of_ble_eq_true rfl) (Nat.le_of_eq (Nat.zero_add _)) (Nat.le_of_eq (Nat.zero_add _)) (mt_per1 hsh hfx hM hw h8 hv rfl) (fun J hJ => ?_)
      refine j_istore_n dX12_readAccount_4 (by decide) ?_
      refine j_iload_n dX12_readAccount_5 rfl ?_
      refine j_if_ge (tgt := 13) dX12_readAccount_6 rfl (by first | omega | (split <;> omega)) (fun c_6 => ?_) (fun c_6 => by exact absurd (by omega) c_6)
      refine j_aload_n dX12_readAccount_13 rfl ?_
      refine j_iconst dX12_readAccount_14 ?_
      refine j_ldc (n := 99999) dX12_readAccount_15 kcX12_140 ?_
      refine r_cv2EI dX12_readAccount_17 cvX12_122 (by decide) (by first | assumption | exact hsh _ _ rfl) (Nat.le_of_ble_eq_true rfl) (Nat.le_of_eq (Nat.zero_add _)) (Nat.le_of_eq (Nat.zero_add _)) (mt_num1 hsh hfx hJ.1 (by decide) (by decide) (by omega) hv2 rfl) (fun K hK => ?_)
      refine j_istore_n dX12_readAccount_20 (by decide) ?_
      refine j_iload_n dX12_readAccount_21 rfl ?_
      refine j_if_ge (tgt := 27) dX12_readAccount_22 rfl (by first | omega | (split <;> omega)) (fun c_22 => ?_) (fun c_22 => by exact absurd (by omega) c_22)
      refine j_aload_n dX12_readAccount_27 rfl ?_
      refine r_getS dX12_readAccount_28 flX12_13 (by first | assumption | exact hsh _ _ rfl) (fx_170_1 hfx) ?_
      refine j_iload_n dX12_readAccount_31 rfl ?_
      refine j_iconst dX12_readAccount_32 ?_
      refine r_cs2I dX12_readAccount_33 csX12_64 (Nat.le_of_ble_eq_true rfl) (Nat.le_of_eq (Nat.zero_add _)) (Nat.le_of_eq (Nat.zero_add _)) (sm_at) ?_
      refine j_iload_n dX12_readAccount_36 rfl ?_
      refine r_iastore dX12_readAccount_37 (by first | assumption | exact hsh _ _ rfl) (by first | omega | (split <;> omega)) (by first | omega | (split <;> omega)) (by first | omega | (split <;> omega)) ?_
      refine j_aload_n dX12_readAccount_38 rfl ?_
      refine r_getS dX12_readAccount_39 flX12_13 (by first | assumption | exact hsh _ _ rfl) (fx_170_1 hfx) ?_
      refine j_iload_n dX12_readAccount_42 rfl ?_
      refine j_iconst dX12_readAccount_43 ?_
      refine r_cs2I dX12_readAccount_44 csX12_64 (Nat.le_of_ble_eq_true rfl) (Nat.le_of_eq (Nat.zero_add _)) (Nat.le_of_eq (Nat.zero_add _)) (sm_at) ?_
      refine j_iconst dX12_readAccount_47 ?_
      refine r_iastore dX12_readAccount_48 (by first | assumption | exact hsh _ _ rfl) (by first | omega | (split <;> omega)) (by first | omega | (split <;> omega)) (by first | omega | (split <;> omega)) ?_
      refine j_iconst dX12_readAccount_49 ?_
      refine j_zret dX12_readAccount_50 rfl (by omega) ?_
      exact rEI_of rfl (bMd_1 (FrY_w (FrY_w (FrY_X (FrX_tr hJ.2 hK.2)) (by omega)) (by omega)) (Mt_w (Mt_w hK.1)) (by rw [jup_at, jup_at, FrX_171 hK.2, FrX_171 hJ.2, hw]))
    · rw [if_neg hv2]
      refine j_aload_n dX12_readAccount_0 rfl ?_
      refine r_cv0EI dX12_readAccount_1 cvX12_137 (by decide) (by first | assumption | exact hsh _ _ rfl) (Nat.le_of_ble_eq_true rfl) (Nat.le_of_eq (Nat.zero_add _)) (Nat.le_of_eq (Nat.zero_add _)) (mt_per1 hsh hfx hM hw h8 hv rfl) (fun J hJ => ?_)
      refine j_istore_n dX12_readAccount_4 (by decide) ?_
      refine j_iload_n dX12_readAccount_5 rfl ?_
      refine j_if_ge (tgt := 13) dX12_readAccount_6 rfl (by first | omega | (split <;> omega)) (fun c_6 => ?_) (fun c_6 => by exact absurd (by omega) c_6)
      refine j_aload_n dX12_readAccount_13 rfl ?_
      refine j_iconst dX12_readAccount_14 ?_
      refine j_ldc (n := 99999) dX12_readAccount_15 kcX12_140 ?_
      refine r_cv2EI dX12_readAccount_17 cvX12_122 (by decide) (by first | assumption | exact hsh _ _ rfl) (Nat.le_of_ble_eq_true rfl) (Nat.le_of_eq (Nat.zero_add _)) (Nat.le_of_eq (Nat.zero_add _)) (mt_num0 hsh hfx hJ.1 (by decide) (by decide) (by omega) hv2 rfl) (fun K hK => ?_)
      refine j_istore_n dX12_readAccount_20 (by decide) ?_
      refine j_iload_n dX12_readAccount_21 rfl ?_
      refine j_if_ge (tgt := 27) dX12_readAccount_22 rfl (by first | omega | (split <;> omega)) (fun c_22 => by exact absurd c_22 (by decide)) (fun c_22 => ?_)
      refine j_iconst dX12_readAccount_25 ?_
      refine j_zret dX12_readAccount_26 rfl (by omega) ?_
      exact rEI_of rfl (bMd_0 (FrY_X (FrX_tr hJ.2 hK.2)) hK.1)
  · rw [if_neg hv]
    refine j_aload_n dX12_readAccount_0 rfl ?_
    refine r_cv0EI dX12_readAccount_1 cvX12_137 (by decide) (by first | assumption | exact hsh _ _ rfl) (Nat.le_of_ble_eq_true rfl) (Nat.le_of_eq (Nat.zero_add _)) (Nat.le_of_eq (Nat.zero_add _)) (mt_per0 hsh hfx hM hw h8 hv rfl) (fun J hJ => ?_)
    refine j_istore_n dX12_readAccount_4 (by decide) ?_
    refine j_iload_n dX12_readAccount_5 rfl ?_
    refine j_if_ge (tgt := 13) dX12_readAccount_6 rfl (by first | omega | (split <;> omega)) (fun c_6 => by exact absurd c_6 (by decide)) (fun c_6 => ?_)
    refine j_iconst dX12_readAccount_9 ?_
    refine j_goto (tgt := 20) dX12_readAccount_10 rfl ?_
    refine j_istore_n dX12_readAccount_20 (by decide) ?_
    refine j_iload_n dX12_readAccount_21 rfl ?_
    refine j_if_ge (tgt := 27) dX12_readAccount_22 rfl (by first | omega | (split <;> omega)) (fun c_22 => by exact absurd c_22 (by decide)) (fun c_22 => ?_)
    refine j_iconst dX12_readAccount_25 ?_
    refine j_zret dX12_readAccount_26 rfl (by omega) ?_
    exact rEI_of rfl (bMd_0 (FrY_X hJ.2) hJ.1)
theorem mb_two (hsh : ShOK sh) (hfx : FxOK F) (hM : Mt I B n (tkE B n q) q) (hw : I 171 = w) (h8 : 0 ≤ aPe w ∧ aPe w ≤ 8) {c c' : Int} (hc : (c = 4 ∧ c' = 4) ∨ (c = 5 ∧ c' = 5) ∨ (c = 116 ∧ c' = 0)) : jS G (d + 5) mX12_readTwo [jR (some 170), jI c] (sh, I, F) 0 0 (rEI (bTwo B n w q c').1 sh F (bMd I B n (bTwo B n w q c'))) := by
  refine jS_go [some (jR (some 170)), some (jI c), none, none, none] (by decide +kernel) rfl (by simp [jone]) (Nat.le_of_ble_eq_true rfl) rfl (fun hok => ?_)
  unfold bTwo
  by_cases hv : vPn B n w (tkN B n q)
  · have hx := vPn_in hv
    rw [if_pos hv]
    by_cases hu : vPn B n w (tkN B n (tkN B n q))
    · have hy := vPn_in hu
      by_cases hne : tV B n (tkN B n (tkN B n q)) = tV B n (tkN B n q)
      · rw [if_neg (fun x => x.2 hne)]
        refine j_aload_n dX12_readTwo_0 rfl ?_
        refine r_cv0EI dX12_readTwo_1 cvX12_137 (by decide) (by first | assumption | exact hsh _ _ rfl) (Nat.le_of_ble_eq_true rfl) (Nat.le_of_eq (Nat.zero_add _)) (Nat.le_of_eq (Nat.zero_add _)) (mt_per1 hsh hfx hM hw h8 hv rfl) (fun J hJ => ?_)
        refine j_istore_n dX12_readTwo_4 (by decide) ?_
        refine j_iload_n dX12_readTwo_5 rfl ?_
        refine j_if_ge (tgt := 13) dX12_readTwo_6 rfl (by first | omega | (split <;> omega)) (fun c_6 => ?_) (fun c_6 => by exact absurd (by omega) c_6)
        refine j_aload_n dX12_readTwo_13 rfl ?_
        refine r_cv0EI dX12_readTwo_14 cvX12_137 (by decide) (by first | assumption | exact hsh _ _ rfl) (Nat.le_of_ble_eq_true rfl) (Nat.le_of_eq (Nat.zero_add _)) (Nat.le_of_eq (Nat.zero_add _)) (mt_per1 hsh hfx hJ.1 ((FrX_171 hJ.2).trans hw) h8 hu rfl) (fun K hK => ?_)
        refine j_istore_n dX12_readTwo_17 (by decide) ?_
        refine j_iload_n dX12_readTwo_18 rfl ?_
        refine j_if_lt (tgt := 27) dX12_readTwo_19 rfl (by first | omega | (split <;> omega)) (fun c_19 => by exact absurd c_19 (by omega)) (fun c_19 => ?_)
        refine j_iload_n dX12_readTwo_22 rfl ?_
        refine j_iload_n dX12_readTwo_23 rfl ?_
        refine j_icmp_ne (tgt := 29) dX12_readTwo_24 rfl (by first | omega | (split <;> omega)) (by first | omega | (split <;> omega)) (fun c_24 => by exact absurd hne c_24) (fun c_24 => ?_)
        refine j_iconst dX12_readTwo_27 ?_
        refine j_zret dX12_readTwo_28 rfl (by omega) ?_
        exact rEI_of rfl (bMd_0 (FrY_X (FrX_tr hJ.2 hK.2)) hK.1)
      · rw [if_pos ⟨hu, hne⟩]
        rcases hc with ⟨rfl, rfl⟩ | ⟨rfl, rfl⟩ | ⟨rfl, rfl⟩
        · rw [if_pos rfl]
          refine j_aload_n dX12_readTwo_0 rfl ?_
          refine r_cv0EI dX12_readTwo_1 cvX12_137 (by decide) (by first | assumption | exact hsh _ _ rfl) (Nat.le_of_ble_eq_true rfl) (Nat.le_of_eq (Nat.zero_add _)) (Nat.le_of_eq (Nat.zero_add _)) (mt_per1 hsh hfx hM hw h8 hv rfl) (fun J hJ => ?_)
          refine j_istore_n dX12_readTwo_4 (by decide) ?_
          refine j_iload_n dX12_readTwo_5 rfl ?_
          refine j_if_ge (tgt := 13) dX12_readTwo_6 rfl (by first | omega | (split <;> omega)) (fun c_6 => ?_) (fun c_6 => by exact absurd (by omega) c_6)
          refine j_aload_n dX12_readTwo_13 rfl ?_
          refine r_cv0EI dX12_readTwo_14 cvX12_137 (by decide) (by first | assumption | exact hsh _ _ rfl) (Nat.le_of_ble_eq_true rfl) (Nat.le_of_eq (Nat.zero_add _)) (Nat.le_of_eq (Nat.zero_add _)) (mt_per1 hsh hfx hJ.1 ((FrX_171 hJ.2).trans hw) h8 hu rfl) (fun K hK => ?_)
          refine j_istore_n dX12_readTwo_17 (by decide) ?_
          refine j_iload_n dX12_readTwo_18 rfl ?_
          refine j_if_lt (tgt := 27) dX12_readTwo_19 rfl (by first | omega | (split <;> omega)) (fun c_19 => by exact absurd c_19 (by omega)) (fun c_19 => ?_)
          refine j_iload_n dX12_readTwo_22 rfl ?_
          refine j_iload_n dX12_readTwo_23 rfl ?_
          refine j_icmp_ne (tgt := 29) dX12_readTwo_24 rfl (by first | omega | (split <;> omega)) (by first | omega | (split <;> omega)) (fun c_24 => ?_) (fun c_24 => by exact absurd (Classical.not_not.1 c_24) hne)
          refine j_iload_n dX12_readTwo_29 rfl ?_
          refine j_iconst dX12_readTwo_30 ?_
          refine j_icmp_ne (tgt := 48) dX12_readTwo_31 rfl (by first | omega | (split <;> omega)) (by first | omega | (split <;> omega)) (fun c_31 => by exact absurd rfl c_31) (fun c_31 => ?_)
          refine j_aload_n dX12_readTwo_34 rfl ?_
          refine r_getS dX12_readTwo_35 flX12_13 (by first | assumption | exact hsh _ _ rfl) (fx_170_1 hfx) ?_
          refine j_iload_n dX12_readTwo_38 rfl ?_
          refine j_iconst dX12_readTwo_39 ?_
          refine r_cs2I dX12_readTwo_40 csX12_64 (Nat.le_of_ble_eq_true rfl) (Nat.le_of_eq (Nat.zero_add _)) (Nat.le_of_eq (Nat.zero_add _)) (sm_at) ?_
          refine j_iload_n dX12_readTwo_43 rfl ?_
          refine r_iastore dX12_readTwo_44 (by first | assumption | exact hsh _ _ rfl) (by first | omega | (split <;> omega)) (by first | omega | (split <;> omega)) (by first | omega | (split <;> omega)) ?_
          refine j_goto (tgt := 69) dX12_readTwo_45 rfl ?_
          refine j_iload_n dX12_readTwo_69 rfl ?_
          refine j_bipush dX12_readTwo_70 (by decide) ?_
          refine j_icmp_eq (tgt := 77) dX12_readTwo_72 rfl (by first | omega | (split <;> omega)) (by first | omega | (split <;> omega)) (fun c_72 => by exact absurd c_72 (by decide)) (fun c_72 => ?_)
          refine j_iconst dX12_readTwo_75 ?_
          refine j_zret dX12_readTwo_76 rfl (by omega) ?_
          exact rEI_of rfl (bMd_1 (FrY_w (FrY_X (FrX_tr hJ.2 hK.2)) (by omega)) (Mt_w hK.1) (by rw [jup_at, FrX_171 hK.2, FrX_171 hJ.2, hw]))
        · rw [if_neg (by decide), if_pos rfl]
          have qh : ∀ K : Nat → Int → Int, K 171 = w → K 171 (12 + 13 * tV B n (tkN B n q) + 5) = aOf w (tV B n (tkN B n q)) 5 := fun K hK => by rw [hK]
          have hor := jOr_in (aOf w (tV B n (tkN B n q)) 5) (jShl 1 (tV B n (tkN B n (tkN B n q))))
          refine j_aload_n dX12_readTwo_0 rfl ?_
          refine r_cv0EI dX12_readTwo_1 cvX12_137 (by decide) (by first | assumption | exact hsh _ _ rfl) (Nat.le_of_ble_eq_true rfl) (Nat.le_of_eq (Nat.zero_add _)) (Nat.le_of_eq (Nat.zero_add _)) (mt_per1 hsh hfx hM hw h8 hv rfl) (fun J hJ => ?_)
          refine j_istore_n dX12_readTwo_4 (by decide) ?_
          refine j_iload_n dX12_readTwo_5 rfl ?_
          refine j_if_ge (tgt := 13) dX12_readTwo_6 rfl (by first | omega | (split <;> omega)) (fun c_6 => ?_) (fun c_6 => by exact absurd (by omega) c_6)
          refine j_aload_n dX12_readTwo_13 rfl ?_
          refine r_cv0EI dX12_readTwo_14 cvX12_137 (by decide) (by first | assumption | exact hsh _ _ rfl) (Nat.le_of_ble_eq_true rfl) (Nat.le_of_eq (Nat.zero_add _)) (Nat.le_of_eq (Nat.zero_add _)) (mt_per1 hsh hfx hJ.1 ((FrX_171 hJ.2).trans hw) h8 hu rfl) (fun K hK => ?_)
          refine j_istore_n dX12_readTwo_17 (by decide) ?_
          refine j_iload_n dX12_readTwo_18 rfl ?_
          refine j_if_lt (tgt := 27) dX12_readTwo_19 rfl (by first | omega | (split <;> omega)) (fun c_19 => by exact absurd c_19 (by omega)) (fun c_19 => ?_)
          refine j_iload_n dX12_readTwo_22 rfl ?_
          refine j_iload_n dX12_readTwo_23 rfl ?_
          refine j_icmp_ne (tgt := 29) dX12_readTwo_24 rfl (by first | omega | (split <;> omega)) (by first | omega | (split <;> omega)) (fun c_24 => ?_) (fun c_24 => by exact absurd (Classical.not_not.1 c_24) hne)
          refine j_iload_n dX12_readTwo_29 rfl ?_
          refine j_iconst dX12_readTwo_30 ?_
          refine j_icmp_ne (tgt := 48) dX12_readTwo_31 rfl (by first | omega | (split <;> omega)) (by first | omega | (split <;> omega)) (fun c_31 => ?_) (fun c_31 => by exact absurd (by decide) c_31)
          refine j_iload_n dX12_readTwo_48 rfl ?_
          refine j_iconst dX12_readTwo_49 ?_
          refine j_icmp_ne (tgt := 69) dX12_readTwo_50 rfl (by first | omega | (split <;> omega)) (by first | omega | (split <;> omega)) (fun c_50 => by exact absurd rfl c_50) (fun c_50 => ?_)
          refine j_aload_n dX12_readTwo_53 rfl ?_
          refine r_getS dX12_readTwo_54 flX12_13 (by first | assumption | exact hsh _ _ rfl) (fx_170_1 hfx) ?_
          refine j_iload_n dX12_readTwo_57 rfl ?_
          refine j_iconst dX12_readTwo_58 ?_
          refine r_cs2I dX12_readTwo_59 csX12_64 (Nat.le_of_ble_eq_true rfl) (Nat.le_of_eq (Nat.zero_add _)) (Nat.le_of_eq (Nat.zero_add _)) (sm_at) ?_
          refine j_dup2 dX12_readTwo_62 trivial trivial ?_
          refine r_ialoadE dX12_readTwo_63 (by first | assumption | exact hsh _ _ rfl) (by first | omega | (split <;> omega)) (by first | omega | (split <;> omega)) (qh K ((FrX_171 hK.2).trans ((FrX_171 hJ.2).trans hw))) (fun b_63 => ?_)
          refine j_iconst dX12_readTwo_64 ?_
          refine j_iload_n dX12_readTwo_65 rfl ?_
          refine r_ishl dX12_readTwo_66 (fun b_66 => ?_)
          refine r_ior dX12_readTwo_67 (fun b_67 => ?_)
          refine r_iastore dX12_readTwo_68 (by first | assumption | exact hsh _ _ rfl) (by first | omega | (split <;> omega)) (by first | omega | (split <;> omega)) (by first | omega | (split <;> omega)) ?_
          refine j_iload_n dX12_readTwo_69 rfl ?_
          refine j_bipush dX12_readTwo_70 (by decide) ?_
          refine j_icmp_eq (tgt := 77) dX12_readTwo_72 rfl (by first | omega | (split <;> omega)) (by first | omega | (split <;> omega)) (fun c_72 => by exact absurd c_72 (by decide)) (fun c_72 => ?_)
          refine j_iconst dX12_readTwo_75 ?_
          refine j_zret dX12_readTwo_76 rfl (by omega) ?_
          exact rEI_of rfl (bMd_1 (FrY_w (FrY_X (FrX_tr hJ.2 hK.2)) (by omega)) (Mt_w hK.1) (by rw [jup_at, FrX_171 hK.2, FrX_171 hJ.2, hw]))
        · rw [if_neg (by decide), if_neg (by decide)]
          by_cases hv2 : vNm B n (tkN B n (tkN B n (tkN B n q))) 5 0 9999
          · have hz := tV_in hv2
            rw [if_pos hv2]
            refine j_aload_n dX12_readTwo_0 rfl ?_
            refine r_cv0EI dX12_readTwo_1 cvX12_137 (by decide) (by first | assumption | exact hsh _ _ rfl) (Nat.le_of_ble_eq_true rfl) (Nat.le_of_eq (Nat.zero_add _)) (Nat.le_of_eq (Nat.zero_add _)) (mt_per1 hsh hfx hM hw h8 hv rfl) (fun J hJ => ?_)
            refine j_istore_n dX12_readTwo_4 (by decide) ?_
            refine j_iload_n dX12_readTwo_5 rfl ?_
            refine j_if_ge (tgt := 13) dX12_readTwo_6 rfl (by first | omega | (split <;> omega)) (fun c_6 => ?_) (fun c_6 => by exact absurd (by omega) c_6)
            refine j_aload_n dX12_readTwo_13 rfl ?_
            refine r_cv0EI dX12_readTwo_14 cvX12_137 (by decide) (by first | assumption | exact hsh _ _ rfl) (Nat.le_of_ble_eq_true rfl) (Nat.le_of_eq (Nat.zero_add _)) (Nat.le_of_eq (Nat.zero_add _)) (mt_per1 hsh hfx hJ.1 ((FrX_171 hJ.2).trans hw) h8 hu rfl) (fun K hK => ?_)
            refine j_istore_n dX12_readTwo_17 (by decide) ?_
            refine j_iload_n dX12_readTwo_18 rfl ?_
            refine j_if_lt (tgt := 27) dX12_readTwo_19 rfl (by first | omega | (split <;> omega)) (fun c_19 => by exact absurd c_19 (by omega)) (fun c_19 => ?_)
            refine j_iload_n dX12_readTwo_22 rfl ?_
            refine j_iload_n dX12_readTwo_23 rfl ?_
            refine j_icmp_ne (tgt := 29) dX12_readTwo_24 rfl (by first | omega | (split <;> omega)) (by first | omega | (split <;> omega)) (fun c_24 => ?_) (fun c_24 => by exact absurd (Classical.not_not.1 c_24) hne)
            refine j_iload_n dX12_readTwo_29 rfl ?_
            refine j_iconst dX12_readTwo_30 ?_
            refine j_icmp_ne (tgt := 48) dX12_readTwo_31 rfl (by first | omega | (split <;> omega)) (by first | omega | (split <;> omega)) (fun c_31 => ?_) (fun c_31 => by exact absurd (by decide) c_31)
            refine j_iload_n dX12_readTwo_48 rfl ?_
            refine j_iconst dX12_readTwo_49 ?_
            refine j_icmp_ne (tgt := 69) dX12_readTwo_50 rfl (by first | omega | (split <;> omega)) (by first | omega | (split <;> omega)) (fun c_50 => ?_) (fun c_50 => by exact absurd (by decide) c_50)
            refine j_iload_n dX12_readTwo_69 rfl ?_
            refine j_bipush dX12_readTwo_70 (by decide) ?_
            refine j_icmp_eq (tgt := 77) dX12_readTwo_72 rfl (by first | omega | (split <;> omega)) (by first | omega | (split <;> omega)) (fun c_72 => ?_) (fun c_72 => by exact absurd rfl c_72)
            refine j_aload_n dX12_readTwo_77 rfl ?_
            refine j_iconst dX12_readTwo_78 ?_
            refine j_sipush dX12_readTwo_79 (by decide) ?_
            refine r_cv2EI dX12_readTwo_82 cvX12_122 (by decide) (by first | assumption | exact hsh _ _ rfl) (Nat.le_of_ble_eq_true rfl) (Nat.le_of_eq (Nat.zero_add _)) (Nat.le_of_eq (Nat.zero_add _)) (mt_num1 hsh hfx hK.1 (by decide) (by decide) (by omega) hv2 rfl) (fun L hL => ?_)
            refine j_istore dX12_readTwo_85 (by decide) ?_
            refine j_iload dX12_readTwo_87 rfl ?_
            refine j_if_lt (tgt := 104) dX12_readTwo_89 rfl (by first | omega | (split <;> omega)) (fun c_89 => by exact absurd c_89 (by omega)) (fun c_89 => ?_)
            refine j_aload_n dX12_readTwo_92 rfl ?_
            refine r_getS dX12_readTwo_93 flX12_13 (by first | assumption | exact hsh _ _ rfl) (fx_170_1 hfx) ?_
            refine j_iload_n dX12_readTwo_96 rfl ?_
            refine j_iload_n dX12_readTwo_97 rfl ?_
            refine r_cs2I dX12_readTwo_98 csX12_71 (Nat.le_of_ble_eq_true rfl) (Nat.le_of_eq (Nat.zero_add _)) (Nat.le_of_eq (Nat.zero_add _)) (sm_owedAt) ?_
            refine j_iload dX12_readTwo_101 rfl ?_
            refine r_iastore dX12_readTwo_103 (by first | assumption | exact hsh _ _ rfl) (by first | omega | (split <;> omega)) (by first | omega | (split <;> omega)) (by first | omega | (split <;> omega)) ?_
            refine j_iload dX12_readTwo_104 rfl ?_
            refine j_if_lt (tgt := 113) dX12_readTwo_106 rfl (by first | omega | (split <;> omega)) (fun c_106 => by exact absurd c_106 (by omega)) (fun c_106 => ?_)
            refine j_iconst dX12_readTwo_109 ?_
            refine j_goto (tgt := 114) dX12_readTwo_110 rfl ?_
            refine j_zret dX12_readTwo_114 rfl (by omega) ?_
            exact rEI_of rfl (bMd_1 (FrY_w (FrY_X (FrX_tr hJ.2 (FrX_tr hK.2 hL.2))) (by omega)) (Mt_w hL.1) (by rw [jup_at, FrX_171 hL.2, FrX_171 hK.2, FrX_171 hJ.2, hw]))
          · rw [if_neg hv2]
            refine j_aload_n dX12_readTwo_0 rfl ?_
            refine r_cv0EI dX12_readTwo_1 cvX12_137 (by decide) (by first | assumption | exact hsh _ _ rfl) (Nat.le_of_ble_eq_true rfl) (Nat.le_of_eq (Nat.zero_add _)) (Nat.le_of_eq (Nat.zero_add _)) (mt_per1 hsh hfx hM hw h8 hv rfl) (fun J hJ => ?_)
            refine j_istore_n dX12_readTwo_4 (by decide) ?_
            refine j_iload_n dX12_readTwo_5 rfl ?_
            refine j_if_ge (tgt := 13) dX12_readTwo_6 rfl (by first | omega | (split <;> omega)) (fun c_6 => ?_) (fun c_6 => by exact absurd (by omega) c_6)
            refine j_aload_n dX12_readTwo_13 rfl ?_
            refine r_cv0EI dX12_readTwo_14 cvX12_137 (by decide) (by first | assumption | exact hsh _ _ rfl) (Nat.le_of_ble_eq_true rfl) (Nat.le_of_eq (Nat.zero_add _)) (Nat.le_of_eq (Nat.zero_add _)) (mt_per1 hsh hfx hJ.1 ((FrX_171 hJ.2).trans hw) h8 hu rfl) (fun K hK => ?_)
            refine j_istore_n dX12_readTwo_17 (by decide) ?_
            refine j_iload_n dX12_readTwo_18 rfl ?_
            refine j_if_lt (tgt := 27) dX12_readTwo_19 rfl (by first | omega | (split <;> omega)) (fun c_19 => by exact absurd c_19 (by omega)) (fun c_19 => ?_)
            refine j_iload_n dX12_readTwo_22 rfl ?_
            refine j_iload_n dX12_readTwo_23 rfl ?_
            refine j_icmp_ne (tgt := 29) dX12_readTwo_24 rfl (by first | omega | (split <;> omega)) (by first | omega | (split <;> omega)) (fun c_24 => ?_) (fun c_24 => by exact absurd (Classical.not_not.1 c_24) hne)
            refine j_iload_n dX12_readTwo_29 rfl ?_
            refine j_iconst dX12_readTwo_30 ?_
            refine j_icmp_ne (tgt := 48) dX12_readTwo_31 rfl (by first | omega | (split <;> omega)) (by first | omega | (split <;> omega)) (fun c_31 => ?_) (fun c_31 => by exact absurd (by decide) c_31)
            refine j_iload_n dX12_readTwo_48 rfl ?_
            refine j_iconst dX12_readTwo_49 ?_
            refine j_icmp_ne (tgt := 69) dX12_readTwo_50 rfl (by first | omega | (split <;> omega)) (by first | omega | (split <;> omega)) (fun c_50 => ?_) (fun c_50 => by exact absurd (by decide) c_50)
            refine j_iload_n dX12_readTwo_69 rfl ?_
            refine j_bipush dX12_readTwo_70 (by decide) ?_
            refine j_icmp_eq (tgt := 77) dX12_readTwo_72 rfl (by first | omega | (split <;> omega)) (by first | omega | (split <;> omega)) (fun c_72 => ?_) (fun c_72 => by exact absurd rfl c_72)
            refine j_aload_n dX12_readTwo_77 rfl ?_
            refine j_iconst dX12_readTwo_78 ?_
            refine j_sipush dX12_readTwo_79 (by decide) ?_
            refine r_cv2EI dX12_readTwo_82 cvX12_122 (by decide) (by first | assumption | exact hsh _ _ rfl) (Nat.le_of_ble_eq_true rfl) (Nat.le_of_eq (Nat.zero_add _)) (Nat.le_of_eq (Nat.zero_add _)) (mt_num0 hsh hfx hK.1 (by decide) (by decide) (by omega) hv2 rfl) (fun L hL => ?_)
            refine j_istore dX12_readTwo_85 (by decide) ?_
            refine j_iload dX12_readTwo_87 rfl ?_
            refine j_if_lt (tgt := 104) dX12_readTwo_89 rfl (by first | omega | (split <;> omega)) (fun c_89 => ?_) (fun c_89 => by exact absurd (by decide) c_89)
            refine j_iload dX12_readTwo_104 rfl ?_
            refine j_if_lt (tgt := 113) dX12_readTwo_106 rfl (by first | omega | (split <;> omega)) (fun c_106 => ?_) (fun c_106 => by exact absurd (by decide) c_106)
            refine j_iconst dX12_readTwo_113 ?_
            refine j_zret dX12_readTwo_114 rfl (by omega) ?_
            exact rEI_of rfl (bMd_0 (FrY_X (FrX_tr hJ.2 (FrX_tr hK.2 hL.2))) hL.1)
    · rw [if_neg (fun x => hu x.1)]
      refine j_aload_n dX12_readTwo_0 rfl ?_
      refine r_cv0EI dX12_readTwo_1 cvX12_137 (by decide) (by first | assumption | exact hsh _ _ rfl) (Nat.le_of_ble_eq_true rfl) (Nat.le_of_eq (Nat.zero_add _)) (Nat.le_of_eq (Nat.zero_add _)) (mt_per1 hsh hfx hM hw h8 hv rfl) (fun J hJ => ?_)
      refine j_istore_n dX12_readTwo_4 (by decide) ?_
      refine j_iload_n dX12_readTwo_5 rfl ?_
      refine j_if_ge (tgt := 13) dX12_readTwo_6 rfl (by first | omega | (split <;> omega)) (fun c_6 => ?_) (fun c_6 => by exact absurd (by omega) c_6)
      refine j_aload_n dX12_readTwo_13 rfl ?_
      refine r_cv0EI dX12_readTwo_14 cvX12_137 (by decide) (by first | assumption | exact hsh _ _ rfl) (Nat.le_of_ble_eq_true rfl) (Nat.le_of_eq (Nat.zero_add _)) (Nat.le_of_eq (Nat.zero_add _)) (mt_per0 hsh hfx hJ.1 ((FrX_171 hJ.2).trans hw) h8 hu rfl) (fun K hK => ?_)
      refine j_istore_n dX12_readTwo_17 (by decide) ?_
      refine j_iload_n dX12_readTwo_18 rfl ?_
      refine j_if_lt (tgt := 27) dX12_readTwo_19 rfl (by first | omega | (split <;> omega)) (fun c_19 => ?_) (fun c_19 => by exact absurd (by decide) c_19)
      refine j_iconst dX12_readTwo_27 ?_
      refine j_zret dX12_readTwo_28 rfl (by omega) ?_
      exact rEI_of rfl (bMd_0 (FrY_X (FrX_tr hJ.2 hK.2)) hK.1)
  · rw [if_neg hv]
    refine j_aload_n dX12_readTwo_0 rfl ?_
    refine r_cv0EI dX12_readTwo_1 cvX12_137 (by decide) (by first | assumption | exact hsh _ _ rfl) (Nat.le_of_ble_eq_true rfl) (Nat.le_of_eq (Nat.zero_add _)) (Nat.le_of_eq (Nat.zero_add _)) (mt_per0 hsh hfx hM hw h8 hv rfl) (fun J hJ => ?_)
    refine j_istore_n dX12_readTwo_4 (by decide) ?_
    refine j_iload_n dX12_readTwo_5 rfl ?_
    refine j_if_ge (tgt := 13) dX12_readTwo_6 rfl (by first | omega | (split <;> omega)) (fun c_6 => by exact absurd c_6 (by decide)) (fun c_6 => ?_)
    refine j_iconst dX12_readTwo_9 ?_
    refine j_goto (tgt := 17) dX12_readTwo_10 rfl ?_
    refine j_istore_n dX12_readTwo_17 (by decide) ?_
    refine j_iload_n dX12_readTwo_18 rfl ?_
    refine j_if_lt (tgt := 27) dX12_readTwo_19 rfl (by first | omega | (split <;> omega)) (fun c_19 => ?_) (fun c_19 => by exact absurd (by decide) c_19)
    refine j_iconst dX12_readTwo_27 ?_
    refine j_zret dX12_readTwo_28 rfl (by omega) ?_
    exact rEI_of rfl (bMd_0 (FrY_X hJ.2) hJ.1)
/-- so many pains are told -/
def wPn (B : Int → Int) (w : Int → Int) (p q m : Int) : Int → Int := fun k => if 12 + 13 * p + 6 ≤ k ∧ k < 12 + 13 * p + 6 + m then B (q + (k - (12 + 13 * p + 6))) - 48 else w k
theorem wPn_0 {p : Int} : wPn B w p q 0 = w := by
  funext k
  exact if_neg (by omega)
theorem wPn_s {p m : Int} (hm : 0 ≤ m) : wup (wPn B w p q m) (12 + 13 * p + (6 + m)) (B (q + m) - 48) = wPn B w p q (m + 1) := by
  funext k
  by_cases e : k = 12 + 13 * p + (6 + m)
  · subst e
    rw [wup_same]
    unfold wPn
    rw [if_pos (by omega), show 12 + 13 * p + (6 + m) - (12 + 13 * p + 6) = m by omega]
  · rw [wup_ne _ _ e]
    unfold wPn
    by_cases e2 : 12 + 13 * p + 6 ≤ k ∧ k < 12 + 13 * p + 6 + m
    · rw [if_pos e2, if_pos (by omega)]
    · rw [if_neg e2, if_neg (by omega)]
theorem mb_pains (hsh : ShOK sh) (hfx : FxOK F) (hM : Mt I B n p b) (hw : I 171 = w) {r : Int} (hr : 0 ≤ r ∧ r < 8) (hp : lxB B n p = q) : jS G (d + 2) mX12_readPains [jR (some 170), jI r] (sh, I, F) 0 0 (rEI (if tkK B n q = 2 ∧ tkE B n q - q = 7 then 1 else 0) sh F (fun J => Mt J B n (lx B n 48 57 q) q ∧ FrY I J ∧ J 171 = wPn B w r q (min 7 (lx B n 48 57 q - q)))) := by
  have h5 := hM.2.2.2.2.1
  have h6 := hM.2.2.2.2.2
  have hqi := lx_le (B := B) (n := n) (lo := 32) (hi := 32) (p := p) h5.2
  have sb := mt_blanks (G := G) (d := d) (F := F) hsh hfx hM
  rw [hp] at sb
  rw [show lx B n 32 32 p = q from hp] at hqi
  have hk := tkK_in (B := B) (n := n) (q := q)
  have hl := lx_le (B := B) (n := n) (lo := 48) (hi := 57) (p := q) hqi.2
  refine jS_go [some (jR (some 170)), some (jI r)] (by decide +kernel) rfl (by simp [jone]) (Nat.le_of_ble_eq_true rfl) rfl (fun hok => ?_)
  generalize hQ : rEI (if tkK B n q = 2 ∧ tkE B n q - q = 7 then 1 else 0) sh F (fun J => Mt J B n (lx B n 48 57 q) q ∧ FrY I J ∧ J 171 = wPn B w r q (min 7 (lx B n 48 57 q - q))) = Q9
  have fin : ∀ (x : Int) (J : Nat → Int → Int), q ≤ x → x ≤ n → ¬ (x < n ∧ 48 ≤ B x ∧ B x ≤ 57) → lx B n 48 57 x = lx B n 48 57 q → Mt J B n x q → FrY I J → J 171 = wPn B w r q (min 7 (x - q)) → jW G mX12_readPains (d + 2) Q9 4 [some (jR (some 170)), some (jI r)] [] (sh, J, F) 0 0 := by
    intro x J hx hxn hne hlx hMJ hf hJw
    have sa := mt_isAt (G := G) (d := d + 1) (F := F) hsh hfx hMJ (lo := 48) (hi := 57) (by decide) (by decide) (by decide) (by decide)
    rw [if_neg hne] at sa
    have j2 := hMJ.2.1
    have j3 := hMJ.2.2.1
    have er : lx B n 48 57 q = x := by rw [← hlx]; exact lx_f hne
    rw [er] at hQ
    have eK : (tkK B n q = 2 ∧ tkE B n q - q = 7) ↔ x - q = 7 := by
      constructor
      · rintro ⟨c1, c2⟩
        rcases hk with k | ⟨k0, k | k | k⟩
        · omega
        · omega
        · have eE : tkE B n q = lx B n 48 57 q := by unfold tkE; rw [if_pos k0, if_neg k.2.1, if_pos k.2.2]
          omega
        · omega
      · intro c
        have hq2 : q < n ∧ isD (B q) := by
          by_cases c2 : q < n ∧ 48 ≤ B q ∧ B q ≤ 57
          · exact c2
          · rw [lx_f c2] at er; omega
        have hL : ¬ isL (B q) := by have := hq2.2; omega
        have eE : tkE B n q = lx B n 48 57 q := by unfold tkE; rw [if_pos hq2.1, if_neg hL, if_pos hq2.2]
        exact ⟨by unfold tkK; rw [if_pos hq2.1, if_neg hL, if_pos hq2.2], by omega⟩
    by_cases c7 : x - q = 7
    · rw [if_pos (eK.2 c7)] at hQ
      refine j_aload_n dX12_readPains_4 rfl ?_
      refine j_bipush dX12_readPains_5 (by decide) ?_
      refine j_bipush dX12_readPains_7 (by decide) ?_
      refine r_cv2I dX12_readPains_9 cvX12_92 (by decide) (by first | assumption | exact hsh _ _ rfl) (Nat.le_of_ble_eq_true rfl) (Nat.le_of_eq (Nat.zero_add _)) (Nat.le_of_eq (Nat.zero_add _)) (sa) ?_
      refine j_if_eq (tgt := 75) dX12_readPains_12 rfl (by first | omega | (split <;> omega)) (fun c_12 => ?_) (fun c_12 => by exact absurd c_12 (by decide))
      refine j_aload_n dX12_readPains_75 rfl ?_
      refine r_getIE dX12_readPains_76 flX12_86 (by first | assumption | exact hsh _ _ rfl) j2 (fun b_76 => ?_)
      refine j_aload_n dX12_readPains_79 rfl ?_
      refine r_getIE dX12_readPains_80 flX12_96 (by first | assumption | exact hsh _ _ rfl) j3 (fun b_80 => ?_)
      refine j_isub dX12_readPains_83 ?_
      refine j_bipush dX12_readPains_84 (by decide) ?_
      refine j_icmp_ne (tgt := 93) dX12_readPains_86 rfl (by first | omega | (split <;> omega)) (by first | omega | (split <;> omega)) (fun c_86 => by exact absurd c7 c_86) (fun c_86 => ?_)
      refine j_iconst dX12_readPains_89 ?_
      refine j_goto (tgt := 94) dX12_readPains_90 rfl ?_
      refine j_zret dX12_readPains_94 rfl (by omega) ?_
      rw [← hQ]
      exact rEI_of rfl ⟨hMJ, hf, hJw⟩
    · rw [if_neg (fun h => c7 (eK.1 h))] at hQ
      refine j_aload_n dX12_readPains_4 rfl ?_
      refine j_bipush dX12_readPains_5 (by decide) ?_
      refine j_bipush dX12_readPains_7 (by decide) ?_
      refine r_cv2I dX12_readPains_9 cvX12_92 (by decide) (by first | assumption | exact hsh _ _ rfl) (Nat.le_of_ble_eq_true rfl) (Nat.le_of_eq (Nat.zero_add _)) (Nat.le_of_eq (Nat.zero_add _)) (sa) ?_
      refine j_if_eq (tgt := 75) dX12_readPains_12 rfl (by first | omega | (split <;> omega)) (fun c_12 => ?_) (fun c_12 => by exact absurd c_12 (by decide))
      refine j_aload_n dX12_readPains_75 rfl ?_
      refine r_getIE dX12_readPains_76 flX12_86 (by first | assumption | exact hsh _ _ rfl) j2 (fun b_76 => ?_)
      refine j_aload_n dX12_readPains_79 rfl ?_
      refine r_getIE dX12_readPains_80 flX12_96 (by first | assumption | exact hsh _ _ rfl) j3 (fun b_80 => ?_)
      refine j_isub dX12_readPains_83 ?_
      refine j_bipush dX12_readPains_84 (by decide) ?_
      refine j_icmp_ne (tgt := 93) dX12_readPains_86 rfl (by first | omega | (split <;> omega)) (by first | omega | (split <;> omega)) (fun c_86 => ?_) (fun c_86 => by exact absurd (Classical.not_not.1 c_86) c7)
      refine j_iconst dX12_readPains_93 ?_
      refine j_zret dX12_readPains_94 rfl (by omega) ?_
      rw [← hQ]
      exact rEI_of rfl ⟨hMJ, hf, hJw⟩
  have key : ∀ (m : Nat) (x : Int) (J : Nat → Int → Int), x + m = n → q ≤ x → lx B n 48 57 x = lx B n 48 57 q → Mt J B n x q → FrY I J → J 171 = wPn B w r q (min 7 (x - q)) → jW G mX12_readPains (d + 2) Q9 4 [some (jR (some 170)), some (jI r)] [] (sh, J, F) 0 0 := by
    intro m
    induction m with
    | zero => intro x J hx hqx hlx hMJ hf hJw; exact fin x J hqx (by omega) (by omega) hlx hMJ hf hJw
    | succ m ih =>
      intro x J hx hqx hlx hMJ hf hJw
      by_cases e : x < n ∧ 48 ≤ B x ∧ B x ≤ 57
      · have sa := mt_isAt (G := G) (d := d + 1) (F := F) hsh hfx hMJ (lo := 48) (hi := 57) (by decide) (by decide) (by decide) (by decide)
        rw [if_pos e] at sa
        have j2 := hMJ.2.1
        have j3 := hMJ.2.2.1
        obtain ⟨bb, qb⟩ := hMJ.2.2.2.1 x (by omega) e.1
        rw [show sg8 (B x) = B x from if_pos (by omega)] at qb
        have hl2 : lx B n 48 57 (x + 1) = lx B n 48 57 q := by rw [← hlx]; exact (lx_t e).symm
        by_cases c : x - q < 7
        · obtain ⟨K, hK⟩ : ∃ K, K = jup J 171 (12 + 13 * r + (6 + x - q)) (B x - 48) := ⟨_, rfl⟩
          have hMK : Mt K B n x q := by rw [hK]; exact Mt_w hMJ
          have k2 := hMK.2.1
          have kw : K 171 = wPn B w r q (min 7 (x + 1 - q)) := by
            rw [hK, jup_at, hJw, show min 7 (x - q) = x - q by omega, show min 7 (x + 1 - q) = x - q + 1 by omega, ← wPn_s (by omega), show q + (x - q) = x by omega, show (6 : Int) + x - q = 6 + (x - q) by omega]
          have ih2 := ih (x + 1) (jup K 170 10 (x + 1)) (by omega) (by omega) hl2 (Mt_10 hMK (by omega)) (FrY_tr hf (FrY_tr (show FrY J K by rw [hK]; exact FrY_w (FrY_X FrX_0) (by omega)) (FrY_X (FrX_up FrX_0 (Or.inl rfl))))) (by rw [jup_ne _ _ _ (by decide)]; exact kw)
          refine j_aload_n dX12_readPains_4 rfl ?_
          refine j_bipush dX12_readPains_5 (by decide) ?_
          refine j_bipush dX12_readPains_7 (by decide) ?_
          refine r_cv2I dX12_readPains_9 cvX12_92 (by decide) (by first | assumption | exact hsh _ _ rfl) (Nat.le_of_ble_eq_true rfl) (Nat.le_of_eq (Nat.zero_add _)) (Nat.le_of_eq (Nat.zero_add _)) (sa) ?_
          refine j_if_eq (tgt := 75) dX12_readPains_12 rfl (by first | omega | (split <;> omega)) (fun c_12 => by exact absurd c_12 (by decide)) (fun c_12 => ?_)
          refine j_aload_n dX12_readPains_15 rfl ?_
          refine r_getIE dX12_readPains_16 flX12_86 (by first | assumption | exact hsh _ _ rfl) j2 (fun b_16 => ?_)
          refine j_aload_n dX12_readPains_19 rfl ?_
          refine r_getIE dX12_readPains_20 flX12_96 (by first | assumption | exact hsh _ _ rfl) j3 (fun b_20 => ?_)
          refine j_isub dX12_readPains_23 ?_
          refine j_bipush dX12_readPains_24 (by decide) ?_
          refine j_icmp_ge (tgt := 62) dX12_readPains_26 rfl (by first | omega | (split <;> omega)) (by first | omega | (split <;> omega)) (fun c_26 => by exact absurd c_26 (by omega)) (fun c_26 => ?_)
          refine j_aload_n dX12_readPains_29 rfl ?_
          refine r_getS dX12_readPains_30 flX12_13 (by first | assumption | exact hsh _ _ rfl) (fx_170_1 hfx) ?_
          refine j_iload_n dX12_readPains_33 rfl ?_
          refine j_bipush dX12_readPains_34 (by decide) ?_
          refine j_aload_n dX12_readPains_36 rfl ?_
          refine r_getIE dX12_readPains_37 flX12_86 (by first | assumption | exact hsh _ _ rfl) j2 (fun b_37 => ?_)
          refine j_iadd dX12_readPains_40 ?_
          refine j_aload_n dX12_readPains_41 rfl ?_
          refine r_getIE dX12_readPains_42 flX12_96 (by first | assumption | exact hsh _ _ rfl) j3 (fun b_42 => ?_)
          refine j_isub dX12_readPains_45 ?_
          refine r_cs2I dX12_readPains_46 csX12_64 (Nat.le_of_ble_eq_true rfl) (Nat.le_of_eq (Nat.zero_add _)) (Nat.le_of_eq (Nat.zero_add _)) (sm_at) ?_
          refine j_aload_n dX12_readPains_49 rfl ?_
          refine r_getS dX12_readPains_50 flX12_29 (by first | assumption | exact hsh _ _ rfl) (fx_170_8 hfx) ?_
          refine j_aload_n dX12_readPains_53 rfl ?_
          refine r_getIE dX12_readPains_54 flX12_86 (by first | assumption | exact hsh _ _ rfl) j2 (fun b_54 => ?_)
          refine r_baloadE dX12_readPains_57 (by first | assumption | exact hsh _ _ rfl) (by first | omega | (split <;> omega)) (by first | omega | (split <;> omega)) qb (fun b_57 => ?_)
          refine j_bipush dX12_readPains_58 (by decide) ?_
          refine j_isub dX12_readPains_60 ?_
          refine r_iastore dX12_readPains_61 (by first | assumption | exact hsh _ _ rfl) (by first | omega | (split <;> omega)) (by first | omega | (split <;> omega)) (by first | omega | (split <;> omega)) ?_
          rw [← hK]
          refine j_aload_n dX12_readPains_62 rfl ?_
          refine j_dup dX12_readPains_63 trivial ?_
          refine r_getIE dX12_readPains_64 flX12_86 (by first | assumption | exact hsh _ _ rfl) k2 (fun b_64 => ?_)
          refine j_iconst dX12_readPains_67 ?_
          refine j_iadd dX12_readPains_68 ?_
          refine r_putI dX12_readPains_69 flX12_86 rfl (by first | assumption | exact hsh _ _ rfl) (by first | omega | (split <;> omega)) (fun q => by cases q) ?_
          refine j_goto (tgt := 4) dX12_readPains_72 rfl ?_
          exact ih2
        · have ih2 := ih (x + 1) (jup J 170 10 (x + 1)) (by omega) (by omega) hl2 (Mt_10 hMJ (by omega)) (FrY_tr hf (FrY_X (FrX_up FrX_0 (Or.inl rfl)))) (by rw [jup_ne _ _ _ (by decide), hJw, show min 7 (x - q) = min 7 (x + 1 - q) by omega])
          refine j_aload_n dX12_readPains_4 rfl ?_
          refine j_bipush dX12_readPains_5 (by decide) ?_
          refine j_bipush dX12_readPains_7 (by decide) ?_
          refine r_cv2I dX12_readPains_9 cvX12_92 (by decide) (by first | assumption | exact hsh _ _ rfl) (Nat.le_of_ble_eq_true rfl) (Nat.le_of_eq (Nat.zero_add _)) (Nat.le_of_eq (Nat.zero_add _)) (sa) ?_
          refine j_if_eq (tgt := 75) dX12_readPains_12 rfl (by first | omega | (split <;> omega)) (fun c_12 => by exact absurd c_12 (by decide)) (fun c_12 => ?_)
          refine j_aload_n dX12_readPains_15 rfl ?_
          refine r_getIE dX12_readPains_16 flX12_86 (by first | assumption | exact hsh _ _ rfl) j2 (fun b_16 => ?_)
          refine j_aload_n dX12_readPains_19 rfl ?_
          refine r_getIE dX12_readPains_20 flX12_96 (by first | assumption | exact hsh _ _ rfl) j3 (fun b_20 => ?_)
          refine j_isub dX12_readPains_23 ?_
          refine j_bipush dX12_readPains_24 (by decide) ?_
          refine j_icmp_ge (tgt := 62) dX12_readPains_26 rfl (by first | omega | (split <;> omega)) (by first | omega | (split <;> omega)) (fun c_26 => ?_) (fun c_26 => by exact absurd (by omega) c_26)
          refine j_aload_n dX12_readPains_62 rfl ?_
          refine j_dup dX12_readPains_63 trivial ?_
          refine r_getIE dX12_readPains_64 flX12_86 (by first | assumption | exact hsh _ _ rfl) j2 (fun b_64 => ?_)
          refine j_iconst dX12_readPains_67 ?_
          refine j_iadd dX12_readPains_68 ?_
          refine r_putI dX12_readPains_69 flX12_86 rfl (by first | assumption | exact hsh _ _ rfl) (by first | omega | (split <;> omega)) (fun q => by cases q) ?_
          refine j_goto (tgt := 4) dX12_readPains_72 rfl ?_
          exact ih2
      · exact fin x J hqx (by omega) e hlx hMJ hf hJw
  have k0 := fun J hM hf hJ => key (n - q).toNat q J (by omega) (Int.le_refl _) rfl hM hf hJ
  rw [show min 7 (q - q) = 0 by omega, wPn_0] at k0
  refine j_aload_n dX12_readPains_0 rfl ?_
  refine r_cv0EV dX12_readPains_1 cvX12_99 (by decide) (by first | assumption | exact hsh _ _ rfl) (Nat.le_of_ble_eq_true rfl) (Nat.le_of_eq (Nat.zero_add _)) (Nat.le_of_eq (Nat.zero_add _)) (sb) (fun J hJ => ?_)
  exact k0 J hJ.1 (FrY_X hJ.2) ((FrX_171 hJ.2).trans hw)
theorem mt_lettersQ (hsh : ShOK sh) (hfx : FxOK F) (hM : Mt I B n p b) (hp : lxB B n p = q) : jS G (d + 2) mX12_letters [jR (some 170)] (sh, I, F) 0 0 (rEV sh F (fun J => Mt J B n (lx B n 97 122 q) q ∧ FrX I J)) := by
  have := mt_letters (G := G) (d := d) (F := F) hsh hfx hM
  rw [hp] at this
  exact this
theorem wd_E {t : Nat} (ht : t < 33) (hq : q ≤ n) (h : vWd B n q t) : lx B n 97 122 q = tkE B n q := by
  have h1 := ((wd_iff (B := B) (n := n) ht hq).2 h).1
  have h2 := h.2.1
  omega
theorem mt_after1 (hsh : ShOK sh) (hfx : FxOK F) (hM : Mt I B n p b) {lo hi : Int} (h1 : 0 ≤ lo) (h3 : jin lo) (h4 : jin hi) {t : Nat} (ht : t < 33) (h : vWd B n q t) (h2 : vNm B n (tkN B n q) 5 lo hi) (hp : lxB B n p = q) : jS G (d + 5) mX12_after [jR (some 170), jX (t + 1), jI lo, jI hi] (sh, I, F) 0 0 (rEI (tV B n (tkN B n q)) sh F (fun J => Mt J B n (tkE B n (tkN B n q)) (tkN B n q) ∧ FrX I J)) := by
  have h5 := hM.2.2.2.2.1
  have hqi := lx_le (B := B) (n := n) (lo := 32) (hi := 32) (p := p) h5.2
  rw [show lx B n 32 32 p = q from hp] at hqi
  have eE := wd_E ht hqi.2 h
  refine jS_go [some (jR (some 170)), some (jX (t + 1)), some (jI lo), some (jI hi)] (by decide +kernel) rfl (by simp [jone]) (Nat.le_of_ble_eq_true rfl) rfl (fun hok => ?_)
  refine j_aload_n dX12_after_0 rfl ?_
  refine r_cv0EV dX12_after_1 cvX12_111 (by decide) (by first | assumption | exact hsh _ _ rfl) (Nat.le_of_ble_eq_true rfl) (Nat.le_of_eq (Nat.zero_add _)) (Nat.le_of_eq (Nat.zero_add _)) (mt_lettersQ hsh hfx hM hp) (fun J hJ => ?_)
  have sw := mt_isWordQ (G := G) (d := d) (F := F) hsh hfx hJ.1 (by omega) ht
  rw [if_pos h] at sw
  have hM2 := hJ.1
  rw [eE] at hM2
  refine j_aload_n dX12_after_4 rfl ?_
  refine j_aload_n dX12_after_5 rfl ?_
  refine r_cv1I dX12_after_6 cvX12_114 (by decide) (by first | assumption | exact hsh _ _ rfl) (Nat.le_of_ble_eq_true rfl) (Nat.le_of_eq (Nat.zero_add _)) (Nat.le_of_eq (Nat.zero_add _)) (sw) ?_
  refine j_if_eq (tgt := 21) dX12_after_9 rfl (by first | omega | (split <;> omega)) (fun c_9 => by exact absurd c_9 (by decide)) (fun c_9 => ?_)
  refine j_aload_n dX12_after_12 rfl ?_
  refine j_iload_n dX12_after_13 rfl ?_
  refine j_iload_n dX12_after_14 rfl ?_
  refine r_cv2EI dX12_after_15 cvX12_122 (by decide) (by first | assumption | exact hsh _ _ rfl) (Nat.le_of_ble_eq_true rfl) (Nat.le_of_eq (Nat.zero_add _)) (Nat.le_of_eq (Nat.zero_add _)) (mt_num1 hsh hfx hM2 h1 h3 h4 h2 rfl) (fun K hK => ?_)
  refine j_goto (tgt := 22) dX12_after_18 rfl ?_
  refine j_iret dX12_after_22 rfl ?_
  exact rEI_of rfl ⟨hK.1, FrX_tr hJ.2 hK.2⟩
theorem mt_after0 (hsh : ShOK sh) (hfx : FxOK F) (hM : Mt I B n p b) {lo hi : Int} (h1 : 0 ≤ lo) (h3 : jin lo) (h4 : jin hi) {t : Nat} (ht : t < 33) (h : vWd B n q t) (h2 : ¬ vNm B n (tkN B n q) 5 lo hi) (hp : lxB B n p = q) : jS G (d + 5) mX12_after [jR (some 170), jX (t + 1), jI lo, jI hi] (sh, I, F) 0 0 (rEI (-1) sh F (fun J => (∃ x, Mt J B n x (tkN B n q)) ∧ FrX I J)) := by
  have h5 := hM.2.2.2.2.1
  have hqi := lx_le (B := B) (n := n) (lo := 32) (hi := 32) (p := p) h5.2
  rw [show lx B n 32 32 p = q from hp] at hqi
  have eE := wd_E ht hqi.2 h
  refine jS_go [some (jR (some 170)), some (jX (t + 1)), some (jI lo), some (jI hi)] (by decide +kernel) rfl (by simp [jone]) (Nat.le_of_ble_eq_true rfl) rfl (fun hok => ?_)
  refine j_aload_n dX12_after_0 rfl ?_
  refine r_cv0EV dX12_after_1 cvX12_111 (by decide) (by first | assumption | exact hsh _ _ rfl) (Nat.le_of_ble_eq_true rfl) (Nat.le_of_eq (Nat.zero_add _)) (Nat.le_of_eq (Nat.zero_add _)) (mt_lettersQ hsh hfx hM hp) (fun J hJ => ?_)
  have sw := mt_isWordQ (G := G) (d := d) (F := F) hsh hfx hJ.1 (by omega) ht
  rw [if_pos h] at sw
  have hM2 := hJ.1
  rw [eE] at hM2
  refine j_aload_n dX12_after_4 rfl ?_
  refine j_aload_n dX12_after_5 rfl ?_
  refine r_cv1I dX12_after_6 cvX12_114 (by decide) (by first | assumption | exact hsh _ _ rfl) (Nat.le_of_ble_eq_true rfl) (Nat.le_of_eq (Nat.zero_add _)) (Nat.le_of_eq (Nat.zero_add _)) (sw) ?_
  refine j_if_eq (tgt := 21) dX12_after_9 rfl (by first | omega | (split <;> omega)) (fun c_9 => by exact absurd c_9 (by decide)) (fun c_9 => ?_)
  refine j_aload_n dX12_after_12 rfl ?_
  refine j_iload_n dX12_after_13 rfl ?_
  refine j_iload_n dX12_after_14 rfl ?_
  refine r_cv2EI dX12_after_15 cvX12_122 (by decide) (by first | assumption | exact hsh _ _ rfl) (Nat.le_of_ble_eq_true rfl) (Nat.le_of_eq (Nat.zero_add _)) (Nat.le_of_eq (Nat.zero_add _)) (mt_num0 hsh hfx hM2 h1 h3 h4 h2 rfl) (fun K hK => ?_)
  refine j_goto (tgt := 22) dX12_after_18 rfl ?_
  refine j_iret dX12_after_22 rfl ?_
  exact rEI_of rfl ⟨⟨_, hK.1⟩, FrX_tr hJ.2 hK.2⟩
theorem mt_afterN (hsh : ShOK sh) (hfx : FxOK F) (hM : Mt I B n p b) {lo hi : Int} {t : Nat} (ht : t < 33) (h : ¬ vWd B n q t) (hp : lxB B n p = q) : jS G (d + 5) mX12_after [jR (some 170), jX (t + 1), jI lo, jI hi] (sh, I, F) 0 0 (rEI (-1) sh F (fun J => (∃ x, Mt J B n x q) ∧ FrX I J)) := by
  have h5 := hM.2.2.2.2.1
  have hqi := lx_le (B := B) (n := n) (lo := 32) (hi := 32) (p := p) h5.2
  rw [show lx B n 32 32 p = q from hp] at hqi
  refine jS_go [some (jR (some 170)), some (jX (t + 1)), some (jI lo), some (jI hi)] (by decide +kernel) rfl (by simp [jone]) (Nat.le_of_ble_eq_true rfl) rfl (fun hok => ?_)
  refine j_aload_n dX12_after_0 rfl ?_
  refine r_cv0EV dX12_after_1 cvX12_111 (by decide) (by first | assumption | exact hsh _ _ rfl) (Nat.le_of_ble_eq_true rfl) (Nat.le_of_eq (Nat.zero_add _)) (Nat.le_of_eq (Nat.zero_add _)) (mt_lettersQ hsh hfx hM hp) (fun J hJ => ?_)
  have sw := mt_isWordQ (G := G) (d := d) (F := F) hsh hfx hJ.1 (by omega) ht
  rw [if_neg h] at sw
  refine j_aload_n dX12_after_4 rfl ?_
  refine j_aload_n dX12_after_5 rfl ?_
  refine r_cv1I dX12_after_6 cvX12_114 (by decide) (by first | assumption | exact hsh _ _ rfl) (Nat.le_of_ble_eq_true rfl) (Nat.le_of_eq (Nat.zero_add _)) (Nat.le_of_eq (Nat.zero_add _)) (sw) ?_
  refine j_if_eq (tgt := 21) dX12_after_9 rfl (by first | omega | (split <;> omega)) (fun c_9 => ?_) (fun c_9 => by exact absurd c_9 (by decide))
  refine j_iconst dX12_after_21 ?_
  refine j_iret dX12_after_22 rfl ?_
  exact rEI_of rfl ⟨⟨_, hJ.1⟩, hJ.2⟩
end
