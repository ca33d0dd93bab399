/-! A DAY OF THE MODEL: its methods -/
section
variable {G : jzG} {d : Nat} {sh : List (Nat × Nat)} {I : Nat → Int → Int} {F : Nat → Int → Option Nat}
theorem sm_drawn (hsh : ShOK sh) (hfx : FxOK F) : jS G d mX12_drawn [jR (some 170), jI 100] (sh, I, F) 0 0 (rI (sDraw (sNext (I 171 11))) (sh, jup I 171 11 (sNext (I 171 11)), F)) := by
  refine jS_go [some (jR (some 170)), some (jI 100)] (by decide +kernel) rfl (by simp [jone]) (Nat.le_of_ble_eq_true rfl) rfl (fun hok => ?_)
  have hm := jAnd_mask (jShr (jwr (1103515245 * I 171 11 + 12345)) 16)
  refine j_aload_n dX12_drawn_0 rfl ?_
  refine r_getS dX12_drawn_1 flX12_13 (by first | assumption | exact hsh _ _ rfl) (fx_170_1 hfx) ?_
  refine j_bipush dX12_drawn_4 (by decide) ?_
  refine j_ldc (n := 1103515245) dX12_drawn_6 kcX12_82 ?_
  refine j_aload_n dX12_drawn_8 rfl ?_
  refine r_getS dX12_drawn_9 flX12_13 (by first | assumption | exact hsh _ _ rfl) (fx_170_1 hfx) ?_
  refine j_bipush dX12_drawn_12 (by decide) ?_
  refine r_iaload dX12_drawn_14 (by first | assumption | exact hsh _ _ rfl) (by first | omega | (split <;> omega)) (by first | omega | (split <;> omega)) (fun b_14 => ?_)
  refine j_imul dX12_drawn_15 ?_
  refine j_sipush dX12_drawn_16 (by decide) ?_
  refine j_iadd dX12_drawn_19 ?_
  refine j_wrap ?_
  refine r_iastore dX12_drawn_20 (by first | assumption | exact hsh _ _ rfl) (by first | omega | (split <;> omega)) (by first | omega | (split <;> omega)) (jwr_in _) ?_
  refine j_aload_n dX12_drawn_21 rfl ?_
  refine r_getS dX12_drawn_22 flX12_13 (by first | assumption | exact hsh _ _ rfl) (fx_170_1 hfx) ?_
  refine j_bipush dX12_drawn_25 (by decide) ?_
  refine r_ialoadE dX12_drawn_27 (by first | assumption | exact hsh _ _ rfl) (by first | omega | (split <;> omega)) (by first | omega | (split <;> omega)) (jup_same _ _ _ _) (fun b_27 => ?_)
  refine j_bipush dX12_drawn_28 (by decide) ?_
  refine r_ishr dX12_drawn_30 (fun b_30 => ?_)
  refine j_sipush dX12_drawn_31 (by decide) ?_
  refine r_iand dX12_drawn_34 (fun b_34 => ?_)
  refine j_iload_n dX12_drawn_35 rfl ?_
  refine r_iremN dX12_drawn_36 (by first | omega | (split <;> omega)) (by first | omega | (split <;> omega)) ?_
  refine j_iret dX12_drawn_37 rfl ?_
  exact rI_of rfl rfl
theorem sm_breaks (hsh : ShOK sh) (hfx : FxOK F) (hW : WF (I 171)) (hf : vFe (I 181) (aPe (I 171))) : jS G (d + 3) mX12_breaks [jR (some 170)] (sh, I, F) 0 0 (rEV sh F (fun J => DS I J (dBreak (I 171) (I 181)).1 (I 179) (I 180) (dBreak (I 171) (I 181)).2)) := by
  have h8 := hW.1
  refine jS_go [some (jR (some 170)), none] (by decide +kernel) rfl (by simp [jone]) (Nat.le_of_ble_eq_true rfl) rfl (fun hok => ?_)
  generalize hw9 : I 171 = w at *
  generalize hf9 : I 181 = f at *
  have hD0 : DS I I w (I 179) (I 180) f := by rw [← hw9, ← hf9]; exact DS_0
  have key : ∀ (m : Nat) (z : Int) (J : Nat → Int → Int) (Y : (Int → Int) × (Int → Int)), z + m = aPe w → 0 ≤ z → Y = jfold dBrk (wup w 8 1, f) z.toNat → WF Y.1 → aPe Y.1 = aPe w → (∀ p, z ≤ p → p < aPe w → 0 ≤ Y.2 p ∧ Y.2 p ≤ 200000) → DS I J Y.1 (I 179) (I 180) Y.2 → jW G mX12_breaks (d + 3) (rEV sh F (fun J => DS I J (dBreak w f).1 (I 179) (I 180) (dBreak w f).2)) 10 [some (jR (some 170)), some (jI z)] [] (sh, J, F) 0 0 := by
    intro m
    induction m with
    | zero =>
      intro z J Y hz hz0 hY hWY hn hfy hD
      have hn2 : aPe (J 171) = aPe w := by rw [hD.1]; exact hn
      have hY2 : Y = dBreak w f := by rw [hY, show z = aPe w by omega]; rfl
      refine j_iload_n dX12_breaks_10 rfl ?_
      refine j_aload_n dX12_breaks_11 rfl ?_
      refine r_cv0I dX12_breaks_12 cvX12_74 (by decide) (by first | assumption | exact hsh _ _ rfl) (Nat.le_of_ble_eq_true rfl) (Nat.le_of_eq (Nat.zero_add _)) (Nat.le_of_eq (Nat.zero_add _)) (sm_people hsh hfx) ?_
      refine j_icmp_ge (tgt := 79) dX12_breaks_15 rfl (by first | omega | (split <;> omega)) (by first | omega | (split <;> omega)) (fun c_15 => ?_) (fun c_15 => by exact absurd (by omega) c_15)
      refine j_vret dX12_breaks_79 rfl ?_
      subst hY2
      exact rEV_of hD
    | succ m ih =>
      intro z J Y hz hz0 hY hWY hn hfy hD
      have hn2 : aPe (J 171) = aPe w := by rw [hD.1]; exact hn
      have hs : jfold dBrk (wup w 8 1, f) (z + 1).toNat = dBrk z Y := by rw [hY]; exact jfold_s _ _ hz0
      have hb := dBrk_ok (n := 0) hWY (p := z) (by omega)
      have h4 := hWY.2.1.2.2 z hz0 (by omega)
      have hfz := hfy z (Int.le_refl _) (by omega)
      have ih2 := fun J' => ih (z + 1) J' (dBrk z Y) (by omega) (by omega) hs.symm hb.1 (by rw [← hn]; exact hb.2.2.2 0 (by omega)) (fun p h0 h1 => by rw [hb.2.1 p (by omega)]; exact hfy p (by omega) h1)
      clear ih
      have sa := sm_isAlive (G := G) (d := d) (I := J) hsh hfx (p := z) (by omega)
      rw [hD.1] at sa
      by_cases e : aOf Y.1 z 3 = 0
      · rw [if_pos e] at sa
        have s1 := sm_of (G := G) (d := d + 1) (I := J) hsh hfx (p := z) (k := 1) (by omega)
        have s2 := sm_of (G := G) (d := d + 1) (I := J) hsh hfx (p := z) (k := 2) (by omega)
        rw [hD.1] at s1 s2
        have hst : dBrk z Y = (wAF Y.1 z 0 0, wup Y.2 z (Y.2 z + (aOf Y.1 z 1 - aOf Y.1 z 2))) := by unfold dBrk; rw [if_pos e]
        rw [hst] at ih2
        have q35 : J 181 z = Y.2 z := by rw [hD.2.2.2.1]
        refine j_iload_n dX12_breaks_10 rfl ?_
        refine j_aload_n dX12_breaks_11 rfl ?_
        refine r_cv0I dX12_breaks_12 cvX12_74 (by decide) (by first | assumption | exact hsh _ _ rfl) (Nat.le_of_ble_eq_true rfl) (Nat.le_of_eq (Nat.zero_add _)) (Nat.le_of_eq (Nat.zero_add _)) (sm_people hsh hfx) ?_
        refine j_icmp_ge (tgt := 79) dX12_breaks_15 rfl (by first | omega | (split <;> omega)) (by first | omega | (split <;> omega)) (fun c_15 => by exact absurd c_15 (by omega)) (fun c_15 => ?_)
        refine j_aload_n dX12_breaks_18 rfl ?_
        refine j_iload_n dX12_breaks_19 rfl ?_
        refine r_cv1I dX12_breaks_20 cvX12_296 (by decide) (by first | assumption | exact hsh _ _ rfl) (Nat.le_of_ble_eq_true rfl) (Nat.le_of_eq (Nat.zero_add _)) (Nat.le_of_eq (Nat.zero_add _)) (sa) ?_
        refine j_if_ne (tgt := 29) dX12_breaks_23 rfl (by first | omega | (split <;> omega)) (fun c_23 => ?_) (fun c_23 => by exact absurd c_23 (by decide))
        refine j_aload_n dX12_breaks_29 rfl ?_
        refine r_getS dX12_breaks_30 flX12_48 (by first | assumption | exact hsh _ _ rfl) (fx_170_22 hfx) ?_
        refine j_iload_n dX12_breaks_33 rfl ?_
        refine j_dup2 dX12_breaks_34 trivial trivial ?_
        refine r_ialoadE dX12_breaks_35 (by first | assumption | exact hsh _ _ rfl) (by first | omega | (split <;> omega)) (by first | omega | (split <;> omega)) q35 (fun b_35 => ?_)
        refine j_aload_n dX12_breaks_36 rfl ?_
        refine j_iload_n dX12_breaks_37 rfl ?_
        refine j_iconst dX12_breaks_38 ?_
        refine r_cv2I dX12_breaks_39 cvX12_68 (by decide) (by first | assumption | exact hsh _ _ rfl) (Nat.le_of_ble_eq_true rfl) (Nat.le_of_eq (Nat.zero_add _)) (Nat.le_of_eq (Nat.zero_add _)) (s1) ?_
        refine j_aload_n dX12_breaks_42 rfl ?_
        refine j_iload_n dX12_breaks_43 rfl ?_
        refine j_iconst dX12_breaks_44 ?_
        refine r_cv2I dX12_breaks_45 cvX12_68 (by decide) (by first | assumption | exact hsh _ _ rfl) (Nat.le_of_ble_eq_true rfl) (Nat.le_of_eq (Nat.zero_add _)) (Nat.le_of_eq (Nat.zero_add _)) (s2) ?_
        refine j_isub dX12_breaks_48 ?_
        refine j_iadd dX12_breaks_49 ?_
        refine r_iastore dX12_breaks_50 (by first | assumption | exact hsh _ _ rfl) (by first | omega | (split <;> omega)) (by first | omega | (split <;> omega)) (by first | omega | (split <;> omega)) ?_
        refine j_aload_n dX12_breaks_51 rfl ?_
        refine r_getS dX12_breaks_52 flX12_13 (by first | assumption | exact hsh _ _ rfl) (fx_170_1 hfx) ?_
        refine j_iload_n dX12_breaks_55 rfl ?_
        refine j_iconst dX12_breaks_56 ?_
        refine r_cs2I dX12_breaks_57 csX12_64 (Nat.le_of_ble_eq_true rfl) (Nat.le_of_eq (Nat.zero_add _)) (Nat.le_of_eq (Nat.zero_add _)) (sm_at) ?_
        refine j_iconst dX12_breaks_60 ?_
        refine r_iastore dX12_breaks_61 (by first | assumption | exact hsh _ _ rfl) (by first | omega | (split <;> omega)) (by first | omega | (split <;> omega)) (by first | omega | (split <;> omega)) ?_
        refine j_aload_n dX12_breaks_62 rfl ?_
        refine r_getS dX12_breaks_63 flX12_13 (by first | assumption | exact hsh _ _ rfl) (fx_170_1 hfx) ?_
        refine j_iload_n dX12_breaks_66 rfl ?_
        refine j_iconst dX12_breaks_67 ?_
        refine r_cs2I dX12_breaks_68 csX12_64 (Nat.le_of_ble_eq_true rfl) (Nat.le_of_eq (Nat.zero_add _)) (Nat.le_of_eq (Nat.zero_add _)) (sm_at) ?_
        refine j_iconst dX12_breaks_71 ?_
        refine r_iastore dX12_breaks_72 (by first | assumption | exact hsh _ _ rfl) (by first | omega | (split <;> omega)) (by first | omega | (split <;> omega)) (by first | omega | (split <;> omega)) ?_
        refine j_iinc dX12_breaks_73 rfl (by decide) ?_
        refine j_goto (tgt := 10) dX12_breaks_76 rfl ?_
        refine ih2 _ ?_
        have hD2 := DS_171 (k := 12 + 13 * z + 2) (v := 0) (DS_171 (k := 12 + 13 * z + 1) (v := 0) (DS_181 (k := z) (v := Y.2 z + (aOf Y.1 z 1 - aOf Y.1 z 2)) hD))
        rw [wup_comm _ _ _ (by omega)] at hD2
        exact hD2
      · rw [if_neg e] at sa
        have hst : dBrk z Y = Y := by unfold dBrk; rw [if_neg e]
        rw [hst] at ih2
        refine j_iload_n dX12_breaks_10 rfl ?_
        refine j_aload_n dX12_breaks_11 rfl ?_
        refine r_cv0I dX12_breaks_12 cvX12_74 (by decide) (by first | assumption | exact hsh _ _ rfl) (Nat.le_of_ble_eq_true rfl) (Nat.le_of_eq (Nat.zero_add _)) (Nat.le_of_eq (Nat.zero_add _)) (sm_people hsh hfx) ?_
        refine j_icmp_ge (tgt := 79) dX12_breaks_15 rfl (by first | omega | (split <;> omega)) (by first | omega | (split <;> omega)) (fun c_15 => by exact absurd c_15 (by omega)) (fun c_15 => ?_)
        refine j_aload_n dX12_breaks_18 rfl ?_
        refine j_iload_n dX12_breaks_19 rfl ?_
        refine r_cv1I dX12_breaks_20 cvX12_296 (by decide) (by first | assumption | exact hsh _ _ rfl) (Nat.le_of_ble_eq_true rfl) (Nat.le_of_eq (Nat.zero_add _)) (Nat.le_of_eq (Nat.zero_add _)) (sa) ?_
        refine j_if_ne (tgt := 29) dX12_breaks_23 rfl (by first | omega | (split <;> omega)) (fun c_23 => by exact absurd c_23 (by decide)) (fun c_23 => ?_)
        refine j_goto (tgt := 73) dX12_breaks_26 rfl ?_
        refine j_iinc dX12_breaks_73 rfl (by decide) ?_
        refine j_goto (tgt := 10) dX12_breaks_76 rfl ?_
        exact ih2 _ hD
  refine j_aload_n dX12_breaks_0 rfl ?_
  refine r_getS dX12_breaks_1 flX12_13 (by first | assumption | exact hsh _ _ rfl) (fx_170_1 hfx) ?_
  refine j_bipush dX12_breaks_4 (by decide) ?_
  refine j_iconst dX12_breaks_6 ?_
  refine r_iastore dX12_breaks_7 (by first | assumption | exact hsh _ _ rfl) (by first | omega | (split <;> omega)) (by first | omega | (split <;> omega)) (by first | omega | (split <;> omega)) ?_
  refine j_iconst dX12_breaks_8 ?_
  refine j_istore_n dX12_breaks_9 (by decide) ?_
  exact key (aPe w).toNat 0 _ (wup w 8 1, f) (by omega) (by omega) rfl (WF_fail hW (Or.inr rfl)) (wup_ne w 1 (show (0 : Int) ≠ 8 by decide)) (fun p h0 h1 => hf p h0 h1) (DS_171 hD0)
theorem sm_isTooMuch (hsh : ShOK sh) (hfx : FxOK F) {p : Int} (hp : 0 ≤ p ∧ p < 8) : jS G (d + 3) mX12_isTooMuch [jR (some 170), jI p] (sh, I, F) 0 0 (rI (if aOf (I 171) p 3 = 0 ∧ aOf (I 171) p 0 < I 181 p then 1 else 0) (sh, I, F)) := by
  refine jS_go [some (jR (some 170)), some (jI p)] (by decide +kernel) rfl (by simp [jone]) (Nat.le_of_ble_eq_true rfl) rfl (fun hok => ?_)
  refine j_aload_n dX12_isTooMuch_0 rfl ?_
  refine j_iload_n dX12_isTooMuch_1 rfl ?_
  refine r_cv1I dX12_isTooMuch_2 cvX12_296 (by decide) (by first | assumption | exact hsh _ _ rfl) (Nat.le_of_ble_eq_true rfl) (Nat.le_of_eq (Nat.zero_add _)) (Nat.le_of_eq (Nat.zero_add _)) (sm_isAlive hsh hfx (by omega)) ?_
  refine j_if_eq (tgt := 27) dX12_isTooMuch_5 rfl (by first | omega | (split <;> omega)) (fun c_5 => ?_) (fun c_5 => ?_)
  · rw [ite0] at c_5
    refine j_iconst dX12_isTooMuch_27 ?_
    refine j_zret dX12_isTooMuch_28 rfl (by omega) ?_
    exact rI_of (by first | rw [if_pos (by omega)] | rw [if_neg (by omega)]) rfl
  · rw [ite0] at c_5
    refine j_aload_n dX12_isTooMuch_8 rfl ?_
    refine r_getS dX12_isTooMuch_9 flX12_48 (by first | assumption | exact hsh _ _ rfl) (fx_170_22 hfx) ?_
    refine j_iload_n dX12_isTooMuch_12 rfl ?_
    refine r_iaload dX12_isTooMuch_13 (by first | assumption | exact hsh _ _ rfl) (by first | omega | (split <;> omega)) (by first | omega | (split <;> omega)) (fun b_13 => ?_)
    refine j_aload_n dX12_isTooMuch_14 rfl ?_
    refine j_iload_n dX12_isTooMuch_15 rfl ?_
    refine j_iconst dX12_isTooMuch_16 ?_
    refine r_cv2J dX12_isTooMuch_17 cvX12_68 (by decide) (by first | assumption | exact hsh _ _ rfl) (Nat.le_of_ble_eq_true rfl) (Nat.le_of_eq (Nat.zero_add _)) (Nat.le_of_eq (Nat.zero_add _)) (sm_of hsh hfx (by omega)) (hok.2.1 171 _) (fun b_17 => ?_)
    refine j_icmp_le (tgt := 27) dX12_isTooMuch_20 rfl (by first | omega | (split <;> omega)) (by first | omega | (split <;> omega)) (fun c_20 => ?_) (fun c_20 => ?_)
    · refine j_iconst dX12_isTooMuch_27 ?_
      refine j_zret dX12_isTooMuch_28 rfl (by omega) ?_
      exact rI_of (by first | rw [if_pos (by omega)] | rw [if_neg (by omega)]) rfl
    · refine j_iconst dX12_isTooMuch_23 ?_
      refine j_goto (tgt := 28) dX12_isTooMuch_24 rfl ?_
      refine j_zret dX12_isTooMuch_28 rfl (by omega) ?_
      exact rI_of (by first | rw [if_pos (by omega)] | rw [if_neg (by omega)]) rfl
theorem mSh_s {w : Int → Int} {z : Int} (h : 4 ≤ z ∧ z ≤ 239) : wup (mSh w z) (180 + z) (w (180 + z - 4)) = mSh w (z - 1) := by
  funext j
  unfold wup mSh
  by_cases e : j = 180 + z
  · subst e; rw [if_pos rfl, if_pos (by omega)]
  · rw [if_neg e]
    by_cases e2 : 180 + z < j ∧ j < 420
    · rw [if_pos e2, if_pos (by omega)]
    · rw [if_neg e2, if_neg (by omega)]
theorem sm_tells (hsh : ShOK sh) (hfx : FxOK F) {p : Int} (hp : 0 ≤ p ∧ p < 8) (h9 : 0 ≤ I 171 9 ∧ I 171 9 ≤ 1000000100) (h10 : 0 ≤ I 171 10 ∧ I 171 10 ≤ 60) : jS G (d + 2) mX12_tells [jR (some 170), jI p] (sh, I, F) 0 0 (rEV sh F (fun J => DS I J (mTell (I 171) p (I 181 p)) (I 179) (I 180) (I 181))) := by
  refine jS_go [some (jR (some 170)), some (jI p), none] (by decide +kernel) rfl (by simp [jone]) (Nat.le_of_ble_eq_true rfl) rfl (fun hok => ?_)
  have hbd : ∀ k, jin (I 171 k) := fun k => hok.2.1 171 k
  generalize hw9 : I 171 = w at *
  have hD0 : DS I I w (I 179) (I 180) (I 181) := by rw [← hw9]; exact DS_0
  have key : ∀ (m : Nat) (z : Int) (J : Nat → Int → Int), z = m + 3 → z ≤ 239 → DS I J (mSh w z) (I 179) (I 180) (I 181) → jW G mX12_tells (d + 2) (rEV sh F (fun J => DS I J (mTell w p (I 181 p)) (I 179) (I 180) (I 181))) 4 [some (jR (some 170)), some (jI p), some (jI z)] [] (sh, J, F) 0 0 := by
    intro m
    induction m with
    | zero =>
      intro z J hz hz1 hD
      have e3 : z = 3 := by omega
      subst e3
      have lo : ∀ k, k < 180 → mSh w 3 k = w k := fun k hk => if_neg (by omega)
      have s1 := hD.1
      refine j_iload_n dX12_tells_4 rfl ?_
      refine j_iconst dX12_tells_5 ?_
      refine j_icmp_lt (tgt := 37) dX12_tells_6 rfl (by first | omega | (split <;> omega)) (by first | omega | (split <;> omega)) (fun c_6 => ?_) (fun c_6 => by exact absurd (by omega) c_6)
      refine j_aload_n dX12_tells_37 rfl ?_
      refine r_getS dX12_tells_38 flX12_13 (by first | assumption | exact hsh _ _ rfl) (fx_170_1 hfx) ?_
      refine j_sipush dX12_tells_41 (by decide) ?_
      refine j_aload_n dX12_tells_44 rfl ?_
      refine r_getS dX12_tells_45 flX12_13 (by first | assumption | exact hsh _ _ rfl) (fx_170_1 hfx) ?_
      refine j_iconst dX12_tells_48 ?_
      refine r_ialoadE dX12_tells_49 (by first | assumption | exact hsh _ _ rfl) (by first | omega | (split <;> omega)) (by first | omega | (split <;> omega)) (show _ = w 3 by rw [s1]; exact lo 3 (by decide)) (fun b_49 => ?_)
      refine r_iastore dX12_tells_50 (by first | assumption | exact hsh _ _ rfl) (by first | omega | (split <;> omega)) (by first | omega | (split <;> omega)) (by first | omega | (split <;> omega)) ?_
      have hD1 := DS_171 (k := 180) (v := w 3) hD
      refine j_aload_n dX12_tells_51 rfl ?_
      refine r_getS dX12_tells_52 flX12_13 (by first | assumption | exact hsh _ _ rfl) (fx_170_1 hfx) ?_
      refine j_sipush dX12_tells_55 (by decide) ?_
      refine j_iload_n dX12_tells_58 rfl ?_
      refine r_iastore dX12_tells_59 (by first | assumption | exact hsh _ _ rfl) (by first | omega | (split <;> omega)) (by first | omega | (split <;> omega)) (by first | omega | (split <;> omega)) ?_
      have hD2 := DS_171 (k := 181) (v := p) hD1
      refine j_aload_n dX12_tells_60 rfl ?_
      refine r_getS dX12_tells_61 flX12_13 (by first | assumption | exact hsh _ _ rfl) (fx_170_1 hfx) ?_
      refine j_sipush dX12_tells_64 (by decide) ?_
      refine j_aload_n dX12_tells_67 rfl ?_
      refine r_getS dX12_tells_68 flX12_48 (by first | assumption | exact hsh _ _ rfl) (fx_170_22 hfx) ?_
      refine j_iload_n dX12_tells_71 rfl ?_
      refine r_ialoadE dX12_tells_72 (by first | assumption | exact hsh _ _ rfl) (by first | omega | (split <;> omega)) (by first | omega | (split <;> omega)) (show _ = I 181 p by rw [hD2.2.2.2.1]) (fun b_72 => ?_)
      refine r_iastore dX12_tells_73 (by first | assumption | exact hsh _ _ rfl) (by first | omega | (split <;> omega)) (by first | omega | (split <;> omega)) (by first | omega | (split <;> omega)) ?_
      have hD3 := DS_171 (k := 182) (v := I 181 p) hD2
      generalize hJ3 : jup (jup (jup J 171 180 (w 3)) 171 181 p) 171 182 (I 181 p) = J3 at *
      have sb := sm_of (G := G) (d := d) (I := J3) (F := F) hsh hfx (p := p) (k := 0) (by omega)
      rw [hD3.1] at sb
      rw [show aOf (wup (wup (wup (mSh w 3) 180 (w 3)) 181 p) 182 (I 181 p)) p 0 = aOf w p 0 by show wup _ _ _ _ = _; rw [wup_ne _ _ (by omega), wup_ne _ _ (by omega), wup_ne _ _ (by omega), lo _ (by omega)]] at sb
      have bbd := hbd (12 + 13 * p + 0)
      refine j_aload_n dX12_tells_74 rfl ?_
      refine r_getS dX12_tells_75 flX12_13 (by first | assumption | exact hsh _ _ rfl) (fx_170_1 hfx) ?_
      refine j_sipush dX12_tells_78 (by decide) ?_
      refine j_aload_n dX12_tells_81 rfl ?_
      refine j_iload_n dX12_tells_82 rfl ?_
      refine j_iconst dX12_tells_83 ?_
      refine r_cv2I dX12_tells_84 cvX12_68 (by decide) (by first | assumption | exact hsh _ _ rfl) (Nat.le_of_ble_eq_true rfl) (Nat.le_of_eq (Nat.zero_add _)) (Nat.le_of_eq (Nat.zero_add _)) (sb) ?_
      refine r_iastore dX12_tells_87 (by first | assumption | exact hsh _ _ rfl) (by first | omega | (split <;> omega)) (by first | omega | (split <;> omega)) (show jin (aOf w p 0) from bbd) ?_
      have hD4 := DS_171 (k := 183) (v := aOf w p 0) hD3
      refine j_aload_n dX12_tells_88 rfl ?_
      refine r_getS dX12_tells_89 flX12_13 (by first | assumption | exact hsh _ _ rfl) (fx_170_1 hfx) ?_
      refine j_bipush dX12_tells_92 (by decide) ?_
      refine j_bipush dX12_tells_94 (by decide) ?_
      refine j_aload_n dX12_tells_96 rfl ?_
      refine r_getS dX12_tells_97 flX12_13 (by first | assumption | exact hsh _ _ rfl) (fx_170_1 hfx) ?_
      refine j_bipush dX12_tells_100 (by decide) ?_
      refine r_ialoadE dX12_tells_102 (by first | assumption | exact hsh _ _ rfl) (by first | omega | (split <;> omega)) (by first | omega | (split <;> omega)) (show _ = w 10 by rw [hD4.1, wup_ne _ _ (by decide), wup_ne _ _ (by decide), wup_ne _ _ (by decide), wup_ne _ _ (by decide), lo _ (by decide)]) (fun b_102 => ?_)
      refine j_iconst dX12_tells_103 ?_
      refine j_iadd dX12_tells_104 ?_
      refine r_min dX12_tells_105 lmX12_275 (Nat.le_of_ble_eq_true rfl) (by first | omega | (split <;> omega)) (by first | omega | (split <;> omega)) ?_
      refine r_iastore dX12_tells_108 (by first | assumption | exact hsh _ _ rfl) (by first | omega | (split <;> omega)) (by first | omega | (split <;> omega)) (by first | omega | (split <;> omega)) ?_
      have hD5 := DS_171 (k := 10) (v := min 60 (w 10 + 1)) hD4
      refine j_aload_n dX12_tells_109 rfl ?_
      refine r_getS dX12_tells_110 flX12_13 (by first | assumption | exact hsh _ _ rfl) (fx_170_1 hfx) ?_
      refine j_bipush dX12_tells_113 (by decide) ?_
      refine j_dup2 dX12_tells_115 trivial trivial ?_
      refine r_ialoadE dX12_tells_116 (by first | assumption | exact hsh _ _ rfl) (by first | omega | (split <;> omega)) (by first | omega | (split <;> omega)) (show _ = w 9 by rw [hD5.1, wup_ne _ _ (by decide), wup_ne _ _ (by decide), wup_ne _ _ (by decide), wup_ne _ _ (by decide), wup_ne _ _ (by decide), lo _ (by decide)]) (fun b_116 => ?_)
      refine j_iconst dX12_tells_117 ?_
      refine j_iadd dX12_tells_118 ?_
      refine r_iastore dX12_tells_119 (by first | assumption | exact hsh _ _ rfl) (by first | omega | (split <;> omega)) (by first | omega | (split <;> omega)) (by first | omega | (split <;> omega)) ?_
      refine j_vret dX12_tells_120 rfl ?_
      have hD6 := DS_171 (k := 9) (v := w 9 + 1) hD5
      exact rEV_of hD6
    | succ m ih =>
      intro z J hz hz1 hD
      have s1 := hD.1
      have q29 : J 171 (180 + z - 4) = w (180 + z - 4) := by rw [s1]; exact if_neg (by omega)
      have bq := hbd (180 + z - 4)
      refine j_iload_n dX12_tells_4 rfl ?_
      refine j_iconst dX12_tells_5 ?_
      refine j_icmp_lt (tgt := 37) dX12_tells_6 rfl (by first | omega | (split <;> omega)) (by first | omega | (split <;> omega)) (fun c_6 => by exact absurd c_6 (by omega)) (fun c_6 => ?_)
      refine j_aload_n dX12_tells_9 rfl ?_
      refine r_getS dX12_tells_10 flX12_13 (by first | assumption | exact hsh _ _ rfl) (fx_170_1 hfx) ?_
      refine j_sipush dX12_tells_13 (by decide) ?_
      refine j_iload_n dX12_tells_16 rfl ?_
      refine j_iadd dX12_tells_17 ?_
      refine j_aload_n dX12_tells_18 rfl ?_
      refine r_getS dX12_tells_19 flX12_13 (by first | assumption | exact hsh _ _ rfl) (fx_170_1 hfx) ?_
      refine j_sipush dX12_tells_22 (by decide) ?_
      refine j_iload_n dX12_tells_25 rfl ?_
      refine j_iadd dX12_tells_26 ?_
      refine j_iconst dX12_tells_27 ?_
      refine j_isub dX12_tells_28 ?_
      refine r_ialoadE dX12_tells_29 (by first | assumption | exact hsh _ _ rfl) (by first | omega | (split <;> omega)) (by first | omega | (split <;> omega)) q29 (fun b_29 => ?_)
      refine r_iastore dX12_tells_30 (by first | assumption | exact hsh _ _ rfl) (by first | omega | (split <;> omega)) (by first | omega | (split <;> omega)) (by first | omega | (split <;> omega)) ?_
      refine j_iinc dX12_tells_31 rfl (by decide) ?_
      refine j_goto (tgt := 4) dX12_tells_34 rfl ?_
      rw [show z + -1 = z - 1 from rfl]
      refine ih (z - 1) _ (by omega) (by omega) ?_
      have hD2 := DS_171 (k := 180 + z) (v := w (180 + z - 4)) hD
      rw [mSh_s (by omega)] at hD2
      exact hD2
  have e239 : mSh w 239 = w := by
    funext j
    unfold mSh
    rw [if_neg (by omega)]
  refine j_sipush dX12_tells_0 (by decide) ?_
  refine j_istore_n dX12_tells_3 (by decide) ?_
  exact key 236 239 I (by decide) (by decide) (by rw [e239]; exact hD0)
theorem sm_oneDay (hsh : ShOK sh) (hfx : FxOK F) {calm : Int} (hc : calm = 0 ∨ calm = 1) (hW : WF (I 171)) (h9 : 0 ≤ I 171 9 ∧ I 171 9 ≤ 1000000000) (h10 : 0 ≤ I 171 10 ∧ I 171 10 ≤ 60) : jS G (d + 7) mX12_oneDay [jR (some 170), jI calm] (sh, I, F) 0 0 (rEV sh F (fun J => DS I J (mDay calm (I 171) (I 179) (I 180) (I 181)) (dCore calm (I 171) (I 179) (I 180) (I 181)).2.1 (dCore calm (I 171) (I 179) (I 180) (I 181)).2.2.1 (dEnd calm (I 171) (I 179) (I 180) (I 181)).2)) := by
  have h8 := hW.1
  refine jS_go [some (jR (some 170)), some (jI calm), none, none] (by decide +kernel) rfl (by simp [jone]) (Nat.le_of_ble_eq_true rfl) rfl (fun hok => ?_)
  generalize hw9 : I 171 = w at *
  generalize ha9 : I 179 = a0 at *
  generalize hb9 : I 180 = b0 at *
  generalize hf9 : I 181 = f0 at *
  have hD0 : DS I I w a0 b0 f0 := by rw [← hw9, ← ha9, ← hb9, ← hf9]; exact DS_0
  have hCo := dCore_ok (calm := calm) (a := a0) (b := b0) (f := f0) hW
  have hRt := dRate_ok (calm := calm) (a := a0) (b := b0) (f := f0) hW
  have hEn := dEnd_ok (calm := calm) (a := a0) (b := b0) (f := f0) hW
  have hTo := dTold_ok (calm := calm) (a := a0) (b := b0) (f := f0) hW h9.1 h10
  generalize hQ : (fun J => DS I J (mDay calm w a0 b0 f0) (dCore calm w a0 b0 f0).2.1 (dCore calm w a0 b0 f0).2.2.1 (dEnd calm w a0 b0 f0).2) = QQ
  generalize hA1 : (dCore calm w a0 b0 f0).2.1 = a1 at *
  generalize hB1 : (dCore calm w a0 b0 f0).2.2.1 = b1 at *
  have e9 := hEn.2.2 9 (by omega)
  have e10 := hEn.2.2 10 (by omega)
  -- the last loop: what is told
  have key3 : ∀ (m : Nat) (z : Int) (J : Nat → Int → Int) (v : Int → Int) (o : Option jzV), z + m = aPe w → 0 ≤ z → v = jfold (dTell (dEnd calm w a0 b0 f0).2) (dEnd calm w a0 b0 f0).1 z.toNat → WF v → aPe v = aPe w → (0 ≤ v 9 ∧ v 9 ≤ w 9 + z) → (0 ≤ v 10 ∧ v 10 ≤ 60) → DS I J v a1 b1 (dEnd calm w a0 b0 f0).2 → jW G mX12_oneDay (d + 7) (rEV sh F QQ) 164 [some (jR (some 170)), some (jI calm), o, some (jI z)] [] (sh, J, F) 0 0 := by
    intro m
    induction m with
    | zero =>
      intro z J v o hz hz0 hv hWv hn hv9 hv10 hD
      have hn2 : aPe (J 171) = aPe w := by rw [hD.1]; exact hn
      have hv2 : v = dTold calm w a0 b0 f0 := by rw [hv, show z = aPe w by omega]; rfl
      have hd3 := hWv.2.1.1
      have s1 := hD.1
      have q3 : J 171 3 = v 3 := by rw [s1]
      refine j_iload_n dX12_oneDay_164 rfl ?_
      refine j_aload_n dX12_oneDay_165 rfl ?_
      refine r_cv0I dX12_oneDay_166 cvX12_74 (by decide) (by first | assumption | exact hsh _ _ rfl) (Nat.le_of_ble_eq_true rfl) (Nat.le_of_eq (Nat.zero_add _)) (Nat.le_of_eq (Nat.zero_add _)) (sm_people hsh hfx) ?_
      refine j_icmp_ge (tgt := 191) dX12_oneDay_169 rfl (by first | omega | (split <;> omega)) (by first | omega | (split <;> omega)) (fun c_169 => ?_) (fun c_169 => by exact absurd (by omega) c_169)
      refine j_aload_n dX12_oneDay_191 rfl ?_
      refine r_getS dX12_oneDay_192 flX12_13 (by first | assumption | exact hsh _ _ rfl) (fx_170_1 hfx) ?_
      refine j_iconst dX12_oneDay_195 ?_
      refine j_sipush dX12_oneDay_196 (by decide) ?_
      refine j_aload_n dX12_oneDay_199 rfl ?_
      refine r_getS dX12_oneDay_200 flX12_13 (by first | assumption | exact hsh _ _ rfl) (fx_170_1 hfx) ?_
      refine j_iconst dX12_oneDay_203 ?_
      refine r_ialoadE dX12_oneDay_204 (by first | assumption | exact hsh _ _ rfl) (by first | omega | (split <;> omega)) (by first | omega | (split <;> omega)) q3 (fun b_204 => ?_)
      refine j_iconst dX12_oneDay_205 ?_
      refine j_iadd dX12_oneDay_206 ?_
      refine r_min dX12_oneDay_207 lmX12_275 (Nat.le_of_ble_eq_true rfl) (by first | omega | (split <;> omega)) (by first | omega | (split <;> omega)) ?_
      refine r_iastore dX12_oneDay_210 (by first | assumption | exact hsh _ _ rfl) (by first | omega | (split <;> omega)) (by first | omega | (split <;> omega)) (by first | omega | (split <;> omega)) ?_
      refine j_vret dX12_oneDay_211 rfl ?_
      subst hQ
      have hD2 := DS_171 (k := 3) (v := min 9999 (v 3 + 1)) hD
      clear hv
      subst hA1 hB1 hv2
      exact rEV_of hD2
    | succ m ih =>
      intro z J v o hz hz0 hv hWv hn hv9 hv10 hD
      have hn2 : aPe (J 171) = aPe w := by rw [hD.1]; exact hn
      have hs : jfold (dTell (dEnd calm w a0 b0 f0).2) (dEnd calm w a0 b0 f0).1 (z + 1).toNat = dTell (dEnd calm w a0 b0 f0).2 z v := by rw [hv]; exact jfold_s _ _ hz0
      have ht := dTell_ok (f := (dEnd calm w a0 b0 f0).2) (p := z) hWv hv9.1 hv10
      have ih2 := fun J' o => ih (z + 1) J' (dTell (dEnd calm w a0 b0 f0).2 z v) o (by omega) (by omega) hs.symm ht.1 (by rw [← hn]; exact ht.2.2.2 0 (by omega)) (by omega) ht.2.2.1
      clear ih
      have sa := sm_isTooMuch (G := G) (d := d + 3) (I := J) hsh hfx (p := z) (by omega)
      rw [hD.1, hD.2.2.2.1] at sa
      by_cases e : aOf v z 3 = 0 ∧ aOf v z 0 < (dEnd calm w a0 b0 f0).2 z
      · rw [if_pos e] at sa
        rw [show dTell (dEnd calm w a0 b0 f0).2 z v = mTell v z ((dEnd calm w a0 b0 f0).2 z) from if_pos e] at ih2
        have st := sm_tells (G := G) (d := d + 4) (I := J) hsh hfx (p := z) (by omega) (by rw [hD.1]; omega) (by rw [hD.1]; exact hv10)
        rw [hD.1, hD.2.1, hD.2.2.1, hD.2.2.2.1] at st
        refine j_iload_n dX12_oneDay_164 rfl ?_
        refine j_aload_n dX12_oneDay_165 rfl ?_
        refine r_cv0I dX12_oneDay_166 cvX12_74 (by decide) (by first | assumption | exact hsh _ _ rfl) (Nat.le_of_ble_eq_true rfl) (Nat.le_of_eq (Nat.zero_add _)) (Nat.le_of_eq (Nat.zero_add _)) (sm_people hsh hfx) ?_
        refine j_icmp_ge (tgt := 191) dX12_oneDay_169 rfl (by first | omega | (split <;> omega)) (by first | omega | (split <;> omega)) (fun c_169 => by exact absurd c_169 (by omega)) (fun c_169 => ?_)
        refine j_aload_n dX12_oneDay_172 rfl ?_
        refine j_iload_n dX12_oneDay_173 rfl ?_
        refine r_cv1I dX12_oneDay_174 cvX12_318 (by decide) (by first | assumption | exact hsh _ _ rfl) (Nat.le_of_ble_eq_true rfl) (Nat.le_of_eq (Nat.zero_add _)) (Nat.le_of_eq (Nat.zero_add _)) (sa) ?_
        refine j_if_eq (tgt := 185) dX12_oneDay_177 rfl (by first | omega | (split <;> omega)) (fun c_177 => by exact absurd c_177 (by decide)) (fun c_177 => ?_)
        refine j_aload_n dX12_oneDay_180 rfl ?_
        refine j_iload_n dX12_oneDay_181 rfl ?_
        refine r_cv1EV dX12_oneDay_182 cvX12_321 (by decide) (by first | assumption | exact hsh _ _ rfl) (Nat.le_of_ble_eq_true rfl) (Nat.le_of_eq (Nat.zero_add _)) (Nat.le_of_eq (Nat.zero_add _)) (st) (fun J2 hJ2 => ?_)
        refine j_iinc dX12_oneDay_185 rfl (by decide) ?_
        refine j_goto (tgt := 164) dX12_oneDay_188 rfl ?_
        exact ih2 _ _ (DS_tr hD hJ2)
      · rw [if_neg e] at sa
        rw [show dTell (dEnd calm w a0 b0 f0).2 z v = v from if_neg e] at ih2
        refine j_iload_n dX12_oneDay_164 rfl ?_
        refine j_aload_n dX12_oneDay_165 rfl ?_
        refine r_cv0I dX12_oneDay_166 cvX12_74 (by decide) (by first | assumption | exact hsh _ _ rfl) (Nat.le_of_ble_eq_true rfl) (Nat.le_of_eq (Nat.zero_add _)) (Nat.le_of_eq (Nat.zero_add _)) (sm_people hsh hfx) ?_
        refine j_icmp_ge (tgt := 191) dX12_oneDay_169 rfl (by first | omega | (split <;> omega)) (by first | omega | (split <;> omega)) (fun c_169 => by exact absurd c_169 (by omega)) (fun c_169 => ?_)
        refine j_aload_n dX12_oneDay_172 rfl ?_
        refine j_iload_n dX12_oneDay_173 rfl ?_
        refine r_cv1I dX12_oneDay_174 cvX12_318 (by decide) (by first | assumption | exact hsh _ _ rfl) (Nat.le_of_ble_eq_true rfl) (Nat.le_of_eq (Nat.zero_add _)) (Nat.le_of_eq (Nat.zero_add _)) (sa) ?_
        refine j_if_eq (tgt := 185) dX12_oneDay_177 rfl (by first | omega | (split <;> omega)) (fun c_177 => ?_) (fun c_177 => by exact absurd c_177 (by decide))
        refine j_iinc dX12_oneDay_185 rfl (by decide) ?_
        refine j_goto (tgt := 164) dX12_oneDay_188 rfl ?_
        exact ih2 _ _ hD
  -- the vault
  have keyV : ∀ (J : Nat → Int → Int) (o o3 : Option jzV), DS I J (dRate calm w a0 b0 f0) a1 b1 (dCore calm w a0 b0 f0).2.2.2 → jW G mX12_oneDay (d + 7) (rEV sh F QQ) 145 [some (jR (some 170)), some (jI calm), o, o3] [] (sh, J, F) 0 0 := by
    intro J o o3 hD
    have e0 : aPe (dRate calm w a0 b0 f0) = aPe w := hRt.2 0 (by omega)
    have hall := mAll_in (w := dRate calm w a0 b0 f0) (by omega) (WF_A hRt.1)
    have sA := sm_allAccounts (G := G) (d := d + 4) (I := J) hsh hfx (by rw [hD.1]; exact hRt.1.1)
    rw [hD.1] at sA
    have q4 : J 171 4 = dRate calm w a0 b0 f0 4 := by rw [hD.1]
    by_cases e : dRate calm w a0 b0 f0 4 < mAll (dRate calm w a0 b0 f0) 1
    · have hE : dEnd calm w a0 b0 f0 = dBreak (dRate calm w a0 b0 f0) (dCore calm w a0 b0 f0).2.2.2 := if_pos e
      have sB := sm_breaks (G := G) (d := d + 3) (I := J) hsh hfx (by rw [hD.1]; exact hRt.1) (by rw [hD.1, hD.2.2.2.1, e0]; exact hCo.2.1)
      rw [hD.1, hD.2.1, hD.2.2.1, hD.2.2.2.1, ← hE] at sB
      refine j_aload_n dX12_oneDay_145 rfl ?_
      refine r_cv0I dX12_oneDay_146 cvX12_312 (by decide) (by first | assumption | exact hsh _ _ rfl) (Nat.le_of_ble_eq_true rfl) (Nat.le_of_eq (Nat.zero_add _)) (Nat.le_of_eq (Nat.zero_add _)) (sA) ?_
      refine j_aload_n dX12_oneDay_149 rfl ?_
      refine r_getS dX12_oneDay_150 flX12_13 (by first | assumption | exact hsh _ _ rfl) (fx_170_1 hfx) ?_
      refine j_iconst dX12_oneDay_153 ?_
      refine r_ialoadE dX12_oneDay_154 (by first | assumption | exact hsh _ _ rfl) (by first | omega | (split <;> omega)) (by first | omega | (split <;> omega)) q4 (fun b_154 => ?_)
      refine j_icmp_le (tgt := 162) dX12_oneDay_155 rfl (by first | omega | (split <;> omega)) (by first | omega | (split <;> omega)) (fun c_155 => by exact absurd c_155 (by omega)) (fun c_155 => ?_)
      refine j_aload_n dX12_oneDay_158 rfl ?_
      refine r_cv0EV dX12_oneDay_159 cvX12_315 (by decide) (by first | assumption | exact hsh _ _ rfl) (Nat.le_of_ble_eq_true rfl) (Nat.le_of_eq (Nat.zero_add _)) (Nat.le_of_eq (Nat.zero_add _)) (sB) (fun J2 hJ2 => ?_)
      refine j_iconst dX12_oneDay_162 ?_
      refine j_istore_n dX12_oneDay_163 (by decide) ?_
      exact key3 (aPe w).toNat 0 _ (dEnd calm w a0 b0 f0).1 _ (by omega) (by omega) rfl hEn.1 (hEn.2.2 0 (by omega)) (by omega) (by omega) (DS_tr hD hJ2)
    · have hE : dEnd calm w a0 b0 f0 = (dRate calm w a0 b0 f0, (dCore calm w a0 b0 f0).2.2.2) := if_neg e
      refine j_aload_n dX12_oneDay_145 rfl ?_
      refine r_cv0I dX12_oneDay_146 cvX12_312 (by decide) (by first | assumption | exact hsh _ _ rfl) (Nat.le_of_ble_eq_true rfl) (Nat.le_of_eq (Nat.zero_add _)) (Nat.le_of_eq (Nat.zero_add _)) (sA) ?_
      refine j_aload_n dX12_oneDay_149 rfl ?_
      refine r_getS dX12_oneDay_150 flX12_13 (by first | assumption | exact hsh _ _ rfl) (fx_170_1 hfx) ?_
      refine j_iconst dX12_oneDay_153 ?_
      refine r_ialoadE dX12_oneDay_154 (by first | assumption | exact hsh _ _ rfl) (by first | omega | (split <;> omega)) (by first | omega | (split <;> omega)) q4 (fun b_154 => ?_)
      refine j_icmp_le (tgt := 162) dX12_oneDay_155 rfl (by first | omega | (split <;> omega)) (by first | omega | (split <;> omega)) (fun c_155 => ?_) (fun c_155 => by exact absurd (by omega) c_155)
      refine j_iconst dX12_oneDay_162 ?_
      refine j_istore_n dX12_oneDay_163 (by decide) ?_
      exact key3 (aPe w).toNat 0 _ (dEnd calm w a0 b0 f0).1 _ (by omega) (by omega) rfl hEn.1 (hEn.2.2 0 (by omega)) (by omega) (by omega) (by rw [hE]; exact hD)
  -- interest
  have key2 : ∀ (m : Nat) (z : Int) (J : Nat → Int → Int) (v : Int → Int) (o : Option jzV), z + m = aPe w → 0 ≤ z → v = jfold dInt (dCore calm w a0 b0 f0).1 z.toNat → WF v → aPe v = aPe w → DS I J v a1 b1 (dCore calm w a0 b0 f0).2.2.2 → jW G mX12_oneDay (d + 7) (rEV sh F QQ) 90 [some (jR (some 170)), some (jI calm), o, some (jI z)] [] (sh, J, F) 0 0 := by
    intro m
    induction m with
    | zero =>
      intro z J v o hz hz0 hv hWv hn hD
      have hn2 : aPe (J 171) = aPe w := by rw [hD.1]; exact hn
      have hv2 : v = dRate calm w a0 b0 f0 := by rw [hv, show z = aPe w by omega]; rfl
      refine j_iload_n dX12_oneDay_90 rfl ?_
      refine j_aload_n dX12_oneDay_91 rfl ?_
      refine r_cv0I dX12_oneDay_92 cvX12_74 (by decide) (by first | assumption | exact hsh _ _ rfl) (Nat.le_of_ble_eq_true rfl) (Nat.le_of_eq (Nat.zero_add _)) (Nat.le_of_eq (Nat.zero_add _)) (sm_people hsh hfx) ?_
      refine j_icmp_ge (tgt := 145) dX12_oneDay_95 rfl (by first | omega | (split <;> omega)) (by first | omega | (split <;> omega)) (fun c_95 => ?_) (fun c_95 => by exact absurd (by omega) c_95)
      exact keyV _ _ _ (by rw [← hv2]; exact hD)
    | succ m ih =>
      intro z J v o hz hz0 hv hWv hn hD
      have hn2 : aPe (J 171) = aPe w := by rw [hD.1]; exact hn
      have hs : jfold dInt (dCore calm w a0 b0 f0).1 (z + 1).toNat = dInt z v := by rw [hv]; exact jfold_s _ _ hz0
      have ht := dInt_ok hWv (p := z) (by omega)
      have h4 := hWv.2.1.2.2 z hz0 (by omega)
      have hd3 := hWv.2.1.1
      have hrt := aRate_in (w := v) h4.2.1 hWv.2.1.2.1
      have ih2 := fun J' o => ih (z + 1) J' (dInt z v) o (by omega) (by omega) hs.symm ht.1 (by rw [← hn]; exact ht.2 0 (by omega))
      clear ih
      have sa := sm_isAlive (G := G) (d := d + 4) (I := J) hsh hfx (p := z) (by omega)
      rw [hD.1] at sa
      have q3 : J 171 3 = v 3 := by rw [hD.1]
      have sr := sm_isRateDay (G := G) (d := d + 6) (I := J) (F := F) hsh (x := v 3) hd3
      have so := sm_of (G := G) (d := d + 5) (I := J) hsh hfx (p := z) (k := 1) (by omega)
      rw [hD.1] at so
      have sw := sm_withRate (G := G) (d := d + 6) (I := J) hsh hfx (a := aOf v z 1) h4.2.1 (by rw [hD.1]; exact hWv.2.1.2.1)
      rw [hD.1] at sw
      by_cases e : aOf v z 3 = 0
      · rw [if_pos e] at sa
        by_cases e1 : (v 3 + 1) % 10 = 0
        · rw [if_pos e1] at sr
          rw [show dInt z v = wup v (12 + 13 * z + 1) (aRate v (aOf v z 1)) from if_pos ⟨e, e1⟩] at ih2
          refine j_iload_n dX12_oneDay_90 rfl ?_
          refine j_aload_n dX12_oneDay_91 rfl ?_
          refine r_cv0I dX12_oneDay_92 cvX12_74 (by decide) (by first | assumption | exact hsh _ _ rfl) (Nat.le_of_ble_eq_true rfl) (Nat.le_of_eq (Nat.zero_add _)) (Nat.le_of_eq (Nat.zero_add _)) (sm_people hsh hfx) ?_
          refine j_icmp_ge (tgt := 145) dX12_oneDay_95 rfl (by first | omega | (split <;> omega)) (by first | omega | (split <;> omega)) (fun c_95 => by exact absurd c_95 (by omega)) (fun c_95 => ?_)
          refine j_aload_n dX12_oneDay_98 rfl ?_
          refine j_iload_n dX12_oneDay_99 rfl ?_
          refine r_cv1I dX12_oneDay_100 cvX12_296 (by decide) (by first | assumption | exact hsh _ _ rfl) (Nat.le_of_ble_eq_true rfl) (Nat.le_of_eq (Nat.zero_add _)) (Nat.le_of_eq (Nat.zero_add _)) (sa) ?_
          refine j_if_eq (tgt := 139) dX12_oneDay_103 rfl (by first | omega | (split <;> omega)) (fun c_103 => by exact absurd c_103 (by decide)) (fun c_103 => ?_)
          refine j_aload_n dX12_oneDay_106 rfl ?_
          refine j_aload_n dX12_oneDay_107 rfl ?_
          refine r_getS dX12_oneDay_108 flX12_13 (by first | assumption | exact hsh _ _ rfl) (fx_170_1 hfx) ?_
          refine j_iconst dX12_oneDay_111 ?_
          refine r_ialoadE dX12_oneDay_112 (by first | assumption | exact hsh _ _ rfl) (by first | omega | (split <;> omega)) (by first | omega | (split <;> omega)) q3 (fun b_112 => ?_)
          refine r_cv1I dX12_oneDay_113 cvX12_306 (by decide) (by first | assumption | exact hsh _ _ rfl) (Nat.le_of_ble_eq_true rfl) (Nat.le_of_eq (Nat.zero_add _)) (Nat.le_of_eq (Nat.zero_add _)) (sr) ?_
          refine j_if_eq (tgt := 139) dX12_oneDay_116 rfl (by first | omega | (split <;> omega)) (fun c_116 => by exact absurd c_116 (by decide)) (fun c_116 => ?_)
          refine j_aload_n dX12_oneDay_119 rfl ?_
          refine r_getS dX12_oneDay_120 flX12_13 (by first | assumption | exact hsh _ _ rfl) (fx_170_1 hfx) ?_
          refine j_iload_n dX12_oneDay_123 rfl ?_
          refine j_iconst dX12_oneDay_124 ?_
          refine r_cs2I dX12_oneDay_125 csX12_64 (Nat.le_of_ble_eq_true rfl) (Nat.le_of_eq (Nat.zero_add _)) (Nat.le_of_eq (Nat.zero_add _)) (sm_at) ?_
          refine j_aload_n dX12_oneDay_128 rfl ?_
          refine j_aload_n dX12_oneDay_129 rfl ?_
          refine j_iload_n dX12_oneDay_130 rfl ?_
          refine j_iconst dX12_oneDay_131 ?_
          refine r_cv2I dX12_oneDay_132 cvX12_68 (by decide) (by first | assumption | exact hsh _ _ rfl) (Nat.le_of_ble_eq_true rfl) (Nat.le_of_eq (Nat.zero_add _)) (Nat.le_of_eq (Nat.zero_add _)) (so) ?_
          refine r_cv1I dX12_oneDay_135 cvX12_309 (by decide) (by first | assumption | exact hsh _ _ rfl) (Nat.le_of_ble_eq_true rfl) (Nat.le_of_eq (Nat.zero_add _)) (Nat.le_of_eq (Nat.zero_add _)) (sw) ?_
          refine r_iastore dX12_oneDay_138 (by first | assumption | exact hsh _ _ rfl) (by first | omega | (split <;> omega)) (by first | omega | (split <;> omega)) (by first | omega | (split <;> omega)) ?_
          refine j_iinc dX12_oneDay_139 rfl (by decide) ?_
          refine j_goto (tgt := 90) dX12_oneDay_142 rfl ?_
          exact ih2 _ _ (DS_171 hD)
        · rw [if_neg e1] at sr
          rw [show dInt z v = v from if_neg (fun q => e1 q.2)] at ih2
          refine j_iload_n dX12_oneDay_90 rfl ?_
          refine j_aload_n dX12_oneDay_91 rfl ?_
          refine r_cv0I dX12_oneDay_92 cvX12_74 (by decide) (by first | assumption | exact hsh _ _ rfl) (Nat.le_of_ble_eq_true rfl) (Nat.le_of_eq (Nat.zero_add _)) (Nat.le_of_eq (Nat.zero_add _)) (sm_people hsh hfx) ?_
          refine j_icmp_ge (tgt := 145) dX12_oneDay_95 rfl (by first | omega | (split <;> omega)) (by first | omega | (split <;> omega)) (fun c_95 => by exact absurd c_95 (by omega)) (fun c_95 => ?_)
          refine j_aload_n dX12_oneDay_98 rfl ?_
          refine j_iload_n dX12_oneDay_99 rfl ?_
          refine r_cv1I dX12_oneDay_100 cvX12_296 (by decide) (by first | assumption | exact hsh _ _ rfl) (Nat.le_of_ble_eq_true rfl) (Nat.le_of_eq (Nat.zero_add _)) (Nat.le_of_eq (Nat.zero_add _)) (sa) ?_
          refine j_if_eq (tgt := 139) dX12_oneDay_103 rfl (by first | omega | (split <;> omega)) (fun c_103 => by exact absurd c_103 (by decide)) (fun c_103 => ?_)
          refine j_aload_n dX12_oneDay_106 rfl ?_
          refine j_aload_n dX12_oneDay_107 rfl ?_
          refine r_getS dX12_oneDay_108 flX12_13 (by first | assumption | exact hsh _ _ rfl) (fx_170_1 hfx) ?_
          refine j_iconst dX12_oneDay_111 ?_
          refine r_ialoadE dX12_oneDay_112 (by first | assumption | exact hsh _ _ rfl) (by first | omega | (split <;> omega)) (by first | omega | (split <;> omega)) q3 (fun b_112 => ?_)
          refine r_cv1I dX12_oneDay_113 cvX12_306 (by decide) (by first | assumption | exact hsh _ _ rfl) (Nat.le_of_ble_eq_true rfl) (Nat.le_of_eq (Nat.zero_add _)) (Nat.le_of_eq (Nat.zero_add _)) (sr) ?_
          refine j_if_eq (tgt := 139) dX12_oneDay_116 rfl (by first | omega | (split <;> omega)) (fun c_116 => ?_) (fun c_116 => by exact absurd c_116 (by decide))
          refine j_iinc dX12_oneDay_139 rfl (by decide) ?_
          refine j_goto (tgt := 90) dX12_oneDay_142 rfl ?_
          exact ih2 _ _ hD
      · rw [if_neg e] at sa
        rw [show dInt z v = v from if_neg (fun q => e q.1)] at ih2
        refine j_iload_n dX12_oneDay_90 rfl ?_
        refine j_aload_n dX12_oneDay_91 rfl ?_
        refine r_cv0I dX12_oneDay_92 cvX12_74 (by decide) (by first | assumption | exact hsh _ _ rfl) (Nat.le_of_ble_eq_true rfl) (Nat.le_of_eq (Nat.zero_add _)) (Nat.le_of_eq (Nat.zero_add _)) (sm_people hsh hfx) ?_
        refine j_icmp_ge (tgt := 145) dX12_oneDay_95 rfl (by first | omega | (split <;> omega)) (by first | omega | (split <;> omega)) (fun c_95 => by exact absurd c_95 (by omega)) (fun c_95 => ?_)
        refine j_aload_n dX12_oneDay_98 rfl ?_
        refine j_iload_n dX12_oneDay_99 rfl ?_
        refine r_cv1I dX12_oneDay_100 cvX12_296 (by decide) (by first | assumption | exact hsh _ _ rfl) (Nat.le_of_ble_eq_true rfl) (Nat.le_of_eq (Nat.zero_add _)) (Nat.le_of_eq (Nat.zero_add _)) (sa) ?_
        refine j_if_eq (tgt := 139) dX12_oneDay_103 rfl (by first | omega | (split <;> omega)) (fun c_103 => ?_) (fun c_103 => by exact absurd c_103 (by decide))
        refine j_iinc dX12_oneDay_139 rfl (by decide) ?_
        refine j_goto (tgt := 90) dX12_oneDay_142 rfl ?_
        exact ih2 _ _ hD
  -- each one's day
  have hS := WF_seed (calm := calm) hW
  obtain ⟨wet, hwet⟩ : ∃ x, dFl calm (dSeed calm w) (w 6) = x := ⟨_, rfl⟩
  have hwet2 : wet = 0 ∨ wet = 1 := by rw [← hwet]; exact dFl_in
  have key1 : ∀ (m : Nat) (z : Int) (J : Nat → Int → Int) (Y : dX), z + m = aPe w → 0 ≤ z → Y = jfold (dOne calm wet) (dSeed calm w, a0, b0, f0) z.toNat → WF Y.1 → aPe Y.1 = aPe w → vFe Y.2.2.2 z → DS I J Y.1 Y.2.1 Y.2.2.1 Y.2.2.2 → jW G mX12_oneDay (d + 7) (rEV sh F QQ) 28 [some (jR (some 170)), some (jI calm), some (jI wet), some (jI z)] [] (sh, J, F) 0 0 := by
    intro m
    induction m with
    | zero =>
      intro z J Y hz hz0 hY hWY hn hf hD
      have hn2 : aPe (J 171) = aPe w := by rw [hD.1]; exact hn
      have hY2 : Y = dCore calm w a0 b0 f0 := by rw [hY, show z = aPe w by omega, ← hwet]; rfl
      subst hY2
      rw [hA1, hB1] at hD
      refine j_iload_n dX12_oneDay_28 rfl ?_
      refine j_aload_n dX12_oneDay_29 rfl ?_
      refine r_cv0I dX12_oneDay_30 cvX12_74 (by decide) (by first | assumption | exact hsh _ _ rfl) (Nat.le_of_ble_eq_true rfl) (Nat.le_of_eq (Nat.zero_add _)) (Nat.le_of_eq (Nat.zero_add _)) (sm_people hsh hfx) ?_
      refine j_icmp_ge (tgt := 88) dX12_oneDay_33 rfl (by first | omega | (split <;> omega)) (by first | omega | (split <;> omega)) (fun c_33 => ?_) (fun c_33 => by exact absurd (by omega) c_33)
      refine j_iconst dX12_oneDay_88 ?_
      refine j_istore_n dX12_oneDay_89 (by decide) ?_
      exact key2 (aPe w).toNat 0 _ _ _ (by omega) (by omega) rfl hCo.1 (hCo.2.2 0 (by omega)) hD
    | succ m ih =>
      intro z J Y hz hz0 hY hWY hn hf hD
      have hn2 : aPe (J 171) = aPe w := by rw [hD.1]; exact hn
      have hs : jfold (dOne calm wet) (dSeed calm w, a0, b0, f0) (z + 1).toNat = dOne calm wet z Y := by rw [hY]; exact jfold_s _ _ hz0
      have ht := dOne_ok (calm := calm) (wet := wet) hWY (p := z) (by omega) hf
      have ih2 := fun J' => ih (z + 1) J' (dOne calm wet z Y) (by omega) (by omega) hs.symm ht.1 (by rw [← hn]; exact ht.2.2 0 (by omega)) ht.2.1
      clear ih
      have hDf := DS_181 (k := z) (v := 0) hD
      obtain ⟨J1, hJ1⟩ : ∃ K, K = jup J 181 z 0 := ⟨_, rfl⟩
      rw [← hJ1] at hDf
      have sa := sm_isAlive (G := G) (d := d + 4) (I := J1) hsh hfx (p := z) (by omega)
      rw [hDf.1] at sa
      by_cases e : aOf Y.1 z 3 = 0
      · rw [if_pos e] at sa
        rw [show dOne calm wet z Y = _ from if_pos e] at ih2
        have hSY := WF_seed (calm := calm) hWY
        have e0Y : aPe (dSeed calm Y.1) = aPe Y.1 := dSeed_o (by decide)
        have hcl : ∀ (J2 : Nat → Int → Int) (fl : Int), DS I J2 (dSeed calm Y.1) Y.2.1 Y.2.2.1 (wup Y.2.2.2 z 0) → fl = dFl calm (dSeed calm Y.1) (Y.1 7) → jS G (d + 6) mX12_lives [jR (some 170), jI z, jI wet, jI fl] (sh, J2, F) 0 0 (rEV sh F (fun K => DS I K (mLive (dSeed calm Y.1) z (dPn calm Y.1 z) wet) (wup Y.2.1 z (mPut (dSeed calm Y.1) z (dPn calm Y.1 z) wet)) (wup Y.2.2.1 z (mDrw (dSeed calm Y.1) z (dPn calm Y.1 z) wet)) (wup Y.2.2.2 z (mFeltV (dSeed calm Y.1) z (dPn calm Y.1 z) wet)))) := by
          intro J2 fl hD2 hfl
          subst hfl
          have sl := sm_lives (G := G) (d := d) (I := J2) hsh hfx (p := z) (wet := wet) (fl := dFl calm (dSeed calm Y.1) (Y.1 7)) (by rw [hD2.1]; exact hSY) (by rw [hD2.1]; omega) hwet2 dFl_in
          rw [hD2.1, hD2.2.1, hD2.2.2.1, hD2.2.2.2.1, wup_wup] at sl
          refine jS_mono sl (fun o h hq => ?_)
          obtain ⟨K, k1, k2, k3⟩ := hq
          exact ⟨K, k1, k2, DS_tr hD2 k3⟩
        rcases hc with rfl | rfl
        · have eS : dSeed 0 Y.1 = wup Y.1 11 (sNext (Y.1 11)) := rfl
          have sd := sm_drawn (G := G) (d := d + 6) (I := J1) hsh hfx
          rw [hDf.1] at sd
          have hDd : DS I (jup J1 171 11 (sNext (Y.1 11))) (dSeed 0 Y.1) Y.2.1 Y.2.2.1 (wup Y.2.2.2 z 0) := DS_171 hDf
          have q70 : (jup J1 171 11 (sNext (Y.1 11))) 171 7 = Y.1 7 := by rw [hDd.1, eS, wup_ne _ _ (by decide)]
          have e11 : (dSeed 0 Y.1) 11 = sNext (Y.1 11) := by rw [eS, wup_same]
          have hfl := hWY.2.2.2.2.2
          have hm := jAnd_mask (jShr (sNext (Y.1 11)) 16)
          have hdf : dFl 0 (dSeed 0 Y.1) (Y.1 7) = if sDraw (sNext (Y.1 11)) < Y.1 7 then 1 else 0 := by
            unfold dFl
            rw [e11]
            by_cases q : sDraw (sNext (Y.1 11)) < Y.1 7
            · rw [if_pos ⟨rfl, q⟩, if_pos q]
            · rw [if_neg (fun x => q x.2), if_neg q]
          have hsd : sDraw (sNext (Y.1 11)) = jAnd (jShr (sNext (Y.1 11)) 16) 32767 % 100 := rfl
          refine j_iload_n dX12_oneDay_28 rfl ?_
          refine j_aload_n dX12_oneDay_29 rfl ?_
          refine r_cv0I dX12_oneDay_30 cvX12_74 (by decide) (by first | assumption | exact hsh _ _ rfl) (Nat.le_of_ble_eq_true rfl) (Nat.le_of_eq (Nat.zero_add _)) (Nat.le_of_eq (Nat.zero_add _)) (sm_people hsh hfx) ?_
          refine j_icmp_ge (tgt := 88) dX12_oneDay_33 rfl (by first | omega | (split <;> omega)) (by first | omega | (split <;> omega)) (fun c_33 => by exact absurd c_33 (by omega)) (fun c_33 => ?_)
          refine j_aload_n dX12_oneDay_36 rfl ?_
          refine r_getS dX12_oneDay_37 flX12_48 (by first | assumption | exact hsh _ _ rfl) (fx_170_22 hfx) ?_
          refine j_iload_n dX12_oneDay_40 rfl ?_
          refine j_iconst dX12_oneDay_41 ?_
          refine r_iastore dX12_oneDay_42 (by first | assumption | exact hsh _ _ rfl) (by first | omega | (split <;> omega)) (by first | omega | (split <;> omega)) (by first | omega | (split <;> omega)) ?_
          rw [← hJ1]
          refine j_aload_n dX12_oneDay_43 rfl ?_
          refine j_iload_n dX12_oneDay_44 rfl ?_
          refine r_cv1I dX12_oneDay_45 cvX12_296 (by decide) (by first | assumption | exact hsh _ _ rfl) (Nat.le_of_ble_eq_true rfl) (Nat.le_of_eq (Nat.zero_add _)) (Nat.le_of_eq (Nat.zero_add _)) (sa) ?_
          refine j_if_eq (tgt := 82) dX12_oneDay_48 rfl (by first | omega | (split <;> omega)) (fun c_48 => by exact absurd c_48 (by decide)) (fun c_48 => ?_)
          refine j_aload_n dX12_oneDay_51 rfl ?_
          refine j_iload_n dX12_oneDay_52 rfl ?_
          refine j_iload_n dX12_oneDay_53 rfl ?_
          refine j_iload_n dX12_oneDay_54 rfl ?_
          refine j_if_ne (tgt := 78) dX12_oneDay_55 rfl (by first | omega | (split <;> omega)) (fun c_55 => by exact absurd rfl c_55) (fun c_55 => ?_)
          refine j_aload_n dX12_oneDay_58 rfl ?_
          refine j_bipush dX12_oneDay_59 (by decide) ?_
          refine r_cv1I dX12_oneDay_61 cvX12_299 (by decide) (by first | assumption | exact hsh _ _ rfl) (Nat.le_of_ble_eq_true rfl) (Nat.le_of_eq (Nat.zero_add _)) (Nat.le_of_eq (Nat.zero_add _)) (sd) ?_
          refine j_aload_n dX12_oneDay_64 rfl ?_
          refine r_getS dX12_oneDay_65 flX12_13 (by first | assumption | exact hsh _ _ rfl) (fx_170_1 hfx) ?_
          refine j_bipush dX12_oneDay_68 (by decide) ?_
          refine r_ialoadE dX12_oneDay_70 (by first | assumption | exact hsh _ _ rfl) (by first | omega | (split <;> omega)) (by first | omega | (split <;> omega)) q70 (fun b_70 => ?_)
          refine j_icmp_ge (tgt := 78) dX12_oneDay_71 rfl (by first | omega | (split <;> omega)) (by first | omega | (split <;> omega)) (fun c_71 => ?_) (fun c_71 => ?_)
          · rw [if_neg (by omega)] at hdf
            refine j_iconst dX12_oneDay_78 ?_
            refine r_cv3EV dX12_oneDay_79 cvX12_302 (by decide) (by first | assumption | exact hsh _ _ rfl) (Nat.le_of_ble_eq_true rfl) (Nat.le_of_eq (Nat.zero_add _)) (Nat.le_of_eq (Nat.zero_add _)) (hcl _ _ hDd hdf.symm) (fun J3 hJ3 => ?_)
            refine j_iinc dX12_oneDay_82 rfl (by decide) ?_
            refine j_goto (tgt := 28) dX12_oneDay_85 rfl ?_
            exact ih2 _ hJ3
          · rw [if_pos (by omega)] at hdf
            refine j_iconst dX12_oneDay_74 ?_
            refine j_goto (tgt := 79) dX12_oneDay_75 rfl ?_
            refine r_cv3EV dX12_oneDay_79 cvX12_302 (by decide) (by first | assumption | exact hsh _ _ rfl) (Nat.le_of_ble_eq_true rfl) (Nat.le_of_eq (Nat.zero_add _)) (Nat.le_of_eq (Nat.zero_add _)) (hcl _ _ hDd hdf.symm) (fun J3 hJ3 => ?_)
            refine j_iinc dX12_oneDay_82 rfl (by decide) ?_
            refine j_goto (tgt := 28) dX12_oneDay_85 rfl ?_
            exact ih2 _ hJ3
        · have hDd : DS I J1 (dSeed 1 Y.1) Y.2.1 Y.2.2.1 (wup Y.2.2.2 z 0) := hDf
          have hdf : (0 : Int) = dFl 1 (dSeed 1 Y.1) (Y.1 7) := by
            unfold dFl
            rw [if_neg (fun q => by have := q.1; omega)]
          refine j_iload_n dX12_oneDay_28 rfl ?_
          refine j_aload_n dX12_oneDay_29 rfl ?_
          refine r_cv0I dX12_oneDay_30 cvX12_74 (by decide) (by first | assumption | exact hsh _ _ rfl) (Nat.le_of_ble_eq_true rfl) (Nat.le_of_eq (Nat.zero_add _)) (Nat.le_of_eq (Nat.zero_add _)) (sm_people hsh hfx) ?_
          refine j_icmp_ge (tgt := 88) dX12_oneDay_33 rfl (by first | omega | (split <;> omega)) (by first | omega | (split <;> omega)) (fun c_33 => by exact absurd c_33 (by omega)) (fun c_33 => ?_)
          refine j_aload_n dX12_oneDay_36 rfl ?_
          refine r_getS dX12_oneDay_37 flX12_48 (by first | assumption | exact hsh _ _ rfl) (fx_170_22 hfx) ?_
          refine j_iload_n dX12_oneDay_40 rfl ?_
          refine j_iconst dX12_oneDay_41 ?_
          refine r_iastore dX12_oneDay_42 (by first | assumption | exact hsh _ _ rfl) (by first | omega | (split <;> omega)) (by first | omega | (split <;> omega)) (by first | omega | (split <;> omega)) ?_
          rw [← hJ1]
          refine j_aload_n dX12_oneDay_43 rfl ?_
          refine j_iload_n dX12_oneDay_44 rfl ?_
          refine r_cv1I dX12_oneDay_45 cvX12_296 (by decide) (by first | assumption | exact hsh _ _ rfl) (Nat.le_of_ble_eq_true rfl) (Nat.le_of_eq (Nat.zero_add _)) (Nat.le_of_eq (Nat.zero_add _)) (sa) ?_
          refine j_if_eq (tgt := 82) dX12_oneDay_48 rfl (by first | omega | (split <;> omega)) (fun c_48 => by exact absurd c_48 (by decide)) (fun c_48 => ?_)
          refine j_aload_n dX12_oneDay_51 rfl ?_
          refine j_iload_n dX12_oneDay_52 rfl ?_
          refine j_iload_n dX12_oneDay_53 rfl ?_
          refine j_iload_n dX12_oneDay_54 rfl ?_
          refine j_if_ne (tgt := 78) dX12_oneDay_55 rfl (by first | omega | (split <;> omega)) (fun c_55 => ?_) (fun c_55 => by exact absurd (by decide) c_55)
          refine j_iconst dX12_oneDay_78 ?_
          refine r_cv3EV dX12_oneDay_79 cvX12_302 (by decide) (by first | assumption | exact hsh _ _ rfl) (Nat.le_of_ble_eq_true rfl) (Nat.le_of_eq (Nat.zero_add _)) (Nat.le_of_eq (Nat.zero_add _)) (hcl _ _ hDd hdf) (fun J3 hJ3 => ?_)
          refine j_iinc dX12_oneDay_82 rfl (by decide) ?_
          refine j_goto (tgt := 28) dX12_oneDay_85 rfl ?_
          exact ih2 _ hJ3
      · rw [if_neg e] at sa
        rw [show dOne calm wet z Y = _ from if_neg e] at ih2
        refine j_iload_n dX12_oneDay_28 rfl ?_
        refine j_aload_n dX12_oneDay_29 rfl ?_
        refine r_cv0I dX12_oneDay_30 cvX12_74 (by decide) (by first | assumption | exact hsh _ _ rfl) (Nat.le_of_ble_eq_true rfl) (Nat.le_of_eq (Nat.zero_add _)) (Nat.le_of_eq (Nat.zero_add _)) (sm_people hsh hfx) ?_
        refine j_icmp_ge (tgt := 88) dX12_oneDay_33 rfl (by first | omega | (split <;> omega)) (by first | omega | (split <;> omega)) (fun c_33 => by exact absurd c_33 (by omega)) (fun c_33 => ?_)
        refine j_aload_n dX12_oneDay_36 rfl ?_
        refine r_getS dX12_oneDay_37 flX12_48 (by first | assumption | exact hsh _ _ rfl) (fx_170_22 hfx) ?_
        refine j_iload_n dX12_oneDay_40 rfl ?_
        refine j_iconst dX12_oneDay_41 ?_
        refine r_iastore dX12_oneDay_42 (by first | assumption | exact hsh _ _ rfl) (by first | omega | (split <;> omega)) (by first | omega | (split <;> omega)) (by first | omega | (split <;> omega)) ?_
        rw [← hJ1]
        refine j_aload_n dX12_oneDay_43 rfl ?_
        refine j_iload_n dX12_oneDay_44 rfl ?_
        refine r_cv1I dX12_oneDay_45 cvX12_296 (by decide) (by first | assumption | exact hsh _ _ rfl) (Nat.le_of_ble_eq_true rfl) (Nat.le_of_eq (Nat.zero_add _)) (Nat.le_of_eq (Nat.zero_add _)) (sa) ?_
        refine j_if_eq (tgt := 82) dX12_oneDay_48 rfl (by first | omega | (split <;> omega)) (fun c_48 => ?_) (fun c_48 => by exact absurd c_48 (by decide))
        refine j_iinc dX12_oneDay_82 rfl (by decide) ?_
        refine j_goto (tgt := 28) dX12_oneDay_85 rfl ?_
        exact ih2 _ hDf
  have fin : ∀ J, DS I J (dSeed calm w) a0 b0 f0 → jW G mX12_oneDay (d + 7) (rEV sh F QQ) 28 [some (jR (some 170)), some (jI calm), some (jI wet), some (jI 0)] [] (sh, J, F) 0 0 := fun J hD => key1 (aPe w).toNat 0 J _ (by omega) (by omega) rfl hS (dSeed_o (by decide)) (fun p h0 h1 => by omega) hD
  rcases hc with rfl | rfl
  · have sd := sm_drawn (G := G) (d := d + 6) (I := I) hsh hfx
    rw [hw9] at sd
    have eS : dSeed 0 w = wup w 11 (sNext (w 11)) := rfl
    have hDd : DS I (jup I 171 11 (sNext (w 11))) (dSeed 0 w) a0 b0 f0 := DS_171 hD0
    have q16 : (jup I 171 11 (sNext (w 11))) 171 6 = w 6 := by rw [hDd.1, eS, wup_ne _ _ (by decide)]
    have e11 : (dSeed 0 w) 11 = sNext (w 11) := by rw [eS, wup_same]
    have hfl := hW.2.2.2.2.1
    have hm := jAnd_mask (jShr (sNext (w 11)) 16)
    have hsd : sDraw (sNext (w 11)) = jAnd (jShr (sNext (w 11)) 16) 32767 % 100 := rfl
    unfold dFl at hwet
    rw [e11] at hwet
    refine j_iload_n dX12_oneDay_0 rfl ?_
    refine j_if_ne (tgt := 24) dX12_oneDay_1 rfl (by first | omega | (split <;> omega)) (fun c_1 => by exact absurd rfl c_1) (fun c_1 => ?_)
    refine j_aload_n dX12_oneDay_4 rfl ?_
    refine j_bipush dX12_oneDay_5 (by decide) ?_
    refine r_cv1I dX12_oneDay_7 cvX12_299 (by decide) (by first | assumption | exact hsh _ _ rfl) (Nat.le_of_ble_eq_true rfl) (Nat.le_of_eq (Nat.zero_add _)) (Nat.le_of_eq (Nat.zero_add _)) (sd) ?_
    refine j_aload_n dX12_oneDay_10 rfl ?_
    refine r_getS dX12_oneDay_11 flX12_13 (by first | assumption | exact hsh _ _ rfl) (fx_170_1 hfx) ?_
    refine j_bipush dX12_oneDay_14 (by decide) ?_
    refine r_ialoadE dX12_oneDay_16 (by first | assumption | exact hsh _ _ rfl) (by first | omega | (split <;> omega)) (by first | omega | (split <;> omega)) q16 (fun b_16 => ?_)
    refine j_icmp_ge (tgt := 24) dX12_oneDay_17 rfl (by first | omega | (split <;> omega)) (by first | omega | (split <;> omega)) (fun c_17 => ?_) (fun c_17 => ?_)
    · rw [if_neg (fun q => by omega)] at hwet
      refine j_iconst dX12_oneDay_24 ?_
      refine j_istore_n dX12_oneDay_25 (by decide) ?_
      refine j_iconst dX12_oneDay_26 ?_
      refine j_istore_n dX12_oneDay_27 (by decide) ?_
      have f9 := fin _ hDd
      rw [← hwet] at f9
      exact f9
    · rw [if_pos ⟨rfl, by omega⟩] at hwet
      refine j_iconst dX12_oneDay_20 ?_
      refine j_goto (tgt := 25) dX12_oneDay_21 rfl ?_
      refine j_istore_n dX12_oneDay_25 (by decide) ?_
      refine j_iconst dX12_oneDay_26 ?_
      refine j_istore_n dX12_oneDay_27 (by decide) ?_
      have f9 := fin _ hDd
      rw [← hwet] at f9
      exact f9
  · unfold dFl at hwet
    rw [if_neg (fun q => by have := q.1; omega)] at hwet
    refine j_iload_n dX12_oneDay_0 rfl ?_
    refine j_if_ne (tgt := 24) dX12_oneDay_1 rfl (by first | omega | (split <;> omega)) (fun c_1 => ?_) (fun c_1 => by exact absurd (by decide) c_1)
    refine j_iconst dX12_oneDay_24 ?_
    refine j_istore_n dX12_oneDay_25 (by decide) ?_
    refine j_iconst dX12_oneDay_26 ?_
    refine j_istore_n dX12_oneDay_27 (by decide) ?_
    have f9 := fin _ hD0
    rw [← hwet] at f9
    exact f9
end
