/-! A LINE OF TWO, A PERSON MORE, ALL LINES: THE CLASS -/
section
variable {B : Int → Int} {w : Int → Int} {be q : Int}
theorem wPer_0 : aPe (wPer B w be q) = aPe w + 1 := if_pos rfl
theorem wPer_o {k : Int} (h0 : k ≠ 0) (h1 : k < 12 + 13 * aPe w ∨ 12 + 13 * aPe w + 13 ≤ k) (h2 : k < 116 ∨ 180 ≤ k) : wPer B w be q k = w k := by
  unfold wPer
  rw [if_neg h0, if_neg (by omega), if_neg (by omega)]
theorem wPer_p {p k : Int} (hw : 0 ≤ aPe w ∧ aPe w < 8) (hp : 0 ≤ p ∧ p < aPe w) (hk : 0 ≤ k ∧ k < 13) : aOf (wPer B w be q) p k = aOf w p k := wPer_o (by omega) (by omega) (by omega)
theorem wPer_n {k : Int} (hw : 0 ≤ aPe w ∧ aPe w < 8) (hk : 0 ≤ k ∧ k < 13) : aOf (wPer B w be q) (aPe w) k = if k = 0 then be else if k = 4 then -1 else if k < 6 then 0 else B (q + (k - 6)) - 48 := by
  show wPer B w be q (12 + 13 * aPe w + k) = _
  unfold wPer
  rw [if_neg (by omega), if_pos (by omega)]
  by_cases e : k = 0
  · rw [if_pos (by omega), if_pos e]
  · rw [if_neg (by omega), if_neg e]
    by_cases e2 : k = 4
    · rw [if_pos (by omega), if_pos e2]
    · rw [if_neg (by omega), if_neg e2]
      by_cases e3 : k < 6
      · rw [if_pos (by omega), if_pos e3]
      · rw [if_neg (by omega), if_neg e3, show 12 + 13 * aPe w + k - (12 + 13 * aPe w + 6) = k - 6 by omega]
theorem wPer_w {a b : Int} (hw : 0 ≤ aPe w ∧ aPe w < 8) (ha : 0 ≤ a ∧ a < 8) (hb : 0 ≤ b ∧ b < 8) : aOw (wPer B w be q) a b = if a = aPe w ∨ b = aPe w then 0 else aOw w a b := by
  show wPer B w be q (116 + 8 * a + b) = _
  unfold wPer
  rw [if_neg (by omega), if_neg (by omega)]
  have e1 : (116 + 8 * a + b - 116) / 8 = a := by omega
  have e2 : (116 + 8 * a + b - 116) % 8 = b := by omega
  rw [e1, e2]
  by_cases e : a = aPe w ∨ b = aPe w
  · rw [if_pos ⟨by omega, by omega, e⟩, if_pos e]
  · rw [if_neg (fun x => e x.2.2), if_neg e]
theorem wPer_al (hw : 0 ≤ aPe w ∧ aPe w < 8) : mAlive (wPer B w be q) = jOr (mAlive w) (jShl 1 (aPe w)) := by
  unfold mAlive
  rw [wPer_0, jfold_s _ _ hw.1]
  have e : aOf (wPer B w be q) (aPe w) 3 = 0 := wPer_n hw (by omega)
  rw [if_pos e]
  congr 1
  refine jfold_cong (fun k k0 k1 x => ?_)
  rw [wPer_p hw ⟨k0, by omega⟩ (by omega)]
theorem Rp_per {I J : Nat → Int → Int} {s : Nat} (h : Rp I s w) (h8 : aPe w < 8) (j0 : J s 0 = aPe w + 1) (j1 : J s 1 = jOr (mAlive w) (jShl 1 (aPe w))) (jk : ∀ k, k ≠ 0 → k ≠ 1 → J s k = I s k) (ja : J (s + 1) = wup (I (s + 1)) (aPe w) be) (jp : ∀ k, 0 ≤ k → k < 7 → J (s + 2) (aPe w * 7 + k) = B (q + k) - 48) (jp2 : ∀ k, k < aPe w * 7 → J (s + 2) k = I (s + 2) k) (jh : J (s + 5) = wup (I (s + 5)) (aPe w) (-1)) (jo : J (s + 3) = I (s + 3) ∧ J (s + 4) = I (s + 4) ∧ J (s + 6) = I (s + 6) ∧ J (s + 7) = I (s + 7)) : Rp J s (wPer B w be q) := by
  obtain ⟨r0, r1, rP, rO, rA, r9, r10, r11, r12, r13, r14, r15, ⟨z1, z2⟩, r17⟩ := h
  obtain ⟨o3, o4, o6, o7⟩ := jo
  have hw : 0 ≤ aPe w ∧ aPe w < 8 := ⟨r1.1, h8⟩
  have hl : ∀ k, 0 < k → k < 12 → wPer B w be q k = w k := fun k k0 k1 => wPer_o (by omega) (by omega) (by omega)
  have hs := mAlive_set (w := wPer B w be q) (by rw [wPer_0]; omega)
  have hA : J s 1 = mAlive (wPer B w be q) := by rw [wPer_al hw]; exact j1
  unfold Rp
  rw [wPer_0]
  refine ⟨j0, by omega, fun p p0 p1 => ?_, fun a b a0 a1 b0 b1 => ?_, hA, ?_, ?_, ?_, ?_, ?_, ?_, ?_, ⟨fun x x0 x1 => ?_, fun p r p0 p1 q0 q1 h => ?_⟩, ?_⟩
  · have hb : jbit (J s 1) p ↔ aOf (wPer B w be q) p 3 = 0 := by
      rw [hA, hs.2 p p0 (by omega), wPer_0]
      exact ⟨fun h => h.2, fun h => ⟨p1, h⟩⟩
    unfold RpP
    rw [ja, o3, o4, jh, o6]
    by_cases e : p = aPe w
    · subst e
      have z := z1 (aPe w) (Int.le_refl _) h8
      have n0 : aOf (wPer B w be q) (aPe w) 0 = be := wPer_n (k := 0) hw (by omega)
      have n1 : aOf (wPer B w be q) (aPe w) 1 = 0 := wPer_n (k := 1) hw (by omega)
      have n2 : aOf (wPer B w be q) (aPe w) 2 = 0 := wPer_n (k := 2) hw (by omega)
      have n4 : aOf (wPer B w be q) (aPe w) 4 = -1 := wPer_n (k := 4) hw (by omega)
      have n5 : aOf (wPer B w be q) (aPe w) 5 = 0 := wPer_n (k := 5) hw (by omega)
      rw [wup_same, wup_same]
      refine ⟨n0.symm, z.1.trans n1.symm, z.2.1.trans n2.symm, hb, n4.symm, z.2.2.trans n5.symm, fun k k0 k1 => ?_⟩
      · rw [jp k k0 k1, wPer_n hw (by omega), if_neg (by omega), if_neg (by omega), if_neg (by omega), show (6 + k - 6 : Int) = k by omega]
    · have hp : 0 ≤ p ∧ p < aPe w := by omega
      obtain ⟨i0, i1, i2, i3, i4, i5, i6⟩ := rP p p0 hp.2
      rw [wup_ne _ _ e, wup_ne _ _ e]
      refine ⟨?_, ?_, ?_, hb, ?_, ?_, fun k k0 k1 => ?_⟩
      · rw [wPer_p hw hp (by omega)]; exact i0
      · rw [wPer_p hw hp (by omega)]; exact i1
      · rw [wPer_p hw hp (by omega)]; exact i2
      · rw [wPer_p hw hp (by omega)]; exact i4
      · rw [wPer_p hw hp (by omega)]; exact i5
      · rw [wPer_p hw hp (by omega), jp2 _ (by omega)]; exact i6 k k0 k1
  · rw [o7, wPer_w hw (by omega) (by omega)]
    by_cases e : a = aPe w ∨ b = aPe w
    · rw [if_pos e]; exact z2 a b a0 (by omega) b0 (by omega) (by omega)
    · rw [if_neg e]; exact rO a b a0 (by omega) b0 (by omega)
  · rw [jk 9 (by decide) (by decide), hl 4 (by omega) (by omega)]; exact r9
  · rw [jk 10 (by decide) (by decide), hl 5 (by omega) (by omega)]; exact r10
  · rw [jk 11 (by decide) (by decide), hl 6 (by omega) (by omega)]; exact r11
  · rw [jk 12 (by decide) (by decide), hl 7 (by omega) (by omega)]; exact r12
  · rw [jk 13 (by decide) (by decide), hl 3 (by omega) (by omega)]; exact r13
  · rw [jk 14 (by decide) (by decide), hl 11 (by omega) (by omega)]; exact r14
  · rw [jk 15 (by decide) (by decide), hl 1 (by omega) (by omega)]; exact r15
  · rw [o3, o4, o6]; exact z1 x (by omega) x1
  · rw [o7]; exact z2 p r p0 p1 q0 q1 (by omega)
  · rw [jk 17 (by decide) (by decide), hl 8 (by omega) (by omega)]; exact r17
end
section
variable {G : jzG} {d : Nat} {sh : List (Nat × Nat)} {I : Nat → Int → Int} {F : Nat → Int → Option Nat} {B : Int → Int} {n q : Int} {w : Int → Int}
theorem sb_readTwo (hsh : ShOK sh) (hfx : FxOK F) (h12 : StAt sh F 12) (hT : Tx I B n q) (hR : Rp I 12 w) {c : Int} (hc : (c = 4 ∧ vWd B n q 3) ∨ (c = 5 ∧ vWd B n q 4) ∨ (c = 0 ∧ vWd B n q 5)) : jS G (d + 6) mX0_readTwo [jR (some 154), jR (some 12)] (sh, I, F) 0 0 (rEI (bTwo B n w q c).1 sh F (bCl I B n (bTwo B n w q c))) := by
  obtain ⟨g0, g1, g2, g3, g4, g5, g6, g7, g8, g9, e1, e2, e3, e4, e5, e6, e7, e8, e9⟩ := id h12
  have w3 := st_isWord (G := G) (d := d + 1) (F := F) hsh hfx hT (t := 3) (by decide)
  have w5 := st_isWord (G := G) (d := d + 1) (F := F) hsh hfx hT (t := 5) (by decide)
  have gw := hR.2.1
  refine jS_go [some (jR (some 154)), some (jR (some 12)), none, none, none, none] (by decide +kernel) rfl (by simp [jone]) (Nat.le_of_ble_eq_true rfl) rfl (fun hok => ?_)
  generalize hQ : rEI (bTwo B n w q c).1 sh F (bCl I B n (bTwo B n w q c)) = Q9
  have mid : ∀ (a b : Int), ((c = 4 ∧ a = 1 ∧ b = 0) ∨ (c = 5 ∧ a = 0 ∧ b = 0) ∨ (c = 0 ∧ a = 0 ∧ b = 1)) → jW G mX0_readTwo (d + 6) Q9 14 [some (jR (some 154)), some (jR (some 12)), some (jI a), some (jI b), none, none] [] (sh, I, F) 0 0 := by
    intro a b hab
    have sP := fun (J : Nat → Int → Int) (hJ : Tx J B n (tkN B n q) ∧ Fr1 154 I J) => sb_isPerson (G := G) (d := d + 4) (F := F) hsh h12 hJ.1 (Rp_154 hR hJ.2)
    by_cases hv : vPn B n w (tkN B n q)
    · have pv := vPn_in hv
      rw [if_pos hv] at sP
      have v6 := fun (J : Nat → Int → Int) (hJ : Tx J B n (tkN B n q) ∧ Fr1 154 I J) => Tx_v hJ.1 (by decide) hv
      obtain ⟨p, hp⟩ : ∃ p, tV B n (tkN B n q) = p := ⟨_, rfl⟩
      rw [hp] at pv v6
      have sP2 := fun (K : Nat → Int → Int) (hK : Tx K B n (tkN B n (tkN B n q))) (hRK : Rp K 12 w) => sb_isPerson (G := G) (d := d + 4) (F := F) hsh h12 hK hRK
      by_cases hu : vPn B n w (tkN B n (tkN B n q))
      · rw [if_pos hu] at sP2
        have pu := vPn_in hu
        have v7 := fun (K : Nat → Int → Int) (hK : Tx K B n (tkN B n (tkN B n q))) => Tx_v hK (by decide) hu
        obtain ⟨r, hr⟩ : ∃ r, tV B n (tkN B n (tkN B n q)) = r := ⟨_, rfl⟩
        rw [hr] at pu v7
        by_cases hne : r = p
        · have hb : bTwo B n w q c = (0, tkN B n (tkN B n q), w) := by unfold bTwo; rw [if_pos hv, if_neg (fun x => x.2 (by rw [hp, hr, hne]))]
          rw [hb] at hQ
          refine j_aload_n dX0_readTwo_14 rfl ?_
          refine r_cv0EV dX0_readTwo_15 cvX0_61 (by decide) (by first | assumption | exact hsh _ _ rfl) (Nat.le_of_ble_eq_true rfl) (Nat.le_of_eq (Nat.zero_add _)) (Nat.le_of_eq (Nat.zero_add _)) (st_next hsh hfx hT) (fun J hJ => ?_)
          refine j_aload_n dX0_readTwo_18 rfl ?_
          refine j_aload_n dX0_readTwo_19 rfl ?_
          refine r_cs2I dX0_readTwo_20 csX0_93 (Nat.le_of_ble_eq_true rfl) (Nat.le_of_eq (Nat.zero_add _)) (Nat.le_of_eq (Nat.zero_add _)) (sP J hJ) ?_
          refine j_if_ne (tgt := 28) dX0_readTwo_23 rfl (by first | omega | (split <;> omega)) (fun c_23 => ?_) (fun c_23 => by exact absurd c_23 (by decide))
          refine j_aload_n dX0_readTwo_28 rfl ?_
          refine r_getIE dX0_readTwo_29 flX0_73 (by first | assumption | exact hsh _ _ rfl) (v6 J hJ) (fun b_29 => ?_)
          refine j_istore dX0_readTwo_32 (by decide) ?_
          refine j_aload_n dX0_readTwo_34 rfl ?_
          refine r_cv0EV dX0_readTwo_35 cvX0_61 (by decide) (by first | assumption | exact hsh _ _ rfl) (Nat.le_of_ble_eq_true rfl) (Nat.le_of_eq (Nat.zero_add _)) (Nat.le_of_eq (Nat.zero_add _)) (st_next hsh hfx hJ.1) (fun K hK => ?_)
          have hRK := Rp_154 (Rp_154 hR hJ.2) hK.2
          refine j_aload_n dX0_readTwo_38 rfl ?_
          refine j_aload_n dX0_readTwo_39 rfl ?_
          refine r_cs2I dX0_readTwo_40 csX0_93 (Nat.le_of_ble_eq_true rfl) (Nat.le_of_eq (Nat.zero_add _)) (Nat.le_of_eq (Nat.zero_add _)) (sP2 K hK.1 hRK) ?_
          refine j_if_eq (tgt := 55) dX0_readTwo_43 rfl (by first | omega | (split <;> omega)) (fun c_43 => by exact absurd c_43 (by decide)) (fun c_43 => ?_)
          refine j_aload_n dX0_readTwo_46 rfl ?_
          refine r_getIE dX0_readTwo_47 flX0_73 (by first | assumption | exact hsh _ _ rfl) (v7 K hK.1) (fun b_47 => ?_)
          refine j_iload dX0_readTwo_50 rfl ?_
          refine j_icmp_ne (tgt := 57) dX0_readTwo_52 rfl (by first | omega | (split <;> omega)) (by first | omega | (split <;> omega)) (fun c_52 => by exact absurd hne c_52) (fun c_52 => ?_)
          refine j_iconst dX0_readTwo_55 ?_
          refine j_zret dX0_readTwo_56 rfl (by omega) ?_
          rw [← hQ]
          exact rEI_of rfl ⟨hK.1, hRK, ⟨fun a a0 a1 => by rw [hK.2 a a1, hJ.2 a a1], by rw [hK.2 12 (by decide)]; rw [hJ.2 12 (by decide)]⟩⟩
        · have hor := jOr_in (aOf w p 5) (jShl 1 r)
          have h2 : vPn B n w (tkN B n (tkN B n q)) ∧ ¬ tV B n (tkN B n (tkN B n q)) = tV B n (tkN B n q) := ⟨hu, by rw [hp, hr]; exact hne⟩
          rcases hab with ⟨rfl, rfl, rfl⟩ | ⟨rfl, rfl, rfl⟩ | ⟨rfl, rfl, rfl⟩
          · have hb : bTwo B n w q 4 = (1, tkN B n (tkN B n (tkN B n q)), wup w (12 + 13 * p + 4) r) := by unfold bTwo; rw [if_pos hv, if_pos h2, if_pos rfl, hp, hr]
            rw [hb] at hQ
            refine j_aload_n dX0_readTwo_14 rfl ?_
            refine r_cv0EV dX0_readTwo_15 cvX0_61 (by decide) (by first | assumption | exact hsh _ _ rfl) (Nat.le_of_ble_eq_true rfl) (Nat.le_of_eq (Nat.zero_add _)) (Nat.le_of_eq (Nat.zero_add _)) (st_next hsh hfx hT) (fun J hJ => ?_)
            refine j_aload_n dX0_readTwo_18 rfl ?_
            refine j_aload_n dX0_readTwo_19 rfl ?_
            refine r_cs2I dX0_readTwo_20 csX0_93 (Nat.le_of_ble_eq_true rfl) (Nat.le_of_eq (Nat.zero_add _)) (Nat.le_of_eq (Nat.zero_add _)) (sP J hJ) ?_
            refine j_if_ne (tgt := 28) dX0_readTwo_23 rfl (by first | omega | (split <;> omega)) (fun c_23 => ?_) (fun c_23 => by exact absurd c_23 (by decide))
            refine j_aload_n dX0_readTwo_28 rfl ?_
            refine r_getIE dX0_readTwo_29 flX0_73 (by first | assumption | exact hsh _ _ rfl) (v6 J hJ) (fun b_29 => ?_)
            refine j_istore dX0_readTwo_32 (by decide) ?_
            refine j_aload_n dX0_readTwo_34 rfl ?_
            refine r_cv0EV dX0_readTwo_35 cvX0_61 (by decide) (by first | assumption | exact hsh _ _ rfl) (Nat.le_of_ble_eq_true rfl) (Nat.le_of_eq (Nat.zero_add _)) (Nat.le_of_eq (Nat.zero_add _)) (st_next hsh hfx hJ.1) (fun K hK => ?_)
            have hRK := Rp_154 (Rp_154 hR hJ.2) hK.2
            refine j_aload_n dX0_readTwo_38 rfl ?_
            refine j_aload_n dX0_readTwo_39 rfl ?_
            refine r_cs2I dX0_readTwo_40 csX0_93 (Nat.le_of_ble_eq_true rfl) (Nat.le_of_eq (Nat.zero_add _)) (Nat.le_of_eq (Nat.zero_add _)) (sP2 K hK.1 hRK) ?_
            refine j_if_eq (tgt := 55) dX0_readTwo_43 rfl (by first | omega | (split <;> omega)) (fun c_43 => by exact absurd c_43 (by decide)) (fun c_43 => ?_)
            refine j_aload_n dX0_readTwo_46 rfl ?_
            refine r_getIE dX0_readTwo_47 flX0_73 (by first | assumption | exact hsh _ _ rfl) (v7 K hK.1) (fun b_47 => ?_)
            refine j_iload dX0_readTwo_50 rfl ?_
            refine j_icmp_ne (tgt := 57) dX0_readTwo_52 rfl (by first | omega | (split <;> omega)) (by first | omega | (split <;> omega)) (fun c_52 => ?_) (fun c_52 => by exact absurd (Classical.not_not.1 c_52) hne)
            refine j_aload_n dX0_readTwo_57 rfl ?_
            refine r_getIE dX0_readTwo_58 flX0_73 (by first | assumption | exact hsh _ _ rfl) (v7 K hK.1) (fun b_58 => ?_)
            refine j_istore dX0_readTwo_61 (by decide) ?_
            refine j_aload_n dX0_readTwo_63 rfl ?_
            refine r_cv0EV dX0_readTwo_64 cvX0_61 (by decide) (by first | assumption | exact hsh _ _ rfl) (Nat.le_of_ble_eq_true rfl) (Nat.le_of_eq (Nat.zero_add _)) (Nat.le_of_eq (Nat.zero_add _)) (st_next hsh hfx hK.1) (fun L hL => ?_)
            have hRL := Rp_154 hRK hL.2
            refine j_iload_n dX0_readTwo_67 rfl ?_
            refine j_if_eq (tgt := 83) dX0_readTwo_68 rfl (by first | omega | (split <;> omega)) (fun c_68 => by exact absurd c_68 (by decide)) (fun c_68 => ?_)
            refine j_aload_n dX0_readTwo_71 rfl ?_
            refine r_getS dX0_readTwo_72 flX0_88 (by first | assumption | exact hsh _ _ rfl) (by assumption) ?_
            refine j_iload dX0_readTwo_75 rfl ?_
            refine j_iload dX0_readTwo_77 rfl ?_
            refine r_iastore dX0_readTwo_79 (by first | assumption | exact hsh _ _ rfl) (by first | omega | (split <;> omega)) (by first | omega | (split <;> omega)) (by first | omega | (split <;> omega)) ?_
            refine j_goto (tgt := 139) dX0_readTwo_80 rfl ?_
            refine j_iconst dX0_readTwo_139 ?_
            refine j_zret dX0_readTwo_140 rfl (by omega) ?_
            rw [← hQ]
            exact rEI_of rfl ⟨Tx_fr hL.1 (jup_ne _ _ _ (by decide)) (jup_ne _ _ _ (by decide)), Rp_one hRL pv (Or.inr (Or.inr (Or.inr ⟨rfl, rfl⟩))), ⟨fun a a0 a1 => by rw [jup_ne _ _ _ (by omega), hL.2 a a1, hK.2 a a1, hJ.2 a a1], by (first | rw [jup_row _ _ _ (by omega)] | rw [jup_ne _ _ _ (by decide)]); rw [hL.2 12 (by decide)]; rw [hK.2 12 (by decide)]; rw [hJ.2 12 (by decide)]⟩⟩
          · have hb : bTwo B n w q 5 = (1, tkN B n (tkN B n (tkN B n q)), wup w (12 + 13 * p + 5) (jOr (aOf w p 5) (jShl 1 r))) := by unfold bTwo; rw [if_pos hv, if_pos h2, if_neg (by decide), if_pos rfl, hp, hr]
            rw [hb] at hQ
            refine j_aload_n dX0_readTwo_14 rfl ?_
            refine r_cv0EV dX0_readTwo_15 cvX0_61 (by decide) (by first | assumption | exact hsh _ _ rfl) (Nat.le_of_ble_eq_true rfl) (Nat.le_of_eq (Nat.zero_add _)) (Nat.le_of_eq (Nat.zero_add _)) (st_next hsh hfx hT) (fun J hJ => ?_)
            refine j_aload_n dX0_readTwo_18 rfl ?_
            refine j_aload_n dX0_readTwo_19 rfl ?_
            refine r_cs2I dX0_readTwo_20 csX0_93 (Nat.le_of_ble_eq_true rfl) (Nat.le_of_eq (Nat.zero_add _)) (Nat.le_of_eq (Nat.zero_add _)) (sP J hJ) ?_
            refine j_if_ne (tgt := 28) dX0_readTwo_23 rfl (by first | omega | (split <;> omega)) (fun c_23 => ?_) (fun c_23 => by exact absurd c_23 (by decide))
            refine j_aload_n dX0_readTwo_28 rfl ?_
            refine r_getIE dX0_readTwo_29 flX0_73 (by first | assumption | exact hsh _ _ rfl) (v6 J hJ) (fun b_29 => ?_)
            refine j_istore dX0_readTwo_32 (by decide) ?_
            refine j_aload_n dX0_readTwo_34 rfl ?_
            refine r_cv0EV dX0_readTwo_35 cvX0_61 (by decide) (by first | assumption | exact hsh _ _ rfl) (Nat.le_of_ble_eq_true rfl) (Nat.le_of_eq (Nat.zero_add _)) (Nat.le_of_eq (Nat.zero_add _)) (st_next hsh hfx hJ.1) (fun K hK => ?_)
            have hRK := Rp_154 (Rp_154 hR hJ.2) hK.2
            refine j_aload_n dX0_readTwo_38 rfl ?_
            refine j_aload_n dX0_readTwo_39 rfl ?_
            refine r_cs2I dX0_readTwo_40 csX0_93 (Nat.le_of_ble_eq_true rfl) (Nat.le_of_eq (Nat.zero_add _)) (Nat.le_of_eq (Nat.zero_add _)) (sP2 K hK.1 hRK) ?_
            refine j_if_eq (tgt := 55) dX0_readTwo_43 rfl (by first | omega | (split <;> omega)) (fun c_43 => by exact absurd c_43 (by decide)) (fun c_43 => ?_)
            refine j_aload_n dX0_readTwo_46 rfl ?_
            refine r_getIE dX0_readTwo_47 flX0_73 (by first | assumption | exact hsh _ _ rfl) (v7 K hK.1) (fun b_47 => ?_)
            refine j_iload dX0_readTwo_50 rfl ?_
            refine j_icmp_ne (tgt := 57) dX0_readTwo_52 rfl (by first | omega | (split <;> omega)) (by first | omega | (split <;> omega)) (fun c_52 => ?_) (fun c_52 => by exact absurd (Classical.not_not.1 c_52) hne)
            refine j_aload_n dX0_readTwo_57 rfl ?_
            refine r_getIE dX0_readTwo_58 flX0_73 (by first | assumption | exact hsh _ _ rfl) (v7 K hK.1) (fun b_58 => ?_)
            refine j_istore dX0_readTwo_61 (by decide) ?_
            refine j_aload_n dX0_readTwo_63 rfl ?_
            refine r_cv0EV dX0_readTwo_64 cvX0_61 (by decide) (by first | assumption | exact hsh _ _ rfl) (Nat.le_of_ble_eq_true rfl) (Nat.le_of_eq (Nat.zero_add _)) (Nat.le_of_eq (Nat.zero_add _)) (st_next hsh hfx hK.1) (fun L hL => ?_)
            have hRL := Rp_154 hRK hL.2
            have q5 := (hRL.2.2.1 p pv.1 pv.2).2.2.2.2.2.1
            refine j_iload_n dX0_readTwo_67 rfl ?_
            refine j_if_eq (tgt := 83) dX0_readTwo_68 rfl (by first | omega | (split <;> omega)) (fun c_68 => ?_) (fun c_68 => by exact absurd rfl c_68)
            refine j_iload_n dX0_readTwo_83 rfl ?_
            refine j_if_ne (tgt := 104) dX0_readTwo_84 rfl (by first | omega | (split <;> omega)) (fun c_84 => by exact absurd rfl c_84) (fun c_84 => ?_)
            refine j_aload_n dX0_readTwo_87 rfl ?_
            refine r_getS dX0_readTwo_88 flX0_96 (by first | assumption | exact hsh _ _ rfl) (by assumption) ?_
            refine j_iload dX0_readTwo_91 rfl ?_
            refine j_dup2 dX0_readTwo_93 trivial trivial ?_
            refine r_ialoadE dX0_readTwo_94 (by first | assumption | exact hsh _ _ rfl) (by first | omega | (split <;> omega)) (by first | omega | (split <;> omega)) q5 (fun b_94 => ?_)
            refine j_iconst dX0_readTwo_95 ?_
            refine j_iload dX0_readTwo_96 rfl ?_
            refine r_ishl dX0_readTwo_98 (fun b_98 => ?_)
            refine r_ior dX0_readTwo_99 (fun b_99 => ?_)
            refine r_iastore dX0_readTwo_100 (by first | assumption | exact hsh _ _ rfl) (by first | omega | (split <;> omega)) (by first | omega | (split <;> omega)) (by first | omega | (split <;> omega)) ?_
            refine j_goto (tgt := 139) dX0_readTwo_101 rfl ?_
            refine j_iconst dX0_readTwo_139 ?_
            refine j_zret dX0_readTwo_140 rfl (by omega) ?_
            rw [← hQ]
            exact rEI_of rfl ⟨Tx_fr hL.1 (jup_ne _ _ _ (by decide)) (jup_ne _ _ _ (by decide)), Rp_one hRL pv (Or.inr (Or.inr (Or.inl ⟨rfl, rfl⟩))), ⟨fun a a0 a1 => by rw [jup_ne _ _ _ (by omega), hL.2 a a1, hK.2 a a1, hJ.2 a a1], by (first | rw [jup_row _ _ _ (by omega)] | rw [jup_ne _ _ _ (by decide)]); rw [hL.2 12 (by decide)]; rw [hK.2 12 (by decide)]; rw [hJ.2 12 (by decide)]⟩⟩
          · have sN := fun (L : Nat → Int → Int) (hL : Tx L B n (tkN B n (tkN B n (tkN B n q)))) => st_isNumber (G := G) (d := d + 5) (F := F) hsh hL (f := 5) (lo := 0) (hi := 9999) (by decide) (by decide) (by omega)
            by_cases hv2 : vNm B n (tkN B n (tkN B n (tkN B n q))) 5 0 9999
            · obtain ⟨x, hx⟩ : ∃ x, tV B n (tkN B n (tkN B n (tkN B n q))) = x := ⟨_, rfl⟩
              have hb : bTwo B n w q 0 = (1, tkN B n (tkN B n (tkN B n (tkN B n q))), wup w (116 + 8 * p + r) x) := by unfold bTwo; rw [if_pos hv, if_pos h2, if_neg (by decide), if_neg (by decide), if_pos hv2, hp, hr, hx]
              rw [hb] at hQ
              rw [if_pos hv2] at sN
              have hx2 := tV_in hv2
              rw [hx] at hx2
              refine j_aload_n dX0_readTwo_14 rfl ?_
              refine r_cv0EV dX0_readTwo_15 cvX0_61 (by decide) (by first | assumption | exact hsh _ _ rfl) (Nat.le_of_ble_eq_true rfl) (Nat.le_of_eq (Nat.zero_add _)) (Nat.le_of_eq (Nat.zero_add _)) (st_next hsh hfx hT) (fun J hJ => ?_)
              refine j_aload_n dX0_readTwo_18 rfl ?_
              refine j_aload_n dX0_readTwo_19 rfl ?_
              refine r_cs2I dX0_readTwo_20 csX0_93 (Nat.le_of_ble_eq_true rfl) (Nat.le_of_eq (Nat.zero_add _)) (Nat.le_of_eq (Nat.zero_add _)) (sP J hJ) ?_
              refine j_if_ne (tgt := 28) dX0_readTwo_23 rfl (by first | omega | (split <;> omega)) (fun c_23 => ?_) (fun c_23 => by exact absurd c_23 (by decide))
              refine j_aload_n dX0_readTwo_28 rfl ?_
              refine r_getIE dX0_readTwo_29 flX0_73 (by first | assumption | exact hsh _ _ rfl) (v6 J hJ) (fun b_29 => ?_)
              refine j_istore dX0_readTwo_32 (by decide) ?_
              refine j_aload_n dX0_readTwo_34 rfl ?_
              refine r_cv0EV dX0_readTwo_35 cvX0_61 (by decide) (by first | assumption | exact hsh _ _ rfl) (Nat.le_of_ble_eq_true rfl) (Nat.le_of_eq (Nat.zero_add _)) (Nat.le_of_eq (Nat.zero_add _)) (st_next hsh hfx hJ.1) (fun K hK => ?_)
              have hRK := Rp_154 (Rp_154 hR hJ.2) hK.2
              refine j_aload_n dX0_readTwo_38 rfl ?_
              refine j_aload_n dX0_readTwo_39 rfl ?_
              refine r_cs2I dX0_readTwo_40 csX0_93 (Nat.le_of_ble_eq_true rfl) (Nat.le_of_eq (Nat.zero_add _)) (Nat.le_of_eq (Nat.zero_add _)) (sP2 K hK.1 hRK) ?_
              refine j_if_eq (tgt := 55) dX0_readTwo_43 rfl (by first | omega | (split <;> omega)) (fun c_43 => by exact absurd c_43 (by decide)) (fun c_43 => ?_)
              refine j_aload_n dX0_readTwo_46 rfl ?_
              refine r_getIE dX0_readTwo_47 flX0_73 (by first | assumption | exact hsh _ _ rfl) (v7 K hK.1) (fun b_47 => ?_)
              refine j_iload dX0_readTwo_50 rfl ?_
              refine j_icmp_ne (tgt := 57) dX0_readTwo_52 rfl (by first | omega | (split <;> omega)) (by first | omega | (split <;> omega)) (fun c_52 => ?_) (fun c_52 => by exact absurd (Classical.not_not.1 c_52) hne)
              refine j_aload_n dX0_readTwo_57 rfl ?_
              refine r_getIE dX0_readTwo_58 flX0_73 (by first | assumption | exact hsh _ _ rfl) (v7 K hK.1) (fun b_58 => ?_)
              refine j_istore dX0_readTwo_61 (by decide) ?_
              refine j_aload_n dX0_readTwo_63 rfl ?_
              refine r_cv0EV dX0_readTwo_64 cvX0_61 (by decide) (by first | assumption | exact hsh _ _ rfl) (Nat.le_of_ble_eq_true rfl) (Nat.le_of_eq (Nat.zero_add _)) (Nat.le_of_eq (Nat.zero_add _)) (st_next hsh hfx hK.1) (fun L hL => ?_)
              have hRL := Rp_154 hRK hL.2
              have v8 := Tx_v hL.1 (by decide) hv2
              rw [hx] at v8
              refine j_iload_n dX0_readTwo_67 rfl ?_
              refine j_if_eq (tgt := 83) dX0_readTwo_68 rfl (by first | omega | (split <;> omega)) (fun c_68 => ?_) (fun c_68 => by exact absurd rfl c_68)
              refine j_iload_n dX0_readTwo_83 rfl ?_
              refine j_if_ne (tgt := 104) dX0_readTwo_84 rfl (by first | omega | (split <;> omega)) (fun c_84 => ?_) (fun c_84 => by exact absurd (by decide) c_84)
              refine j_aload_n dX0_readTwo_104 rfl ?_
              refine j_iconst dX0_readTwo_105 ?_
              refine j_iconst dX0_readTwo_106 ?_
              refine j_sipush dX0_readTwo_107 (by decide) ?_
              refine r_cv3I dX0_readTwo_110 cvX0_69 (by decide) (by first | assumption | exact hsh _ _ rfl) (Nat.le_of_ble_eq_true rfl) (Nat.le_of_eq (Nat.zero_add _)) (Nat.le_of_eq (Nat.zero_add _)) (sN L hL.1) ?_
              refine j_if_ne (tgt := 118) dX0_readTwo_113 rfl (by first | omega | (split <;> omega)) (fun c_113 => ?_) (fun c_113 => by exact absurd c_113 (by decide))
              refine j_aload_n dX0_readTwo_118 rfl ?_
              refine r_getS dX0_readTwo_119 flX0_98 (by first | assumption | exact hsh _ _ rfl) (by assumption) ?_
              refine j_iload dX0_readTwo_122 rfl ?_
              refine j_bipush dX0_readTwo_124 (by decide) ?_
              refine j_imul dX0_readTwo_126 ?_
              refine j_iload dX0_readTwo_127 rfl ?_
              refine j_iadd dX0_readTwo_129 ?_
              refine j_aload_n dX0_readTwo_130 rfl ?_
              refine r_getIE dX0_readTwo_131 flX0_73 (by first | assumption | exact hsh _ _ rfl) v8 (fun b_131 => ?_)
              refine r_iastore dX0_readTwo_134 (by first | assumption | exact hsh _ _ rfl) (by first | omega | (split <;> omega)) (by first | omega | (split <;> omega)) (by first | omega | (split <;> omega)) ?_
              have hT2 : Tx (jup L (12 + 7) (p * 8 + r) x) B n (tkN B n (tkN B n (tkN B n q))) := Tx_fr hL.1 (jup_ne _ _ _ (by decide)) (jup_ne _ _ _ (by decide))
              refine j_aload_n dX0_readTwo_135 rfl ?_
              refine r_cv0EV dX0_readTwo_136 cvX0_61 (by decide) (by first | assumption | exact hsh _ _ rfl) (Nat.le_of_ble_eq_true rfl) (Nat.le_of_eq (Nat.zero_add _)) (Nat.le_of_eq (Nat.zero_add _)) (st_next hsh hfx hT2) (fun N hN => ?_)
              refine j_iconst dX0_readTwo_139 ?_
              refine j_zret dX0_readTwo_140 rfl (by omega) ?_
              rw [← hQ]
              exact rEI_of rfl ⟨hN.1, Rp_154 (Rp_ow hRL pv pu) hN.2, ⟨fun a a0 a1 => by rw [hN.2 a a1, jup_ne _ _ _ (by omega), hL.2 a a1, hK.2 a a1, hJ.2 a a1], by rw [hN.2 12 (by decide)]; (first | rw [jup_row _ _ _ (by omega)] | rw [jup_ne _ _ _ (by decide)]); rw [hL.2 12 (by decide)]; rw [hK.2 12 (by decide)]; rw [hJ.2 12 (by decide)]⟩⟩
            · have hb : bTwo B n w q 0 = (0, tkN B n (tkN B n (tkN B n q)), w) := by unfold bTwo; rw [if_pos hv, if_pos h2, if_neg (by decide), if_neg (by decide), if_neg hv2]
              rw [hb] at hQ
              rw [if_neg hv2] at sN
              refine j_aload_n dX0_readTwo_14 rfl ?_
              refine r_cv0EV dX0_readTwo_15 cvX0_61 (by decide) (by first | assumption | exact hsh _ _ rfl) (Nat.le_of_ble_eq_true rfl) (Nat.le_of_eq (Nat.zero_add _)) (Nat.le_of_eq (Nat.zero_add _)) (st_next hsh hfx hT) (fun J hJ => ?_)
              refine j_aload_n dX0_readTwo_18 rfl ?_
              refine j_aload_n dX0_readTwo_19 rfl ?_
              refine r_cs2I dX0_readTwo_20 csX0_93 (Nat.le_of_ble_eq_true rfl) (Nat.le_of_eq (Nat.zero_add _)) (Nat.le_of_eq (Nat.zero_add _)) (sP J hJ) ?_
              refine j_if_ne (tgt := 28) dX0_readTwo_23 rfl (by first | omega | (split <;> omega)) (fun c_23 => ?_) (fun c_23 => by exact absurd c_23 (by decide))
              refine j_aload_n dX0_readTwo_28 rfl ?_
              refine r_getIE dX0_readTwo_29 flX0_73 (by first | assumption | exact hsh _ _ rfl) (v6 J hJ) (fun b_29 => ?_)
              refine j_istore dX0_readTwo_32 (by decide) ?_
              refine j_aload_n dX0_readTwo_34 rfl ?_
              refine r_cv0EV dX0_readTwo_35 cvX0_61 (by decide) (by first | assumption | exact hsh _ _ rfl) (Nat.le_of_ble_eq_true rfl) (Nat.le_of_eq (Nat.zero_add _)) (Nat.le_of_eq (Nat.zero_add _)) (st_next hsh hfx hJ.1) (fun K hK => ?_)
              have hRK := Rp_154 (Rp_154 hR hJ.2) hK.2
              refine j_aload_n dX0_readTwo_38 rfl ?_
              refine j_aload_n dX0_readTwo_39 rfl ?_
              refine r_cs2I dX0_readTwo_40 csX0_93 (Nat.le_of_ble_eq_true rfl) (Nat.le_of_eq (Nat.zero_add _)) (Nat.le_of_eq (Nat.zero_add _)) (sP2 K hK.1 hRK) ?_
              refine j_if_eq (tgt := 55) dX0_readTwo_43 rfl (by first | omega | (split <;> omega)) (fun c_43 => by exact absurd c_43 (by decide)) (fun c_43 => ?_)
              refine j_aload_n dX0_readTwo_46 rfl ?_
              refine r_getIE dX0_readTwo_47 flX0_73 (by first | assumption | exact hsh _ _ rfl) (v7 K hK.1) (fun b_47 => ?_)
              refine j_iload dX0_readTwo_50 rfl ?_
              refine j_icmp_ne (tgt := 57) dX0_readTwo_52 rfl (by first | omega | (split <;> omega)) (by first | omega | (split <;> omega)) (fun c_52 => ?_) (fun c_52 => by exact absurd (Classical.not_not.1 c_52) hne)
              refine j_aload_n dX0_readTwo_57 rfl ?_
              refine r_getIE dX0_readTwo_58 flX0_73 (by first | assumption | exact hsh _ _ rfl) (v7 K hK.1) (fun b_58 => ?_)
              refine j_istore dX0_readTwo_61 (by decide) ?_
              refine j_aload_n dX0_readTwo_63 rfl ?_
              refine r_cv0EV dX0_readTwo_64 cvX0_61 (by decide) (by first | assumption | exact hsh _ _ rfl) (Nat.le_of_ble_eq_true rfl) (Nat.le_of_eq (Nat.zero_add _)) (Nat.le_of_eq (Nat.zero_add _)) (st_next hsh hfx hK.1) (fun L hL => ?_)
              have hRL := Rp_154 hRK hL.2
              refine j_iload_n dX0_readTwo_67 rfl ?_
              refine j_if_eq (tgt := 83) dX0_readTwo_68 rfl (by first | omega | (split <;> omega)) (fun c_68 => ?_) (fun c_68 => by exact absurd rfl c_68)
              refine j_iload_n dX0_readTwo_83 rfl ?_
              refine j_if_ne (tgt := 104) dX0_readTwo_84 rfl (by first | omega | (split <;> omega)) (fun c_84 => ?_) (fun c_84 => by exact absurd (by decide) c_84)
              refine j_aload_n dX0_readTwo_104 rfl ?_
              refine j_iconst dX0_readTwo_105 ?_
              refine j_iconst dX0_readTwo_106 ?_
              refine j_sipush dX0_readTwo_107 (by decide) ?_
              refine r_cv3I dX0_readTwo_110 cvX0_69 (by decide) (by first | assumption | exact hsh _ _ rfl) (Nat.le_of_ble_eq_true rfl) (Nat.le_of_eq (Nat.zero_add _)) (Nat.le_of_eq (Nat.zero_add _)) (sN L hL.1) ?_
              refine j_if_ne (tgt := 118) dX0_readTwo_113 rfl (by first | omega | (split <;> omega)) (fun c_113 => by exact absurd c_113 (by decide)) (fun c_113 => ?_)
              refine j_iconst dX0_readTwo_116 ?_
              refine j_zret dX0_readTwo_117 rfl (by omega) ?_
              rw [← hQ]
              exact rEI_of rfl ⟨hL.1, hRL, ⟨fun a a0 a1 => by rw [hL.2 a a1, hK.2 a a1, hJ.2 a a1], by rw [hL.2 12 (by decide)]; rw [hK.2 12 (by decide)]; rw [hJ.2 12 (by decide)]⟩⟩
      · have hb : bTwo B n w q c = (0, tkN B n (tkN B n q), w) := by unfold bTwo; rw [if_pos hv, if_neg (fun x => hu x.1)]
        rw [if_neg hu] at sP2
        rw [hb] at hQ
        refine j_aload_n dX0_readTwo_14 rfl ?_
        refine r_cv0EV dX0_readTwo_15 cvX0_61 (by decide) (by first | assumption | exact hsh _ _ rfl) (Nat.le_of_ble_eq_true rfl) (Nat.le_of_eq (Nat.zero_add _)) (Nat.le_of_eq (Nat.zero_add _)) (st_next hsh hfx hT) (fun J hJ => ?_)
        refine j_aload_n dX0_readTwo_18 rfl ?_
        refine j_aload_n dX0_readTwo_19 rfl ?_
        refine r_cs2I dX0_readTwo_20 csX0_93 (Nat.le_of_ble_eq_true rfl) (Nat.le_of_eq (Nat.zero_add _)) (Nat.le_of_eq (Nat.zero_add _)) (sP J hJ) ?_
        refine j_if_ne (tgt := 28) dX0_readTwo_23 rfl (by first | omega | (split <;> omega)) (fun c_23 => ?_) (fun c_23 => by exact absurd c_23 (by decide))
        refine j_aload_n dX0_readTwo_28 rfl ?_
        refine r_getIE dX0_readTwo_29 flX0_73 (by first | assumption | exact hsh _ _ rfl) (v6 J hJ) (fun b_29 => ?_)
        refine j_istore dX0_readTwo_32 (by decide) ?_
        refine j_aload_n dX0_readTwo_34 rfl ?_
        refine r_cv0EV dX0_readTwo_35 cvX0_61 (by decide) (by first | assumption | exact hsh _ _ rfl) (Nat.le_of_ble_eq_true rfl) (Nat.le_of_eq (Nat.zero_add _)) (Nat.le_of_eq (Nat.zero_add _)) (st_next hsh hfx hJ.1) (fun K hK => ?_)
        have hRK := Rp_154 (Rp_154 hR hJ.2) hK.2
        refine j_aload_n dX0_readTwo_38 rfl ?_
        refine j_aload_n dX0_readTwo_39 rfl ?_
        refine r_cs2I dX0_readTwo_40 csX0_93 (Nat.le_of_ble_eq_true rfl) (Nat.le_of_eq (Nat.zero_add _)) (Nat.le_of_eq (Nat.zero_add _)) (sP2 K hK.1 hRK) ?_
        refine j_if_eq (tgt := 55) dX0_readTwo_43 rfl (by first | omega | (split <;> omega)) (fun c_43 => ?_) (fun c_43 => by exact absurd c_43 (by decide))
        refine j_iconst dX0_readTwo_55 ?_
        refine j_zret dX0_readTwo_56 rfl (by omega) ?_
        rw [← hQ]
        exact rEI_of rfl ⟨hK.1, hRK, ⟨fun a a0 a1 => by rw [hK.2 a a1, hJ.2 a a1], by rw [hK.2 12 (by decide)]; rw [hJ.2 12 (by decide)]⟩⟩
    · have hb : bTwo B n w q c = (0, tkN B n q, w) := by unfold bTwo; rw [if_neg hv]
      rw [if_neg hv] at sP
      rw [hb] at hQ
      refine j_aload_n dX0_readTwo_14 rfl ?_
      refine r_cv0EV dX0_readTwo_15 cvX0_61 (by decide) (by first | assumption | exact hsh _ _ rfl) (Nat.le_of_ble_eq_true rfl) (Nat.le_of_eq (Nat.zero_add _)) (Nat.le_of_eq (Nat.zero_add _)) (st_next hsh hfx hT) (fun J hJ => ?_)
      refine j_aload_n dX0_readTwo_18 rfl ?_
      refine j_aload_n dX0_readTwo_19 rfl ?_
      refine r_cs2I dX0_readTwo_20 csX0_93 (Nat.le_of_ble_eq_true rfl) (Nat.le_of_eq (Nat.zero_add _)) (Nat.le_of_eq (Nat.zero_add _)) (sP J hJ) ?_
      refine j_if_ne (tgt := 28) dX0_readTwo_23 rfl (by first | omega | (split <;> omega)) (fun c_23 => by exact absurd c_23 (by decide)) (fun c_23 => ?_)
      refine j_iconst dX0_readTwo_26 ?_
      refine j_zret dX0_readTwo_27 rfl (by omega) ?_
      rw [← hQ]
      exact rEI_of rfl ⟨hJ.1, Rp_154 hR hJ.2, FrB_154 hJ.2⟩
  rcases hc with ⟨rfl, h⟩ | ⟨rfl, h⟩ | ⟨rfl, h⟩
  · rw [if_pos h] at w3
    rw [if_neg (wd_one (by decide) (by decide) (by decide) h)] at w5
    refine j_aload_n dX0_readTwo_0 rfl ?_
    refine j_ldcS dX0_readTwo_1 (t := 3) (by decide +kernel) ?_
    refine r_cv1I dX0_readTwo_3 cvX0_27 (by decide) (by first | assumption | exact hsh _ _ rfl) (Nat.le_of_ble_eq_true rfl) (Nat.le_of_eq (Nat.zero_add _)) (Nat.le_of_eq (Nat.zero_add _)) (w3) ?_
    refine j_istore_n dX0_readTwo_6 (by decide) ?_
    refine j_aload_n dX0_readTwo_7 rfl ?_
    refine j_ldcS dX0_readTwo_8 (t := 5) (by decide +kernel) ?_
    refine r_cv1I dX0_readTwo_10 cvX0_27 (by decide) (by first | assumption | exact hsh _ _ rfl) (Nat.le_of_ble_eq_true rfl) (Nat.le_of_eq (Nat.zero_add _)) (Nat.le_of_eq (Nat.zero_add _)) (w5) ?_
    refine j_istore_n dX0_readTwo_13 (by decide) ?_
    exact mid 1 0 (by omega)
  · rw [if_neg (wd_one (by decide) (by decide) (by decide) h)] at w3 w5
    refine j_aload_n dX0_readTwo_0 rfl ?_
    refine j_ldcS dX0_readTwo_1 (t := 3) (by decide +kernel) ?_
    refine r_cv1I dX0_readTwo_3 cvX0_27 (by decide) (by first | assumption | exact hsh _ _ rfl) (Nat.le_of_ble_eq_true rfl) (Nat.le_of_eq (Nat.zero_add _)) (Nat.le_of_eq (Nat.zero_add _)) (w3) ?_
    refine j_istore_n dX0_readTwo_6 (by decide) ?_
    refine j_aload_n dX0_readTwo_7 rfl ?_
    refine j_ldcS dX0_readTwo_8 (t := 5) (by decide +kernel) ?_
    refine r_cv1I dX0_readTwo_10 cvX0_27 (by decide) (by first | assumption | exact hsh _ _ rfl) (Nat.le_of_ble_eq_true rfl) (Nat.le_of_eq (Nat.zero_add _)) (Nat.le_of_eq (Nat.zero_add _)) (w5) ?_
    refine j_istore_n dX0_readTwo_13 (by decide) ?_
    exact mid 0 0 (by omega)
  · rw [if_pos h] at w5
    rw [if_neg (wd_one (by decide) (by decide) (by decide) h)] at w3
    refine j_aload_n dX0_readTwo_0 rfl ?_
    refine j_ldcS dX0_readTwo_1 (t := 3) (by decide +kernel) ?_
    refine r_cv1I dX0_readTwo_3 cvX0_27 (by decide) (by first | assumption | exact hsh _ _ rfl) (Nat.le_of_ble_eq_true rfl) (Nat.le_of_eq (Nat.zero_add _)) (Nat.le_of_eq (Nat.zero_add _)) (w3) ?_
    refine j_istore_n dX0_readTwo_6 (by decide) ?_
    refine j_aload_n dX0_readTwo_7 rfl ?_
    refine j_ldcS dX0_readTwo_8 (t := 5) (by decide +kernel) ?_
    refine r_cv1I dX0_readTwo_10 cvX0_27 (by decide) (by first | assumption | exact hsh _ _ rfl) (Nat.le_of_ble_eq_true rfl) (Nat.le_of_eq (Nat.zero_add _)) (Nat.le_of_eq (Nat.zero_add _)) (w5) ?_
    refine j_istore_n dX0_readTwo_13 (by decide) ?_
    exact mid 0 1 (by omega)
theorem figs {k : Nat} (hq : q ≤ n) (h : tkK B n q = 2) (hk : (k : Int) < tkE B n q - q) : 48 ≤ B (q + k) ∧ B (q + k) ≤ 57 := by
  have hK := tkK_in (B := B) (n := n) (q := q)
  rcases hK with c | ⟨c, c2 | c2 | c2⟩
  · omega
  · omega
  · have eE : tkE B n q = lx B n 48 57 q := by unfold tkE; rw [if_pos c, if_neg c2.2.1, if_pos c2.2.2]
    exact lx_all (B := B) (n := n) (lo := 48) (hi := 57) (n - q).toNat q (q + k) (by omega) (by omega) (by omega)
  · omega
theorem tkN_in (hq : q ≤ n) : q ≤ tkN B n q ∧ tkN B n q ≤ n := by
  have h1 := tkE_in (B := B) (n := n) (q := q) hq
  have h2 := lx_le (B := B) (n := n) (lo := 32) (hi := 32) (p := tkE B n q) h1.2.1
  show q ≤ lx B n 32 32 (tkE B n q) ∧ lx B n 32 32 (tkE B n q) ≤ n
  omega
theorem sb_readPerson (hsh : ShOK sh) (hfx : FxOK F) (h12 : StAt sh F 12) (hT : Tx I B n q) (hR : Rp I 12 w) : jS G (d + 6) mX0_readPerson [jR (some 154), jR (some 12)] (sh, I, F) 0 0 (rEI (bPer B n w q).1 sh F (bCl I B n (bPer B n w q))) := by
  obtain ⟨g0, g1, g2, g3, g4, g5, g6, g7, g8, g9, e1, e2, e3, e4, e5, e6, e7, e8, e9⟩ := id h12
  have gw := hR.2.1
  have r0 := hR.1
  refine jS_go [some (jR (some 154)), some (jR (some 12)), none, none, none, none] (by decide +kernel) rfl (by simp [jone]) (Nat.le_of_ble_eq_true rfl) rfl (fun hok => ?_)
  generalize hQ : rEI (bPer B n w q).1 sh F (bCl I B n (bPer B n w q)) = Q9
  by_cases c8 : 8 ≤ aPe w
  · have hb : bPer B n w q = (0, q, w) := by unfold bPer; rw [if_pos c8]
    rw [hb] at hQ
    refine j_aload_n dX0_readPerson_0 rfl ?_
    refine r_getIE dX0_readPerson_1 flX0_55 (by first | assumption | exact hsh _ _ rfl) r0 (fun b_1 => ?_)
    refine j_bipush dX0_readPerson_4 (by decide) ?_
    refine j_icmp_lt (tgt := 11) dX0_readPerson_6 rfl (by first | omega | (split <;> omega)) (by first | omega | (split <;> omega)) (fun c_6 => by exact absurd c_6 (by omega)) (fun c_6 => ?_)
    refine j_iconst dX0_readPerson_9 ?_
    refine j_zret dX0_readPerson_10 rfl (by omega) ?_
    rw [← hQ]
    exact rEI_of rfl ⟨hT, hR, ⟨fun _ _ _ => rfl, rfl⟩⟩
  obtain ⟨q1, hq1⟩ : ∃ x, tkN B n q = x := ⟨_, rfl⟩
  obtain ⟨q2, hq2⟩ : ∃ x, tkN B n q1 = x := ⟨_, rfl⟩
  obtain ⟨q3, hq3⟩ : ∃ x, tkN B n q2 = x := ⟨_, rfl⟩
  obtain ⟨q4, hq4⟩ : ∃ x, tkN B n q3 = x := ⟨_, rfl⟩
  obtain ⟨q5, hq5⟩ : ∃ x, tkN B n q4 = x := ⟨_, rfl⟩
  have hbP : bPer B n w q = if vWd B n q1 1 then (if vNm B n q2 5 1 99 then (if vWd B n q3 2 then (if vNm B n q4 7 0 9999999 ∧ tkE B n q4 - q4 = 7 then (1, q5, wPer B w (tV B n q2) q4) else (0, q4, w)) else (0, q3, w)) else (0, q2, w)) else (0, q1, w) := by
    unfold bPer
    rw [if_neg c8, hq1, hq2, hq3, hq4, hq5]
  have sn0 := st_next (G := G) (d := d + 4) (F := F) hsh hfx hT
  rw [hq1] at sn0
  by_cases h1 : vWd B n q1 1
  · rw [if_pos h1] at hbP
    have t1 := fun (J : Nat → Int → Int) (hJ : Tx J B n q1) => st_takesWord1 (G := G) (d := d) (F := F) hsh hfx hJ (t := 1) (by decide) h1
    rw [hq2] at t1
    have sN := fun (J : Nat → Int → Int) (hJ : Tx J B n q2) => st_isNumber (G := G) (d := d + 5) (F := F) hsh hJ (f := 5) (lo := 1) (hi := 99) (by decide) (by decide) (by decide)
    by_cases h2 : vNm B n q2 5 1 99
    · rw [if_pos h2] at hbP sN
      have bv := tV_in h2
      have v2 := fun (J : Nat → Int → Int) (hJ : Tx J B n q2) => Tx_v hJ (by decide) h2
      obtain ⟨be, hbe⟩ : ∃ x, tV B n q2 = x := ⟨_, rfl⟩
      rw [hbe] at bv v2 hbP
      have sn2 := fun (J : Nat → Int → Int) (hJ : Tx J B n q2) => st_next (G := G) (d := d + 4) (F := F) hsh hfx hJ
      rw [hq3] at sn2
      by_cases h3 : vWd B n q3 2
      · rw [if_pos h3] at hbP
        have t3 := fun (J : Nat → Int → Int) (hJ : Tx J B n q3) => st_takesWord1 (G := G) (d := d) (F := F) hsh hfx hJ (t := 2) (by decide) h3
        rw [hq4] at t3
        have sM := fun (J : Nat → Int → Int) (hJ : Tx J B n q4) => st_isNumber (G := G) (d := d + 5) (F := F) hsh hJ (f := 7) (lo := 0) (hi := 9999999) (by decide) (by decide) (by decide)
        by_cases h4 : vNm B n q4 7 0 9999999
        · rw [if_pos h4] at sM
          have h5J := fun (J : Nat → Int → Int) (hJ : Tx J B n q4) => hJ.2.2.2.2.1
          by_cases h5 : tkE B n q4 - q4 = 7
          · rw [if_pos ⟨h4, h5⟩] at hbP
            rw [hbP] at hQ
            rw [h5] at h5J
            have v4 := fun (J : Nat → Int → Int) (hJ : Tx J B n q4) => Tx_v hJ (by decide) h4
            have vin := tV_in h4
            have e7' : tV B n q4 = tkV B q4 7 := by show tkV B q4 (tkE B n q4 - q4).toNat = _; rw [h5]; rfl
            rw [e7'] at v4 vin
            obtain ⟨p, hp⟩ : ∃ p, aPe w = p := ⟨_, rfl⟩
            -- behind the pains
            have fin : ∀ (J0 J : Nat → Int → Int), Tx J0 B n q4 → Fr1 154 I J0 → (∀ k, 0 ≤ k → k < 7 → J 14 (p * 7 + k) = B (q4 + k) - 48) → (∀ k, k < p * 7 → J 14 k = J0 14 k) → (∀ a, a ≠ 14 → J a = J0 a) → ∀ x y, jW G mX0_readPerson (d + 6) Q9 128 [some (jR (some 154)), some (jR (some 12)), some (jI be), some (jI p), some (jI x), some (jI y)] [] (sh, J, F) 0 0 := by
              intro J0 J hT0 hf0 j1 j2 j3 x y
              have hR0 := Rp_154 hR hf0
              have a1 : jup (jup J (12 + 1) p be) (12 + 5) p (-1) 12 1 = mAlive w := by rw [jup_ne _ _ _ (by decide), jup_ne _ _ _ (by decide), j3 12 (by decide)]; exact hR0.2.2.2.2.1
              have a0 : jup (jup (jup J (12 + 1) p be) (12 + 5) p (-1)) 12 1 (jOr (mAlive w) (jShl 1 p)) 12 0 = p := by rw [jup_row _ _ _ (by decide), jup_ne _ _ _ (by decide), jup_ne _ _ _ (by decide), j3 12 (by decide), ← hp]; exact hR0.1
              obtain ⟨K, hK⟩ : ∃ K, K = jup (jup (jup (jup J (12 + 1) p be) (12 + 5) p (-1)) 12 1 (jOr (mAlive w) (jShl 1 p))) 12 0 (p + 1) := ⟨_, rfl⟩
              have kf : ∀ a, a ≠ 12 → a ≠ 13 → a ≠ 14 → a ≠ 17 → K a = J0 a := fun a x0 x1 x2 x3 => by rw [hK, jup_ne _ _ _ x0, jup_ne _ _ _ x0, jup_ne _ _ _ x3, jup_ne _ _ _ x1, j3 a x2]
              have k16 : K 12 16 = J0 12 16 := by rw [hK, jup_row _ _ _ (by decide), jup_row _ _ _ (by decide), jup_ne _ _ _ (by decide), jup_ne _ _ _ (by decide), j3 12 (by decide)]
              have k14 : K 14 = J 14 := by rw [hK, jup_ne _ _ _ (by decide), jup_ne _ _ _ (by decide), jup_ne _ _ _ (by decide), jup_ne _ _ _ (by decide)]
              have hRK : Rp K 12 (wPer B w be q4) := by
                refine Rp_per hR0 (by omega) ?_ ?_ (fun k x0 x1 => ?_) ?_ (fun k k0 k1 => ?_) (fun k k0 => ?_) ?_ ⟨?_, ?_, ?_, ?_⟩
                · rw [hK, jup_same, hp]
                · rw [hK, jup_row _ _ _ (by decide), jup_same, hp]
                · rw [hK, jup_row _ _ _ x0, jup_row _ _ _ x1, jup_ne _ _ _ (by decide), jup_ne _ _ _ (by decide), j3 12 (by decide)]
                · rw [hK, jup_ne _ _ _ (by decide), jup_ne _ _ _ (by decide), jup_ne _ _ _ (by decide), jup_at, j3 (12 + 1) (by decide), hp]
                · rw [k14, hp]; exact j1 k k0 k1
                · rw [k14]; rw [hp] at k0; exact j2 k k0
                · rw [hK, jup_ne _ _ _ (by decide), jup_ne _ _ _ (by decide), jup_at, jup_ne _ _ _ (by decide), j3 (12 + 5) (by decide), hp]
                · exact kf _ (by decide) (by decide) (by decide) (by decide)
                · exact kf _ (by decide) (by decide) (by decide) (by decide)
                · exact kf _ (by decide) (by decide) (by decide) (by decide)
                · exact kf _ (by decide) (by decide) (by decide) (by decide)
              have hTK : Tx K B n q4 := Tx_fr hT0 (kf _ (by decide) (by decide) (by decide) (by decide)) (kf _ (by decide) (by decide) (by decide) (by decide))
              have sn4 := st_next (G := G) (d := d + 4) (F := F) hsh hfx hTK
              rw [hq5] at sn4
              have hj := jOr_in (mAlive w) (jShl 1 p)
              refine j_aload_n dX0_readPerson_128 rfl ?_
              refine r_getS dX0_readPerson_129 flX0_86 (by first | assumption | exact hsh _ _ rfl) (by assumption) ?_
              refine j_iload_n dX0_readPerson_132 rfl ?_
              refine j_iload_n dX0_readPerson_133 rfl ?_
              refine r_iastore dX0_readPerson_134 (by first | assumption | exact hsh _ _ rfl) (by first | omega | (split <;> omega)) (by first | omega | (split <;> omega)) (by first | omega | (split <;> omega)) ?_
              refine j_aload_n dX0_readPerson_135 rfl ?_
              refine r_getS dX0_readPerson_136 flX0_88 (by first | assumption | exact hsh _ _ rfl) (by assumption) ?_
              refine j_iload_n dX0_readPerson_139 rfl ?_
              refine j_iconst dX0_readPerson_140 ?_
              refine r_iastore dX0_readPerson_141 (by first | assumption | exact hsh _ _ rfl) (by first | omega | (split <;> omega)) (by first | omega | (split <;> omega)) (by first | omega | (split <;> omega)) ?_
              refine j_aload_n dX0_readPerson_142 rfl ?_
              refine j_dup dX0_readPerson_143 trivial ?_
              refine r_getIE dX0_readPerson_144 flX0_90 (by first | assumption | exact hsh _ _ rfl) a1 (fun b_144 => ?_)
              refine j_iconst dX0_readPerson_147 ?_
              refine j_iload_n dX0_readPerson_148 rfl ?_
              refine r_ishl dX0_readPerson_149 (fun b_149 => ?_)
              refine r_ior dX0_readPerson_150 (fun b_150 => ?_)
              refine r_putI dX0_readPerson_151 flX0_90 rfl (by first | assumption | exact hsh _ _ rfl) (by first | omega | (split <;> omega)) (fun q => by cases q) ?_
              refine j_aload_n dX0_readPerson_154 rfl ?_
              refine j_dup dX0_readPerson_155 trivial ?_
              refine r_getIE dX0_readPerson_156 flX0_55 (by first | assumption | exact hsh _ _ rfl) a0 (fun b_156 => ?_)
              refine j_iconst dX0_readPerson_159 ?_
              refine j_iadd dX0_readPerson_160 ?_
              refine r_putI dX0_readPerson_161 flX0_55 rfl (by first | assumption | exact hsh _ _ rfl) (by first | omega | (split <;> omega)) (fun q => by cases q) ?_
              rw [← hK]
              refine j_aload_n dX0_readPerson_164 rfl ?_
              refine r_cv0EV dX0_readPerson_165 cvX0_61 (by decide) (by first | assumption | exact hsh _ _ rfl) (Nat.le_of_ble_eq_true rfl) (Nat.le_of_eq (Nat.zero_add _)) (Nat.le_of_eq (Nat.zero_add _)) (sn4) (fun L hL => ?_)
              refine j_iconst dX0_readPerson_168 ?_
              refine j_zret dX0_readPerson_169 rfl (by omega) ?_
              rw [← hQ]
              exact rEI_of rfl ⟨hL.1, Rp_154 hRK hL.2, ⟨fun a a0 a1 => by rw [hL.2 a a1, kf a (by omega) (by omega) (by omega) (by omega), hf0 a a1], by rw [hL.2 12 (by decide)]; rw [k16]; rw [hf0 12 (by decide)]⟩⟩
            have loop : ∀ (m : Nat), m ≤ 7 → ∀ (J0 J : Nat → Int → Int), Tx J0 B n q4 → Fr1 154 I J0 → (∀ k, (m : Int) ≤ k → k < 7 → J 14 (p * 7 + k) = B (q4 + k) - 48) → (∀ k, k < p * 7 → J 14 k = J0 14 k) → (∀ a, a ≠ 14 → J a = J0 a) → jW G mX0_readPerson (d + 6) Q9 93 [some (jR (some 154)), some (jR (some 12)), some (jI be), some (jI p), some (jI (tkV B q4 m)), some (jI ((m : Int) - 1))] [] (sh, J, F) 0 0 := by
              intro m
              induction m with
              | zero =>
                intro _ J0 J hT0 hf0 j1 j2 j3
                refine j_iload dX0_readPerson_93 rfl ?_
                refine j_if_lt (tgt := 128) dX0_readPerson_95 rfl (by first | omega | (split <;> omega)) (fun c_95 => ?_) (fun c_95 => by exact absurd (by decide) c_95)
                exact fin J0 J hT0 hf0 (fun k k0 k1 => j1 k k0 k1) j2 j3 _ _
              | succ m ih =>
                intro hm J0 J hT0 hf0 j1 j2 j3
                have hd := figs (k := m) hT0.2.2.2.2.2.2.2.1.2 h4.1 (by omega)
                have hv := tkV_in (B := B) (q := q4) m (by omega) (fun i i0 i1 => by
                  obtain ⟨u, rfl⟩ := Int.eq_ofNat_of_zero_le i0
                  exact figs hT0.2.2.2.2.2.2.2.1.2 h4.1 (by omega))
                have es : tkV B q4 (m + 1) = tkV B q4 m * 10 + B (q4 + m) - 48 := rfl
                have em : tkV B q4 (m + 1) % 10 = B (q4 + m) - 48 := by omega
                have ed : tkV B q4 (m + 1) / 10 = tkV B q4 m := by omega
                have hv2 := tkV_in (B := B) (q := q4) (m + 1) (by omega) (fun i i0 i1 => by
                  obtain ⟨u, rfl⟩ := Int.eq_ofNat_of_zero_le i0
                  exact figs hT0.2.2.2.2.2.2.2.1.2 h4.1 (by omega))
                obtain ⟨V, hV⟩ : ∃ V, tkV B q4 (m + 1) = V := ⟨_, rfl⟩
                rw [hV] at em ed hv2 ⊢
                have ih2 := ih (by omega) J0 (jup J (12 + 2) (p * 7 + (((m + 1 : Nat) : Int) - 1)) (B (q4 + m) - 48)) hT0 hf0 (fun k k0 k1 => by
                  by_cases e : k = m
                  · subst e; rw [show p * 7 + (((m + 1 : Nat) : Int) - 1) = p * 7 + m by omega]; exact jup_same _ _ _ _
                  · rw [jup_row _ _ _ (by omega)]; exact j1 k (by omega) k1) (fun k k0 => by rw [jup_row _ _ _ (by omega)]; exact j2 k k0) (fun a ha => by rw [jup_ne _ _ _ ha]; exact j3 a ha)
                refine j_iload dX0_readPerson_93 rfl ?_
                refine j_if_lt (tgt := 128) dX0_readPerson_95 rfl (by first | omega | (split <;> omega)) (fun c_95 => by exact absurd c_95 (by omega)) (fun c_95 => ?_)
                refine j_aload_n dX0_readPerson_98 rfl ?_
                refine r_getS dX0_readPerson_99 flX0_82 (by first | assumption | exact hsh _ _ rfl) (by assumption) ?_
                refine j_iload_n dX0_readPerson_102 rfl ?_
                refine j_bipush dX0_readPerson_103 (by decide) ?_
                refine j_imul dX0_readPerson_105 ?_
                refine j_iload dX0_readPerson_106 rfl ?_
                refine j_iadd dX0_readPerson_108 ?_
                refine j_iload dX0_readPerson_109 rfl ?_
                refine j_bipush dX0_readPerson_111 (by decide) ?_
                refine r_iremN dX0_readPerson_113 (by first | omega | (split <;> omega)) (by first | omega | (split <;> omega)) ?_
                rw [em]
                refine r_iastore dX0_readPerson_114 (by first | assumption | exact hsh _ _ rfl) (by first | omega | (split <;> omega)) (by first | omega | (split <;> omega)) (by first | omega | (split <;> omega)) ?_
                refine j_iload dX0_readPerson_115 rfl ?_
                refine j_bipush dX0_readPerson_117 (by decide) ?_
                refine r_idivN dX0_readPerson_119 (by first | omega | (split <;> omega)) (by first | omega | (split <;> omega)) ?_
                rw [ed]
                refine j_istore dX0_readPerson_120 (by decide) ?_
                refine j_iinc dX0_readPerson_122 rfl (by decide) ?_
                refine j_goto (tgt := 93) dX0_readPerson_125 rfl ?_
                rw [show ((m + 1 : Nat) : Int) - 1 + -1 = (m : Int) - 1 by omega]
                exact ih2
            refine j_aload_n dX0_readPerson_0 rfl ?_
            refine r_getIE dX0_readPerson_1 flX0_55 (by first | assumption | exact hsh _ _ rfl) r0 (fun b_1 => ?_)
            refine j_bipush dX0_readPerson_4 (by decide) ?_
            refine j_icmp_lt (tgt := 11) dX0_readPerson_6 rfl (by first | omega | (split <;> omega)) (by first | omega | (split <;> omega)) (fun c_6 => ?_) (fun c_6 => by exact absurd (by omega) c_6)
            refine j_aload_n dX0_readPerson_11 rfl ?_
            refine r_cv0EV dX0_readPerson_12 cvX0_61 (by decide) (by first | assumption | exact hsh _ _ rfl) (Nat.le_of_ble_eq_true rfl) (Nat.le_of_eq (Nat.zero_add _)) (Nat.le_of_eq (Nat.zero_add _)) (sn0) (fun J hJ => ?_)
            refine j_aload_n dX0_readPerson_15 rfl ?_
            refine j_ldcS dX0_readPerson_16 (t := 1) (by decide +kernel) ?_
            refine r_cv1EI dX0_readPerson_18 cvX0_66 (by decide) (by first | assumption | exact hsh _ _ rfl) (Nat.le_of_ble_eq_true rfl) (Nat.le_of_eq (Nat.zero_add _)) (Nat.le_of_eq (Nat.zero_add _)) (t1 J hJ.1) (fun K hK => ?_)
            refine j_if_eq (tgt := 35) dX0_readPerson_21 rfl (by first | omega | (split <;> omega)) (fun c_21 => by exact absurd c_21 (by decide)) (fun c_21 => ?_)
            refine j_aload_n dX0_readPerson_24 rfl ?_
            refine j_iconst dX0_readPerson_25 ?_
            refine j_iconst dX0_readPerson_26 ?_
            refine j_bipush dX0_readPerson_27 (by decide) ?_
            refine r_cv3I dX0_readPerson_29 cvX0_69 (by decide) (by first | assumption | exact hsh _ _ rfl) (Nat.le_of_ble_eq_true rfl) (Nat.le_of_eq (Nat.zero_add _)) (Nat.le_of_eq (Nat.zero_add _)) (sN K hK.1) ?_
            refine j_if_ne (tgt := 37) dX0_readPerson_32 rfl (by first | omega | (split <;> omega)) (fun c_32 => ?_) (fun c_32 => by exact absurd c_32 (by decide))
            refine j_aload_n dX0_readPerson_37 rfl ?_
            refine r_getIE dX0_readPerson_38 flX0_73 (by first | assumption | exact hsh _ _ rfl) (v2 K hK.1) (fun b_38 => ?_)
            refine j_istore_n dX0_readPerson_41 (by decide) ?_
            refine j_aload_n dX0_readPerson_42 rfl ?_
            refine r_cv0EV dX0_readPerson_43 cvX0_61 (by decide) (by first | assumption | exact hsh _ _ rfl) (Nat.le_of_ble_eq_true rfl) (Nat.le_of_eq (Nat.zero_add _)) (Nat.le_of_eq (Nat.zero_add _)) (sn2 K hK.1) (fun L hL => ?_)
            refine j_aload_n dX0_readPerson_46 rfl ?_
            refine j_ldcS dX0_readPerson_47 (t := 2) (by decide +kernel) ?_
            refine r_cv1EI dX0_readPerson_49 cvX0_66 (by decide) (by first | assumption | exact hsh _ _ rfl) (Nat.le_of_ble_eq_true rfl) (Nat.le_of_eq (Nat.zero_add _)) (Nat.le_of_eq (Nat.zero_add _)) (t3 L hL.1) (fun N hN => ?_)
            have hfN : Fr1 154 I N := fun a ha => by rw [hN.2 a ha, hL.2 a ha, hK.2 a ha, hJ.2 a ha]
            have rN : N 12 0 = p := by rw [hfN 12 (by decide), ← hp]; exact r0
            refine j_if_eq (tgt := 76) dX0_readPerson_52 rfl (by first | omega | (split <;> omega)) (fun c_52 => by exact absurd c_52 (by decide)) (fun c_52 => ?_)
            refine j_aload_n dX0_readPerson_55 rfl ?_
            refine j_bipush dX0_readPerson_56 (by decide) ?_
            refine j_iconst dX0_readPerson_58 ?_
            refine j_ldc (n := 9999999) dX0_readPerson_59 kcX0_78 ?_
            refine r_cv3I dX0_readPerson_61 cvX0_69 (by decide) (by first | assumption | exact hsh _ _ rfl) (Nat.le_of_ble_eq_true rfl) (Nat.le_of_eq (Nat.zero_add _)) (Nat.le_of_eq (Nat.zero_add _)) (sM N hN.1) ?_
            refine j_if_eq (tgt := 76) dX0_readPerson_64 rfl (by first | omega | (split <;> omega)) (fun c_64 => by exact absurd c_64 (by decide)) (fun c_64 => ?_)
            refine j_aload_n dX0_readPerson_67 rfl ?_
            refine r_getIE dX0_readPerson_68 flX0_79 (by first | assumption | exact hsh _ _ rfl) (h5J N hN.1) (fun b_68 => ?_)
            refine j_bipush dX0_readPerson_71 (by decide) ?_
            refine j_icmp_eq (tgt := 78) dX0_readPerson_73 rfl (by first | omega | (split <;> omega)) (by first | omega | (split <;> omega)) (fun c_73 => ?_) (fun c_73 => by exact absurd rfl c_73)
            refine j_aload_n dX0_readPerson_78 rfl ?_
            refine r_getIE dX0_readPerson_79 flX0_55 (by first | assumption | exact hsh _ _ rfl) rN (fun b_79 => ?_)
            refine j_istore_n dX0_readPerson_82 (by decide) ?_
            refine j_aload_n dX0_readPerson_83 rfl ?_
            refine r_getIE dX0_readPerson_84 flX0_73 (by first | assumption | exact hsh _ _ rfl) (v4 N hN.1) (fun b_84 => ?_)
            refine j_istore dX0_readPerson_87 (by decide) ?_
            refine j_bipush dX0_readPerson_89 (by decide) ?_
            refine j_istore dX0_readPerson_91 (by decide) ?_
            exact loop 7 (Nat.le_refl _) N N hN.1 hfN (fun k k0 k1 => by omega) (fun _ _ => rfl) (fun _ _ => rfl)
          · rw [if_neg (fun x => h5 x.2)] at hbP
            rw [hbP] at hQ
            have hE := fun (J : Nat → Int → Int) (hJ : Tx J B n q4) => tkE_in (B := B) (n := n) (q := q4) hJ.2.2.2.2.2.2.2.1.2
            refine j_aload_n dX0_readPerson_0 rfl ?_
            refine r_getIE dX0_readPerson_1 flX0_55 (by first | assumption | exact hsh _ _ rfl) r0 (fun b_1 => ?_)
            refine j_bipush dX0_readPerson_4 (by decide) ?_
            refine j_icmp_lt (tgt := 11) dX0_readPerson_6 rfl (by first | omega | (split <;> omega)) (by first | omega | (split <;> omega)) (fun c_6 => ?_) (fun c_6 => by exact absurd (by omega) c_6)
            refine j_aload_n dX0_readPerson_11 rfl ?_
            refine r_cv0EV dX0_readPerson_12 cvX0_61 (by decide) (by first | assumption | exact hsh _ _ rfl) (Nat.le_of_ble_eq_true rfl) (Nat.le_of_eq (Nat.zero_add _)) (Nat.le_of_eq (Nat.zero_add _)) (sn0) (fun J hJ => ?_)
            refine j_aload_n dX0_readPerson_15 rfl ?_
            refine j_ldcS dX0_readPerson_16 (t := 1) (by decide +kernel) ?_
            refine r_cv1EI dX0_readPerson_18 cvX0_66 (by decide) (by first | assumption | exact hsh _ _ rfl) (Nat.le_of_ble_eq_true rfl) (Nat.le_of_eq (Nat.zero_add _)) (Nat.le_of_eq (Nat.zero_add _)) (t1 J hJ.1) (fun K hK => ?_)
            refine j_if_eq (tgt := 35) dX0_readPerson_21 rfl (by first | omega | (split <;> omega)) (fun c_21 => by exact absurd c_21 (by decide)) (fun c_21 => ?_)
            refine j_aload_n dX0_readPerson_24 rfl ?_
            refine j_iconst dX0_readPerson_25 ?_
            refine j_iconst dX0_readPerson_26 ?_
            refine j_bipush dX0_readPerson_27 (by decide) ?_
            refine r_cv3I dX0_readPerson_29 cvX0_69 (by decide) (by first | assumption | exact hsh _ _ rfl) (Nat.le_of_ble_eq_true rfl) (Nat.le_of_eq (Nat.zero_add _)) (Nat.le_of_eq (Nat.zero_add _)) (sN K hK.1) ?_
            refine j_if_ne (tgt := 37) dX0_readPerson_32 rfl (by first | omega | (split <;> omega)) (fun c_32 => ?_) (fun c_32 => by exact absurd c_32 (by decide))
            refine j_aload_n dX0_readPerson_37 rfl ?_
            refine r_getIE dX0_readPerson_38 flX0_73 (by first | assumption | exact hsh _ _ rfl) (v2 K hK.1) (fun b_38 => ?_)
            refine j_istore_n dX0_readPerson_41 (by decide) ?_
            refine j_aload_n dX0_readPerson_42 rfl ?_
            refine r_cv0EV dX0_readPerson_43 cvX0_61 (by decide) (by first | assumption | exact hsh _ _ rfl) (Nat.le_of_ble_eq_true rfl) (Nat.le_of_eq (Nat.zero_add _)) (Nat.le_of_eq (Nat.zero_add _)) (sn2 K hK.1) (fun L hL => ?_)
            refine j_aload_n dX0_readPerson_46 rfl ?_
            refine j_ldcS dX0_readPerson_47 (t := 2) (by decide +kernel) ?_
            refine r_cv1EI dX0_readPerson_49 cvX0_66 (by decide) (by first | assumption | exact hsh _ _ rfl) (Nat.le_of_ble_eq_true rfl) (Nat.le_of_eq (Nat.zero_add _)) (Nat.le_of_eq (Nat.zero_add _)) (t3 L hL.1) (fun N hN => ?_)
            have hfN : Fr1 154 I N := fun a ha => by rw [hN.2 a ha, hL.2 a ha, hK.2 a ha, hJ.2 a ha]
            have hE2 := hE N hN.1
            have hn4 := hN.1.2.2.2.2.2.2.2
            refine j_if_eq (tgt := 76) dX0_readPerson_52 rfl (by first | omega | (split <;> omega)) (fun c_52 => by exact absurd c_52 (by decide)) (fun c_52 => ?_)
            refine j_aload_n dX0_readPerson_55 rfl ?_
            refine j_bipush dX0_readPerson_56 (by decide) ?_
            refine j_iconst dX0_readPerson_58 ?_
            refine j_ldc (n := 9999999) dX0_readPerson_59 kcX0_78 ?_
            refine r_cv3I dX0_readPerson_61 cvX0_69 (by decide) (by first | assumption | exact hsh _ _ rfl) (Nat.le_of_ble_eq_true rfl) (Nat.le_of_eq (Nat.zero_add _)) (Nat.le_of_eq (Nat.zero_add _)) (sM N hN.1) ?_
            refine j_if_eq (tgt := 76) dX0_readPerson_64 rfl (by first | omega | (split <;> omega)) (fun c_64 => by exact absurd c_64 (by decide)) (fun c_64 => ?_)
            refine j_aload_n dX0_readPerson_67 rfl ?_
            refine r_getIE dX0_readPerson_68 flX0_79 (by first | assumption | exact hsh _ _ rfl) (h5J N hN.1) (fun b_68 => ?_)
            refine j_bipush dX0_readPerson_71 (by decide) ?_
            refine j_icmp_eq (tgt := 78) dX0_readPerson_73 rfl (by first | omega | (split <;> omega)) (by first | omega | (split <;> omega)) (fun c_73 => by exact absurd c_73 h5) (fun c_73 => ?_)
            refine j_iconst dX0_readPerson_76 ?_
            refine j_zret dX0_readPerson_77 rfl (by omega) ?_
            rw [← hQ]
            exact rEI_of rfl ⟨hN.1, Rp_154 hR hfN, FrB_154 hfN⟩
        · rw [if_neg h4] at sM
          rw [if_neg (fun x => h4 x.1)] at hbP
          rw [hbP] at hQ
          refine j_aload_n dX0_readPerson_0 rfl ?_
          refine r_getIE dX0_readPerson_1 flX0_55 (by first | assumption | exact hsh _ _ rfl) r0 (fun b_1 => ?_)
          refine j_bipush dX0_readPerson_4 (by decide) ?_
          refine j_icmp_lt (tgt := 11) dX0_readPerson_6 rfl (by first | omega | (split <;> omega)) (by first | omega | (split <;> omega)) (fun c_6 => ?_) (fun c_6 => by exact absurd (by omega) c_6)
          refine j_aload_n dX0_readPerson_11 rfl ?_
          refine r_cv0EV dX0_readPerson_12 cvX0_61 (by decide) (by first | assumption | exact hsh _ _ rfl) (Nat.le_of_ble_eq_true rfl) (Nat.le_of_eq (Nat.zero_add _)) (Nat.le_of_eq (Nat.zero_add _)) (sn0) (fun J hJ => ?_)
          refine j_aload_n dX0_readPerson_15 rfl ?_
          refine j_ldcS dX0_readPerson_16 (t := 1) (by decide +kernel) ?_
          refine r_cv1EI dX0_readPerson_18 cvX0_66 (by decide) (by first | assumption | exact hsh _ _ rfl) (Nat.le_of_ble_eq_true rfl) (Nat.le_of_eq (Nat.zero_add _)) (Nat.le_of_eq (Nat.zero_add _)) (t1 J hJ.1) (fun K hK => ?_)
          refine j_if_eq (tgt := 35) dX0_readPerson_21 rfl (by first | omega | (split <;> omega)) (fun c_21 => by exact absurd c_21 (by decide)) (fun c_21 => ?_)
          refine j_aload_n dX0_readPerson_24 rfl ?_
          refine j_iconst dX0_readPerson_25 ?_
          refine j_iconst dX0_readPerson_26 ?_
          refine j_bipush dX0_readPerson_27 (by decide) ?_
          refine r_cv3I dX0_readPerson_29 cvX0_69 (by decide) (by first | assumption | exact hsh _ _ rfl) (Nat.le_of_ble_eq_true rfl) (Nat.le_of_eq (Nat.zero_add _)) (Nat.le_of_eq (Nat.zero_add _)) (sN K hK.1) ?_
          refine j_if_ne (tgt := 37) dX0_readPerson_32 rfl (by first | omega | (split <;> omega)) (fun c_32 => ?_) (fun c_32 => by exact absurd c_32 (by decide))
          refine j_aload_n dX0_readPerson_37 rfl ?_
          refine r_getIE dX0_readPerson_38 flX0_73 (by first | assumption | exact hsh _ _ rfl) (v2 K hK.1) (fun b_38 => ?_)
          refine j_istore_n dX0_readPerson_41 (by decide) ?_
          refine j_aload_n dX0_readPerson_42 rfl ?_
          refine r_cv0EV dX0_readPerson_43 cvX0_61 (by decide) (by first | assumption | exact hsh _ _ rfl) (Nat.le_of_ble_eq_true rfl) (Nat.le_of_eq (Nat.zero_add _)) (Nat.le_of_eq (Nat.zero_add _)) (sn2 K hK.1) (fun L hL => ?_)
          refine j_aload_n dX0_readPerson_46 rfl ?_
          refine j_ldcS dX0_readPerson_47 (t := 2) (by decide +kernel) ?_
          refine r_cv1EI dX0_readPerson_49 cvX0_66 (by decide) (by first | assumption | exact hsh _ _ rfl) (Nat.le_of_ble_eq_true rfl) (Nat.le_of_eq (Nat.zero_add _)) (Nat.le_of_eq (Nat.zero_add _)) (t3 L hL.1) (fun N hN => ?_)
          have hfN : Fr1 154 I N := fun a ha => by rw [hN.2 a ha, hL.2 a ha, hK.2 a ha, hJ.2 a ha]
          refine j_if_eq (tgt := 76) dX0_readPerson_52 rfl (by first | omega | (split <;> omega)) (fun c_52 => by exact absurd c_52 (by decide)) (fun c_52 => ?_)
          refine j_aload_n dX0_readPerson_55 rfl ?_
          refine j_bipush dX0_readPerson_56 (by decide) ?_
          refine j_iconst dX0_readPerson_58 ?_
          refine j_ldc (n := 9999999) dX0_readPerson_59 kcX0_78 ?_
          refine r_cv3I dX0_readPerson_61 cvX0_69 (by decide) (by first | assumption | exact hsh _ _ rfl) (Nat.le_of_ble_eq_true rfl) (Nat.le_of_eq (Nat.zero_add _)) (Nat.le_of_eq (Nat.zero_add _)) (sM N hN.1) ?_
          refine j_if_eq (tgt := 76) dX0_readPerson_64 rfl (by first | omega | (split <;> omega)) (fun c_64 => ?_) (fun c_64 => by exact absurd c_64 (by decide))
          refine j_iconst dX0_readPerson_76 ?_
          refine j_zret dX0_readPerson_77 rfl (by omega) ?_
          rw [← hQ]
          exact rEI_of rfl ⟨hN.1, Rp_154 hR hfN, FrB_154 hfN⟩
      · rw [if_neg h3] at hbP
        rw [hbP] at hQ
        have t3 := fun (J : Nat → Int → Int) (hJ : Tx J B n q3) => st_takesWord0 (G := G) (d := d) (F := F) hsh hfx hJ (t := 2) (by decide) h3
        refine j_aload_n dX0_readPerson_0 rfl ?_
        refine r_getIE dX0_readPerson_1 flX0_55 (by first | assumption | exact hsh _ _ rfl) r0 (fun b_1 => ?_)
        refine j_bipush dX0_readPerson_4 (by decide) ?_
        refine j_icmp_lt (tgt := 11) dX0_readPerson_6 rfl (by first | omega | (split <;> omega)) (by first | omega | (split <;> omega)) (fun c_6 => ?_) (fun c_6 => by exact absurd (by omega) c_6)
        refine j_aload_n dX0_readPerson_11 rfl ?_
        refine r_cv0EV dX0_readPerson_12 cvX0_61 (by decide) (by first | assumption | exact hsh _ _ rfl) (Nat.le_of_ble_eq_true rfl) (Nat.le_of_eq (Nat.zero_add _)) (Nat.le_of_eq (Nat.zero_add _)) (sn0) (fun J hJ => ?_)
        refine j_aload_n dX0_readPerson_15 rfl ?_
        refine j_ldcS dX0_readPerson_16 (t := 1) (by decide +kernel) ?_
        refine r_cv1EI dX0_readPerson_18 cvX0_66 (by decide) (by first | assumption | exact hsh _ _ rfl) (Nat.le_of_ble_eq_true rfl) (Nat.le_of_eq (Nat.zero_add _)) (Nat.le_of_eq (Nat.zero_add _)) (t1 J hJ.1) (fun K hK => ?_)
        refine j_if_eq (tgt := 35) dX0_readPerson_21 rfl (by first | omega | (split <;> omega)) (fun c_21 => by exact absurd c_21 (by decide)) (fun c_21 => ?_)
        refine j_aload_n dX0_readPerson_24 rfl ?_
        refine j_iconst dX0_readPerson_25 ?_
        refine j_iconst dX0_readPerson_26 ?_
        refine j_bipush dX0_readPerson_27 (by decide) ?_
        refine r_cv3I dX0_readPerson_29 cvX0_69 (by decide) (by first | assumption | exact hsh _ _ rfl) (Nat.le_of_ble_eq_true rfl) (Nat.le_of_eq (Nat.zero_add _)) (Nat.le_of_eq (Nat.zero_add _)) (sN K hK.1) ?_
        refine j_if_ne (tgt := 37) dX0_readPerson_32 rfl (by first | omega | (split <;> omega)) (fun c_32 => ?_) (fun c_32 => by exact absurd c_32 (by decide))
        refine j_aload_n dX0_readPerson_37 rfl ?_
        refine r_getIE dX0_readPerson_38 flX0_73 (by first | assumption | exact hsh _ _ rfl) (v2 K hK.1) (fun b_38 => ?_)
        refine j_istore_n dX0_readPerson_41 (by decide) ?_
        refine j_aload_n dX0_readPerson_42 rfl ?_
        refine r_cv0EV dX0_readPerson_43 cvX0_61 (by decide) (by first | assumption | exact hsh _ _ rfl) (Nat.le_of_ble_eq_true rfl) (Nat.le_of_eq (Nat.zero_add _)) (Nat.le_of_eq (Nat.zero_add _)) (sn2 K hK.1) (fun L hL => ?_)
        have hfN : Fr1 154 I L := fun a ha => by rw [hL.2 a ha, hK.2 a ha, hJ.2 a ha]
        refine j_aload_n dX0_readPerson_46 rfl ?_
        refine j_ldcS dX0_readPerson_47 (t := 2) (by decide +kernel) ?_
        refine r_cv1I dX0_readPerson_49 cvX0_66 (by decide) (by first | assumption | exact hsh _ _ rfl) (Nat.le_of_ble_eq_true rfl) (Nat.le_of_eq (Nat.zero_add _)) (Nat.le_of_eq (Nat.zero_add _)) (t3 L hL.1) ?_
        refine j_if_eq (tgt := 76) dX0_readPerson_52 rfl (by first | omega | (split <;> omega)) (fun c_52 => ?_) (fun c_52 => by exact absurd c_52 (by decide))
        refine j_iconst dX0_readPerson_76 ?_
        refine j_zret dX0_readPerson_77 rfl (by omega) ?_
        rw [← hQ]
        exact rEI_of rfl ⟨hL.1, Rp_154 hR hfN, FrB_154 hfN⟩
    · rw [if_neg h2] at hbP sN
      rw [hbP] at hQ
      refine j_aload_n dX0_readPerson_0 rfl ?_
      refine r_getIE dX0_readPerson_1 flX0_55 (by first | assumption | exact hsh _ _ rfl) r0 (fun b_1 => ?_)
      refine j_bipush dX0_readPerson_4 (by decide) ?_
      refine j_icmp_lt (tgt := 11) dX0_readPerson_6 rfl (by first | omega | (split <;> omega)) (by first | omega | (split <;> omega)) (fun c_6 => ?_) (fun c_6 => by exact absurd (by omega) c_6)
      refine j_aload_n dX0_readPerson_11 rfl ?_
      refine r_cv0EV dX0_readPerson_12 cvX0_61 (by decide) (by first | assumption | exact hsh _ _ rfl) (Nat.le_of_ble_eq_true rfl) (Nat.le_of_eq (Nat.zero_add _)) (Nat.le_of_eq (Nat.zero_add _)) (sn0) (fun J hJ => ?_)
      refine j_aload_n dX0_readPerson_15 rfl ?_
      refine j_ldcS dX0_readPerson_16 (t := 1) (by decide +kernel) ?_
      refine r_cv1EI dX0_readPerson_18 cvX0_66 (by decide) (by first | assumption | exact hsh _ _ rfl) (Nat.le_of_ble_eq_true rfl) (Nat.le_of_eq (Nat.zero_add _)) (Nat.le_of_eq (Nat.zero_add _)) (t1 J hJ.1) (fun K hK => ?_)
      have hfN : Fr1 154 I K := fun a ha => by rw [hK.2 a ha, hJ.2 a ha]
      refine j_if_eq (tgt := 35) dX0_readPerson_21 rfl (by first | omega | (split <;> omega)) (fun c_21 => by exact absurd c_21 (by decide)) (fun c_21 => ?_)
      refine j_aload_n dX0_readPerson_24 rfl ?_
      refine j_iconst dX0_readPerson_25 ?_
      refine j_iconst dX0_readPerson_26 ?_
      refine j_bipush dX0_readPerson_27 (by decide) ?_
      refine r_cv3I dX0_readPerson_29 cvX0_69 (by decide) (by first | assumption | exact hsh _ _ rfl) (Nat.le_of_ble_eq_true rfl) (Nat.le_of_eq (Nat.zero_add _)) (Nat.le_of_eq (Nat.zero_add _)) (sN K hK.1) ?_
      refine j_if_ne (tgt := 37) dX0_readPerson_32 rfl (by first | omega | (split <;> omega)) (fun c_32 => by exact absurd c_32 (by decide)) (fun c_32 => ?_)
      refine j_iconst dX0_readPerson_35 ?_
      refine j_zret dX0_readPerson_36 rfl (by omega) ?_
      rw [← hQ]
      exact rEI_of rfl ⟨hK.1, Rp_154 hR hfN, FrB_154 hfN⟩
  · rw [if_neg h1] at hbP
    rw [hbP] at hQ
    have t1 := fun (J : Nat → Int → Int) (hJ : Tx J B n q1) => st_takesWord0 (G := G) (d := d) (F := F) hsh hfx hJ (t := 1) (by decide) h1
    refine j_aload_n dX0_readPerson_0 rfl ?_
    refine r_getIE dX0_readPerson_1 flX0_55 (by first | assumption | exact hsh _ _ rfl) r0 (fun b_1 => ?_)
    refine j_bipush dX0_readPerson_4 (by decide) ?_
    refine j_icmp_lt (tgt := 11) dX0_readPerson_6 rfl (by first | omega | (split <;> omega)) (by first | omega | (split <;> omega)) (fun c_6 => ?_) (fun c_6 => by exact absurd (by omega) c_6)
    refine j_aload_n dX0_readPerson_11 rfl ?_
    refine r_cv0EV dX0_readPerson_12 cvX0_61 (by decide) (by first | assumption | exact hsh _ _ rfl) (Nat.le_of_ble_eq_true rfl) (Nat.le_of_eq (Nat.zero_add _)) (Nat.le_of_eq (Nat.zero_add _)) (sn0) (fun J hJ => ?_)
    refine j_aload_n dX0_readPerson_15 rfl ?_
    refine j_ldcS dX0_readPerson_16 (t := 1) (by decide +kernel) ?_
    refine r_cv1I dX0_readPerson_18 cvX0_66 (by decide) (by first | assumption | exact hsh _ _ rfl) (Nat.le_of_ble_eq_true rfl) (Nat.le_of_eq (Nat.zero_add _)) (Nat.le_of_eq (Nat.zero_add _)) (t1 J hJ.1) ?_
    refine j_if_eq (tgt := 35) dX0_readPerson_21 rfl (by first | omega | (split <;> omega)) (fun c_21 => ?_) (fun c_21 => by exact absurd c_21 (by decide))
    refine j_iconst dX0_readPerson_35 ?_
    refine j_zret dX0_readPerson_36 rfl (by omega) ?_
    rw [← hQ]
    exact rEI_of rfl ⟨hJ.1, Rp_154 hR hJ.2, FrB_154 hJ.2⟩
/-- a line -/
def bLine (B : Int → Int) (n : Int) (w : Int → Int) (q : Int) : bR :=
  if vWd B n q 0 then bPer B n w q else if vWd B n q 6 then bOne B n w q 1 else if vWd B n q 3 then bTwo B n w q 4 else if vWd B n q 4 then bTwo B n w q 5 else if vWd B n q 5 then bTwo B n w q 0 else
  if vWd B n q 7 then bOne B n w q 2 else if vWd B n q 8 then bOne B n w q 3 else
  if vWd B n q 9 then bSet B n w q 4 else if vWd B n q 10 then bSet B n w q 5 else if vWd B n q 11 then bSet B n w q 6 else if vWd B n q 12 then bSet B n w q 7 else (0, q, w)
/-- which word a line begins with -/
theorem bLine_c (B : Int → Int) (n : Int) (w : Int → Int) (q : Int) : (vWd B n q 0 ∧ bLine B n w q = bPer B n w q) ∨
  (∃ c, ((c = 1 ∧ vWd B n q 6) ∨ (c = 2 ∧ vWd B n q 7) ∨ (c = 3 ∧ vWd B n q 8)) ∧ bLine B n w q = bOne B n w q c) ∨
  (∃ c, ((c = 4 ∧ vWd B n q 3) ∨ (c = 5 ∧ vWd B n q 4) ∨ (c = 0 ∧ vWd B n q 5)) ∧ bLine B n w q = bTwo B n w q c) ∨
  (∃ c, ((c = 4 ∧ vWd B n q 9) ∨ (c = 5 ∧ vWd B n q 10) ∨ (c = 6 ∧ vWd B n q 11) ∨ (c = 7 ∧ vWd B n q 12)) ∧ bLine B n w q = bSet B n w q c) ∨
  ((∀ t : Nat, t < 13 → t ≠ 1 → t ≠ 2 → ¬ vWd B n q t) ∧ bLine B n w q = (0, q, w)) := by
  by_cases h0 : vWd B n q 0
  · exact Or.inl ⟨h0, if_pos h0⟩
  by_cases h6 : vWd B n q 6
  · exact Or.inr (Or.inl ⟨1, Or.inl ⟨rfl, h6⟩, by unfold bLine; rw [if_neg h0, if_pos h6]⟩)
  by_cases h3 : vWd B n q 3
  · exact Or.inr (Or.inr (Or.inl ⟨4, Or.inl ⟨rfl, h3⟩, by unfold bLine; rw [if_neg h0, if_neg h6, if_pos h3]⟩))
  by_cases h4 : vWd B n q 4
  · exact Or.inr (Or.inr (Or.inl ⟨5, Or.inr (Or.inl ⟨rfl, h4⟩), by unfold bLine; rw [if_neg h0, if_neg h6, if_neg h3, if_pos h4]⟩))
  by_cases h5 : vWd B n q 5
  · exact Or.inr (Or.inr (Or.inl ⟨0, Or.inr (Or.inr ⟨rfl, h5⟩), by unfold bLine; rw [if_neg h0, if_neg h6, if_neg h3, if_neg h4, if_pos h5]⟩))
  by_cases h7 : vWd B n q 7
  · exact Or.inr (Or.inl ⟨2, Or.inr (Or.inl ⟨rfl, h7⟩), by unfold bLine; rw [if_neg h0, if_neg h6, if_neg h3, if_neg h4, if_neg h5, if_pos h7]⟩)
  by_cases h8 : vWd B n q 8
  · exact Or.inr (Or.inl ⟨3, Or.inr (Or.inr ⟨rfl, h8⟩), by unfold bLine; rw [if_neg h0, if_neg h6, if_neg h3, if_neg h4, if_neg h5, if_neg h7, if_pos h8]⟩)
  by_cases h9 : vWd B n q 9
  · exact Or.inr (Or.inr (Or.inr (Or.inl ⟨4, Or.inl ⟨rfl, h9⟩, by unfold bLine; rw [if_neg h0, if_neg h6, if_neg h3, if_neg h4, if_neg h5, if_neg h7, if_neg h8, if_pos h9]⟩)))
  by_cases h10 : vWd B n q 10
  · exact Or.inr (Or.inr (Or.inr (Or.inl ⟨5, Or.inr (Or.inl ⟨rfl, h10⟩), by unfold bLine; rw [if_neg h0, if_neg h6, if_neg h3, if_neg h4, if_neg h5, if_neg h7, if_neg h8, if_neg h9, if_pos h10]⟩)))
  by_cases h11 : vWd B n q 11
  · exact Or.inr (Or.inr (Or.inr (Or.inl ⟨6, Or.inr (Or.inr (Or.inl ⟨rfl, h11⟩)), by unfold bLine; rw [if_neg h0, if_neg h6, if_neg h3, if_neg h4, if_neg h5, if_neg h7, if_neg h8, if_neg h9, if_neg h10, if_pos h11]⟩)))
  by_cases h12 : vWd B n q 12
  · exact Or.inr (Or.inr (Or.inr (Or.inl ⟨7, Or.inr (Or.inr (Or.inr ⟨rfl, h12⟩)), by unfold bLine; rw [if_neg h0, if_neg h6, if_neg h3, if_neg h4, if_neg h5, if_neg h7, if_neg h8, if_neg h9, if_neg h10, if_neg h11, if_pos h12]⟩)))
  refine Or.inr (Or.inr (Or.inr (Or.inr ⟨fun t ht t1 t2 => ?_, by unfold bLine; rw [if_neg h0, if_neg h6, if_neg h3, if_neg h4, if_neg h5, if_neg h7, if_neg h8, if_neg h9, if_neg h10, if_neg h11, if_neg h12]⟩)))
  rcases (show t = 0 ∨ t = 3 ∨ t = 4 ∨ t = 5 ∨ t = 6 ∨ t = 7 ∨ t = 8 ∨ t = 9 ∨ t = 10 ∨ t = 11 ∨ t = 12 by omega) with rfl | rfl | rfl | rfl | rfl | rfl | rfl | rfl | rfl | rfl | rfl <;> assumption
theorem sb_readLine (hsh : ShOK sh) (hfx : FxOK F) (h12 : StAt sh F 12) (hT : Tx I B n q) (hR : Rp I 12 w) (hA : WfA w) : jS G (d + 7) mX0_readLine [jR (some 154), jR (some 12)] (sh, I, F) 0 0 (rEI (bLine B n w q).1 sh F (bCl I B n (bLine B n w q))) := by
  have sw := fun (t : Nat) (ht : t < 33) => st_isWord (G := G) (d := d + 2) (F := F) hsh hfx hT (t := t) ht
  have s0 : ∀ t : Nat, t < 33 → ¬ vWd B n q t → jS G (d + 6) mX10_isWord [jR (some 154), jX (t + 1)] (sh, I, F) 0 0 (rI 0 (sh, I, F)) := fun t ht h => by have := sw t ht; rw [if_neg h] at this; exact this
  have s1 : ∀ t : Nat, t < 33 → vWd B n q t → jS G (d + 6) mX10_isWord [jR (some 154), jX (t + 1)] (sh, I, F) 0 0 (rI 1 (sh, I, F)) := fun t ht h => by have := sw t ht; rw [if_pos h] at this; exact this
  have hb : ∀ R : bR, R = bPer B n w q ∨ (∃ c, R = bOne B n w q c) ∨ (∃ c, R = bTwo B n w q c) ∨ (∃ c, R = bSet B n w q c) → R.1 = 0 ∨ R.1 = 1 := by
    rintro R (rfl | ⟨c, rfl⟩ | ⟨c, rfl⟩ | ⟨c, rfl⟩)
    · unfold bPer; repeat' split
      all_goals first | exact Or.inl rfl | exact Or.inr rfl
    · unfold bOne; repeat' split
      all_goals first | exact Or.inl rfl | exact Or.inr rfl
    · unfold bTwo; repeat' split
      all_goals first | exact Or.inl rfl | exact Or.inr rfl
    · unfold bSet; repeat' split
      all_goals first | exact Or.inl rfl | exact Or.inr rfl
  refine jS_go [some (jR (some 154)), some (jR (some 12))] (by decide +kernel) rfl (by simp [jone]) (Nat.le_of_ble_eq_true rfl) rfl (fun hok => ?_)
  rcases bLine_c B n w q with ⟨h, e⟩ | ⟨c, h, e⟩ | ⟨c, h, e⟩ | ⟨c, h, e⟩ | ⟨h, e⟩
  · have hz := hb (bPer B n w q) (Or.inl rfl)
    rw [e]
    refine j_aload_n dX0_readLine_0 rfl ?_
    refine j_ldcS dX0_readLine_1 (t := 0) (by decide +kernel) ?_
    refine r_cv1I dX0_readLine_3 cvX0_27 (by decide) (by first | assumption | exact hsh _ _ rfl) (Nat.le_of_ble_eq_true rfl) (Nat.le_of_eq (Nat.zero_add _)) (Nat.le_of_eq (Nat.zero_add _)) (s1 0 (by decide) h) ?_
    refine j_if_eq (tgt := 15) dX0_readLine_6 rfl (by first | omega | (split <;> omega)) (fun c_6 => by exact absurd c_6 (by decide)) (fun c_6 => ?_)
    refine j_aload_n dX0_readLine_9 rfl ?_
    refine j_aload_n dX0_readLine_10 rfl ?_
    refine r_cs2EI dX0_readLine_11 csX0_31 (Nat.le_of_ble_eq_true rfl) (Nat.le_of_eq (Nat.zero_add _)) (Nat.le_of_eq (Nat.zero_add _)) (sb_readPerson hsh hfx h12 hT hR) (fun J hJ => ?_)
    refine j_zret dX0_readLine_14 rfl hz ?_
    exact rEI_of rfl hJ
  · have hz := hb (bOne B n w q c) (Or.inr (Or.inl ⟨c, rfl⟩))
    have sO := sb_readOne (G := G) (d := d) hsh hfx h12 hT hR hA h
    rw [e]
    have n0 : ∀ t : Nat, t < 13 → t ≠ 6 → t ≠ 7 → t ≠ 8 → jS G (d + 6) mX10_isWord [jR (some 154), jX (t + 1)] (sh, I, F) 0 0 (rI 0 (sh, I, F)) := fun t ht t6 t7 t8 => s0 t (by omega) (by
      rcases h with ⟨-, h⟩ | ⟨-, h⟩ | ⟨-, h⟩
      · exact wd_one (by decide) ht (fun x => t6 x.symm) h
      · exact wd_one (by decide) ht (fun x => t7 x.symm) h
      · exact wd_one (by decide) ht (fun x => t8 x.symm) h)
    have fin : jW G mX0_readLine (d + 7) (rEI (bOne B n w q c).1 sh F (bCl I B n (bOne B n w q c))) 75 [some (jR (some 154)), some (jR (some 12))] [] (sh, I, F) 0 0 := by
      refine j_aload_n dX0_readLine_75 rfl ?_
      refine j_aload_n dX0_readLine_76 rfl ?_
      refine r_cs2EI dX0_readLine_77 csX0_49 (Nat.le_of_ble_eq_true rfl) (Nat.le_of_eq (Nat.zero_add _)) (Nat.le_of_eq (Nat.zero_add _)) (sO) (fun J hJ => ?_)
      refine j_zret dX0_readLine_80 rfl hz ?_
      exact rEI_of rfl hJ
    rcases h with ⟨-, h⟩ | ⟨-, h⟩ | ⟨-, h⟩
    · refine j_aload_n dX0_readLine_0 rfl ?_
      refine j_ldcS dX0_readLine_1 (t := 0) (by decide +kernel) ?_
      refine r_cv1I dX0_readLine_3 cvX0_27 (by decide) (by first | assumption | exact hsh _ _ rfl) (Nat.le_of_ble_eq_true rfl) (Nat.le_of_eq (Nat.zero_add _)) (Nat.le_of_eq (Nat.zero_add _)) (n0 0 (by decide) (by decide) (by decide) (by decide)) ?_
      refine j_if_eq (tgt := 15) dX0_readLine_6 rfl (by first | omega | (split <;> omega)) (fun c_6 => ?_) (fun c_6 => by exact absurd c_6 (by decide))
      refine j_aload_n dX0_readLine_15 rfl ?_
      refine j_ldcS dX0_readLine_16 (t := 3) (by decide +kernel) ?_
      refine r_cv1I dX0_readLine_18 cvX0_27 (by decide) (by first | assumption | exact hsh _ _ rfl) (Nat.le_of_ble_eq_true rfl) (Nat.le_of_eq (Nat.zero_add _)) (Nat.le_of_eq (Nat.zero_add _)) (n0 3 (by decide) (by decide) (by decide) (by decide)) ?_
      refine j_if_ne (tgt := 42) dX0_readLine_21 rfl (by first | omega | (split <;> omega)) (fun c_21 => by exact absurd c_21 (by decide)) (fun c_21 => ?_)
      refine j_aload_n dX0_readLine_24 rfl ?_
      refine j_ldcS dX0_readLine_25 (t := 4) (by decide +kernel) ?_
      refine r_cv1I dX0_readLine_27 cvX0_27 (by decide) (by first | assumption | exact hsh _ _ rfl) (Nat.le_of_ble_eq_true rfl) (Nat.le_of_eq (Nat.zero_add _)) (Nat.le_of_eq (Nat.zero_add _)) (n0 4 (by decide) (by decide) (by decide) (by decide)) ?_
      refine j_if_ne (tgt := 42) dX0_readLine_30 rfl (by first | omega | (split <;> omega)) (fun c_30 => by exact absurd c_30 (by decide)) (fun c_30 => ?_)
      refine j_aload_n dX0_readLine_33 rfl ?_
      refine j_ldcS dX0_readLine_34 (t := 5) (by decide +kernel) ?_
      refine r_cv1I dX0_readLine_36 cvX0_27 (by decide) (by first | assumption | exact hsh _ _ rfl) (Nat.le_of_ble_eq_true rfl) (Nat.le_of_eq (Nat.zero_add _)) (Nat.le_of_eq (Nat.zero_add _)) (n0 5 (by decide) (by decide) (by decide) (by decide)) ?_
      refine j_if_eq (tgt := 48) dX0_readLine_39 rfl (by first | omega | (split <;> omega)) (fun c_39 => ?_) (fun c_39 => by exact absurd c_39 (by decide))
      refine j_aload_n dX0_readLine_48 rfl ?_
      refine j_ldcS dX0_readLine_49 (t := 6) (by decide +kernel) ?_
      refine r_cv1I dX0_readLine_51 cvX0_27 (by decide) (by first | assumption | exact hsh _ _ rfl) (Nat.le_of_ble_eq_true rfl) (Nat.le_of_eq (Nat.zero_add _)) (Nat.le_of_eq (Nat.zero_add _)) (s1 6 (by decide) h) ?_
      refine j_if_ne (tgt := 75) dX0_readLine_54 rfl (by first | omega | (split <;> omega)) (fun c_54 => ?_) (fun c_54 => by exact absurd c_54 (by decide))
      exact fin
    · have u6 := s0 6 (by decide) (wd_one (by decide) (by decide) (by decide) h)
      refine j_aload_n dX0_readLine_0 rfl ?_
      refine j_ldcS dX0_readLine_1 (t := 0) (by decide +kernel) ?_
      refine r_cv1I dX0_readLine_3 cvX0_27 (by decide) (by first | assumption | exact hsh _ _ rfl) (Nat.le_of_ble_eq_true rfl) (Nat.le_of_eq (Nat.zero_add _)) (Nat.le_of_eq (Nat.zero_add _)) (n0 0 (by decide) (by decide) (by decide) (by decide)) ?_
      refine j_if_eq (tgt := 15) dX0_readLine_6 rfl (by first | omega | (split <;> omega)) (fun c_6 => ?_) (fun c_6 => by exact absurd c_6 (by decide))
      refine j_aload_n dX0_readLine_15 rfl ?_
      refine j_ldcS dX0_readLine_16 (t := 3) (by decide +kernel) ?_
      refine r_cv1I dX0_readLine_18 cvX0_27 (by decide) (by first | assumption | exact hsh _ _ rfl) (Nat.le_of_ble_eq_true rfl) (Nat.le_of_eq (Nat.zero_add _)) (Nat.le_of_eq (Nat.zero_add _)) (n0 3 (by decide) (by decide) (by decide) (by decide)) ?_
      refine j_if_ne (tgt := 42) dX0_readLine_21 rfl (by first | omega | (split <;> omega)) (fun c_21 => by exact absurd c_21 (by decide)) (fun c_21 => ?_)
      refine j_aload_n dX0_readLine_24 rfl ?_
      refine j_ldcS dX0_readLine_25 (t := 4) (by decide +kernel) ?_
      refine r_cv1I dX0_readLine_27 cvX0_27 (by decide) (by first | assumption | exact hsh _ _ rfl) (Nat.le_of_ble_eq_true rfl) (Nat.le_of_eq (Nat.zero_add _)) (Nat.le_of_eq (Nat.zero_add _)) (n0 4 (by decide) (by decide) (by decide) (by decide)) ?_
      refine j_if_ne (tgt := 42) dX0_readLine_30 rfl (by first | omega | (split <;> omega)) (fun c_30 => by exact absurd c_30 (by decide)) (fun c_30 => ?_)
      refine j_aload_n dX0_readLine_33 rfl ?_
      refine j_ldcS dX0_readLine_34 (t := 5) (by decide +kernel) ?_
      refine r_cv1I dX0_readLine_36 cvX0_27 (by decide) (by first | assumption | exact hsh _ _ rfl) (Nat.le_of_ble_eq_true rfl) (Nat.le_of_eq (Nat.zero_add _)) (Nat.le_of_eq (Nat.zero_add _)) (n0 5 (by decide) (by decide) (by decide) (by decide)) ?_
      refine j_if_eq (tgt := 48) dX0_readLine_39 rfl (by first | omega | (split <;> omega)) (fun c_39 => ?_) (fun c_39 => by exact absurd c_39 (by decide))
      refine j_aload_n dX0_readLine_48 rfl ?_
      refine j_ldcS dX0_readLine_49 (t := 6) (by decide +kernel) ?_
      refine r_cv1I dX0_readLine_51 cvX0_27 (by decide) (by first | assumption | exact hsh _ _ rfl) (Nat.le_of_ble_eq_true rfl) (Nat.le_of_eq (Nat.zero_add _)) (Nat.le_of_eq (Nat.zero_add _)) (u6) ?_
      refine j_if_ne (tgt := 75) dX0_readLine_54 rfl (by first | omega | (split <;> omega)) (fun c_54 => by exact absurd c_54 (by decide)) (fun c_54 => ?_)
      refine j_aload_n dX0_readLine_57 rfl ?_
      refine j_ldcS dX0_readLine_58 (t := 7) (by decide +kernel) ?_
      refine r_cv1I dX0_readLine_60 cvX0_27 (by decide) (by first | assumption | exact hsh _ _ rfl) (Nat.le_of_ble_eq_true rfl) (Nat.le_of_eq (Nat.zero_add _)) (Nat.le_of_eq (Nat.zero_add _)) (s1 7 (by decide) h) ?_
      refine j_if_ne (tgt := 75) dX0_readLine_63 rfl (by first | omega | (split <;> omega)) (fun c_63 => ?_) (fun c_63 => by exact absurd c_63 (by decide))
      exact fin
    · have u6 := s0 6 (by decide) (wd_one (by decide) (by decide) (by decide) h)
      have u7 := s0 7 (by decide) (wd_one (by decide) (by decide) (by decide) h)
      refine j_aload_n dX0_readLine_0 rfl ?_
      refine j_ldcS dX0_readLine_1 (t := 0) (by decide +kernel) ?_
      refine r_cv1I dX0_readLine_3 cvX0_27 (by decide) (by first | assumption | exact hsh _ _ rfl) (Nat.le_of_ble_eq_true rfl) (Nat.le_of_eq (Nat.zero_add _)) (Nat.le_of_eq (Nat.zero_add _)) (n0 0 (by decide) (by decide) (by decide) (by decide)) ?_
      refine j_if_eq (tgt := 15) dX0_readLine_6 rfl (by first | omega | (split <;> omega)) (fun c_6 => ?_) (fun c_6 => by exact absurd c_6 (by decide))
      refine j_aload_n dX0_readLine_15 rfl ?_
      refine j_ldcS dX0_readLine_16 (t := 3) (by decide +kernel) ?_
      refine r_cv1I dX0_readLine_18 cvX0_27 (by decide) (by first | assumption | exact hsh _ _ rfl) (Nat.le_of_ble_eq_true rfl) (Nat.le_of_eq (Nat.zero_add _)) (Nat.le_of_eq (Nat.zero_add _)) (n0 3 (by decide) (by decide) (by decide) (by decide)) ?_
      refine j_if_ne (tgt := 42) dX0_readLine_21 rfl (by first | omega | (split <;> omega)) (fun c_21 => by exact absurd c_21 (by decide)) (fun c_21 => ?_)
      refine j_aload_n dX0_readLine_24 rfl ?_
      refine j_ldcS dX0_readLine_25 (t := 4) (by decide +kernel) ?_
      refine r_cv1I dX0_readLine_27 cvX0_27 (by decide) (by first | assumption | exact hsh _ _ rfl) (Nat.le_of_ble_eq_true rfl) (Nat.le_of_eq (Nat.zero_add _)) (Nat.le_of_eq (Nat.zero_add _)) (n0 4 (by decide) (by decide) (by decide) (by decide)) ?_
      refine j_if_ne (tgt := 42) dX0_readLine_30 rfl (by first | omega | (split <;> omega)) (fun c_30 => by exact absurd c_30 (by decide)) (fun c_30 => ?_)
      refine j_aload_n dX0_readLine_33 rfl ?_
      refine j_ldcS dX0_readLine_34 (t := 5) (by decide +kernel) ?_
      refine r_cv1I dX0_readLine_36 cvX0_27 (by decide) (by first | assumption | exact hsh _ _ rfl) (Nat.le_of_ble_eq_true rfl) (Nat.le_of_eq (Nat.zero_add _)) (Nat.le_of_eq (Nat.zero_add _)) (n0 5 (by decide) (by decide) (by decide) (by decide)) ?_
      refine j_if_eq (tgt := 48) dX0_readLine_39 rfl (by first | omega | (split <;> omega)) (fun c_39 => ?_) (fun c_39 => by exact absurd c_39 (by decide))
      refine j_aload_n dX0_readLine_48 rfl ?_
      refine j_ldcS dX0_readLine_49 (t := 6) (by decide +kernel) ?_
      refine r_cv1I dX0_readLine_51 cvX0_27 (by decide) (by first | assumption | exact hsh _ _ rfl) (Nat.le_of_ble_eq_true rfl) (Nat.le_of_eq (Nat.zero_add _)) (Nat.le_of_eq (Nat.zero_add _)) (u6) ?_
      refine j_if_ne (tgt := 75) dX0_readLine_54 rfl (by first | omega | (split <;> omega)) (fun c_54 => by exact absurd c_54 (by decide)) (fun c_54 => ?_)
      refine j_aload_n dX0_readLine_57 rfl ?_
      refine j_ldcS dX0_readLine_58 (t := 7) (by decide +kernel) ?_
      refine r_cv1I dX0_readLine_60 cvX0_27 (by decide) (by first | assumption | exact hsh _ _ rfl) (Nat.le_of_ble_eq_true rfl) (Nat.le_of_eq (Nat.zero_add _)) (Nat.le_of_eq (Nat.zero_add _)) (u7) ?_
      refine j_if_ne (tgt := 75) dX0_readLine_63 rfl (by first | omega | (split <;> omega)) (fun c_63 => by exact absurd c_63 (by decide)) (fun c_63 => ?_)
      refine j_aload_n dX0_readLine_66 rfl ?_
      refine j_ldcS dX0_readLine_67 (t := 8) (by decide +kernel) ?_
      refine r_cv1I dX0_readLine_69 cvX0_27 (by decide) (by first | assumption | exact hsh _ _ rfl) (Nat.le_of_ble_eq_true rfl) (Nat.le_of_eq (Nat.zero_add _)) (Nat.le_of_eq (Nat.zero_add _)) (s1 8 (by decide) h) ?_
      refine j_if_eq (tgt := 81) dX0_readLine_72 rfl (by first | omega | (split <;> omega)) (fun c_72 => by exact absurd c_72 (by decide)) (fun c_72 => ?_)
      exact fin
  · have hz := hb (bTwo B n w q c) (Or.inr (Or.inr (Or.inl ⟨c, rfl⟩)))
    have sO := sb_readTwo (G := G) (d := d) hsh hfx h12 hT hR h
    rw [e]
    have fin : jW G mX0_readLine (d + 7) (rEI (bTwo B n w q c).1 sh F (bCl I B n (bTwo B n w q c))) 42 [some (jR (some 154)), some (jR (some 12))] [] (sh, I, F) 0 0 := by
      refine j_aload_n dX0_readLine_42 rfl ?_
      refine j_aload_n dX0_readLine_43 rfl ?_
      refine r_cs2EI dX0_readLine_44 csX0_40 (Nat.le_of_ble_eq_true rfl) (Nat.le_of_eq (Nat.zero_add _)) (Nat.le_of_eq (Nat.zero_add _)) (sO) (fun J hJ => ?_)
      refine j_zret dX0_readLine_47 rfl hz ?_
      exact rEI_of rfl hJ
    rcases h with ⟨-, h⟩ | ⟨-, h⟩ | ⟨-, h⟩
    · have u0 := s0 0 (by decide) (wd_one (by decide) (by decide) (by decide) h)
      refine j_aload_n dX0_readLine_0 rfl ?_
      refine j_ldcS dX0_readLine_1 (t := 0) (by decide +kernel) ?_
      refine r_cv1I dX0_readLine_3 cvX0_27 (by decide) (by first | assumption | exact hsh _ _ rfl) (Nat.le_of_ble_eq_true rfl) (Nat.le_of_eq (Nat.zero_add _)) (Nat.le_of_eq (Nat.zero_add _)) (u0) ?_
      refine j_if_eq (tgt := 15) dX0_readLine_6 rfl (by first | omega | (split <;> omega)) (fun c_6 => ?_) (fun c_6 => by exact absurd c_6 (by decide))
      refine j_aload_n dX0_readLine_15 rfl ?_
      refine j_ldcS dX0_readLine_16 (t := 3) (by decide +kernel) ?_
      refine r_cv1I dX0_readLine_18 cvX0_27 (by decide) (by first | assumption | exact hsh _ _ rfl) (Nat.le_of_ble_eq_true rfl) (Nat.le_of_eq (Nat.zero_add _)) (Nat.le_of_eq (Nat.zero_add _)) (s1 3 (by decide) h) ?_
      refine j_if_ne (tgt := 42) dX0_readLine_21 rfl (by first | omega | (split <;> omega)) (fun c_21 => ?_) (fun c_21 => by exact absurd c_21 (by decide))
      exact fin
    · have u0 := s0 0 (by decide) (wd_one (by decide) (by decide) (by decide) h)
      have u3 := s0 3 (by decide) (wd_one (by decide) (by decide) (by decide) h)
      refine j_aload_n dX0_readLine_0 rfl ?_
      refine j_ldcS dX0_readLine_1 (t := 0) (by decide +kernel) ?_
      refine r_cv1I dX0_readLine_3 cvX0_27 (by decide) (by first | assumption | exact hsh _ _ rfl) (Nat.le_of_ble_eq_true rfl) (Nat.le_of_eq (Nat.zero_add _)) (Nat.le_of_eq (Nat.zero_add _)) (u0) ?_
      refine j_if_eq (tgt := 15) dX0_readLine_6 rfl (by first | omega | (split <;> omega)) (fun c_6 => ?_) (fun c_6 => by exact absurd c_6 (by decide))
      refine j_aload_n dX0_readLine_15 rfl ?_
      refine j_ldcS dX0_readLine_16 (t := 3) (by decide +kernel) ?_
      refine r_cv1I dX0_readLine_18 cvX0_27 (by decide) (by first | assumption | exact hsh _ _ rfl) (Nat.le_of_ble_eq_true rfl) (Nat.le_of_eq (Nat.zero_add _)) (Nat.le_of_eq (Nat.zero_add _)) (u3) ?_
      refine j_if_ne (tgt := 42) dX0_readLine_21 rfl (by first | omega | (split <;> omega)) (fun c_21 => by exact absurd c_21 (by decide)) (fun c_21 => ?_)
      refine j_aload_n dX0_readLine_24 rfl ?_
      refine j_ldcS dX0_readLine_25 (t := 4) (by decide +kernel) ?_
      refine r_cv1I dX0_readLine_27 cvX0_27 (by decide) (by first | assumption | exact hsh _ _ rfl) (Nat.le_of_ble_eq_true rfl) (Nat.le_of_eq (Nat.zero_add _)) (Nat.le_of_eq (Nat.zero_add _)) (s1 4 (by decide) h) ?_
      refine j_if_ne (tgt := 42) dX0_readLine_30 rfl (by first | omega | (split <;> omega)) (fun c_30 => ?_) (fun c_30 => by exact absurd c_30 (by decide))
      exact fin
    · have u0 := s0 0 (by decide) (wd_one (by decide) (by decide) (by decide) h)
      have u3 := s0 3 (by decide) (wd_one (by decide) (by decide) (by decide) h)
      have u4 := s0 4 (by decide) (wd_one (by decide) (by decide) (by decide) h)
      refine j_aload_n dX0_readLine_0 rfl ?_
      refine j_ldcS dX0_readLine_1 (t := 0) (by decide +kernel) ?_
      refine r_cv1I dX0_readLine_3 cvX0_27 (by decide) (by first | assumption | exact hsh _ _ rfl) (Nat.le_of_ble_eq_true rfl) (Nat.le_of_eq (Nat.zero_add _)) (Nat.le_of_eq (Nat.zero_add _)) (u0) ?_
      refine j_if_eq (tgt := 15) dX0_readLine_6 rfl (by first | omega | (split <;> omega)) (fun c_6 => ?_) (fun c_6 => by exact absurd c_6 (by decide))
      refine j_aload_n dX0_readLine_15 rfl ?_
      refine j_ldcS dX0_readLine_16 (t := 3) (by decide +kernel) ?_
      refine r_cv1I dX0_readLine_18 cvX0_27 (by decide) (by first | assumption | exact hsh _ _ rfl) (Nat.le_of_ble_eq_true rfl) (Nat.le_of_eq (Nat.zero_add _)) (Nat.le_of_eq (Nat.zero_add _)) (u3) ?_
      refine j_if_ne (tgt := 42) dX0_readLine_21 rfl (by first | omega | (split <;> omega)) (fun c_21 => by exact absurd c_21 (by decide)) (fun c_21 => ?_)
      refine j_aload_n dX0_readLine_24 rfl ?_
      refine j_ldcS dX0_readLine_25 (t := 4) (by decide +kernel) ?_
      refine r_cv1I dX0_readLine_27 cvX0_27 (by decide) (by first | assumption | exact hsh _ _ rfl) (Nat.le_of_ble_eq_true rfl) (Nat.le_of_eq (Nat.zero_add _)) (Nat.le_of_eq (Nat.zero_add _)) (u4) ?_
      refine j_if_ne (tgt := 42) dX0_readLine_30 rfl (by first | omega | (split <;> omega)) (fun c_30 => by exact absurd c_30 (by decide)) (fun c_30 => ?_)
      refine j_aload_n dX0_readLine_33 rfl ?_
      refine j_ldcS dX0_readLine_34 (t := 5) (by decide +kernel) ?_
      refine r_cv1I dX0_readLine_36 cvX0_27 (by decide) (by first | assumption | exact hsh _ _ rfl) (Nat.le_of_ble_eq_true rfl) (Nat.le_of_eq (Nat.zero_add _)) (Nat.le_of_eq (Nat.zero_add _)) (s1 5 (by decide) h) ?_
      refine j_if_eq (tgt := 48) dX0_readLine_39 rfl (by first | omega | (split <;> omega)) (fun c_39 => by exact absurd c_39 (by decide)) (fun c_39 => ?_)
      exact fin
  · have hz := hb (bSet B n w q c) (Or.inr (Or.inr (Or.inr ⟨c, rfl⟩)))
    have sO := sb_readSetting (G := G) (d := d) hsh hfx h12 hT hR h
    rw [e]
    have n0 : ∀ t : Nat, t < 9 → jS G (d + 6) mX10_isWord [jR (some 154), jX (t + 1)] (sh, I, F) 0 0 (rI 0 (sh, I, F)) := fun t ht => s0 t (by omega) (by
      rcases h with ⟨-, h⟩ | ⟨-, h⟩ | ⟨-, h⟩ | ⟨-, h⟩
      · exact wd_one (by decide) (by omega) (by omega) h
      · exact wd_one (by decide) (by omega) (by omega) h
      · exact wd_one (by decide) (by omega) (by omega) h
      · exact wd_one (by decide) (by omega) (by omega) h)
    refine j_aload_n dX0_readLine_0 rfl ?_
    refine j_ldcS dX0_readLine_1 (t := 0) (by decide +kernel) ?_
    refine r_cv1I dX0_readLine_3 cvX0_27 (by decide) (by first | assumption | exact hsh _ _ rfl) (Nat.le_of_ble_eq_true rfl) (Nat.le_of_eq (Nat.zero_add _)) (Nat.le_of_eq (Nat.zero_add _)) (n0 0 (by decide)) ?_
    refine j_if_eq (tgt := 15) dX0_readLine_6 rfl (by first | omega | (split <;> omega)) (fun c_6 => ?_) (fun c_6 => by exact absurd c_6 (by decide))
    refine j_aload_n dX0_readLine_15 rfl ?_
    refine j_ldcS dX0_readLine_16 (t := 3) (by decide +kernel) ?_
    refine r_cv1I dX0_readLine_18 cvX0_27 (by decide) (by first | assumption | exact hsh _ _ rfl) (Nat.le_of_ble_eq_true rfl) (Nat.le_of_eq (Nat.zero_add _)) (Nat.le_of_eq (Nat.zero_add _)) (n0 3 (by decide)) ?_
    refine j_if_ne (tgt := 42) dX0_readLine_21 rfl (by first | omega | (split <;> omega)) (fun c_21 => by exact absurd c_21 (by decide)) (fun c_21 => ?_)
    refine j_aload_n dX0_readLine_24 rfl ?_
    refine j_ldcS dX0_readLine_25 (t := 4) (by decide +kernel) ?_
    refine r_cv1I dX0_readLine_27 cvX0_27 (by decide) (by first | assumption | exact hsh _ _ rfl) (Nat.le_of_ble_eq_true rfl) (Nat.le_of_eq (Nat.zero_add _)) (Nat.le_of_eq (Nat.zero_add _)) (n0 4 (by decide)) ?_
    refine j_if_ne (tgt := 42) dX0_readLine_30 rfl (by first | omega | (split <;> omega)) (fun c_30 => by exact absurd c_30 (by decide)) (fun c_30 => ?_)
    refine j_aload_n dX0_readLine_33 rfl ?_
    refine j_ldcS dX0_readLine_34 (t := 5) (by decide +kernel) ?_
    refine r_cv1I dX0_readLine_36 cvX0_27 (by decide) (by first | assumption | exact hsh _ _ rfl) (Nat.le_of_ble_eq_true rfl) (Nat.le_of_eq (Nat.zero_add _)) (Nat.le_of_eq (Nat.zero_add _)) (n0 5 (by decide)) ?_
    refine j_if_eq (tgt := 48) dX0_readLine_39 rfl (by first | omega | (split <;> omega)) (fun c_39 => ?_) (fun c_39 => by exact absurd c_39 (by decide))
    refine j_aload_n dX0_readLine_48 rfl ?_
    refine j_ldcS dX0_readLine_49 (t := 6) (by decide +kernel) ?_
    refine r_cv1I dX0_readLine_51 cvX0_27 (by decide) (by first | assumption | exact hsh _ _ rfl) (Nat.le_of_ble_eq_true rfl) (Nat.le_of_eq (Nat.zero_add _)) (Nat.le_of_eq (Nat.zero_add _)) (n0 6 (by decide)) ?_
    refine j_if_ne (tgt := 75) dX0_readLine_54 rfl (by first | omega | (split <;> omega)) (fun c_54 => by exact absurd c_54 (by decide)) (fun c_54 => ?_)
    refine j_aload_n dX0_readLine_57 rfl ?_
    refine j_ldcS dX0_readLine_58 (t := 7) (by decide +kernel) ?_
    refine r_cv1I dX0_readLine_60 cvX0_27 (by decide) (by first | assumption | exact hsh _ _ rfl) (Nat.le_of_ble_eq_true rfl) (Nat.le_of_eq (Nat.zero_add _)) (Nat.le_of_eq (Nat.zero_add _)) (n0 7 (by decide)) ?_
    refine j_if_ne (tgt := 75) dX0_readLine_63 rfl (by first | omega | (split <;> omega)) (fun c_63 => by exact absurd c_63 (by decide)) (fun c_63 => ?_)
    refine j_aload_n dX0_readLine_66 rfl ?_
    refine j_ldcS dX0_readLine_67 (t := 8) (by decide +kernel) ?_
    refine r_cv1I dX0_readLine_69 cvX0_27 (by decide) (by first | assumption | exact hsh _ _ rfl) (Nat.le_of_ble_eq_true rfl) (Nat.le_of_eq (Nat.zero_add _)) (Nat.le_of_eq (Nat.zero_add _)) (n0 8 (by decide)) ?_
    refine j_if_eq (tgt := 81) dX0_readLine_72 rfl (by first | omega | (split <;> omega)) (fun c_72 => ?_) (fun c_72 => by exact absurd c_72 (by decide))
    refine j_aload_n dX0_readLine_81 rfl ?_
    refine j_aload_n dX0_readLine_82 rfl ?_
    refine r_cs2EI dX0_readLine_83 csX0_52 (Nat.le_of_ble_eq_true rfl) (Nat.le_of_eq (Nat.zero_add _)) (Nat.le_of_eq (Nat.zero_add _)) (sO) (fun J hJ => ?_)
    refine j_zret dX0_readLine_86 rfl hz ?_
    exact rEI_of rfl hJ
  · have n0 : ∀ t : Nat, t < 13 → t ≠ 1 → t ≠ 2 → jS G (d + 6) mX10_isWord [jR (some 154), jX (t + 1)] (sh, I, F) 0 0 (rI 0 (sh, I, F)) := fun t ht h1 h2 => s0 t (by omega) (h t ht h1 h2)
    have sO := sb_readSetting0 (G := G) (d := d) hsh hfx hT (h 9 (by decide) (by decide) (by decide)) (h 10 (by decide) (by decide) (by decide)) (h 11 (by decide) (by decide) (by decide)) (h 12 (by decide) (by decide) (by decide))
    rw [e]
    refine j_aload_n dX0_readLine_0 rfl ?_
    refine j_ldcS dX0_readLine_1 (t := 0) (by decide +kernel) ?_
    refine r_cv1I dX0_readLine_3 cvX0_27 (by decide) (by first | assumption | exact hsh _ _ rfl) (Nat.le_of_ble_eq_true rfl) (Nat.le_of_eq (Nat.zero_add _)) (Nat.le_of_eq (Nat.zero_add _)) (n0 0 (by decide) (by decide) (by decide)) ?_
    refine j_if_eq (tgt := 15) dX0_readLine_6 rfl (by first | omega | (split <;> omega)) (fun c_6 => ?_) (fun c_6 => by exact absurd c_6 (by decide))
    refine j_aload_n dX0_readLine_15 rfl ?_
    refine j_ldcS dX0_readLine_16 (t := 3) (by decide +kernel) ?_
    refine r_cv1I dX0_readLine_18 cvX0_27 (by decide) (by first | assumption | exact hsh _ _ rfl) (Nat.le_of_ble_eq_true rfl) (Nat.le_of_eq (Nat.zero_add _)) (Nat.le_of_eq (Nat.zero_add _)) (n0 3 (by decide) (by decide) (by decide)) ?_
    refine j_if_ne (tgt := 42) dX0_readLine_21 rfl (by first | omega | (split <;> omega)) (fun c_21 => by exact absurd c_21 (by decide)) (fun c_21 => ?_)
    refine j_aload_n dX0_readLine_24 rfl ?_
    refine j_ldcS dX0_readLine_25 (t := 4) (by decide +kernel) ?_
    refine r_cv1I dX0_readLine_27 cvX0_27 (by decide) (by first | assumption | exact hsh _ _ rfl) (Nat.le_of_ble_eq_true rfl) (Nat.le_of_eq (Nat.zero_add _)) (Nat.le_of_eq (Nat.zero_add _)) (n0 4 (by decide) (by decide) (by decide)) ?_
    refine j_if_ne (tgt := 42) dX0_readLine_30 rfl (by first | omega | (split <;> omega)) (fun c_30 => by exact absurd c_30 (by decide)) (fun c_30 => ?_)
    refine j_aload_n dX0_readLine_33 rfl ?_
    refine j_ldcS dX0_readLine_34 (t := 5) (by decide +kernel) ?_
    refine r_cv1I dX0_readLine_36 cvX0_27 (by decide) (by first | assumption | exact hsh _ _ rfl) (Nat.le_of_ble_eq_true rfl) (Nat.le_of_eq (Nat.zero_add _)) (Nat.le_of_eq (Nat.zero_add _)) (n0 5 (by decide) (by decide) (by decide)) ?_
    refine j_if_eq (tgt := 48) dX0_readLine_39 rfl (by first | omega | (split <;> omega)) (fun c_39 => ?_) (fun c_39 => by exact absurd c_39 (by decide))
    refine j_aload_n dX0_readLine_48 rfl ?_
    refine j_ldcS dX0_readLine_49 (t := 6) (by decide +kernel) ?_
    refine r_cv1I dX0_readLine_51 cvX0_27 (by decide) (by first | assumption | exact hsh _ _ rfl) (Nat.le_of_ble_eq_true rfl) (Nat.le_of_eq (Nat.zero_add _)) (Nat.le_of_eq (Nat.zero_add _)) (n0 6 (by decide) (by decide) (by decide)) ?_
    refine j_if_ne (tgt := 75) dX0_readLine_54 rfl (by first | omega | (split <;> omega)) (fun c_54 => by exact absurd c_54 (by decide)) (fun c_54 => ?_)
    refine j_aload_n dX0_readLine_57 rfl ?_
    refine j_ldcS dX0_readLine_58 (t := 7) (by decide +kernel) ?_
    refine r_cv1I dX0_readLine_60 cvX0_27 (by decide) (by first | assumption | exact hsh _ _ rfl) (Nat.le_of_ble_eq_true rfl) (Nat.le_of_eq (Nat.zero_add _)) (Nat.le_of_eq (Nat.zero_add _)) (n0 7 (by decide) (by decide) (by decide)) ?_
    refine j_if_ne (tgt := 75) dX0_readLine_63 rfl (by first | omega | (split <;> omega)) (fun c_63 => by exact absurd c_63 (by decide)) (fun c_63 => ?_)
    refine j_aload_n dX0_readLine_66 rfl ?_
    refine j_ldcS dX0_readLine_67 (t := 8) (by decide +kernel) ?_
    refine r_cv1I dX0_readLine_69 cvX0_27 (by decide) (by first | assumption | exact hsh _ _ rfl) (Nat.le_of_ble_eq_true rfl) (Nat.le_of_eq (Nat.zero_add _)) (Nat.le_of_eq (Nat.zero_add _)) (n0 8 (by decide) (by decide) (by decide)) ?_
    refine j_if_eq (tgt := 81) dX0_readLine_72 rfl (by first | omega | (split <;> omega)) (fun c_72 => ?_) (fun c_72 => by exact absurd c_72 (by decide))
    refine j_aload_n dX0_readLine_81 rfl ?_
    refine j_aload_n dX0_readLine_82 rfl ?_
    refine r_cs2I dX0_readLine_83 csX0_52 (Nat.le_of_ble_eq_true rfl) (Nat.le_of_eq (Nat.zero_add _)) (Nat.le_of_eq (Nat.zero_add _)) (sO) ?_
    refine j_zret dX0_readLine_86 rfl (by omega) ?_
    exact rEI_of rfl ⟨hT, hR, ⟨fun _ _ _ => rfl, rfl⟩⟩
/-- all lines, so many at most -/
def bAll (B : Int → Int) (n : Int) : Nat → (Int → Int) → Int → bR
  | 0, w, q => (0, q, w)
  | m + 1, w, q => if (bLine B n w q).1 = 0 then bLine B n w q else if tkK B n (bLine B n w q).2.1 = 0 then bLine B n w q else if vSg B n (bLine B n w q).2.1 59 then bAll B n m (bLine B n w q).2.2 (tkN B n (bLine B n w q).2.1) else (0, (bLine B n w q).2)
def bTxt (B : Int → Int) (n : Int) (w : Int → Int) (q : Int) : bR := if tkK B n q = 0 then (1, q, w) else bAll B n 14 w q
theorem bLine_01 (B : Int → Int) (n : Int) (w : Int → Int) (q : Int) : (bLine B n w q).1 = 0 ∨ (bLine B n w q).1 = 1 := by
  rcases bLine_c B n w q with ⟨h, e⟩ | ⟨c, h, e⟩ | ⟨c, h, e⟩ | ⟨c, h, e⟩ | ⟨h, e⟩ <;> rw [e]
  · unfold bPer; repeat' split
    all_goals first | exact Or.inl rfl | exact Or.inr rfl
  · unfold bOne; repeat' split
    all_goals first | exact Or.inl rfl | exact Or.inr rfl
  · unfold bTwo; repeat' split
    all_goals first | exact Or.inl rfl | exact Or.inr rfl
  · unfold bSet; repeat' split
    all_goals first | exact Or.inl rfl | exact Or.inr rfl
  · exact Or.inl rfl
end
