/-! THE LOG -/
/-- the class's ring of rows stands for the model's rows -/
def Lg (I : Nat → Int → Int) (s : Nat) (w : Int → Int) : Prop := I (s + 8) 1 = w 10 ∧ (0 ≤ w 10 ∧ w 10 ≤ 60) ∧ (0 ≤ I (s + 8) 2 ∧ I (s + 8) 2 < 60) ∧ ∀ ago c, 0 ≤ ago → ago < w 10 → 0 ≤ c → c < 4 → I (s + 9) ((I (s + 8) 2 + 60 - 1 - ago) % 60 * 4 + c) = w (180 + 4 * ago + c)
theorem Lg_fr {I J : Nat → Int → Int} {s : Nat} {w : Int → Int} (h : Lg I s w) (h8 : J (s + 8) = I (s + 8)) (h9 : J (s + 9) = I (s + 9)) : Lg J s w := by
  unfold Lg
  rw [h8, h9]
  exact h
theorem Lg_w {I : Nat → Int → Int} {s : Nat} {w v : Int → Int} (h : Lg I s w) (hv : ∀ k, (k = 10 ∨ (180 ≤ k ∧ k < 420)) → v k = w k) : Lg I s v := by
  obtain ⟨h1, h2, h3, h4⟩ := h
  unfold Lg
  rw [hv 10 (by omega)]
  exact ⟨h1, h2, h3, fun ago c a0 a1 c0 c1 => by rw [hv _ (by omega)]; exact h4 ago c a0 a1 c0 c1⟩
/-- a row more -/
def LgA (I : Nat → Int → Int) (s : Nat) (day who fe be : Int) (J : Nat → Int → Int) : Prop := J (s + 9) = wup (wup (wup (wup (I (s + 9)) (I (s + 8) 2 * 4) day) (I (s + 8) 2 * 4 + 1) who) (I (s + 8) 2 * 4 + 2) fe) (I (s + 8) 2 * 4 + 3) be ∧ J (s + 8) 2 = (I (s + 8) 2 + 1) % 60 ∧ J (s + 8) 1 = min 60 (I (s + 8) 1 + 1) ∧ ∀ a, a ≠ s + 8 → a ≠ s + 9 → J a = I a
theorem Lg_add {I J : Nat → Int → Int} {s : Nat} {w : Int → Int} {p v : Int} (h : Lg I s w) (hA : LgA I s (w 3) p v (aOf w p 0) J) : Lg J s (mTell w p v) := by
  obtain ⟨h1, h2, h3, h4⟩ := h
  obtain ⟨a1, a2, a3, a4⟩ := hA
  unfold Lg
  rw [mTell_10, a2, a3, a1, h1]
  generalize I (s + 8) 2 = n at *
  refine ⟨rfl, by omega, by omega, fun ago c a0 a1 c0 c1 => ?_⟩
  by_cases e : ago = 0
  · subst e
    rw [show ((n + 1) % 60 + 60 - 1 - 0) % 60 * 4 + c = n * 4 + c by omega]
    unfold mTell
    rw [wup_ne _ _ (show 180 + 4 * 0 + c ≠ 9 by omega), wup_ne _ _ (show 180 + 4 * 0 + c ≠ 10 by omega)]
    rcases (show c = 0 ∨ c = 1 ∨ c = 2 ∨ c = 3 by omega) with rfl | rfl | rfl | rfl
    · rw [wup_ne _ _ (by omega), wup_ne _ _ (by omega), wup_ne _ _ (by omega), Int.add_zero, wup_same, wup_ne _ _ (by decide), wup_ne _ _ (by decide), wup_ne _ _ (by decide)]; exact (wup_same _ _ _).symm
    · rw [wup_ne _ _ (by omega), wup_ne _ _ (by omega), wup_same, wup_ne _ _ (by decide), wup_ne _ _ (by decide)]; exact (wup_same _ _ _).symm
    · rw [wup_ne _ _ (by omega), wup_same, wup_ne _ _ (by decide)]; exact (wup_same _ _ _).symm
    · rw [wup_same]; exact (wup_same _ _ _).symm
  · have er : ((n + 1) % 60 + 60 - 1 - ago) % 60 = (n + 60 - 1 - (ago - 1)) % 60 := by omega
    have en : (n + 60 - 1 - (ago - 1)) % 60 ≠ n := by omega
    rw [er, wup_ne _ _ (by omega), wup_ne _ _ (by omega), wup_ne _ _ (by omega), wup_ne _ _ (by omega), h4 (ago - 1) c (by omega) (by omega) c0 c1]
    unfold mTell
    rw [wup_ne _ _ (by omega), wup_ne _ _ (by omega), wup_ne _ _ (by omega), wup_ne _ _ (by omega), wup_ne _ _ (by omega), wup_ne _ _ (by omega)]
    unfold mSh
    rw [if_pos (by omega)]
    congr 1
    omega
def vLog (w : Int → Int) (a c : Int) : Int := if 0 ≤ a ∧ a < w 10 then w (180 + 4 * a + c) else -1
def mRows (w : Int → Int) (p : Int) : Int := jfold (fun k a => if w (180 + 4 * k + 1) = p then a + 1 else a) 0 (w 10).toNat
def mMost (w : Int → Int) (p : Int) : Int := jfold (fun k a => if w (180 + 4 * k + 1) = p then max a (w (180 + 4 * k + 2)) else a) 0 (w 10).toNat
section
variable {G : jzG} {d : Nat} {sh : List (Nat × Nat)} {I : Nat → Int → Int} {F : Nat → Int → Option Nat} {s : Nat} {w : Int → Int}
/-! ### the class -/
theorem sc_entry (hs : StAt sh F s) (hG : Lg I s w) {a c : Int} (ha : jin a) (hc : 0 ≤ c ∧ c < 4) : jS G d mX7_entry [jR (some (s + 8)), jI a, jI c] (sh, I, F) 0 0 (rI (vLog w a c) (sh, I, F)) := by
  obtain ⟨g0, g1, g2, g3, g4, g5, g6, g7, g8, g9, e1, e2, e3, e4, e5, e6, e7, e8, e9⟩ := id hs
  obtain ⟨h1, h2, h3, h4⟩ := hG
  refine jS_go [some (jR (some (s + 8))), some (jI a), some (jI c), none] (by decide +kernel) rfl (by simp [jone]) (Nat.le_of_ble_eq_true rfl) rfl (fun hok => ?_)
  by_cases e : 0 ≤ a ∧ a < w 10
  · have hv : vLog w a c = w (180 + 4 * a + c) := if_pos e
    have q := h4 a c e.1 e.2 hc.1 hc.2
    refine j_iload_n dX7_entry_0 rfl ?_
    refine j_if_lt (tgt := 12) dX7_entry_1 rfl (by first | omega | (split <;> omega)) (fun c_1 => by exact absurd c_1 (by omega)) (fun c_1 => ?_)
    refine j_iload_n dX7_entry_4 rfl ?_
    refine j_aload_n dX7_entry_5 rfl ?_
    refine r_getIE dX7_entry_6 flX7_21 (by first | assumption | exact hsh _ _ rfl) h1 (fun b_6 => ?_)
    refine j_icmp_lt (tgt := 14) dX7_entry_9 rfl (by first | omega | (split <;> omega)) (by first | omega | (split <;> omega)) (fun c_9 => ?_) (fun c_9 => by exact absurd (by omega) c_9)
    refine j_aload_n dX7_entry_14 rfl ?_
    refine r_getI dX7_entry_15 flX7_25 (by first | assumption | exact hsh _ _ rfl) (fun b_15 => ?_)
    refine j_bipush dX7_entry_18 (by decide) ?_
    refine j_iadd dX7_entry_20 ?_
    refine j_iconst dX7_entry_21 ?_
    refine j_isub dX7_entry_22 ?_
    refine j_iload_n dX7_entry_23 rfl ?_
    refine j_isub dX7_entry_24 ?_
    refine j_bipush dX7_entry_25 (by decide) ?_
    refine r_iremN dX7_entry_27 (by first | omega | (split <;> omega)) (by first | omega | (split <;> omega)) ?_
    refine j_istore_n dX7_entry_28 (by decide) ?_
    refine j_aload_n dX7_entry_29 rfl ?_
    refine r_getS dX7_entry_30 flX7_9 (by first | assumption | exact hsh _ _ rfl) (by assumption) ?_
    refine j_iload_n dX7_entry_33 rfl ?_
    refine j_iconst dX7_entry_34 ?_
    refine j_imul dX7_entry_35 ?_
    refine j_iload_n dX7_entry_36 rfl ?_
    refine j_iadd dX7_entry_37 ?_
    refine r_ialoadE dX7_entry_38 (by first | assumption | exact hsh _ _ rfl) (by first | omega | (split <;> omega)) (by first | omega | (split <;> omega)) q (fun b_38 => ?_)
    refine j_iret dX7_entry_39 rfl ?_
    exact rI_of hv.symm rfl
  · have hv : vLog w a c = -1 := if_neg e
    refine j_iload_n dX7_entry_0 rfl ?_
    refine j_if_lt (tgt := 12) dX7_entry_1 rfl (by first | omega | (split <;> omega)) (fun c_1 => ?_) (fun c_1 => ?_)
    · refine j_iconst dX7_entry_12 ?_
      refine j_iret dX7_entry_13 rfl ?_
      exact rI_of hv.symm rfl
    · refine j_iload_n dX7_entry_4 rfl ?_
      refine j_aload_n dX7_entry_5 rfl ?_
      refine r_getIE dX7_entry_6 flX7_21 (by first | assumption | exact hsh _ _ rfl) h1 (fun b_6 => ?_)
      refine j_icmp_lt (tgt := 14) dX7_entry_9 rfl (by first | omega | (split <;> omega)) (by first | omega | (split <;> omega)) (fun c_9 => by exact absurd c_9 (by omega)) (fun c_9 => ?_)
      refine j_iconst dX7_entry_12 ?_
      refine j_iret dX7_entry_13 rfl ?_
      exact rI_of hv.symm rfl
theorem sc_rowsOf (hs : StAt sh F s) (hG : Lg I s w) {p : Int} (hp : jin p) : jS G (d + 1) mX7_rowsOf [jR (some (s + 8)), jI p] (sh, I, F) 0 0 (rI (mRows w p) (sh, I, F)) := by
  obtain ⟨g0, g1, g2, g3, g4, g5, g6, g7, g8, g9, e1, e2, e3, e4, e5, e6, e7, e8, e9⟩ := id hs
  obtain ⟨h1, h2, h3, h4⟩ := id hG
  refine jS_go [some (jR (some (s + 8))), some (jI p), none, none] (by decide +kernel) rfl (by simp [jone]) (Nat.le_of_ble_eq_true rfl) rfl (fun hok => ?_)
  refine j_iconst dX7_rowsOf_0 ?_
  refine j_istore_n dX7_rowsOf_1 (by decide) ?_
  refine j_iconst dX7_rowsOf_2 ?_
  refine j_istore_n dX7_rowsOf_3 (by decide) ?_
  skip
  refine jW_loop 4 (fun _ _ => True) (fun k a => if w (180 + 4 * k + 1) = p then a + 1 else a) 0 (w 10) (fun z a => [some (jR (some (s + 8))), some (jI p), some (jI a), some (jI z)]) (fun _ _ => (sh, I, F)) h2.1 trivial (fun _ _ _ _ _ => trivial) (fun a ha _ => ?_) (fun z a hz0 hz1 _ ih => ?_)
  · refine j_iload_n dX7_rowsOf_4 rfl ?_
    refine j_aload_n dX7_rowsOf_5 rfl ?_
    refine r_getIE dX7_rowsOf_6 flX7_21 (by first | assumption | exact hsh _ _ rfl) h1 (fun b_6 => ?_)
    refine j_icmp_ge (tgt := 31) dX7_rowsOf_9 rfl (by first | omega | (split <;> omega)) (by first | omega | (split <;> omega)) (fun c_9 => ?_) (fun c_9 => by exact absurd (by omega) c_9)
    refine j_iload_n dX7_rowsOf_31 rfl ?_
    refine j_iret dX7_rowsOf_32 rfl ?_
    exact rI_of ha rfl
  · have se := sc_entry (G := G) (d := d) hs hG (a := z) (c := 1) (by omega) (by omega)
    rw [show vLog w z 1 = w (180 + 4 * z + 1) from if_pos ⟨hz0, hz1⟩] at se
    have hj : jin (w (180 + 4 * z + 1)) := by rw [← h4 z 1 hz0 hz1 (by omega) (by omega)]; exact hok.2.1 _ _
    refine j_iload_n dX7_rowsOf_4 rfl ?_
    refine j_aload_n dX7_rowsOf_5 rfl ?_
    refine r_getIE dX7_rowsOf_6 flX7_21 (by first | assumption | exact hsh _ _ rfl) h1 (fun b_6 => ?_)
    refine j_icmp_ge (tgt := 31) dX7_rowsOf_9 rfl (by first | omega | (split <;> omega)) (by first | omega | (split <;> omega)) (fun c_9 => by exact absurd c_9 (by omega)) (fun c_9 => ?_)
    refine j_aload_n dX7_rowsOf_12 rfl ?_
    refine j_iload_n dX7_rowsOf_13 rfl ?_
    refine j_iconst dX7_rowsOf_14 ?_
    refine r_cv2I dX7_rowsOf_15 cvX7_34 (by decide) (by first | assumption | exact hsh _ _ rfl) (Nat.le_of_ble_eq_true rfl) (Nat.le_of_eq (Nat.zero_add _)) (Nat.le_of_eq (Nat.zero_add _)) (se) ?_
    refine j_iload_n dX7_rowsOf_18 rfl ?_
    refine j_icmp_ne (tgt := 25) dX7_rowsOf_19 rfl (by first | omega | (split <;> omega)) (by first | omega | (split <;> omega)) (fun c_19 => ?_) (fun c_19 => ?_)
    · refine j_iinc dX7_rowsOf_25 rfl (by decide) ?_
      refine j_goto (tgt := 4) dX7_rowsOf_28 rfl ?_
      first | (rw [if_pos (by omega)] at ih; exact ih) | (rw [if_neg (by omega)] at ih; exact ih)
    · refine j_iinc dX7_rowsOf_22 rfl (by decide) ?_
      refine j_iinc dX7_rowsOf_25 rfl (by decide) ?_
      refine j_goto (tgt := 4) dX7_rowsOf_28 rfl ?_
      first | (rw [if_pos (by omega)] at ih; exact ih) | (rw [if_neg (by omega)] at ih; exact ih)
theorem sc_mostFeltBy (hs : StAt sh F s) (hG : Lg I s w) {p : Int} (hp : jin p) : jS G (d + 1) mX7_mostFeltBy [jR (some (s + 8)), jI p] (sh, I, F) 0 0 (rI (mMost w p) (sh, I, F)) := by
  obtain ⟨g0, g1, g2, g3, g4, g5, g6, g7, g8, g9, e1, e2, e3, e4, e5, e6, e7, e8, e9⟩ := id hs
  obtain ⟨h1, h2, h3, h4⟩ := id hG
  refine jS_go [some (jR (some (s + 8))), some (jI p), none, none] (by decide +kernel) rfl (by simp [jone]) (Nat.le_of_ble_eq_true rfl) rfl (fun hok => ?_)
  refine j_iconst dX7_mostFeltBy_0 ?_
  refine j_istore_n dX7_mostFeltBy_1 (by decide) ?_
  refine j_iconst dX7_mostFeltBy_2 ?_
  refine j_istore_n dX7_mostFeltBy_3 (by decide) ?_
  skip
  have hjj : ∀ z c, 0 ≤ z → z < w 10 → 0 ≤ c → c < 4 → jin (w (180 + 4 * z + c)) := fun z c z0 z1 c0 c1 => by rw [← h4 z c z0 z1 c0 c1]; exact hok.2.1 _ _
  refine jW_loop 4 (fun _ a => jin a) (fun k a => if w (180 + 4 * k + 1) = p then max a (w (180 + 4 * k + 2)) else a) 0 (w 10) (fun z a => [some (jR (some (s + 8))), some (jI p), some (jI a), some (jI z)]) (fun _ _ => (sh, I, F)) h2.1 (by decide) (fun z a z0 z1 ha => by have := hjj z 2 z0 z1 (by omega) (by omega); split <;> omega) (fun a ha _ => ?_) (fun z a hz0 hz1 hPa ih => ?_)
  · refine j_iload_n dX7_mostFeltBy_4 rfl ?_
    refine j_aload_n dX7_mostFeltBy_5 rfl ?_
    refine r_getIE dX7_mostFeltBy_6 flX7_21 (by first | assumption | exact hsh _ _ rfl) h1 (fun b_6 => ?_)
    refine j_icmp_ge (tgt := 39) dX7_mostFeltBy_9 rfl (by first | omega | (split <;> omega)) (by first | omega | (split <;> omega)) (fun c_9 => ?_) (fun c_9 => by exact absurd (by omega) c_9)
    refine j_iload_n dX7_mostFeltBy_39 rfl ?_
    refine j_iret dX7_mostFeltBy_40 rfl ?_
    exact rI_of ha rfl
  · have se := sc_entry (G := G) (d := d) hs hG (a := z) (c := 1) (by omega) (by omega)
    rw [show vLog w z 1 = w (180 + 4 * z + 1) from if_pos ⟨hz0, hz1⟩] at se
    have se2 := sc_entry (G := G) (d := d) hs hG (a := z) (c := 2) (by omega) (by omega)
    rw [show vLog w z 2 = w (180 + 4 * z + 2) from if_pos ⟨hz0, hz1⟩] at se2
    have hj := hjj z 1 hz0 hz1 (by omega) (by omega)
    have hj2 := hjj z 2 hz0 hz1 (by omega) (by omega)
    refine j_iload_n dX7_mostFeltBy_4 rfl ?_
    refine j_aload_n dX7_mostFeltBy_5 rfl ?_
    refine r_getIE dX7_mostFeltBy_6 flX7_21 (by first | assumption | exact hsh _ _ rfl) h1 (fun b_6 => ?_)
    refine j_icmp_ge (tgt := 39) dX7_mostFeltBy_9 rfl (by first | omega | (split <;> omega)) (by first | omega | (split <;> omega)) (fun c_9 => by exact absurd c_9 (by omega)) (fun c_9 => ?_)
    refine j_aload_n dX7_mostFeltBy_12 rfl ?_
    refine j_iload_n dX7_mostFeltBy_13 rfl ?_
    refine j_iconst dX7_mostFeltBy_14 ?_
    refine r_cv2I dX7_mostFeltBy_15 cvX7_34 (by decide) (by first | assumption | exact hsh _ _ rfl) (Nat.le_of_ble_eq_true rfl) (Nat.le_of_eq (Nat.zero_add _)) (Nat.le_of_eq (Nat.zero_add _)) (se) ?_
    refine j_iload_n dX7_mostFeltBy_18 rfl ?_
    refine j_icmp_ne (tgt := 33) dX7_mostFeltBy_19 rfl (by first | omega | (split <;> omega)) (by first | omega | (split <;> omega)) (fun c_19 => ?_) (fun c_19 => ?_)
    · refine j_iinc dX7_mostFeltBy_33 rfl (by decide) ?_
      refine j_goto (tgt := 4) dX7_mostFeltBy_36 rfl ?_
      first | (rw [if_pos (by omega)] at ih; exact ih) | (rw [if_neg (by omega)] at ih; exact ih)
    · refine j_iload_n dX7_mostFeltBy_22 rfl ?_
      refine j_aload_n dX7_mostFeltBy_23 rfl ?_
      refine j_iload_n dX7_mostFeltBy_24 rfl ?_
      refine j_iconst dX7_mostFeltBy_25 ?_
      refine r_cv2I dX7_mostFeltBy_26 cvX7_34 (by decide) (by first | assumption | exact hsh _ _ rfl) (Nat.le_of_ble_eq_true rfl) (Nat.le_of_eq (Nat.zero_add _)) (Nat.le_of_eq (Nat.zero_add _)) (se2) ?_
      refine r_max dX7_mostFeltBy_29 lmX7_37 (Nat.le_of_ble_eq_true rfl) (by first | omega | (split <;> omega)) (by first | omega | (split <;> omega)) ?_
      refine j_istore_n dX7_mostFeltBy_32 (by decide) ?_
      refine j_iinc dX7_mostFeltBy_33 rfl (by decide) ?_
      refine j_goto (tgt := 4) dX7_mostFeltBy_36 rfl ?_
      first | (rw [if_pos (by omega)] at ih; exact ih) | (rw [if_neg (by omega)] at ih; exact ih)
theorem cp_led_1 (hsh : ShOK sh) (hfx : FxOK F) (hR : Rp I 2 w) {p b : Int} (h1 : jin p) (h2 : ¬ gP w p) : jS G (d + 6) mX11_led [jR (some 0), jI p, jI b] (sh, I, F) 1 6 (rX xIob (sh, I, F)) := by
  refine jS_go [some (jR (some 0)), some (jI p), some (jI b)] (by decide +kernel) rfl (by simp [jone]) (Nat.le_of_ble_eq_true rfl) rfl (fun hok => ?_)
  refine j_aload_n dX11_led_0 rfl ?_
  refine j_iload_n dX11_led_1 rfl ?_
  exact r_cv1X dX11_led_2 cvX11_119 (by decide) (by first | assumption | exact hsh _ _ rfl) (Nat.le_of_ble_eq_true rfl) (Nat.le_refl _) (Nat.le_refl _) rfl (cg_person1 hsh hfx hR (by omega) h2) (⟨rfl, rfl⟩)
theorem cp_led_0 (hsh : ShOK sh) (hfx : FxOK F) (hst : StAt sh F 2) (hR : Rp I 2 w) (hG : Lg I 2 w) {p b : Int} (h1 : jin p) (h2 : gP w p) (hb : b = 0 ∨ b = 1) : jS G (d + 6) mX11_led [jR (some 0), jI p, jI b] (sh, I, F) 0 0 (rI (if b = 0 then mRows w p else mMost w p) (sh, I, F)) := by
  obtain ⟨g0, g1, g2, g3, g4, g5, g6, g7, g8, g9, e1, e2, e3, e4, e5, e6, e7, e8, e9⟩ := id hst
  refine jS_go [some (jR (some 0)), some (jI p), some (jI b)] (by decide +kernel) rfl (by simp [jone]) (Nat.le_of_ble_eq_true rfl) rfl (fun hok => ?_)
  refine j_aload_n dX11_led_0 rfl ?_
  refine j_iload_n dX11_led_1 rfl ?_
  refine r_cv1V dX11_led_2 cvX11_119 (by decide) (by first | assumption | exact hsh _ _ rfl) (Nat.le_of_ble_eq_true rfl) (Nat.le_of_eq (Nat.zero_add _)) (Nat.le_of_eq (Nat.zero_add _)) (cg_person0 hsh hfx hR (by omega) h2) ?_
  refine j_iload_n dX11_led_5 rfl ?_
  refine j_if_eq (tgt := 23) dX11_led_6 rfl (by first | omega | (split <;> omega)) (fun c_6 => ?_) (fun c_6 => ?_)
  · refine j_aload_n dX11_led_23 rfl ?_
    refine r_getS dX11_led_24 flX11_20 (by first | assumption | exact hsh _ _ rfl) (fx_0_3 hfx) ?_
    refine r_getS dX11_led_27 flX11_324 (by first | assumption | exact hsh _ _ rfl) (by assumption) ?_
    refine j_iload_n dX11_led_30 rfl ?_
    refine r_cv1I dX11_led_31 cvX11_333 (by decide) (by first | assumption | exact hsh _ _ rfl) (Nat.le_of_ble_eq_true rfl) (Nat.le_of_eq (Nat.zero_add _)) (Nat.le_of_eq (Nat.zero_add _)) (sc_rowsOf hst hG h1) ?_
    refine j_iret dX11_led_34 rfl ?_
    exact rI_of (by first | rw [if_pos c_6] | rw [if_neg c_6]) rfl
  · refine j_aload_n dX11_led_9 rfl ?_
    refine r_getS dX11_led_10 flX11_20 (by first | assumption | exact hsh _ _ rfl) (fx_0_3 hfx) ?_
    refine r_getS dX11_led_13 flX11_324 (by first | assumption | exact hsh _ _ rfl) (by assumption) ?_
    refine j_iload_n dX11_led_16 rfl ?_
    refine r_cv1I dX11_led_17 cvX11_328 (by decide) (by first | assumption | exact hsh _ _ rfl) (Nat.le_of_ble_eq_true rfl) (Nat.le_of_eq (Nat.zero_add _)) (Nat.le_of_eq (Nat.zero_add _)) (sc_mostFeltBy hst hG h1) ?_
    refine j_goto (tgt := 34) dX11_led_20 rfl ?_
    refine j_iret dX11_led_34 rfl ?_
    exact rI_of (by first | rw [if_pos c_6] | rw [if_neg c_6]) rfl
theorem cp_log_1 (hsh : ShOK sh) (hfx : FxOK F) {a c : Int} (h1 : jin c) (h2 : ¬ (0 ≤ c ∧ c ≤ 3)) : jS G (d + 6) mX11_log [jR (some 0), jI a, jI c] (sh, I, F) 1 6 (rX xNse (sh, I, F)) := by
  refine jS_go [some (jR (some 0)), some (jI a), some (jI c)] (by decide +kernel) rfl (by simp [jone]) (Nat.le_of_ble_eq_true rfl) rfl (fun hok => ?_)
  refine j_iload_n dX11_log_0 rfl ?_
  refine j_if_lt (tgt := 9) dX11_log_1 rfl (by first | omega | (split <;> omega)) (fun c_1 => ?_) (fun c_1 => ?_)
  · exact j_throwN dX11_log_9 dX11_log_12 dX11_log_13 dX11_log_15 dX11_log_18 rfl th_what ⟨rfl, rfl⟩
  · refine j_iload_n dX11_log_4 rfl ?_
    refine j_iconst dX11_log_5 ?_
    refine j_icmp_lt (tgt := 19) dX11_log_6 rfl (by first | omega | (split <;> omega)) (by first | omega | (split <;> omega)) (fun c_6 => by exact absurd c_6 (by omega)) (fun c_6 => ?_)
    exact j_throwN dX11_log_9 dX11_log_12 dX11_log_13 dX11_log_15 dX11_log_18 rfl th_what ⟨rfl, rfl⟩
theorem cp_log_0 (hsh : ShOK sh) (hfx : FxOK F) (hst : StAt sh F 2) (hG : Lg I 2 w) {a c : Int} (h1 : jin a) (h2 : 0 ≤ c ∧ c ≤ 3) : jS G (d + 6) mX11_log [jR (some 0), jI a, jI c] (sh, I, F) 0 0 (rI (vLog w a c) (sh, I, F)) := by
  obtain ⟨g0, g1, g2, g3, g4, g5, g6, g7, g8, g9, e1, e2, e3, e4, e5, e6, e7, e8, e9⟩ := id hst
  refine jS_go [some (jR (some 0)), some (jI a), some (jI c)] (by decide +kernel) rfl (by simp [jone]) (Nat.le_of_ble_eq_true rfl) rfl (fun hok => ?_)
  refine j_iload_n dX11_log_0 rfl ?_
  refine j_if_lt (tgt := 9) dX11_log_1 rfl (by first | omega | (split <;> omega)) (fun c_1 => by exact absurd c_1 (by omega)) (fun c_1 => ?_)
  refine j_iload_n dX11_log_4 rfl ?_
  refine j_iconst dX11_log_5 ?_
  refine j_icmp_lt (tgt := 19) dX11_log_6 rfl (by first | omega | (split <;> omega)) (by first | omega | (split <;> omega)) (fun c_6 => ?_) (fun c_6 => by exact absurd (by omega) c_6)
  refine j_aload_n dX11_log_19 rfl ?_
  refine r_getS dX11_log_20 flX11_20 (by first | assumption | exact hsh _ _ rfl) (fx_0_3 hfx) ?_
  refine r_getS dX11_log_23 flX11_324 (by first | assumption | exact hsh _ _ rfl) (by assumption) ?_
  refine j_iload_n dX11_log_26 rfl ?_
  refine j_iload_n dX11_log_27 rfl ?_
  refine r_cv2I dX11_log_28 cvX11_336 (by decide) (by first | assumption | exact hsh _ _ rfl) (Nat.le_of_ble_eq_true rfl) (Nat.le_of_eq (Nat.zero_add _)) (Nat.le_of_eq (Nat.zero_add _)) (sc_entry hst hG h1 (by omega)) ?_
  refine j_iret dX11_log_31 rfl ?_
  exact rI_of rfl rfl
/-! ### the model -/
theorem sm_ofLog (hsh : ShOK sh) (hfx : FxOK F) {a c : Int} (h1 : 0 ≤ a ∧ a < 60) (h2 : 0 ≤ c ∧ c < 4) : jS G d mX12_ofLog [jR (some 170), jI a, jI c] (sh, I, F) 0 0 (rI (I 171 (180 + 4 * a + c)) (sh, I, F)) := by
  refine jS_go [some (jR (some 170)), some (jI a), some (jI c)] (by decide +kernel) rfl (by simp [jone]) (Nat.le_of_ble_eq_true rfl) rfl (fun hok => ?_)
  refine j_aload_n dX12_ofLog_0 rfl ?_
  refine r_getS dX12_ofLog_1 flX12_13 (by first | assumption | exact hsh _ _ rfl) (fx_170_1 hfx) ?_
  refine j_sipush dX12_ofLog_4 (by decide) ?_
  refine j_iconst dX12_ofLog_7 ?_
  refine j_iload_n dX12_ofLog_8 rfl ?_
  refine j_imul dX12_ofLog_9 ?_
  refine j_iadd dX12_ofLog_10 ?_
  refine j_iload_n dX12_ofLog_11 rfl ?_
  refine j_iadd dX12_ofLog_12 ?_
  refine r_iaload dX12_ofLog_13 (by first | assumption | exact hsh _ _ rfl) (by first | omega | (split <;> omega)) (by first | omega | (split <;> omega)) (fun b_13 => ?_)
  refine j_iret dX12_ofLog_14 rfl ?_
  exact rI_of rfl rfl
theorem mp_led_1 (hsh : ShOK sh) (hfx : FxOK F) (hP : WfP (I 171)) {p b : Int} (h1 : jin p) (h2 : ¬ gP (I 171) p) : jS G (d + 6) mX12_led [jR (some 170), jI p, jI b] (sh, I, F) 0 0 (rI 0 (sh, jup I 170 0 1, F)) := by
  refine jS_go [some (jR (some 170)), some (jI p), some (jI b), none, none, none] (by decide +kernel) rfl (by simp [jone]) (Nat.le_of_ble_eq_true rfl) rfl (fun hok => ?_)
  refine j_aload_n dX12_led_0 rfl ?_
  refine j_iconst dX12_led_1 ?_
  refine r_putI dX12_led_2 flX12_3 rfl (by first | assumption | exact hsh _ _ rfl) (by first | omega | (split <;> omega)) (fun q => by cases q) ?_
  skip
  have hok1 : jzok (sh, jup I 170 0 0, F) := jzok_I hok jin_lit0
  have hw0 : (jup I 170 0 0) 171 = I 171 := jup_ne _ _ _ (by decide)
  clear hok
  rw [← jup_up I 170 0 0 1]
  rw [← hw0] at hP h2
  try rw [← hw0]
  obtain ⟨I1, hI1⟩ : ∃ J, J = jup I 170 0 0 := ⟨_, rfl⟩
  rw [← hI1] at hok1 hw0 hP h2 ⊢
  have hok := hok1
  refine j_aload_n dX12_led_5 rfl ?_
  refine j_aload_n dX12_led_6 rfl ?_
  refine j_iload_n dX12_led_7 rfl ?_
  refine r_cv1I dX12_led_8 cvX12_335 (by decide) (by first | assumption | exact hsh _ _ rfl) (Nat.le_of_ble_eq_true rfl) (Nat.le_of_eq (Nat.zero_add _)) (Nat.le_of_eq (Nat.zero_add _)) (sm_noP1 hsh hfx hok (by omega) hP h2) ?_
  refine j_iconst dX12_led_11 ?_
  refine r_cv2I dX12_led_12 cvX12_253 (by decide) (by first | assumption | exact hsh _ _ rfl) (Nat.le_of_ble_eq_true rfl) (Nat.le_of_eq (Nat.zero_add _)) (Nat.le_of_eq (Nat.zero_add _)) (sm_thr1 hsh (by omega)) ?_
  refine j_if_eq (tgt := 20) dX12_led_15 rfl (by first | omega | (split <;> omega)) (fun c_15 => by exact absurd c_15 (by decide)) (fun c_15 => ?_)
  refine j_iconst dX12_led_18 ?_
  refine j_iret dX12_led_19 rfl ?_
  exact rI_of rfl rfl
theorem mp_led_0 (hsh : ShOK sh) (hfx : FxOK F) (hP : WfP (I 171)) (h10 : 0 ≤ I 171 10 ∧ I 171 10 ≤ 60) {p b : Int} (h1 : jin p) (h2 : gP (I 171) p) (hb : b = 0 ∨ b = 1) : jS G (d + 6) mX12_led [jR (some 170), jI p, jI b] (sh, I, F) 0 0 (rI (if b = 0 then mRows (I 171) p else mMost (I 171) p) (sh, jup I 170 0 0, F)) := by
  refine jS_go [some (jR (some 170)), some (jI p), some (jI b), none, none, none] (by decide +kernel) rfl (by simp [jone]) (Nat.le_of_ble_eq_true rfl) rfl (fun hok => ?_)
  refine j_aload_n dX12_led_0 rfl ?_
  refine j_iconst dX12_led_1 ?_
  refine r_putI dX12_led_2 flX12_3 rfl (by first | assumption | exact hsh _ _ rfl) (by first | omega | (split <;> omega)) (fun q => by cases q) ?_
  skip
  have hok1 : jzok (sh, jup I 170 0 0, F) := jzok_I hok jin_lit0
  have hw0 : (jup I 170 0 0) 171 = I 171 := jup_ne _ _ _ (by decide)
  clear hok
  rw [← hw0] at hP h2 h10
  try rw [← hw0]
  obtain ⟨I1, hI1⟩ : ∃ J, J = jup I 170 0 0 := ⟨_, rfl⟩
  rw [← hI1] at hok1 hw0 hP h2 h10 ⊢
  have hok := hok1
  generalize hQ : rI (if b = 0 then mRows (I1 171) p else mMost (I1 171) p) (sh, I1, F) = Q9
  refine j_aload_n dX12_led_5 rfl ?_
  refine j_aload_n dX12_led_6 rfl ?_
  refine j_iload_n dX12_led_7 rfl ?_
  refine r_cv1I dX12_led_8 cvX12_335 (by decide) (by first | assumption | exact hsh _ _ rfl) (Nat.le_of_ble_eq_true rfl) (Nat.le_of_eq (Nat.zero_add _)) (Nat.le_of_eq (Nat.zero_add _)) (sm_noP0 hsh hfx hok (by omega) hP h2) ?_
  refine j_iconst dX12_led_11 ?_
  refine r_cv2I dX12_led_12 cvX12_253 (by decide) (by first | assumption | exact hsh _ _ rfl) (Nat.le_of_ble_eq_true rfl) (Nat.le_of_eq (Nat.zero_add _)) (Nat.le_of_eq (Nat.zero_add _)) (sm_thr0 hsh) ?_
  refine j_if_eq (tgt := 20) dX12_led_15 rfl (by first | omega | (split <;> omega)) (fun c_15 => ?_) (fun c_15 => by exact absurd c_15 (by decide))
  refine j_iconst dX12_led_20 ?_
  refine j_istore_n dX12_led_21 (by decide) ?_
  refine j_iconst dX12_led_22 ?_
  refine j_istore dX12_led_23 (by decide) ?_
  refine j_iconst dX12_led_25 ?_
  refine j_istore dX12_led_26 (by decide) ?_
  skip
  have hjj : ∀ k, jin (I1 171 k) := fun k => hok.2.1 171 k
  refine jW_loop 28 (fun z (a : Int × Int) => (0 ≤ a.1 ∧ a.1 ≤ z) ∧ jin a.2) (fun k a => if I1 171 (180 + 4 * k + 1) = p then (a.1 + 1, max a.2 (I1 171 (180 + 4 * k + 2))) else a) (0, 0) (I1 171 10) (fun z a => [some (jR (some 170)), some (jI p), some (jI b), some (jI a.1), some (jI a.2), some (jI z)]) (fun _ _ => (sh, I1, F)) h10.1 (by decide) (fun z a z0 z1 ha => by have := hjj (180 + 4 * z + 2); split <;> (try dsimp only) <;> omega) (fun a ha _ => ?_) (fun z a hz0 hz1 hPa ih => ?_)
  · have hN : ∀ n : Nat, (jfold (fun k (a : Int × Int) => if I1 171 (180 + 4 * k + 1) = p then (a.1 + 1, max a.2 (I1 171 (180 + 4 * k + 2))) else a) ((0 : Int), (0 : Int)) n) = (jfold (fun k a => if I1 171 (180 + 4 * k + 1) = p then a + 1 else a) 0 n, jfold (fun k a => if I1 171 (180 + 4 * k + 1) = p then max a (I1 171 (180 + 4 * k + 2)) else a) 0 n) := by
      intro n
      induction n with
      | zero => rfl
      | succ n ih =>
        show (if _ then _ else jfold _ _ n) = (if _ then _ else jfold _ _ n, if _ then _ else jfold _ _ n)
        rw [ih]
        split <;> rfl
    have ha2 : a = (mRows (I1 171) p, mMost (I1 171) p) := ha.trans (hN _)
    subst ha2
    have hj2 := hjj 10
    refine j_iload dX12_led_28 rfl ?_
    refine j_aload_n dX12_led_30 rfl ?_
    refine r_getS dX12_led_31 flX12_13 (by first | assumption | exact hsh _ _ rfl) (fx_170_1 hfx) ?_
    refine j_bipush dX12_led_34 (by decide) ?_
    refine r_iaload dX12_led_36 (by first | assumption | exact hsh _ _ rfl) (by first | omega | (split <;> omega)) (by first | omega | (split <;> omega)) (fun b_36 => ?_)
    refine j_icmp_ge (tgt := 77) dX12_led_37 rfl (by first | omega | (split <;> omega)) (by first | omega | (split <;> omega)) (fun c_37 => ?_) (fun c_37 => by exact absurd (by omega) c_37)
    refine j_iload_n dX12_led_77 rfl ?_
    refine j_if_eq (tgt := 86) dX12_led_78 rfl (by first | omega | (split <;> omega)) (fun c_78 => ?_) (fun c_78 => ?_)
    · refine j_iload_n dX12_led_86 rfl ?_
      refine j_iret dX12_led_87 rfl ?_
      rw [← hQ]
      exact rI_of (by first | rw [if_pos c_78] | rw [if_neg c_78]) rfl
    · refine j_iload dX12_led_81 rfl ?_
      refine j_goto (tgt := 87) dX12_led_83 rfl ?_
      refine j_iret dX12_led_87 rfl ?_
      rw [← hQ]
      exact rI_of (by first | rw [if_pos c_78] | rw [if_neg c_78]) rfl
  · have hj1 := hjj (180 + 4 * z + 1)
    have hj2 := hjj (180 + 4 * z + 2)
    have hj3 := hPa.2
    refine j_iload dX12_led_28 rfl ?_
    refine j_aload_n dX12_led_30 rfl ?_
    refine r_getS dX12_led_31 flX12_13 (by first | assumption | exact hsh _ _ rfl) (fx_170_1 hfx) ?_
    refine j_bipush dX12_led_34 (by decide) ?_
    refine r_iaload dX12_led_36 (by first | assumption | exact hsh _ _ rfl) (by first | omega | (split <;> omega)) (by first | omega | (split <;> omega)) (fun b_36 => ?_)
    refine j_icmp_ge (tgt := 77) dX12_led_37 rfl (by first | omega | (split <;> omega)) (by first | omega | (split <;> omega)) (fun c_37 => by exact absurd c_37 (by omega)) (fun c_37 => ?_)
    refine j_aload_n dX12_led_40 rfl ?_
    refine j_iload dX12_led_41 rfl ?_
    refine j_iconst dX12_led_43 ?_
    refine r_cv2I dX12_led_44 cvX12_414 (by decide) (by first | assumption | exact hsh _ _ rfl) (Nat.le_of_ble_eq_true rfl) (Nat.le_of_eq (Nat.zero_add _)) (Nat.le_of_eq (Nat.zero_add _)) (sm_ofLog hsh hfx (by omega) (by omega)) ?_
    refine j_iload_n dX12_led_47 rfl ?_
    refine j_icmp_eq (tgt := 54) dX12_led_48 rfl (by first | omega | (split <;> omega)) (by first | omega | (split <;> omega)) (fun c_48 => ?_) (fun c_48 => ?_)
    · refine j_iinc dX12_led_54 rfl (by decide) ?_
      refine j_iload dX12_led_57 rfl ?_
      refine j_aload_n dX12_led_59 rfl ?_
      refine j_iload dX12_led_60 rfl ?_
      refine j_iconst dX12_led_62 ?_
      refine r_cv2I dX12_led_63 cvX12_414 (by decide) (by first | assumption | exact hsh _ _ rfl) (Nat.le_of_ble_eq_true rfl) (Nat.le_of_eq (Nat.zero_add _)) (Nat.le_of_eq (Nat.zero_add _)) (sm_ofLog hsh hfx (by omega) (by omega)) ?_
      refine r_max dX12_led_66 lmX12_280 (Nat.le_of_ble_eq_true rfl) (by first | omega | (split <;> omega)) (by first | omega | (split <;> omega)) ?_
      refine j_istore dX12_led_69 (by decide) ?_
      refine j_iinc dX12_led_71 rfl (by decide) ?_
      refine j_goto (tgt := 28) dX12_led_74 rfl ?_
      first | (rw [if_pos (by omega)] at ih; exact ih) | (rw [if_neg (by omega)] at ih; exact ih)
    · refine j_goto (tgt := 71) dX12_led_51 rfl ?_
      refine j_iinc dX12_led_71 rfl (by decide) ?_
      refine j_goto (tgt := 28) dX12_led_74 rfl ?_
      first | (rw [if_pos (by omega)] at ih; exact ih) | (rw [if_neg (by omega)] at ih; exact ih)
theorem mp_log_1 (hsh : ShOK sh) (hfx : FxOK F) {a c : Int} (h1 : jin c) (h2 : ¬ (0 ≤ c ∧ c ≤ 3)) : jS G (d + 6) mX12_log [jR (some 170), jI a, jI c] (sh, I, F) 0 0 (rI 0 (sh, jup I 170 0 1, F)) := by
  refine jS_go [some (jR (some 170)), some (jI a), some (jI c)] (by decide +kernel) rfl (by simp [jone]) (Nat.le_of_ble_eq_true rfl) rfl (fun hok => ?_)
  refine j_aload_n dX12_log_0 rfl ?_
  refine j_iconst dX12_log_1 ?_
  refine r_putI dX12_log_2 flX12_3 rfl (by first | assumption | exact hsh _ _ rfl) (by first | omega | (split <;> omega)) (fun q => by cases q) ?_
  skip
  have hok1 : jzok (sh, jup I 170 0 0, F) := jzok_I hok jin_lit0
  have hw0 : (jup I 170 0 0) 171 = I 171 := jup_ne _ _ _ (by decide)
  clear hok
  rw [← jup_up I 170 0 0 1]
  try rw [← hw0]
  obtain ⟨I1, hI1⟩ : ∃ J, J = jup I 170 0 0 := ⟨_, rfl⟩
  rw [← hI1] at hok1 hw0  ⊢
  have hok := hok1
  refine j_aload_n dX12_log_5 rfl ?_
  refine j_iload_n dX12_log_6 rfl ?_
  refine j_iconst dX12_log_7 ?_
  refine j_iconst dX12_log_8 ?_
  refine r_cs3I dX12_log_9 csX12_78 (Nat.le_of_ble_eq_true rfl) (Nat.le_of_eq (Nat.zero_add _)) (Nat.le_of_eq (Nat.zero_add _)) (sm_in0 (by omega) (by omega) (by omega) h2) ?_
  refine j_if_ne (tgt := 19) dX12_log_12 rfl (by first | omega | (split <;> omega)) (fun c_12 => by exact absurd c_12 (by decide)) (fun c_12 => ?_)
  refine j_iconst dX12_log_15 ?_
  refine j_goto (tgt := 20) dX12_log_16 rfl ?_
  refine j_iconst dX12_log_20 ?_
  refine r_cv2I dX12_log_21 cvX12_253 (by decide) (by first | assumption | exact hsh _ _ rfl) (Nat.le_of_ble_eq_true rfl) (Nat.le_of_eq (Nat.zero_add _)) (Nat.le_of_eq (Nat.zero_add _)) (sm_thr1 hsh (by omega)) ?_
  refine j_if_eq (tgt := 29) dX12_log_24 rfl (by first | omega | (split <;> omega)) (fun c_24 => by exact absurd c_24 (by decide)) (fun c_24 => ?_)
  refine j_iconst dX12_log_27 ?_
  refine j_iret dX12_log_28 rfl ?_
  exact rI_of rfl rfl
theorem mp_log_0 (hsh : ShOK sh) (hfx : FxOK F) (h10 : 0 ≤ I 171 10 ∧ I 171 10 ≤ 60) {a c : Int} (h1 : jin a) (h2 : 0 ≤ c ∧ c ≤ 3) : jS G (d + 6) mX12_log [jR (some 170), jI a, jI c] (sh, I, F) 0 0 (rI (vLog (I 171) a c) (sh, jup I 170 0 0, F)) := by
  refine jS_go [some (jR (some 170)), some (jI a), some (jI c)] (by decide +kernel) rfl (by simp [jone]) (Nat.le_of_ble_eq_true rfl) rfl (fun hok => ?_)
  refine j_aload_n dX12_log_0 rfl ?_
  refine j_iconst dX12_log_1 ?_
  refine r_putI dX12_log_2 flX12_3 rfl (by first | assumption | exact hsh _ _ rfl) (by first | omega | (split <;> omega)) (fun q => by cases q) ?_
  skip
  have hok1 : jzok (sh, jup I 170 0 0, F) := jzok_I hok jin_lit0
  have hw0 : (jup I 170 0 0) 171 = I 171 := jup_ne _ _ _ (by decide)
  clear hok
  rw [← hw0] at h10
  try rw [← hw0]
  obtain ⟨I1, hI1⟩ : ∃ J, J = jup I 170 0 0 := ⟨_, rfl⟩
  rw [← hI1] at hok1 hw0 h10 ⊢
  have hok := hok1
  by_cases e : 0 ≤ a ∧ a < I1 171 10
  · have hv : vLog (I1 171) a c = I1 171 (180 + 4 * a + c) := if_pos e
    refine j_aload_n dX12_log_5 rfl ?_
    refine j_iload_n dX12_log_6 rfl ?_
    refine j_iconst dX12_log_7 ?_
    refine j_iconst dX12_log_8 ?_
    refine r_cs3I dX12_log_9 csX12_78 (Nat.le_of_ble_eq_true rfl) (Nat.le_of_eq (Nat.zero_add _)) (Nat.le_of_eq (Nat.zero_add _)) (sm_in1 (by omega) (by omega) (by omega) h2) ?_
    refine j_if_ne (tgt := 19) dX12_log_12 rfl (by first | omega | (split <;> omega)) (fun c_12 => ?_) (fun c_12 => by exact absurd c_12 (by decide))
    refine j_iconst dX12_log_19 ?_
    refine j_iconst dX12_log_20 ?_
    refine r_cv2I dX12_log_21 cvX12_253 (by decide) (by first | assumption | exact hsh _ _ rfl) (Nat.le_of_ble_eq_true rfl) (Nat.le_of_eq (Nat.zero_add _)) (Nat.le_of_eq (Nat.zero_add _)) (sm_thr0 hsh) ?_
    refine j_if_eq (tgt := 29) dX12_log_24 rfl (by first | omega | (split <;> omega)) (fun c_24 => ?_) (fun c_24 => by exact absurd c_24 (by decide))
    refine j_iload_n dX12_log_29 rfl ?_
    refine j_iconst dX12_log_30 ?_
    refine j_aload_n dX12_log_31 rfl ?_
    refine r_getS dX12_log_32 flX12_13 (by first | assumption | exact hsh _ _ rfl) (fx_170_1 hfx) ?_
    refine j_bipush dX12_log_35 (by decide) ?_
    refine r_iaload dX12_log_37 (by first | assumption | exact hsh _ _ rfl) (by first | omega | (split <;> omega)) (by first | omega | (split <;> omega)) (fun b_37 => ?_)
    refine j_iconst dX12_log_38 ?_
    refine j_isub dX12_log_39 ?_
    refine r_cs3I dX12_log_40 csX12_78 (Nat.le_of_ble_eq_true rfl) (Nat.le_of_eq (Nat.zero_add _)) (Nat.le_of_eq (Nat.zero_add _)) (sm_in1 (by omega) (by omega) (by omega) (by omega)) ?_
    refine j_if_eq (tgt := 55) dX12_log_43 rfl (by first | omega | (split <;> omega)) (fun c_43 => by exact absurd c_43 (by decide)) (fun c_43 => ?_)
    refine j_aload_n dX12_log_46 rfl ?_
    refine j_iload_n dX12_log_47 rfl ?_
    refine j_iload_n dX12_log_48 rfl ?_
    refine r_cv2I dX12_log_49 cvX12_414 (by decide) (by first | assumption | exact hsh _ _ rfl) (Nat.le_of_ble_eq_true rfl) (Nat.le_of_eq (Nat.zero_add _)) (Nat.le_of_eq (Nat.zero_add _)) (sm_ofLog hsh hfx (by omega) (by omega)) ?_
    refine j_goto (tgt := 56) dX12_log_52 rfl ?_
    refine j_iret dX12_log_56 rfl ?_
    exact rI_of hv.symm rfl
  · have hv : vLog (I1 171) a c = -1 := if_neg e
    refine j_aload_n dX12_log_5 rfl ?_
    refine j_iload_n dX12_log_6 rfl ?_
    refine j_iconst dX12_log_7 ?_
    refine j_iconst dX12_log_8 ?_
    refine r_cs3I dX12_log_9 csX12_78 (Nat.le_of_ble_eq_true rfl) (Nat.le_of_eq (Nat.zero_add _)) (Nat.le_of_eq (Nat.zero_add _)) (sm_in1 (by omega) (by omega) (by omega) h2) ?_
    refine j_if_ne (tgt := 19) dX12_log_12 rfl (by first | omega | (split <;> omega)) (fun c_12 => ?_) (fun c_12 => by exact absurd c_12 (by decide))
    refine j_iconst dX12_log_19 ?_
    refine j_iconst dX12_log_20 ?_
    refine r_cv2I dX12_log_21 cvX12_253 (by decide) (by first | assumption | exact hsh _ _ rfl) (Nat.le_of_ble_eq_true rfl) (Nat.le_of_eq (Nat.zero_add _)) (Nat.le_of_eq (Nat.zero_add _)) (sm_thr0 hsh) ?_
    refine j_if_eq (tgt := 29) dX12_log_24 rfl (by first | omega | (split <;> omega)) (fun c_24 => ?_) (fun c_24 => by exact absurd c_24 (by decide))
    refine j_iload_n dX12_log_29 rfl ?_
    refine j_iconst dX12_log_30 ?_
    refine j_aload_n dX12_log_31 rfl ?_
    refine r_getS dX12_log_32 flX12_13 (by first | assumption | exact hsh _ _ rfl) (fx_170_1 hfx) ?_
    refine j_bipush dX12_log_35 (by decide) ?_
    refine r_iaload dX12_log_37 (by first | assumption | exact hsh _ _ rfl) (by first | omega | (split <;> omega)) (by first | omega | (split <;> omega)) (fun b_37 => ?_)
    refine j_iconst dX12_log_38 ?_
    refine j_isub dX12_log_39 ?_
    refine r_cs3I dX12_log_40 csX12_78 (Nat.le_of_ble_eq_true rfl) (Nat.le_of_eq (Nat.zero_add _)) (Nat.le_of_eq (Nat.zero_add _)) (sm_in0 (by omega) (by omega) (by omega) (fun q => e (by omega))) ?_
    refine j_if_eq (tgt := 55) dX12_log_43 rfl (by first | omega | (split <;> omega)) (fun c_43 => ?_) (fun c_43 => by exact absurd c_43 (by decide))
    refine j_iconst dX12_log_55 ?_
    refine j_iret dX12_log_56 rfl ?_
    exact rI_of hv.symm rfl
/-! ### rows are written -/
theorem sc_add (hs : StAt sh F s) {day who fe be : Int} (h1 : 0 ≤ I (s + 8) 1 ∧ I (s + 8) 1 ≤ 60) (h2 : 0 ≤ I (s + 8) 2 ∧ I (s + 8) 2 < 60) (j1 : jin day) (j2 : jin who) (j3 : jin fe) (j4 : jin be) : jS G d mX7_add [jR (some (s + 8)), jI day, jI who, jI fe, jI be] (sh, I, F) 0 0 (rEV sh F (LgA I s day who fe be)) := by
  obtain ⟨g0, g1, g2, g3, g4, g5, g6, g7, g8, g9, e1, e2, e3, e4, e5, e6, e7, e8, e9⟩ := id hs
  refine jS_go [some (jR (some (s + 8))), some (jI day), some (jI who), some (jI fe), some (jI be), none] (by decide +kernel) rfl (by simp [jone]) (Nat.le_of_ble_eq_true rfl) rfl (fun hok => ?_)
  obtain ⟨n, hn⟩ : ∃ n, I (s + 8) 2 = n := ⟨_, rfl⟩
  obtain ⟨K, hK⟩ : ∃ K, K = jup (jup (jup (jup I (s + 9) (n * 4) day) (s + 9) (n * 4 + 1) who) (s + 9) (n * 4 + 2) fe) (s + 9) (n * 4 + 3) be := ⟨_, rfl⟩
  have k1 : ∀ a, a ≠ s + 9 → K a = I a := fun a ha => by rw [hK, jup_ne _ _ _ ha, jup_ne _ _ _ ha, jup_ne _ _ _ ha, jup_ne _ _ _ ha]
  have k9 : K (s + 9) = wup (wup (wup (wup (I (s + 9)) (n * 4) day) (n * 4 + 1) who) (n * 4 + 2) fe) (n * 4 + 3) be := by rw [hK, jup_at, jup_at, jup_at, jup_at]
  have q49 : K (s + 8) 2 = n := by rw [k1 _ (by omega)]; exact hn
  have q64 : jup K (s + 8) 2 ((n + 1) % 60) (s + 8) 1 = I (s + 8) 1 := by rw [jup_row _ _ _ (by decide), k1 _ (by omega)]
  rw [hn] at h2
  refine j_aload_n dX7_add_0 rfl ?_
  refine r_getIE dX7_add_1 flX7_25 (by first | assumption | exact hsh _ _ rfl) hn (fun b_1 => ?_)
  refine j_iconst dX7_add_4 ?_
  refine j_imul dX7_add_5 ?_
  refine j_istore dX7_add_6 (by decide) ?_
  refine j_aload_n dX7_add_8 rfl ?_
  refine r_getS dX7_add_9 flX7_9 (by first | assumption | exact hsh _ _ rfl) (by assumption) ?_
  refine j_iload dX7_add_12 rfl ?_
  refine j_iload_n dX7_add_14 rfl ?_
  refine r_iastore dX7_add_15 (by first | assumption | exact hsh _ _ rfl) (by first | omega | (split <;> omega)) (by first | omega | (split <;> omega)) (by first | omega | (split <;> omega)) ?_
  refine j_aload_n dX7_add_16 rfl ?_
  refine r_getS dX7_add_17 flX7_9 (by first | assumption | exact hsh _ _ rfl) (by assumption) ?_
  refine j_iload dX7_add_20 rfl ?_
  refine j_iconst dX7_add_22 ?_
  refine j_iadd dX7_add_23 ?_
  refine j_iload_n dX7_add_24 rfl ?_
  refine r_iastore dX7_add_25 (by first | assumption | exact hsh _ _ rfl) (by first | omega | (split <;> omega)) (by first | omega | (split <;> omega)) (by first | omega | (split <;> omega)) ?_
  refine j_aload_n dX7_add_26 rfl ?_
  refine r_getS dX7_add_27 flX7_9 (by first | assumption | exact hsh _ _ rfl) (by assumption) ?_
  refine j_iload dX7_add_30 rfl ?_
  refine j_iconst dX7_add_32 ?_
  refine j_iadd dX7_add_33 ?_
  refine j_iload_n dX7_add_34 rfl ?_
  refine r_iastore dX7_add_35 (by first | assumption | exact hsh _ _ rfl) (by first | omega | (split <;> omega)) (by first | omega | (split <;> omega)) (by first | omega | (split <;> omega)) ?_
  refine j_aload_n dX7_add_36 rfl ?_
  refine r_getS dX7_add_37 flX7_9 (by first | assumption | exact hsh _ _ rfl) (by assumption) ?_
  refine j_iload dX7_add_40 rfl ?_
  refine j_iconst dX7_add_42 ?_
  refine j_iadd dX7_add_43 ?_
  refine j_iload dX7_add_44 rfl ?_
  refine r_iastore dX7_add_46 (by first | assumption | exact hsh _ _ rfl) (by first | omega | (split <;> omega)) (by first | omega | (split <;> omega)) (by first | omega | (split <;> omega)) ?_
  rw [← hK]
  refine j_aload_n dX7_add_47 rfl ?_
  refine j_aload_n dX7_add_48 rfl ?_
  refine r_getIE dX7_add_49 flX7_25 (by first | assumption | exact hsh _ _ rfl) q49 (fun b_49 => ?_)
  refine j_iconst dX7_add_52 ?_
  refine j_iadd dX7_add_53 ?_
  refine j_bipush dX7_add_54 (by decide) ?_
  refine r_iremN dX7_add_56 (by first | omega | (split <;> omega)) (by first | omega | (split <;> omega)) ?_
  refine r_putI dX7_add_57 flX7_25 rfl (by first | assumption | exact hsh _ _ rfl) (by first | omega | (split <;> omega)) (fun q => by cases q) ?_
  refine j_aload_n dX7_add_60 rfl ?_
  refine j_bipush dX7_add_61 (by decide) ?_
  refine j_aload_n dX7_add_63 rfl ?_
  refine r_getIE dX7_add_64 flX7_21 (by first | assumption | exact hsh _ _ rfl) q64 (fun b_64 => ?_)
  refine j_iconst dX7_add_67 ?_
  refine j_iadd dX7_add_68 ?_
  refine r_min dX7_add_69 lmX7_28 (Nat.le_of_ble_eq_true rfl) (by first | omega | (split <;> omega)) (by first | omega | (split <;> omega)) ?_
  refine r_putI dX7_add_72 flX7_21 rfl (by first | assumption | exact hsh _ _ rfl) (by first | omega | (split <;> omega)) (fun q => by cases q) ?_
  refine j_vret dX7_add_75 rfl ?_
  refine rEV_of ⟨?_, ?_, ?_, fun a x0 x1 => ?_⟩
  · rw [jup_ne _ _ _ (by omega), jup_ne _ _ _ (by omega), k9, hn]
  · rw [jup_row _ _ _ (by decide), jup_same, hn]
  · rw [jup_same]
  · rw [jup_ne _ _ _ x0, jup_ne _ _ _ x0, k1 a x1]
theorem sc_writeLog (hsh : ShOK sh) (hfx : FxOK F) (hs : StAt sh F s) (hs9 : s + 9 < 154) (hR : Rp I s w) (hW : WF w) {f v : Int → Int} {day : Int} (hF : ∀ q, 0 ≤ q → q < aPe w → I 164 q = f q ∧ aOf v q 0 = aOf w q 0 ∧ (aOf w q 0 < f q → aOf v q 3 = 0)) (hG : Lg I s v) (h3 : v 3 = day) (hj : jin day) : jS G (d + 1) mX2_writeLog [jR (some 160), jR (some s), jI day] (sh, I, F) 0 0 (rEV sh F (fun J => Lg J s (jfold (dTell f) v (aPe w).toNat) ∧ ∀ a, a ≠ s + 8 → a ≠ s + 9 → J a = I a)) := by
  obtain ⟨g0, g1, g2, g3, g4, g5, g6, g7, g8, g9, e1, e2, e3, e4, e5, e6, e7, e8, e9⟩ := id hs
  have r1 := hR.2.1
  refine jS_go [some (jR (some 160)), some (jR (some s)), some (jI day), none] (by decide +kernel) rfl (by simp [jone]) (Nat.le_of_ble_eq_true rfl) rfl (fun hok => ?_)
  generalize hQ : rEV sh F (fun J => Lg J s (jfold (dTell f) v (aPe w).toNat) ∧ ∀ a, a ≠ s + 8 → a ≠ s + 9 → J a = I a) = Q9
  have key : ∀ (m : Nat) (z : Int) (J : Nat → Int → Int) (u : Int → Int), z + m = aPe w → 0 ≤ z → u = jfold (dTell f) v z.toNat → (∀ k, (k < 9 ∨ (11 ≤ k ∧ k < 180) ∨ 420 ≤ k) → u k = v k) → Lg J s u → (∀ a, a ≠ s + 8 → a ≠ s + 9 → J a = I a) → jW G mX2_writeLog (d + 1) Q9 2 [some (jR (some 160)), some (jR (some s)), some (jI day), some (jI z)] [] (sh, J, F) 0 0 := by
    intro m
    induction m with
    | zero =>
      intro z J u hz hz0 hu huv hGJ hfr
      have r0 : J s 0 = aPe w := by rw [hfr s (by omega) (by omega)]; exact hR.1
      refine j_iload_n dX2_writeLog_2 rfl ?_
      refine j_aload_n dX2_writeLog_3 rfl ?_
      refine r_getIE dX2_writeLog_4 flX2_45 (by first | assumption | exact hsh _ _ rfl) r0 (fun b_4 => ?_)
      refine j_icmp_ge (tgt := 52) dX2_writeLog_7 rfl (by first | omega | (split <;> omega)) (by first | omega | (split <;> omega)) (fun c_7 => ?_) (fun c_7 => by exact absurd (by omega) c_7)
      refine j_vret dX2_writeLog_52 rfl ?_
      rw [← hQ, show aPe w = z by omega, ← hu]
      exact rEV_of ⟨hGJ, hfr⟩
    | succ m ih =>
      intro z J u hz hz0 hu huv hGJ hfr
      have r0 : J s 0 = aPe w := by rw [hfr s (by omega) (by omega)]; exact hR.1
      obtain ⟨f1, f2, f3⟩ := hF z hz0 (by omega)
      have hq := hW.2.1.2.2 z hz0 (by omega)
      have q15 : J 164 z = f z := by rw [hfr 164 (by omega) (by omega)]; exact f1
      have q21 : J (s + 1) z = aOf w z 0 := by rw [hfr (s + 1) (by omega) (by omega)]; exact (hR.2.2.1 z hz0 (by omega)).1
      have hst : jfold (dTell f) v (z + 1).toNat = dTell f z u := by rw [hu]; exact jfold_s _ _ hz0
      have u0 : aOf u z 0 = aOf w z 0 := (huv _ (by omega)).trans f2
      have u3 : aOf u z 3 = aOf v z 3 := huv _ (by omega)
      have ud : u 3 = day := (huv 3 (by omega)).trans h3
      have ih2 := fun J' h => ih (z + 1) J' (dTell f z u) (by omega) (by omega) hst.symm h
      clear ih
      by_cases e : aOf w z 0 < f z
      · have hd : dTell f z u = mTell u z (f z) := by unfold dTell; rw [if_pos ⟨u3.trans (f3 e), by rw [u0]; exact e⟩]
        rw [hd] at ih2
        have sa := fun j3 => sc_add (G := G) (d := d) (I := J) hs (day := day) (who := z) (fe := f z) (be := aOf w z 0) (by rw [hGJ.1]; exact hGJ.2.1) hGJ.2.2.1 hj (by omega) j3 (by omega)
        refine j_iload_n dX2_writeLog_2 rfl ?_
        refine j_aload_n dX2_writeLog_3 rfl ?_
        refine r_getIE dX2_writeLog_4 flX2_45 (by first | assumption | exact hsh _ _ rfl) r0 (fun b_4 => ?_)
        refine j_icmp_ge (tgt := 52) dX2_writeLog_7 rfl (by first | omega | (split <;> omega)) (by first | omega | (split <;> omega)) (fun c_7 => by exact absurd c_7 (by omega)) (fun c_7 => ?_)
        refine j_aload_n dX2_writeLog_10 rfl ?_
        refine r_getS dX2_writeLog_11 flX2_21 (by first | assumption | exact hsh _ _ rfl) (fx_160_3 hfx) ?_
        refine j_iload_n dX2_writeLog_14 rfl ?_
        refine r_ialoadE dX2_writeLog_15 (by first | assumption | exact hsh _ _ rfl) (by first | omega | (split <;> omega)) (by first | omega | (split <;> omega)) q15 (fun b_15 => ?_)
        refine j_aload_n dX2_writeLog_16 rfl ?_
        refine r_getS dX2_writeLog_17 flX2_91 (by first | assumption | exact hsh _ _ rfl) (by assumption) ?_
        refine j_iload_n dX2_writeLog_20 rfl ?_
        refine r_ialoadE dX2_writeLog_21 (by first | assumption | exact hsh _ _ rfl) (by first | omega | (split <;> omega)) (by first | omega | (split <;> omega)) q21 (fun b_21 => ?_)
        refine j_icmp_le (tgt := 46) dX2_writeLog_22 rfl (by first | omega | (split <;> omega)) (by first | omega | (split <;> omega)) (fun c_22 => by exact absurd e (by omega)) (fun c_22 => ?_)
        refine j_aload_n dX2_writeLog_25 rfl ?_
        refine r_getS dX2_writeLog_26 flX2_94 (by first | assumption | exact hsh _ _ rfl) (by assumption) ?_
        refine j_iload_n dX2_writeLog_29 rfl ?_
        refine j_iload_n dX2_writeLog_30 rfl ?_
        refine j_aload_n dX2_writeLog_31 rfl ?_
        refine r_getS dX2_writeLog_32 flX2_21 (by first | assumption | exact hsh _ _ rfl) (fx_160_3 hfx) ?_
        refine j_iload_n dX2_writeLog_35 rfl ?_
        refine r_ialoadE dX2_writeLog_36 (by first | assumption | exact hsh _ _ rfl) (by first | omega | (split <;> omega)) (by first | omega | (split <;> omega)) q15 (fun b_36 => ?_)
        refine j_aload_n dX2_writeLog_37 rfl ?_
        refine r_getS dX2_writeLog_38 flX2_91 (by first | assumption | exact hsh _ _ rfl) (by assumption) ?_
        refine j_iload_n dX2_writeLog_41 rfl ?_
        refine r_ialoadE dX2_writeLog_42 (by first | assumption | exact hsh _ _ rfl) (by first | omega | (split <;> omega)) (by first | omega | (split <;> omega)) q21 (fun b_42 => ?_)
        refine r_cv4EV dX2_writeLog_43 cvX2_98 (by decide) (by first | assumption | exact hsh _ _ rfl) (Nat.le_of_ble_eq_true rfl) (Nat.le_of_eq (Nat.zero_add _)) (Nat.le_of_eq (Nat.zero_add _)) (sa b_36) (fun K hK => ?_)
        refine j_iinc dX2_writeLog_46 rfl (by decide) ?_
        refine j_goto (tgt := 2) dX2_writeLog_49 rfl ?_
        refine ih2 K (fun k hk => (mTell_o hk).trans (huv k hk)) (Lg_add hGJ (by rw [ud, u0]; exact hK)) (fun a x0 x1 => (hK.2.2.2 a x0 x1).trans (hfr a x0 x1))
      · have hd : dTell f z u = u := by unfold dTell; rw [if_neg (fun q => e (by rw [← u0]; exact q.2))]
        rw [hd] at ih2
        refine j_iload_n dX2_writeLog_2 rfl ?_
        refine j_aload_n dX2_writeLog_3 rfl ?_
        refine r_getIE dX2_writeLog_4 flX2_45 (by first | assumption | exact hsh _ _ rfl) r0 (fun b_4 => ?_)
        refine j_icmp_ge (tgt := 52) dX2_writeLog_7 rfl (by first | omega | (split <;> omega)) (by first | omega | (split <;> omega)) (fun c_7 => by exact absurd c_7 (by omega)) (fun c_7 => ?_)
        refine j_aload_n dX2_writeLog_10 rfl ?_
        refine r_getS dX2_writeLog_11 flX2_21 (by first | assumption | exact hsh _ _ rfl) (fx_160_3 hfx) ?_
        refine j_iload_n dX2_writeLog_14 rfl ?_
        refine r_ialoadE dX2_writeLog_15 (by first | assumption | exact hsh _ _ rfl) (by first | omega | (split <;> omega)) (by first | omega | (split <;> omega)) q15 (fun b_15 => ?_)
        refine j_aload_n dX2_writeLog_16 rfl ?_
        refine r_getS dX2_writeLog_17 flX2_91 (by first | assumption | exact hsh _ _ rfl) (by assumption) ?_
        refine j_iload_n dX2_writeLog_20 rfl ?_
        refine r_ialoadE dX2_writeLog_21 (by first | assumption | exact hsh _ _ rfl) (by first | omega | (split <;> omega)) (by first | omega | (split <;> omega)) q21 (fun b_21 => ?_)
        refine j_icmp_le (tgt := 46) dX2_writeLog_22 rfl (by first | omega | (split <;> omega)) (by first | omega | (split <;> omega)) (fun c_22 => ?_) (fun c_22 => by exact absurd (by omega) e)
        refine j_iinc dX2_writeLog_46 rfl (by decide) ?_
        refine j_goto (tgt := 2) dX2_writeLog_49 rfl ?_
        exact ih2 J huv hGJ hfr
  refine j_iconst dX2_writeLog_0 ?_
  refine j_istore_n dX2_writeLog_1 (by decide) ?_
  exact key (aPe w).toNat 0 I v (by omega) (by omega) rfl (fun _ _ => rfl) hG (fun _ _ _ => rfl)
end
