/-! A STATE OF THE CLASS STANDS FOR A ROW OF THE MODEL -/
def RpP (I : Nat → Int → Int) (s : Nat) (w : Int → Int) (p : Int) : Prop :=
  I (s + 1) p = aOf w p 0 ∧ I (s + 3) p = aOf w p 1 ∧ I (s + 4) p = aOf w p 2 ∧ (jbit (I s 1) p ↔ aOf w p 3 = 0) ∧ I (s + 5) p = aOf w p 4 ∧ I (s + 6) p = aOf w p 5 ∧ ∀ k, 0 ≤ k → k < 7 → I (s + 2) (p * 7 + k) = aOf w p (6 + k)
/-- whoever is not there yet has nothing -/
def RpZ (I : Nat → Int → Int) (s : Nat) (n : Int) : Prop := (∀ x, n ≤ x → x < 8 → I (s + 3) x = 0 ∧ I (s + 4) x = 0 ∧ I (s + 6) x = 0) ∧ ∀ p q, 0 ≤ p → p < 8 → 0 ≤ q → q < 8 → (n ≤ p ∨ n ≤ q) → I (s + 7) (p * 8 + q) = 0
def Rp (I : Nat → Int → Int) (s : Nat) (w : Int → Int) : Prop :=
  I s 0 = aPe w ∧ (0 ≤ aPe w ∧ aPe w ≤ 8) ∧ (∀ p, 0 ≤ p → p < aPe w → RpP I s w p) ∧ (∀ p q, 0 ≤ p → p < aPe w → 0 ≤ q → q < aPe w → I (s + 7) (p * 8 + q) = aOw w p q) ∧ I s 1 = mAlive w ∧
  I s 9 = w 4 ∧ I s 10 = w 5 ∧ I s 11 = w 6 ∧ I s 12 = w 7 ∧ I s 13 = w 3 ∧ I s 14 = w 11 ∧ I s 15 = w 1 ∧ RpZ I s (aPe w) ∧ I s 17 = w 8
/-- bounds of a row -/
def WfO (w : Int → Int) : Prop := (0 ≤ w 3 ∧ w 3 ≤ 9999) ∧ (0 ≤ w 5 ∧ w 5 ≤ 20) ∧ ∀ p, 0 ≤ p → p < aPe w → (1 ≤ aOf w p 0 ∧ aOf w p 0 ≤ 99) ∧ (0 ≤ aOf w p 1 ∧ aOf w p 1 ≤ 99999) ∧ (0 ≤ aOf w p 2 ∧ aOf w p 2 ≤ aOf w p 1) ∧ (aOf w p 3 = 0 ∨ aOf w p 3 = 1) ∧ (-1 ≤ aOf w p 4 ∧ aOf w p 4 < aPe w) ∧ (0 ≤ aOf w p 5 ∧ aOf w p 5 < 256) ∧ ∀ k, 0 ≤ k → k < 7 → 0 ≤ aOf w p (6 + k) ∧ aOf w p (6 + k) ≤ 9
section
variable {G : jzG} {d : Nat} {sh : List (Nat × Nat)} {I : Nat → Int → Int} {F : Nat → Int → Option Nat} {s : Nat} {w : Int → Int}
theorem sc_isAlive (hs : StAt sh F s) (hR : Rp I s w) {p : Int} (hp : jin p) : jS G d mX9_isAlive [jR (some s), jI p] (sh, I, F) 0 0 (rI (if 0 ≤ p ∧ p < aPe w ∧ aOf w p 3 = 0 then 1 else 0) (sh, I, F)) := by
  refine jS_mono (sp_isAlive hs hp) (fun o h hq => ?_)
  rw [show (if 0 ≤ p ∧ p < aPe w ∧ aOf w p 3 = 0 then (1 : Int) else 0) = if cAl I s p then 1 else 0 from ?_]
  · exact hq
  · obtain ⟨r0, -, rP, -⟩ := hR
    have e : (0 ≤ p ∧ p < aPe w ∧ aOf w p 3 = 0) ↔ cAl I s p := by
      constructor
      · rintro ⟨h1, h2, h3⟩
        exact ⟨h1, by rw [r0]; exact h2, ((rP p h1 h2).2.2.2.1).mpr h3⟩
      · rintro ⟨h1, h2, h3⟩
        rw [r0] at h2
        exact ⟨h1, h2, ((rP p h1 h2).2.2.2.1).mp h3⟩
    by_cases q : cAl I s p
    · rw [if_pos q, if_pos (e.mpr q)]
    · rw [if_neg q, if_neg (fun z => q (e.mp z))]
theorem sc_everybody (hs : StAt sh F s) (hR : Rp I s w) : jS G d mX9_everybody [jR (some s)] (sh, I, F) 0 0 (rI (jShl 1 (aPe w) - 1) (sh, I, F)) := by
  rw [← hR.1]
  exact sp_everybody hs
theorem sc_painOn (hs : StAt sh F s) (hR : Rp I s w) {p day : Int} (h1 : 0 ≤ p ∧ p < aPe w) (h2 : 0 ≤ day ∧ day ≤ 9999) : jS G d mX9_painOn [jR (some s), jI p, jI day] (sh, I, F) 0 0 (rI (aPaD w p day) (sh, I, F)) := by
  obtain ⟨g0, g1, g2, g3, g4, g5, g6, g7, g8, g9, e1, e2, e3, e4, e5, e6, e7, e8, e9⟩ := id hs
  have hw8 := hR.2.1
  have q6 := (hR.2.2.1 p h1.1 h1.2).2.2.2.2.2.2 (day % 7) (by omega) (by omega)
  refine jS_go [some (jR (some s)), some (jI p), some (jI day)] (by decide +kernel) rfl (by simp [jone]) (Nat.le_of_ble_eq_true rfl) rfl (fun hok => ?_)
  refine j_aload_n dX9_painOn_0 rfl ?_
  refine r_getS dX9_painOn_1 flX9_15 (by first | assumption | exact hsh _ _ rfl) (by assumption) ?_
  refine j_iload_n dX9_painOn_4 rfl ?_
  refine j_bipush dX9_painOn_5 (by decide) ?_
  refine j_imul dX9_painOn_7 ?_
  refine j_iload_n dX9_painOn_8 rfl ?_
  refine j_bipush dX9_painOn_9 (by decide) ?_
  refine r_iremN dX9_painOn_11 (by first | omega | (split <;> omega)) (by first | omega | (split <;> omega)) ?_
  refine j_iadd dX9_painOn_12 ?_
  refine r_ialoadE dX9_painOn_13 (by first | assumption | exact hsh _ _ rfl) (by first | omega | (split <;> omega)) (by first | omega | (split <;> omega)) q6 (fun b_13 => ?_)
  refine j_iret dX9_painOn_14 rfl ?_
  exact rI_of (by rw [aPaD, Int.min_eq_right h2.2]) rfl
theorem sc_painIn (hok : jzok (sh, I, F)) (hR : Rp I s w) {p day : Int} (h1 : 0 ≤ p ∧ p < aPe w) (h2 : 0 ≤ day ∧ day ≤ 9999) : jin (aPaD w p day) := by
  have q6 := (hR.2.2.1 p h1.1 h1.2).2.2.2.2.2.2 (day % 7) (by omega) (by omega)
  rw [aPaD, Int.min_eq_right h2.2, ← q6]
  exact hok.2.1 _ _
theorem sc_dayIn (hs : StAt sh F s) (hR : Rp I s w) {n : Int} (h1 : 0 ≤ n ∧ n ≤ 100) (h2 : 0 ≤ w 3 ∧ w 3 ≤ 9999) : jS G d mX9_dayIn [jR (some s), jI n] (sh, I, F) 0 0 (rI (min 9999 (w 3 + n)) (sh, I, F)) := by
  obtain ⟨g0, g1, g2, g3, g4, g5, g6, g7, g8, g9, e1, e2, e3, e4, e5, e6, e7, e8, e9⟩ := id hs
  obtain ⟨r0, r1, rP, rO, rA, r9, r10, r11, r12, r13, r14, r15, r16, r17⟩ := id hR
  refine jS_go [some (jR (some s)), some (jI n)] (by decide +kernel) rfl (by simp [jone]) (Nat.le_of_ble_eq_true rfl) rfl (fun hok => ?_)
  refine j_sipush dX9_dayIn_0 (by decide) ?_
  refine j_aload_n dX9_dayIn_3 rfl ?_
  refine r_getIE dX9_dayIn_4 flX9_75 (by first | assumption | exact hsh _ _ rfl) r13 (fun b_4 => ?_)
  refine j_iload_n dX9_dayIn_7 rfl ?_
  refine j_iadd dX9_dayIn_8 ?_
  refine r_min dX9_dayIn_9 lmX9_92 (Nat.le_of_ble_eq_true rfl) (by first | omega | (split <;> omega)) (by first | omega | (split <;> omega)) ?_
  refine j_iret dX9_dayIn_12 rfl ?_
  exact rI_of rfl rfl
abbrev aRate (w : Int → Int) (a : Int) : Int := min 99999 (a + (a * w 5 + 99) / 100)
theorem sc_withInterest (hs : StAt sh F s) (hR : Rp I s w) {a : Int} (h1 : 0 ≤ a ∧ a ≤ 99999) (h2 : 0 ≤ w 5 ∧ w 5 ≤ 20) : jS G d mX9_withInterest [jR (some s), jI a] (sh, I, F) 0 0 (rI (aRate w a) (sh, I, F)) := by
  obtain ⟨g0, g1, g2, g3, g4, g5, g6, g7, g8, g9, e1, e2, e3, e4, e5, e6, e7, e8, e9⟩ := id hs
  obtain ⟨r0, r1, rP, rO, rA, r9, r10, r11, r12, r13, r14, r15, r16, r17⟩ := id hR
  have hm : 0 ≤ a * w 5 ∧ a * w 5 ≤ 2000000 := by
    have h3 : a * w 5 ≤ 99999 * 20 := Int.mul_le_mul h1.2 h2.2 h2.1 (by omega)
    exact ⟨Int.mul_nonneg h1.1 h2.1, by omega⟩
  refine jS_go [some (jR (some s)), some (jI a)] (by decide +kernel) rfl (by simp [jone]) (Nat.le_of_ble_eq_true rfl) rfl (fun hok => ?_)
  refine j_ldc (n := 99999) dX9_withInterest_0 kcX9_98 ?_
  refine j_iload_n dX9_withInterest_2 rfl ?_
  refine j_iload_n dX9_withInterest_3 rfl ?_
  refine j_aload_n dX9_withInterest_4 rfl ?_
  refine r_getIE dX9_withInterest_5 flX9_37 (by first | assumption | exact hsh _ _ rfl) r10 (fun b_5 => ?_)
  refine j_imul dX9_withInterest_8 ?_
  refine j_bipush dX9_withInterest_9 (by decide) ?_
  refine j_iadd dX9_withInterest_11 ?_
  refine j_bipush dX9_withInterest_12 (by decide) ?_
  refine r_idivN dX9_withInterest_14 (by first | omega | (split <;> omega)) (by first | omega | (split <;> omega)) ?_
  refine j_iadd dX9_withInterest_15 ?_
  refine r_min dX9_withInterest_16 lmX9_92 (Nat.le_of_ble_eq_true rfl) (by first | omega | (split <;> omega)) (by first | omega | (split <;> omega)) ?_
  refine j_iret dX9_withInterest_19 rfl ?_
  exact rI_of rfl rfl
theorem sc_accountsOf (hs : StAt sh F s) (hR : Rp I s w) {set : Int} : jS G d mX9_accountsOf [jR (some s), jI set] (sh, I, F) 0 0 (rI (mAcc w set) (sh, I, F)) := by
  have h1 := sp_accountsOf (G := G) (d := d) (I := I) hs (w := set) (by rw [hR.1]; exact hR.2.1)
  refine jS_mono h1 (fun o h hq => ?_)
  have e : jfold (fun p a => if jbit set p then a + I (s + 3) p else a) 0 (I s 0).toNat = mAcc w set := by
    rw [hR.1]
    refine jfold_cong (fun k h0 h1 x => ?_)
    have := (hR.2.2.1 k h0 (by have := hR.2.1; omega)).2.1
    rw [this]
    split <;> simp_all
  rw [← e]
  exact hq
theorem sc_forgedTogether (hs : StAt sh F s) (hR : Rp I s w) : jS G d mX9_forgedTogether [jR (some s)] (sh, I, F) 0 0 (rI (mAll w 2) (sh, I, F)) := by
  have h1 := sp_forgedTogether (G := G) (d := d) (I := I) hs (by rw [hR.1]; exact hR.2.1)
  refine jS_mono h1 (fun o h hq => ?_)
  have e : jfold (fun p a => a + I (s + 4) p) 0 (I s 0).toNat = mAll w 2 := by
    rw [hR.1]
    refine jfold_cong (fun k h0 h1 x => ?_)
    rw [(hR.2.2.1 k h0 (by have := hR.2.1; omega)).2.2.1]
  rw [← e]
  exact hq
theorem sc_netOf (hs : StAt sh F s) (hR : Rp I s w) {p : Int} (h1 : 0 ≤ p ∧ p < aPe w) : jS G d mX9_netOf [jR (some s), jI p] (sh, I, F) 0 0 (rI (mNet w p) (sh, I, F)) := by
  obtain ⟨g0, g1, g2, g3, g4, g5, g6, g7, g8, g9, e1, e2, e3, e4, e5, e6, e7, e8, e9⟩ := id hs
  obtain ⟨r0, r1, rP, rO, rA, r9, r10, r11, r12, r13, r14, r15, r16, r17⟩ := id hR
  refine jS_go [some (jR (some s)), some (jI p), none, none] (by decide +kernel) rfl (by simp [jone]) (Nat.le_of_ble_eq_true rfl) rfl (fun hok => ?_)
  refine j_iconst dX9_netOf_0 ?_
  refine j_istore_n dX9_netOf_1 (by decide) ?_
  refine j_iconst dX9_netOf_2 ?_
  refine j_istore_n dX9_netOf_3 (by decide) ?_
  skip
  refine jW_loop 4 (fun _ _ => True) (fun q a => a + (aOw w q p - aOw w p q)) 0 (aPe w) (fun z a => [some (jR (some s)), some (jI p), some (jI a), some (jI z)]) (fun _ _ => (sh, I, F)) r1.1 trivial (fun _ _ _ _ _ => trivial) (fun a ha _ => ?_) (fun z a hz0 hz1 _ ih => ?_)
  · refine j_iload_n dX9_netOf_4 rfl ?_
    refine j_aload_n dX9_netOf_5 rfl ?_
    refine r_getIE dX9_netOf_6 flX9_57 (by first | assumption | exact hsh _ _ rfl) r0 (fun b_6 => ?_)
    refine j_icmp_ge (tgt := 44) dX9_netOf_9 rfl (by first | omega | (split <;> omega)) (by first | omega | (split <;> omega)) (fun c_9 => ?_) (fun c_9 => by exact absurd (by omega) c_9)
    refine j_iload_n dX9_netOf_44 rfl ?_
    refine j_iret dX9_netOf_45 rfl ?_
    exact rI_of ha rfl
  · have q1 := rO z p hz0 hz1 h1.1 h1.2
    have q2 := rO p z h1.1 h1.2 hz0 hz1
    refine j_iload_n dX9_netOf_4 rfl ?_
    refine j_aload_n dX9_netOf_5 rfl ?_
    refine r_getIE dX9_netOf_6 flX9_57 (by first | assumption | exact hsh _ _ rfl) r0 (fun b_6 => ?_)
    refine j_icmp_ge (tgt := 44) dX9_netOf_9 rfl (by first | omega | (split <;> omega)) (by first | omega | (split <;> omega)) (fun c_9 => by exact absurd c_9 (by omega)) (fun c_9 => ?_)
    refine j_iload_n dX9_netOf_12 rfl ?_
    refine j_aload_n dX9_netOf_13 rfl ?_
    refine r_getS dX9_netOf_14 flX9_30 (by first | assumption | exact hsh _ _ rfl) (by assumption) ?_
    refine j_iload_n dX9_netOf_17 rfl ?_
    refine j_bipush dX9_netOf_18 (by decide) ?_
    refine j_imul dX9_netOf_20 ?_
    refine j_iload_n dX9_netOf_21 rfl ?_
    refine j_iadd dX9_netOf_22 ?_
    refine r_ialoadE dX9_netOf_23 (by first | assumption | exact hsh _ _ rfl) (by first | omega | (split <;> omega)) (by first | omega | (split <;> omega)) q1 (fun b_23 => ?_)
    refine j_aload_n dX9_netOf_24 rfl ?_
    refine r_getS dX9_netOf_25 flX9_30 (by first | assumption | exact hsh _ _ rfl) (by assumption) ?_
    refine j_iload_n dX9_netOf_28 rfl ?_
    refine j_bipush dX9_netOf_29 (by decide) ?_
    refine j_imul dX9_netOf_31 ?_
    refine j_iload_n dX9_netOf_32 rfl ?_
    refine j_iadd dX9_netOf_33 ?_
    refine r_ialoadE dX9_netOf_34 (by first | assumption | exact hsh _ _ rfl) (by first | omega | (split <;> omega)) (by first | omega | (split <;> omega)) q2 (fun b_34 => ?_)
    refine j_isub dX9_netOf_35 ?_
    refine j_iadd dX9_netOf_36 ?_
    refine j_istore_n dX9_netOf_37 (by decide) ?_
    refine j_iinc dX9_netOf_38 rfl (by decide) ?_
    refine j_goto (tgt := 4) dX9_netOf_41 rfl ?_
    exact ih
theorem sc_worstDay (hs : StAt sh F s) (hR : Rp I s w) {p : Int} (h1 : 0 ≤ p ∧ p < aPe w) : jS G (d + 1) mX1_worstDay [jR (some s), jI p] (sh, I, F) 0 0 (rI (mWorst w p) (sh, I, F)) := by
  obtain ⟨g0, g1, g2, g3, g4, g5, g6, g7, g8, g9, e1, e2, e3, e4, e5, e6, e7, e8, e9⟩ := id hs
  refine jS_go [some (jR (some s)), some (jI p), none, none] (by decide +kernel) rfl (by simp [jone]) (Nat.le_of_ble_eq_true rfl) rfl (fun hok => ?_)
  refine j_iconst dX1_worstDay_0 ?_
  refine j_istore_n dX1_worstDay_1 (by decide) ?_
  refine j_iconst dX1_worstDay_2 ?_
  refine j_istore_n dX1_worstDay_3 (by decide) ?_
  skip
  refine jW_loop 4 (fun _ a => 0 ≤ a ∧ a ≤ 6) (fun e a => if aOf w p (6 + a) < aOf w p (6 + (e + 1)) then e + 1 else a) 0 6 (fun z a => [some (jR (some s)), some (jI p), some (jI a), some (jI (z + 1))]) (fun _ _ => (sh, I, F)) (by decide) (by decide) (fun z a h2 h3 h4 => by split <;> omega) (fun a ha hPa => ?_) (fun z a hz0 hz1 hPa ih => ?_)
  · refine j_iload_n dX1_worstDay_4 rfl ?_
    refine j_bipush dX1_worstDay_5 (by decide) ?_
    refine j_icmp_ge (tgt := 33) dX1_worstDay_7 rfl (by first | omega | (split <;> omega)) (by first | omega | (split <;> omega)) (fun c_7 => ?_) (fun c_7 => by exact absurd (by omega) c_7)
    refine j_iload_n dX1_worstDay_33 rfl ?_
    refine j_iret dX1_worstDay_34 rfl ?_
    exact rI_of ha rfl
  · have q1 : aPaD w p (z + 1) = aOf w p (6 + (z + 1)) := by rw [aPaD, Int.min_eq_right (by omega), Int.emod_eq_of_lt (by omega) (by omega)]
    have q2 : aPaD w p a = aOf w p (6 + a) := by rw [aPaD, Int.min_eq_right (by omega), Int.emod_eq_of_lt (by omega) (by omega)]
    refine j_iload_n dX1_worstDay_4 rfl ?_
    refine j_bipush dX1_worstDay_5 (by decide) ?_
    refine j_icmp_ge (tgt := 33) dX1_worstDay_7 rfl (by first | omega | (split <;> omega)) (by first | omega | (split <;> omega)) (fun c_7 => by exact absurd c_7 (by omega)) (fun c_7 => ?_)
    refine j_aload_n dX1_worstDay_10 rfl ?_
    refine j_iload_n dX1_worstDay_11 rfl ?_
    refine j_iload_n dX1_worstDay_12 rfl ?_
    refine r_cv2J dX1_worstDay_13 cvX1_9 (by decide) (by first | assumption | exact hsh _ _ rfl) (Nat.le_of_ble_eq_true rfl) (Nat.le_of_eq (Nat.zero_add _)) (Nat.le_of_eq (Nat.zero_add _)) (sc_painOn hs hR (by omega) (by omega)) (by first | exact sc_painIn hok hR (by omega) (by omega) | omega) (fun b_13 => ?_)
    refine j_aload_n dX1_worstDay_16 rfl ?_
    refine j_iload_n dX1_worstDay_17 rfl ?_
    refine j_iload_n dX1_worstDay_18 rfl ?_
    refine r_cv2J dX1_worstDay_19 cvX1_9 (by decide) (by first | assumption | exact hsh _ _ rfl) (Nat.le_of_ble_eq_true rfl) (Nat.le_of_eq (Nat.zero_add _)) (Nat.le_of_eq (Nat.zero_add _)) (sc_painOn hs hR (by omega) (by omega)) (by first | exact sc_painIn hok hR (by omega) (by omega) | omega) (fun b_19 => ?_)
    refine j_icmp_le (tgt := 27) dX1_worstDay_22 rfl (by first | omega | (split <;> omega)) (by first | omega | (split <;> omega)) (fun c_22 => ?_) (fun c_22 => ?_)
    · refine j_iinc dX1_worstDay_27 rfl (by decide) ?_
      refine j_goto (tgt := 4) dX1_worstDay_30 rfl ?_
      rw [q1, q2] at c_22
      first | (rw [if_pos (by omega)] at ih; exact ih) | (rw [if_neg (by omega)] at ih; exact ih)
    · refine j_iload_n dX1_worstDay_25 rfl ?_
      refine j_istore_n dX1_worstDay_26 (by decide) ?_
      refine j_iinc dX1_worstDay_27 rfl (by decide) ?_
      refine j_goto (tgt := 4) dX1_worstDay_30 rfl ?_
      rw [q1, q2] at c_22
      first | (rw [if_pos (by omega)] at ih; exact ih) | (rw [if_neg (by omega)] at ih; exact ih)
theorem sc_will (hs : StAt sh F s) (hR : Rp I s w) {p : Int} (h1 : 0 ≤ p ∧ p < aPe w) : jS G (d + 1) mX1_will [jR (some s), jI p] (sh, I, F) 0 0 (rI (mWill w p) (sh, I, F)) := by
  obtain ⟨g0, g1, g2, g3, g4, g5, g6, g7, g8, g9, e1, e2, e3, e4, e5, e6, e7, e8, e9⟩ := id hs
  obtain ⟨r0, r1, rP, rO, rA, r9, r10, r11, r12, r13, r14, r15, r16, r17⟩ := id hR
  refine jS_go [some (jR (some s)), some (jI p), none, none] (by decide +kernel) rfl (by simp [jone]) (Nat.le_of_ble_eq_true rfl) rfl (fun hok => ?_)
  refine j_iconst dX1_will_0 ?_
  refine j_istore_n dX1_will_1 (by decide) ?_
  refine j_iconst dX1_will_2 ?_
  refine j_istore_n dX1_will_3 (by decide) ?_
  skip
  refine jW_loop 4 (fun _ _ => True) (fun q a => a + (if aOf w q 3 = 0 ∧ aOf w q 4 = p then aOf w q 1 else 0)) 0 (aPe w) (fun z a => [some (jR (some s)), some (jI p), some (jI a), some (jI z)]) (fun _ _ => (sh, I, F)) r1.1 trivial (fun _ _ _ _ _ => trivial) (fun a ha _ => ?_) (fun z a hz0 hz1 _ ih => ?_)
  · refine j_iload_n dX1_will_4 rfl ?_
    refine j_aload_n dX1_will_5 rfl ?_
    refine r_getIE dX1_will_6 flX1_15 (by first | assumption | exact hsh _ _ rfl) r0 (fun b_6 => ?_)
    refine j_icmp_ge (tgt := 45) dX1_will_9 rfl (by first | omega | (split <;> omega)) (by first | omega | (split <;> omega)) (fun c_9 => ?_) (fun c_9 => by exact absurd (by omega) c_9)
    refine j_iload_n dX1_will_45 rfl ?_
    refine j_iret dX1_will_46 rfl ?_
    exact rI_of ha rfl
  · obtain ⟨q0, q1, q2, q3, q4, q5, q6⟩ := rP z hz0 hz1
    refine j_iload_n dX1_will_4 rfl ?_
    refine j_aload_n dX1_will_5 rfl ?_
    refine r_getIE dX1_will_6 flX1_15 (by first | assumption | exact hsh _ _ rfl) r0 (fun b_6 => ?_)
    refine j_icmp_ge (tgt := 45) dX1_will_9 rfl (by first | omega | (split <;> omega)) (by first | omega | (split <;> omega)) (fun c_9 => by exact absurd c_9 (by omega)) (fun c_9 => ?_)
    refine j_aload_n dX1_will_12 rfl ?_
    refine j_iload_n dX1_will_13 rfl ?_
    refine r_cv1I dX1_will_14 cvX1_19 (by decide) (by first | assumption | exact hsh _ _ rfl) (Nat.le_of_ble_eq_true rfl) (Nat.le_of_eq (Nat.zero_add _)) (Nat.le_of_eq (Nat.zero_add _)) (sc_isAlive hs hR (by omega)) ?_
    refine j_if_eq (tgt := 39) dX1_will_17 rfl (by first | omega | (split <;> omega)) (fun c_17 => ?_) (fun c_17 => ?_)
    · refine j_iinc dX1_will_39 rfl (by decide) ?_
      refine j_goto (tgt := 4) dX1_will_42 rfl ?_
      rw [ite0] at c_17
      first | (rw [if_pos (by omega)] at ih; exact ih) | (rw [if_neg (by omega), Int.add_zero] at ih; exact ih)
    · refine j_aload_n dX1_will_20 rfl ?_
      refine r_getS dX1_will_21 flX1_23 (by first | assumption | exact hsh _ _ rfl) (by assumption) ?_
      refine j_iload_n dX1_will_24 rfl ?_
      refine r_ialoadE dX1_will_25 (by first | assumption | exact hsh _ _ rfl) (by first | omega | (split <;> omega)) (by first | omega | (split <;> omega)) q4 (fun b_25 => ?_)
      refine j_iload_n dX1_will_26 rfl ?_
      refine j_icmp_ne (tgt := 39) dX1_will_27 rfl (by first | omega | (split <;> omega)) (by first | omega | (split <;> omega)) (fun c_27 => ?_) (fun c_27 => ?_)
      · refine j_iinc dX1_will_39 rfl (by decide) ?_
        refine j_goto (tgt := 4) dX1_will_42 rfl ?_
        rw [ite0] at c_17
        first | (rw [if_pos (by omega)] at ih; exact ih) | (rw [if_neg (by omega), Int.add_zero] at ih; exact ih)
      · refine j_iload_n dX1_will_30 rfl ?_
        refine j_aload_n dX1_will_31 rfl ?_
        refine r_getS dX1_will_32 flX1_27 (by first | assumption | exact hsh _ _ rfl) (by assumption) ?_
        refine j_iload_n dX1_will_35 rfl ?_
        refine r_ialoadE dX1_will_36 (by first | assumption | exact hsh _ _ rfl) (by first | omega | (split <;> omega)) (by first | omega | (split <;> omega)) q1 (fun b_36 => ?_)
        refine j_iadd dX1_will_37 ?_
        refine j_istore_n dX1_will_38 (by decide) ?_
        refine j_iinc dX1_will_39 rfl (by decide) ?_
        refine j_goto (tgt := 4) dX1_will_42 rfl ?_
        rw [ite0] at c_17
        first | (rw [if_pos (by omega)] at ih; exact ih) | (rw [if_neg (by omega), Int.add_zero] at ih; exact ih)
theorem sc_painTogether (hs : StAt sh F s) (hR : Rp I s w) {set k : Int} (h1 : 0 ≤ k ∧ k < 7) : jS G (d + 1) mX3_painTogether [jR (some s), jI set, jI k] (sh, I, F) 0 0 (rI (mPains w set k) (sh, I, F)) := by
  obtain ⟨g0, g1, g2, g3, g4, g5, g6, g7, g8, g9, e1, e2, e3, e4, e5, e6, e7, e8, e9⟩ := id hs
  obtain ⟨r0, r1, rP, rO, rA, r9, r10, r11, r12, r13, r14, r15, r16, r17⟩ := id hR
  refine jS_go [some (jR (some s)), some (jI set), some (jI k), none, none] (by decide +kernel) rfl (by simp [jone]) (Nat.le_of_ble_eq_true rfl) rfl (fun hok => ?_)
  refine j_iconst dX3_painTogether_0 ?_
  refine j_istore_n dX3_painTogether_1 (by decide) ?_
  refine j_iconst dX3_painTogether_2 ?_
  refine j_istore dX3_painTogether_3 (by decide) ?_
  skip
  refine jW_loop 5 (fun _ _ => True) (fun p a => a + (if jbit set p then aOf w p (6 + k) else 0)) 0 (aPe w) (fun z a => [some (jR (some s)), some (jI set), some (jI k), some (jI a), some (jI z)]) (fun _ _ => (sh, I, F)) r1.1 trivial (fun _ _ _ _ _ => trivial) (fun a ha _ => ?_) (fun z a hz0 hz1 _ ih => ?_)
  · refine j_iload dX3_painTogether_5 rfl ?_
    refine j_aload_n dX3_painTogether_7 rfl ?_
    refine r_getIE dX3_painTogether_8 flX3_9 (by first | assumption | exact hsh _ _ rfl) r0 (fun b_8 => ?_)
    refine j_icmp_ge (tgt := 44) dX3_painTogether_11 rfl (by first | omega | (split <;> omega)) (by first | omega | (split <;> omega)) (fun c_11 => ?_) (fun c_11 => by exact absurd (by omega) c_11)
    refine j_iload_n dX3_painTogether_44 rfl ?_
    refine j_iret dX3_painTogether_45 rfl ?_
    exact rI_of ha rfl
  · have q1 : aPaD w z k = aOf w z (6 + k) := by rw [aPaD, Int.min_eq_right (by omega), Int.emod_eq_of_lt (by omega) (by omega)]
    refine j_iload dX3_painTogether_5 rfl ?_
    refine j_aload_n dX3_painTogether_7 rfl ?_
    refine r_getIE dX3_painTogether_8 flX3_9 (by first | assumption | exact hsh _ _ rfl) r0 (fun b_8 => ?_)
    refine j_icmp_ge (tgt := 44) dX3_painTogether_11 rfl (by first | omega | (split <;> omega)) (by first | omega | (split <;> omega)) (fun c_11 => by exact absurd c_11 (by omega)) (fun c_11 => ?_)
    refine j_iload_n dX3_painTogether_14 rfl ?_
    refine j_iload_n dX3_painTogether_15 rfl ?_
    refine j_iload dX3_painTogether_16 rfl ?_
    refine r_ishr dX3_painTogether_18 (fun b_18 => ?_)
    refine j_iconst dX3_painTogether_19 ?_
    refine r_iand dX3_painTogether_20 (fun b_20 => ?_)
    refine j_iconst dX3_painTogether_21 ?_
    refine j_icmp_ne (tgt := 35) dX3_painTogether_22 rfl (by first | omega | (split <;> omega)) (by first | omega | (split <;> omega)) (fun c_22 => ?_) (fun c_22 => ?_)
    · refine j_iconst dX3_painTogether_35 ?_
      refine j_iadd dX3_painTogether_36 ?_
      refine j_istore_n dX3_painTogether_37 (by decide) ?_
      refine j_iinc dX3_painTogether_38 rfl (by decide) ?_
      refine j_goto (tgt := 5) dX3_painTogether_41 rfl ?_
      first | (rw [if_pos (Classical.not_not.mp c_22), ← q1] at ih; exact ih) | (rw [if_neg c_22] at ih; exact ih)
    · refine j_aload_n dX3_painTogether_25 rfl ?_
      refine j_iload dX3_painTogether_26 rfl ?_
      refine j_iload_n dX3_painTogether_28 rfl ?_
      refine r_cv2J dX3_painTogether_29 cvX3_56 (by decide) (by first | assumption | exact hsh _ _ rfl) (Nat.le_of_ble_eq_true rfl) (Nat.le_of_eq (Nat.zero_add _)) (Nat.le_of_eq (Nat.zero_add _)) (sc_painOn hs hR (by omega) (by omega)) (by first | exact sc_painIn hok hR (by omega) (by omega) | omega) (fun b_29 => ?_)
      refine j_goto (tgt := 36) dX3_painTogether_32 rfl ?_
      refine j_iadd dX3_painTogether_36 ?_
      refine j_istore_n dX3_painTogether_37 (by decide) ?_
      refine j_iinc dX3_painTogether_38 rfl (by decide) ?_
      refine j_goto (tgt := 5) dX3_painTogether_41 rfl ?_
      first | (rw [if_pos (Classical.not_not.mp c_22), ← q1] at ih; exact ih) | (rw [if_neg c_22] at ih; exact ih)
end
