/-! THE CLASS'S CROWD; SAINTS -/
section
variable {G : jzG} {d : Nat} {sh : List (Nat × Nat)} {I : Nat → Int → Int} {F : Nat → Int → Option Nat} {s : Nat} {w : Int → Int}
theorem sc_whoCouldBear (hs : StAt sh F s) (hR : Rp I s w) (hD : WfD w) (hB : WfB w) {x : Int} (hx : 0 ≤ x ∧ x ≤ 99999) : jS G (d + 1) mX3_whoCouldBear [jR (some s), jI x] (sh, I, F) 0 0 (rI (mCould w x) (sh, I, F)) := by
  obtain ⟨g0, g1, g2, g3, g4, g5, g6, g7, g8, g9, e1, e2, e3, e4, e5, e6, e7, e8, e9⟩ := id hs
  obtain ⟨r0, r1, rP, rO, rA, r9, r10, r11, r12, r13, r14, r15, r16, r17⟩ := id hR
  refine jS_go [some (jR (some s)), some (jI x), none, none] (by decide +kernel) rfl (by simp [jone]) (Nat.le_of_ble_eq_true rfl) rfl (fun hok => ?_)
  refine j_iconst dX3_whoCouldBear_0 ?_
  refine j_istore_n dX3_whoCouldBear_1 (by decide) ?_
  refine j_iconst dX3_whoCouldBear_2 ?_
  refine j_istore_n dX3_whoCouldBear_3 (by decide) ?_
  skip
  refine jW_loop 4 (fun _ a => 0 ≤ a ∧ a < 256) (fun q a => jOr a (if aOf w q 3 = 0 ∧ x ≤ aRoom w q then jShl 1 q else 0)) 0 (aPe w) (fun z a => [some (jR (some s)), some (jI x), some (jI a), some (jI z)]) (fun _ _ => (sh, I, F)) r1.1 (by decide) (fun z a h0 h1 h2 => (jOr_set h2 (by have := (jShl_set h0 (by omega)).1; split <;> omega)).1) (fun a ha _ => ?_) (fun z a hz0 hz1 hPa ih => ?_)
  · refine j_iload_n dX3_whoCouldBear_4 rfl ?_
    refine j_aload_n dX3_whoCouldBear_5 rfl ?_
    refine r_getIE dX3_whoCouldBear_6 flX3_9 (by first | assumption | exact hsh _ _ rfl) r0 (fun b_6 => ?_)
    refine j_icmp_ge (tgt := 52) dX3_whoCouldBear_9 rfl (by first | omega | (split <;> omega)) (by first | omega | (split <;> omega)) (fun c_9 => ?_) (fun c_9 => by exact absurd (by omega) c_9)
    refine j_iload_n dX3_whoCouldBear_52 rfl ?_
    refine j_iret dX3_whoCouldBear_53 rfl ?_
    exact rI_of ha rfl
  · obtain ⟨q0, q1, q2, q3, q4, q5, q6⟩ := rP z hz0 hz1
    have hor0 : jOr a 0 = a := jOr_0 (by omega)
    have hr0 := aPaD_in hB ⟨hz0, hz1⟩ (day := w 3) hD.1
    have hr2 : aRoom w z = aOf w z 0 - aPaD w z (w 3) := rfl
    refine j_iload_n dX3_whoCouldBear_4 rfl ?_
    refine j_aload_n dX3_whoCouldBear_5 rfl ?_
    refine r_getIE dX3_whoCouldBear_6 flX3_9 (by first | assumption | exact hsh _ _ rfl) r0 (fun b_6 => ?_)
    refine j_icmp_ge (tgt := 52) dX3_whoCouldBear_9 rfl (by first | omega | (split <;> omega)) (by first | omega | (split <;> omega)) (fun c_9 => by exact absurd c_9 (by omega)) (fun c_9 => ?_)
    refine j_aload_n dX3_whoCouldBear_12 rfl ?_
    refine j_iload_n dX3_whoCouldBear_13 rfl ?_
    refine r_cv1I dX3_whoCouldBear_14 cvX3_15 (by decide) (by first | assumption | exact hsh _ _ rfl) (Nat.le_of_ble_eq_true rfl) (Nat.le_of_eq (Nat.zero_add _)) (Nat.le_of_eq (Nat.zero_add _)) (sc_isAlive hs hR (by omega)) ?_
    refine j_if_eq (tgt := 46) dX3_whoCouldBear_17 rfl (by first | omega | (split <;> omega)) (fun c_17 => ?_) (fun c_17 => ?_)
    · rw [ite0] at c_17
      refine j_iinc dX3_whoCouldBear_46 rfl (by decide) ?_
      refine j_goto (tgt := 4) dX3_whoCouldBear_49 rfl ?_
      first | (rw [if_pos (by omega)] at ih; exact ih) | (rw [if_neg (by omega), hor0] at ih; exact ih)
    · rw [ite0] at c_17
      refine j_aload_n dX3_whoCouldBear_20 rfl ?_
      refine j_iload_n dX3_whoCouldBear_21 rfl ?_
      refine j_aload_n dX3_whoCouldBear_22 rfl ?_
      refine r_getIE dX3_whoCouldBear_23 flX3_63 (by first | assumption | exact hsh _ _ rfl) r13 (fun b_23 => ?_)
      refine r_cv2I dX3_whoCouldBear_26 cvX3_56 (by decide) (by first | assumption | exact hsh _ _ rfl) (Nat.le_of_ble_eq_true rfl) (Nat.le_of_eq (Nat.zero_add _)) (Nat.le_of_eq (Nat.zero_add _)) (sc_painOn hs hR ⟨hz0, hz1⟩ hD) ?_
      refine j_iload_n dX3_whoCouldBear_29 rfl ?_
      refine j_iadd dX3_whoCouldBear_30 ?_
      refine j_aload_n dX3_whoCouldBear_31 rfl ?_
      refine r_getS dX3_whoCouldBear_32 flX3_66 (by first | assumption | exact hsh _ _ rfl) (by assumption) ?_
      refine j_iload_n dX3_whoCouldBear_35 rfl ?_
      refine r_ialoadE dX3_whoCouldBear_36 (by first | assumption | exact hsh _ _ rfl) (by first | omega | (split <;> omega)) (by first | omega | (split <;> omega)) q0 (fun b_36 => ?_)
      refine j_icmp_gt (tgt := 46) dX3_whoCouldBear_37 rfl (by first | omega | (split <;> omega)) (by first | omega | (split <;> omega)) (fun c_37 => ?_) (fun c_37 => ?_)
      · refine j_iinc dX3_whoCouldBear_46 rfl (by decide) ?_
        refine j_goto (tgt := 4) dX3_whoCouldBear_49 rfl ?_
        first | (rw [if_pos (by omega)] at ih; exact ih) | (rw [if_neg (by omega), hor0] at ih; exact ih)
      · refine j_iload_n dX3_whoCouldBear_40 rfl ?_
        refine j_iconst dX3_whoCouldBear_41 ?_
        refine j_iload_n dX3_whoCouldBear_42 rfl ?_
        refine r_ishl dX3_whoCouldBear_43 (fun b_43 => ?_)
        refine r_ior dX3_whoCouldBear_44 (fun b_44 => ?_)
        refine j_istore_n dX3_whoCouldBear_45 (by decide) ?_
        refine j_iinc dX3_whoCouldBear_46 rfl (by decide) ?_
        refine j_goto (tgt := 4) dX3_whoCouldBear_49 rfl ?_
        first | (rw [if_pos (by omega)] at ih; exact ih) | (rw [if_neg (by omega), hor0] at ih; exact ih)
theorem sc_quietDay (hs : StAt sh F s) (hR : Rp I s w) (hB : WfB w) : jS G (d + 2) mX3_quietDay [jR (some s)] (sh, I, F) 0 0 (rI (mQuiet w) (sh, I, F)) := by
  obtain ⟨g0, g1, g2, g3, g4, g5, g6, g7, g8, g9, e1, e2, e3, e4, e5, e6, e7, e8, e9⟩ := id hs
  obtain ⟨r0, r1, rP, rO, rA, r9, r10, r11, r12, r13, r14, r15, r16, r17⟩ := id hR
  refine jS_go [some (jR (some s)), none, none] (by decide +kernel) rfl (by simp [jone]) (Nat.le_of_ble_eq_true rfl) rfl (fun hok => ?_)
  refine j_iconst dX3_quietDay_0 ?_
  refine j_istore_n dX3_quietDay_1 (by decide) ?_
  refine j_iconst dX3_quietDay_2 ?_
  refine j_istore_n dX3_quietDay_3 (by decide) ?_
  skip
  refine jW_loop 4 (fun _ a => 0 ≤ a ∧ a ≤ 6) (fun e a => if mPains w (mAlive w) (e + 1) < mPains w (mAlive w) a then e + 1 else a) 0 6 (fun z a => [some (jR (some s)), some (jI a), some (jI (z + 1))]) (fun _ _ => (sh, I, F)) (by decide) (by decide) (fun z a h2 h3 h4 => by split <;> omega) (fun a ha hPa => ?_) (fun z a hz0 hz1 hPa ih => ?_)
  · refine j_iload_n dX3_quietDay_4 rfl ?_
    refine j_bipush dX3_quietDay_5 (by decide) ?_
    refine j_icmp_ge (tgt := 39) dX3_quietDay_7 rfl (by first | omega | (split <;> omega)) (by first | omega | (split <;> omega)) (fun c_7 => ?_) (fun c_7 => by exact absurd (by omega) c_7)
    refine j_iload_n dX3_quietDay_39 rfl ?_
    refine j_iret dX3_quietDay_40 rfl ?_
    exact rI_of ha rfl
  · have hr0 := mPains_in r1 hB (x := mAlive w) (k := z + 1) (by omega)
    have hr1 := mPains_in r1 hB (x := mAlive w) (k := a) (by omega)
    refine j_iload_n dX3_quietDay_4 rfl ?_
    refine j_bipush dX3_quietDay_5 (by decide) ?_
    refine j_icmp_ge (tgt := 39) dX3_quietDay_7 rfl (by first | omega | (split <;> omega)) (by first | omega | (split <;> omega)) (fun c_7 => by exact absurd c_7 (by omega)) (fun c_7 => ?_)
    refine j_aload_n dX3_quietDay_10 rfl ?_
    refine j_aload_n dX3_quietDay_11 rfl ?_
    refine r_getIE dX3_quietDay_12 flX3_30 (by first | assumption | exact hsh _ _ rfl) rA (fun b_12 => ?_)
    refine j_iload_n dX3_quietDay_15 rfl ?_
    refine r_cs3I dX3_quietDay_16 csX3_59 (Nat.le_of_ble_eq_true rfl) (Nat.le_of_eq (Nat.zero_add _)) (Nat.le_of_eq (Nat.zero_add _)) (sc_painTogether hs hR (by omega)) ?_
    refine j_aload_n dX3_quietDay_19 rfl ?_
    refine j_aload_n dX3_quietDay_20 rfl ?_
    refine r_getIE dX3_quietDay_21 flX3_30 (by first | assumption | exact hsh _ _ rfl) rA (fun b_21 => ?_)
    refine j_iload_n dX3_quietDay_24 rfl ?_
    refine r_cs3I dX3_quietDay_25 csX3_59 (Nat.le_of_ble_eq_true rfl) (Nat.le_of_eq (Nat.zero_add _)) (Nat.le_of_eq (Nat.zero_add _)) (sc_painTogether hs hR (by omega)) ?_
    refine j_icmp_ge (tgt := 33) dX3_quietDay_28 rfl (by first | omega | (split <;> omega)) (by first | omega | (split <;> omega)) (fun c_28 => ?_) (fun c_28 => ?_)
    · refine j_iinc dX3_quietDay_33 rfl (by decide) ?_
      refine j_goto (tgt := 4) dX3_quietDay_36 rfl ?_
      first | (rw [if_pos (by omega)] at ih; exact ih) | (rw [if_neg (by omega)] at ih; exact ih)
    · refine j_iload_n dX3_quietDay_31 rfl ?_
      refine j_istore_n dX3_quietDay_32 (by decide) ?_
      refine j_iinc dX3_quietDay_33 rfl (by decide) ?_
      refine j_goto (tgt := 4) dX3_quietDay_36 rfl ?_
      first | (rw [if_pos (by omega)] at ih; exact ih) | (rw [if_neg (by omega)] at ih; exact ih)
theorem mCt_shl {p : Int} (h : 0 ≤ p ∧ p < aPe w) (hP : aPe w ≤ 8) : 1 ≤ mCt w (jShl 1 p) := by
  refine fb_ct_pos.mpr ⟨p.toNat, by omega, ?_⟩
  rw [show ((p.toNat : Nat) : Int) = p by omega]
  exact decide_eq_true (((jShl_set h.1 (by omega)).2 p h.1 (by omega)).mpr rfl)
theorem sc_greatestRun (hs : StAt sh F s) (hR : Rp I s w) (hA : WfA w) : jS G (d + 2) mX3_greatestRun [jR (some s)] (sh, I, F) 0 0 (rI (mReserve w) (sh, I, F)) := by
  obtain ⟨g0, g1, g2, g3, g4, g5, g6, g7, g8, g9, e1, e2, e3, e4, e5, e6, e7, e8, e9⟩ := id hs
  obtain ⟨r0, r1, rP, rO, rA, r9, r10, r11, r12, r13, r14, r15, r16, r17⟩ := id hR
  refine jS_go [some (jR (some s)), none, none] (by decide +kernel) rfl (by simp [jone]) (Nat.le_of_ble_eq_true rfl) rfl (fun hok => ?_)
  refine j_iconst dX3_greatestRun_0 ?_
  refine j_istore_n dX3_greatestRun_1 (by decide) ?_
  refine j_iconst dX3_greatestRun_2 ?_
  refine j_istore_n dX3_greatestRun_3 (by decide) ?_
  skip
  refine jW_loop 4 (fun _ a => 0 ≤ a ∧ a ≤ 800000) (fun p a => if aOf w p 3 = 0 then max a (mAcc w (mRun w (jShl 1 p))) else a) 0 (aPe w) (fun z a => [some (jR (some s)), some (jI a), some (jI z)]) (fun _ _ => (sh, I, F)) r1.1 (by decide) (fun z a h0 h1 h2 => by have := mAcc_in r1 hA (mRun w (jShl 1 z)); split <;> omega) (fun a ha _ => ?_) (fun z a hz0 hz1 hPa ih => ?_)
  · refine j_iload_n dX3_greatestRun_4 rfl ?_
    refine j_aload_n dX3_greatestRun_5 rfl ?_
    refine r_getIE dX3_greatestRun_6 flX3_9 (by first | assumption | exact hsh _ _ rfl) r0 (fun b_6 => ?_)
    refine j_icmp_ge (tgt := 42) dX3_greatestRun_9 rfl (by first | omega | (split <;> omega)) (by first | omega | (split <;> omega)) (fun c_9 => ?_) (fun c_9 => by exact absurd (by omega) c_9)
    refine j_iload_n dX3_greatestRun_42 rfl ?_
    refine j_iret dX3_greatestRun_43 rfl ?_
    exact rI_of ha rfl
  · have hst := (jShl_set hz0 (by omega)).1
    have hin := mAcc_in r1 hA (mRun w (jShl 1 z))
    refine j_iload_n dX3_greatestRun_4 rfl ?_
    refine j_aload_n dX3_greatestRun_5 rfl ?_
    refine r_getIE dX3_greatestRun_6 flX3_9 (by first | assumption | exact hsh _ _ rfl) r0 (fun b_6 => ?_)
    refine j_icmp_ge (tgt := 42) dX3_greatestRun_9 rfl (by first | omega | (split <;> omega)) (by first | omega | (split <;> omega)) (fun c_9 => by exact absurd c_9 (by omega)) (fun c_9 => ?_)
    refine j_aload_n dX3_greatestRun_12 rfl ?_
    refine j_iload_n dX3_greatestRun_13 rfl ?_
    refine r_cv1I dX3_greatestRun_14 cvX3_15 (by decide) (by first | assumption | exact hsh _ _ rfl) (Nat.le_of_ble_eq_true rfl) (Nat.le_of_eq (Nat.zero_add _)) (Nat.le_of_eq (Nat.zero_add _)) (sc_isAlive hs hR (by omega)) ?_
    refine j_if_eq (tgt := 36) dX3_greatestRun_17 rfl (by first | omega | (split <;> omega)) (fun c_17 => ?_) (fun c_17 => ?_)
    · rw [ite0] at c_17
      refine j_iinc dX3_greatestRun_36 rfl (by decide) ?_
      refine j_goto (tgt := 4) dX3_greatestRun_39 rfl ?_
      first | (rw [if_pos (by omega)] at ih; exact ih) | (rw [if_neg (by omega)] at ih; exact ih)
    · rw [ite0] at c_17
      refine j_iload_n dX3_greatestRun_20 rfl ?_
      refine j_aload_n dX3_greatestRun_21 rfl ?_
      refine j_aload_n dX3_greatestRun_22 rfl ?_
      refine j_iconst dX3_greatestRun_23 ?_
      refine j_iload_n dX3_greatestRun_24 rfl ?_
      refine r_ishl dX3_greatestRun_25 (fun b_25 => ?_)
      refine r_cs2I dX3_greatestRun_26 csX3_39 (Nat.le_of_ble_eq_true rfl) (Nat.le_of_eq (Nat.zero_add _)) (Nat.le_of_eq (Nat.zero_add _)) (sc_runFrom hs hR (by omega) (mCt_shl ⟨hz0, hz1⟩ r1.2)) ?_
      refine r_cv1I dX3_greatestRun_29 cvX3_43 (by decide) (by first | assumption | exact hsh _ _ rfl) (Nat.le_of_ble_eq_true rfl) (Nat.le_of_eq (Nat.zero_add _)) (Nat.le_of_eq (Nat.zero_add _)) (sc_accountsOf hs hR) ?_
      refine r_max dX3_greatestRun_32 lmX3_50 (Nat.le_of_ble_eq_true rfl) (by first | omega | (split <;> omega)) (by first | omega | (split <;> omega)) ?_
      refine j_istore_n dX3_greatestRun_35 (by decide) ?_
      refine j_iinc dX3_greatestRun_36 rfl (by decide) ?_
      refine j_goto (tgt := 4) dX3_greatestRun_39 rfl ?_
      first | (rw [if_pos (by omega)] at ih; exact ih) | (rw [if_neg (by omega)] at ih; exact ih)
def mRooms (w : Int → Int) (x : Int) : Int := jfold (fun p a => a + (if jbit x p then max 0 (aRoom w p) else 0)) 0 (aPe w).toNat
theorem sc_roomOf (hs : StAt sh F s) (hR : Rp I s w) (hD : WfD w) (hB : WfB w) {x : Int} : jS G (d + 1) mX3_roomOf [jR (some s), jI x] (sh, I, F) 0 0 (rI (mRooms w x) (sh, I, F)) := by
  obtain ⟨g0, g1, g2, g3, g4, g5, g6, g7, g8, g9, e1, e2, e3, e4, e5, e6, e7, e8, e9⟩ := id hs
  obtain ⟨r0, r1, rP, rO, rA, r9, r10, r11, r12, r13, r14, r15, r16, r17⟩ := id hR
  refine jS_go [some (jR (some s)), some (jI x), none, none] (by decide +kernel) rfl (by simp [jone]) (Nat.le_of_ble_eq_true rfl) rfl (fun hok => ?_)
  refine j_iconst dX3_roomOf_0 ?_
  refine j_istore_n dX3_roomOf_1 (by decide) ?_
  refine j_iconst dX3_roomOf_2 ?_
  refine j_istore_n dX3_roomOf_3 (by decide) ?_
  skip
  refine jW_loop 4 (fun _ a => True) (fun p a => a + (if jbit x p then max 0 (aRoom w p) else 0)) 0 (aPe w) (fun z a => [some (jR (some s)), some (jI x), some (jI a), some (jI z)]) (fun _ _ => (sh, I, F)) r1.1 trivial (fun _ _ _ _ _ => trivial) (fun a ha _ => ?_) (fun z a hz0 hz1 hPa ih => ?_)
  · refine j_iload_n dX3_roomOf_4 rfl ?_
    refine j_aload_n dX3_roomOf_5 rfl ?_
    refine r_getIE dX3_roomOf_6 flX3_9 (by first | assumption | exact hsh _ _ rfl) r0 (fun b_6 => ?_)
    refine j_icmp_ge (tgt := 50) dX3_roomOf_9 rfl (by first | omega | (split <;> omega)) (by first | omega | (split <;> omega)) (fun c_9 => ?_) (fun c_9 => by exact absurd (by omega) c_9)
    refine j_iload_n dX3_roomOf_50 rfl ?_
    refine j_iret dX3_roomOf_51 rfl ?_
    exact rI_of ha rfl
  · obtain ⟨q0, q1, q2, q3, q4, q5, q6⟩ := rP z hz0 hz1
    have hr0 := aPaD_in hB ⟨hz0, hz1⟩ (day := w 3) hD.1
    have hr1 := (hB z hz0 hz1).1
    refine j_iload_n dX3_roomOf_4 rfl ?_
    refine j_aload_n dX3_roomOf_5 rfl ?_
    refine r_getIE dX3_roomOf_6 flX3_9 (by first | assumption | exact hsh _ _ rfl) r0 (fun b_6 => ?_)
    refine j_icmp_ge (tgt := 50) dX3_roomOf_9 rfl (by first | omega | (split <;> omega)) (by first | omega | (split <;> omega)) (fun c_9 => by exact absurd c_9 (by omega)) (fun c_9 => ?_)
    refine j_iload_n dX3_roomOf_12 rfl ?_
    refine j_iload_n dX3_roomOf_13 rfl ?_
    refine r_ishr dX3_roomOf_14 (fun b_14 => ?_)
    refine j_iconst dX3_roomOf_15 ?_
    refine r_iand dX3_roomOf_16 (fun b_16 => ?_)
    refine j_iconst dX3_roomOf_17 ?_
    refine j_icmp_ne (tgt := 44) dX3_roomOf_18 rfl (by first | omega | (split <;> omega)) (by first | omega | (split <;> omega)) (fun c_18 => ?_) (fun c_18 => ?_)
    · refine j_iinc dX3_roomOf_44 rfl (by decide) ?_
      refine j_goto (tgt := 4) dX3_roomOf_47 rfl ?_
      first | (rw [if_pos (Classical.not_not.mp c_18)] at ih; exact ih) | (rw [if_neg c_18, Int.add_zero] at ih; exact ih)
    · refine j_iload_n dX3_roomOf_21 rfl ?_
      refine j_iconst dX3_roomOf_22 ?_
      refine j_aload_n dX3_roomOf_23 rfl ?_
      refine r_getS dX3_roomOf_24 flX3_66 (by first | assumption | exact hsh _ _ rfl) (by assumption) ?_
      refine j_iload_n dX3_roomOf_27 rfl ?_
      refine r_ialoadE dX3_roomOf_28 (by first | assumption | exact hsh _ _ rfl) (by first | omega | (split <;> omega)) (by first | omega | (split <;> omega)) q0 (fun b_28 => ?_)
      refine j_aload_n dX3_roomOf_29 rfl ?_
      refine j_iload_n dX3_roomOf_30 rfl ?_
      refine j_aload_n dX3_roomOf_31 rfl ?_
      refine r_getIE dX3_roomOf_32 flX3_63 (by first | assumption | exact hsh _ _ rfl) r13 (fun b_32 => ?_)
      refine r_cv2I dX3_roomOf_35 cvX3_56 (by decide) (by first | assumption | exact hsh _ _ rfl) (Nat.le_of_ble_eq_true rfl) (Nat.le_of_eq (Nat.zero_add _)) (Nat.le_of_eq (Nat.zero_add _)) (sc_painOn hs hR ⟨hz0, hz1⟩ hD) ?_
      refine j_isub dX3_roomOf_38 ?_
      refine r_max dX3_roomOf_39 lmX3_50 (Nat.le_of_ble_eq_true rfl) (by first | omega | (split <;> omega)) (by first | omega | (split <;> omega)) ?_
      refine j_iadd dX3_roomOf_42 ?_
      refine j_istore_n dX3_roomOf_43 (by decide) ?_
      refine j_iinc dX3_roomOf_44 rfl (by decide) ?_
      refine j_goto (tgt := 4) dX3_roomOf_47 rfl ?_
      first | (rw [if_pos (Classical.not_not.mp c_18)] at ih; exact ih) | (rw [if_neg c_18, Int.add_zero] at ih; exact ih)
theorem sm_roomsOf (hsh : ShOK sh) (hfx : FxOK F) (hP : WfP (I 171)) (hD : WfD (I 171)) (hB : WfB (I 171)) {x : Int} : jS G (d + 4) mX12_roomsOf [jR (some 170), jI x] (sh, I, F) 0 0 (rI (mRooms (I 171) x) (sh, I, F)) := by
  have hP2 := hP.2
  refine jS_go [some (jR (some 170)), some (jI x), none, none] (by decide +kernel) rfl (by simp [jone]) (Nat.le_of_ble_eq_true rfl) rfl (fun hok => ?_)
  refine j_iconst dX12_roomsOf_0 ?_
  refine j_istore_n dX12_roomsOf_1 (by decide) ?_
  refine j_iconst dX12_roomsOf_2 ?_
  refine j_istore_n dX12_roomsOf_3 (by decide) ?_
  skip
  refine jW_loop 4 (fun _ a => True) (fun p a => a + (if jbit x p then max 0 (aRoom (I 171) p) else 0)) 0 (aPe (I 171)) (fun z a => [some (jR (some 170)), some (jI x), some (jI a), some (jI z)]) (fun _ _ => (sh, I, F)) hP.1 trivial (fun _ _ _ _ _ => trivial) (fun a ha _ => ?_) (fun z a hz0 hz1 hPa ih => ?_)
  · refine j_iload_n dX12_roomsOf_4 rfl ?_
    refine j_aload_n dX12_roomsOf_5 rfl ?_
    refine r_cv0J dX12_roomsOf_6 cvX12_74 (by decide) (by first | assumption | exact hsh _ _ rfl) (Nat.le_of_ble_eq_true rfl) (Nat.le_of_eq (Nat.zero_add _)) (Nat.le_of_eq (Nat.zero_add _)) (sm_people hsh hfx) (hok.2.1 171 _) (fun b_6 => ?_)
    refine j_icmp_ge (tgt := 42) dX12_roomsOf_9 rfl (by first | omega | (split <;> omega)) (by first | omega | (split <;> omega)) (fun c_9 => ?_) (fun c_9 => by exact absurd (by omega) c_9)
    refine j_iload_n dX12_roomsOf_42 rfl ?_
    refine j_iret dX12_roomsOf_43 rfl ?_
    exact rI_of ha rfl
  · have hr0 := aPaD_in hB ⟨hz0, hz1⟩ (day := I 171 3) hD.1
    have hr1 := (hB z hz0 hz1).1
    have hr2 : aRoom (I 171) z = aOf (I 171) z 0 - aPaD (I 171) z (I 171 3) := rfl
    refine j_iload_n dX12_roomsOf_4 rfl ?_
    refine j_aload_n dX12_roomsOf_5 rfl ?_
    refine r_cv0J dX12_roomsOf_6 cvX12_74 (by decide) (by first | assumption | exact hsh _ _ rfl) (Nat.le_of_ble_eq_true rfl) (Nat.le_of_eq (Nat.zero_add _)) (Nat.le_of_eq (Nat.zero_add _)) (sm_people hsh hfx) (hok.2.1 171 _) (fun b_6 => ?_)
    refine j_icmp_ge (tgt := 42) dX12_roomsOf_9 rfl (by first | omega | (split <;> omega)) (by first | omega | (split <;> omega)) (fun c_9 => by exact absurd c_9 (by omega)) (fun c_9 => ?_)
    refine j_iload_n dX12_roomsOf_12 rfl ?_
    refine j_iload_n dX12_roomsOf_13 rfl ?_
    refine j_iload_n dX12_roomsOf_14 rfl ?_
    refine r_cs2I dX12_roomsOf_15 csX12_332 (Nat.le_of_ble_eq_true rfl) (Nat.le_of_eq (Nat.zero_add _)) (Nat.le_of_eq (Nat.zero_add _)) (sm_has) ?_
    refine j_if_eq (tgt := 33) dX12_roomsOf_18 rfl (by first | omega | (split <;> omega)) (fun c_18 => ?_) (fun c_18 => ?_)
    · rw [ite0] at c_18
      refine j_iconst dX12_roomsOf_33 ?_
      refine j_iadd dX12_roomsOf_34 ?_
      refine j_istore_n dX12_roomsOf_35 (by decide) ?_
      refine j_iinc dX12_roomsOf_36 rfl (by decide) ?_
      refine j_goto (tgt := 4) dX12_roomsOf_39 rfl ?_
      first | (rw [if_pos (Classical.not_not.mp c_18)] at ih; exact ih) | (rw [if_neg c_18] at ih; exact ih)
    · rw [ite0] at c_18
      refine j_iconst dX12_roomsOf_21 ?_
      refine j_aload_n dX12_roomsOf_22 rfl ?_
      refine j_iload_n dX12_roomsOf_23 rfl ?_
      refine r_cv1I dX12_roomsOf_24 cvX12_405 (by decide) (by first | assumption | exact hsh _ _ rfl) (Nat.le_of_ble_eq_true rfl) (Nat.le_of_eq (Nat.zero_add _)) (Nat.le_of_eq (Nat.zero_add _)) (sm_roomOf hsh hfx (by omega) hD) ?_
      refine r_max dX12_roomsOf_27 lmX12_280 (Nat.le_of_ble_eq_true rfl) (by first | omega | (split <;> omega)) (by first | omega | (split <;> omega)) ?_
      refine j_goto (tgt := 34) dX12_roomsOf_30 rfl ?_
      refine j_iadd dX12_roomsOf_34 ?_
      refine j_istore_n dX12_roomsOf_35 (by decide) ?_
      refine j_iinc dX12_roomsOf_36 rfl (by decide) ?_
      refine j_goto (tgt := 4) dX12_roomsOf_39 rfl ?_
      first | (rw [if_pos (Classical.not_not.mp c_18)] at ih; exact ih) | (rw [if_neg c_18] at ih; exact ih)
/-! sets from 0 to all -/
abbrev aAllS (w : Int → Int) : Int := jShl 1 (aPe w) - 1
theorem aAllS_in {w : Int → Int} (hP : 0 ≤ aPe w ∧ aPe w ≤ 8) : 0 ≤ aAllS w ∧ aAllS w ≤ 255 := by
  obtain ⟨n, e⟩ := Int.eq_ofNat_of_zero_le hP.1
  unfold aAllS
  rw [e, jShl_nat (by omega)]
  have : 2 ^ n ≤ 2 ^ 8 := Nat.pow_le_pow_right (by decide) (by omega)
  have h0 : 0 < 2 ^ n := Nat.pow_pos (by decide)
  omega
def mSetN (w : Int → Int) (x k : Int) : Int := jfold (fun t a => if mPains w t k = x then a + 1 else a) 0 (aAllS w + 1).toNat
def mSetB (w : Int → Int) (x k : Int) : Int := jfold (fun t a => if mPains w t k = x then jAnd a t else a) (aAllS w) (aAllS w + 1).toNat
theorem sc_setsWithPain (hs : StAt sh F s) (hR : Rp I s w) (hB : WfB w) {x k : Int} (hx : jin x) (hk : 0 ≤ k ∧ k < 7) : jS G (d + 2) mX3_setsWithPain [jR (some s), jI x, jI k] (sh, I, F) 0 0 (rI (mSetN w x k) (sh, I, F)) := by
  obtain ⟨g0, g1, g2, g3, g4, g5, g6, g7, g8, g9, e1, e2, e3, e4, e5, e6, e7, e8, e9⟩ := id hs
  obtain ⟨r0, r1, rP, rO, rA, r9, r10, r11, r12, r13, r14, r15, r16, r17⟩ := id hR
  have hall := aAllS_in r1
  have hall2 : aAllS w = jShl 1 (aPe w) - 1 := rfl
  refine jS_go [some (jR (some s)), some (jI x), some (jI k), none, none] (by decide +kernel) rfl (by simp [jone]) (Nat.le_of_ble_eq_true rfl) rfl (fun hok => ?_)
  refine j_iconst dX3_setsWithPain_0 ?_
  refine j_istore_n dX3_setsWithPain_1 (by decide) ?_
  refine j_iconst dX3_setsWithPain_2 ?_
  refine j_istore dX3_setsWithPain_3 (by decide) ?_
  skip
  refine jW_loop 5 (fun _ a => True) (fun t a => if mPains w t k = x then a + 1 else a) 0 (aAllS w + 1) (fun z a => [some (jR (some s)), some (jI x), some (jI k), some (jI a), some (jI z)]) (fun _ _ => (sh, I, F)) (by omega) trivial (fun _ _ _ _ _ => trivial) (fun a ha _ => ?_) (fun z a hz0 hz1 hPa ih => ?_)
  · refine j_iload dX3_setsWithPain_5 rfl ?_
    refine j_aload_n dX3_setsWithPain_7 rfl ?_
    refine r_cv0I dX3_setsWithPain_8 cvX3_26 (by decide) (by first | assumption | exact hsh _ _ rfl) (Nat.le_of_ble_eq_true rfl) (Nat.le_of_eq (Nat.zero_add _)) (Nat.le_of_eq (Nat.zero_add _)) (sc_everybody hs hR) ?_
    refine j_icmp_gt (tgt := 34) dX3_setsWithPain_11 rfl (by first | omega | (split <;> omega)) (by first | omega | (split <;> omega)) (fun c_11 => ?_) (fun c_11 => by exact absurd (by omega) c_11)
    refine j_iload_n dX3_setsWithPain_34 rfl ?_
    refine j_iret dX3_setsWithPain_35 rfl ?_
    exact rI_of ha rfl
  · have hr0 := mPains_in r1 hB (x := z) hk
    refine j_iload dX3_setsWithPain_5 rfl ?_
    refine j_aload_n dX3_setsWithPain_7 rfl ?_
    refine r_cv0I dX3_setsWithPain_8 cvX3_26 (by decide) (by first | assumption | exact hsh _ _ rfl) (Nat.le_of_ble_eq_true rfl) (Nat.le_of_eq (Nat.zero_add _)) (Nat.le_of_eq (Nat.zero_add _)) (sc_everybody hs hR) ?_
    refine j_icmp_gt (tgt := 34) dX3_setsWithPain_11 rfl (by first | omega | (split <;> omega)) (by first | omega | (split <;> omega)) (fun c_11 => by exact absurd c_11 (by omega)) (fun c_11 => ?_)
    refine j_aload_n dX3_setsWithPain_14 rfl ?_
    refine j_iload dX3_setsWithPain_15 rfl ?_
    refine j_iload_n dX3_setsWithPain_17 rfl ?_
    refine r_cs3I dX3_setsWithPain_18 csX3_59 (Nat.le_of_ble_eq_true rfl) (Nat.le_of_eq (Nat.zero_add _)) (Nat.le_of_eq (Nat.zero_add _)) (sc_painTogether hs hR hk) ?_
    refine j_iload_n dX3_setsWithPain_21 rfl ?_
    refine j_icmp_ne (tgt := 28) dX3_setsWithPain_22 rfl (by first | omega | (split <;> omega)) (by first | omega | (split <;> omega)) (fun c_22 => ?_) (fun c_22 => ?_)
    · refine j_iinc dX3_setsWithPain_28 rfl (by decide) ?_
      refine j_goto (tgt := 5) dX3_setsWithPain_31 rfl ?_
      first | (rw [if_pos (by omega)] at ih; exact ih) | (rw [if_neg (by omega)] at ih; exact ih)
    · refine j_iinc dX3_setsWithPain_25 rfl (by decide) ?_
      refine j_iinc dX3_setsWithPain_28 rfl (by decide) ?_
      refine j_goto (tgt := 5) dX3_setsWithPain_31 rfl ?_
      first | (rw [if_pos (by omega)] at ih; exact ih) | (rw [if_neg (by omega)] at ih; exact ih)
def mSetC (w : Int → Int) (x k : Int) : Int := jfold (fun t a => if mPains w t k = x then jAnd a t else a) (-1) (aAllS w + 1).toNat
theorem jAnd_m1 {t : Int} (h : jin t) : jAnd (-1) t = t := by
  unfold jAnd
  rw [show Int32.ofInt (-1) = -1 from rfl, Int32.neg_one_and, jn_toInt h]
/-- of no set, or what all have -/
theorem mSet_rel {w : Int → Int} (hP : 0 ≤ aPe w ∧ aPe w ≤ 8) (x k : Int) : (mSetN w x k = 0 ∧ mSetC w x k = -1) ∨ (1 ≤ mSetN w x k ∧ mSetC w x k = mSetB w x k ∧ 0 ≤ mSetB w x k) := by
  have hall := aAllS_in hP
  have := jfold_rel (f := fun t (a : Int × Int) => if mPains w t k = x then (a.1 + 1, jAnd a.2 t) else a) (g := fun t a => if mPains w t k = x then jAnd a t else a) (a := ((0 : Int), (-1 : Int))) (b := aAllS w) (fun z y b => (y.1 = 0 ∧ y.2 = -1 ∧ b = aAllS w) ∨ (1 ≤ y.1 ∧ y.2 = b ∧ 0 ≤ b ∧ b ≤ aAllS w)) (Or.inl ⟨rfl, rfl, rfl⟩) (n := (aAllS w + 1).toNat) (fun t y b h0 h1 q => by
    by_cases e : mPains w t k = x
    · rw [if_pos e, if_pos e]
      rcases q with ⟨q1, q2, q3⟩ | ⟨q1, q2, q3, q4⟩
      · right
        have hb := jAnd_set (a := t) (b := aAllS w) (by omega) (by omega)
        have e2 : jAnd (aAllS w) t = t := by
          obtain ⟨n, en⟩ := Int.eq_ofNat_of_zero_le hP.1
          obtain ⟨m, em⟩ := Int.eq_ofNat_of_zero_le h0
          have e3 : aAllS w = ((2 ^ n - 1 : Nat) : Int) := by
            unfold aAllS
            rw [en, jShl_nat (by omega)]
            have h0 : 0 < 2 ^ n := Nat.pow_pos (by decide)
            omega
          have hp : 0 < 2 ^ n := Nat.pow_pos (by decide)
          have hm : m < 2 ^ n := by omega
          rw [e3, em, jAnd_nat (by omega), Nat.and_comm, Nat.and_two_pow_sub_one_eq_mod, Nat.mod_eq_of_lt hm]
        refine ⟨by show 1 ≤ y.1 + 1; omega, ?_, ?_, ?_⟩
        · show jAnd y.2 t = jAnd b t
          rw [q2, q3, jAnd_m1 (by omega), e2]
        · rw [q3, e2]; exact h0
        · rw [q3, e2]; omega
      · right
        have hb := jAnd_set (a := b) (b := t) (by omega) (by omega)
        exact ⟨by show 1 ≤ y.1 + 1; omega, by show jAnd y.2 t = jAnd b t; rw [q2], hb.1.1, by omega⟩
    · rw [if_neg e, if_neg e]
      exact q)
  have hN : ∀ n : Nat, (jfold (fun t (a : Int × Int) => if mPains w t k = x then (a.1 + 1, jAnd a.2 t) else a) ((0 : Int), (-1 : Int)) n) = (jfold (fun t a => if mPains w t k = x then a + 1 else a) 0 n, jfold (fun t a => if mPains w t k = x then jAnd a t else a) (-1) n) := by
    intro n
    induction n with
    | zero => rfl
    | succ n ih =>
      show (if mPains w n k = x then _ else _) = _
      rw [ih]
      show _ = ((if mPains w n k = x then _ else _), (if mPains w n k = x then _ else _))
      split <;> rfl
  rw [hN] at this
  rcases this with ⟨a, b, c⟩ | ⟨a, b, c, e⟩
  · exact Or.inl ⟨a, b⟩
  · exact Or.inr ⟨a, b, c⟩
theorem sc_inAllSets (hs : StAt sh F s) (hR : Rp I s w) (hB : WfB w) {x k : Int} (hx : jin x) (hk : 0 ≤ k ∧ k < 7) : jS G (d + 2) mX3_inAllSets [jR (some s), jI x, jI k] (sh, I, F) 0 0 (rI (if mSetN w x k = 0 then 0 else mSetB w x k) (sh, I, F)) := by
  obtain ⟨g0, g1, g2, g3, g4, g5, g6, g7, g8, g9, e1, e2, e3, e4, e5, e6, e7, e8, e9⟩ := id hs
  obtain ⟨r0, r1, rP, rO, rA, r9, r10, r11, r12, r13, r14, r15, r16, r17⟩ := id hR
  have hall := aAllS_in r1
  have hall2 : aAllS w = jShl 1 (aPe w) - 1 := rfl
  refine jS_go [some (jR (some s)), some (jI x), some (jI k), none, none] (by decide +kernel) rfl (by simp [jone]) (Nat.le_of_ble_eq_true rfl) rfl (fun hok => ?_)
  generalize hQ : rI (if mSetN w x k = 0 then 0 else mSetB w x k) (sh, I, F) = Q9
  refine j_iconst dX3_inAllSets_0 ?_
  refine j_istore_n dX3_inAllSets_1 (by decide) ?_
  refine j_iconst dX3_inAllSets_2 ?_
  refine j_istore dX3_inAllSets_3 (by decide) ?_
  skip
  refine jW_loop 5 (fun _ a => jin a) (fun t a => if mPains w t k = x then jAnd a t else a) (-1) (aAllS w + 1) (fun z a => [some (jR (some s)), some (jI x), some (jI k), some (jI a), some (jI z)]) (fun _ _ => (sh, I, F)) (by omega) (by decide) (fun z a _ _ h => by split; exact jAnd_in _ _; exact h) (fun a ha hPa => ?_) (fun z a hz0 hz1 hPa ih => ?_)
  · have ha2 : a = mSetC w x k := ha
    have hrel := mSet_rel r1 x k
    subst hQ
    refine j_iload dX3_inAllSets_5 rfl ?_
    refine j_aload_n dX3_inAllSets_7 rfl ?_
    refine r_cv0I dX3_inAllSets_8 cvX3_26 (by decide) (by first | assumption | exact hsh _ _ rfl) (Nat.le_of_ble_eq_true rfl) (Nat.le_of_eq (Nat.zero_add _)) (Nat.le_of_eq (Nat.zero_add _)) (sc_everybody hs hR) ?_
    refine j_icmp_gt (tgt := 36) dX3_inAllSets_11 rfl (by first | omega | (split <;> omega)) (by first | omega | (split <;> omega)) (fun c_11 => ?_) (fun c_11 => by exact absurd (by omega) c_11)
    refine j_iload_n dX3_inAllSets_36 rfl ?_
    refine j_iconst dX3_inAllSets_37 ?_
    refine j_icmp_ne (tgt := 45) dX3_inAllSets_38 rfl (by first | omega | (split <;> omega)) (by first | omega | (split <;> omega)) (fun c_38 => ?_) (fun c_38 => ?_)
    · refine j_iload_n dX3_inAllSets_45 rfl ?_
      refine j_iret dX3_inAllSets_46 rfl ?_
      exact rI_of (by split <;> omega) rfl
    · refine j_iconst dX3_inAllSets_41 ?_
      refine j_goto (tgt := 46) dX3_inAllSets_42 rfl ?_
      refine j_iret dX3_inAllSets_46 rfl ?_
      exact rI_of (by split <;> omega) rfl
  · have hr0 := mPains_in r1 hB (x := z) hk
    refine j_iload dX3_inAllSets_5 rfl ?_
    refine j_aload_n dX3_inAllSets_7 rfl ?_
    refine r_cv0I dX3_inAllSets_8 cvX3_26 (by decide) (by first | assumption | exact hsh _ _ rfl) (Nat.le_of_ble_eq_true rfl) (Nat.le_of_eq (Nat.zero_add _)) (Nat.le_of_eq (Nat.zero_add _)) (sc_everybody hs hR) ?_
    refine j_icmp_gt (tgt := 36) dX3_inAllSets_11 rfl (by first | omega | (split <;> omega)) (by first | omega | (split <;> omega)) (fun c_11 => by exact absurd c_11 (by omega)) (fun c_11 => ?_)
    refine j_aload_n dX3_inAllSets_14 rfl ?_
    refine j_iload dX3_inAllSets_15 rfl ?_
    refine j_iload_n dX3_inAllSets_17 rfl ?_
    refine r_cs3I dX3_inAllSets_18 csX3_59 (Nat.le_of_ble_eq_true rfl) (Nat.le_of_eq (Nat.zero_add _)) (Nat.le_of_eq (Nat.zero_add _)) (sc_painTogether hs hR hk) ?_
    refine j_iload_n dX3_inAllSets_21 rfl ?_
    refine j_icmp_ne (tgt := 30) dX3_inAllSets_22 rfl (by first | omega | (split <;> omega)) (by first | omega | (split <;> omega)) (fun c_22 => ?_) (fun c_22 => ?_)
    · refine j_iinc dX3_inAllSets_30 rfl (by decide) ?_
      refine j_goto (tgt := 5) dX3_inAllSets_33 rfl ?_
      first | (rw [if_pos (by omega)] at ih; exact ih) | (rw [if_neg (by omega)] at ih; exact ih)
    · refine j_iload_n dX3_inAllSets_25 rfl ?_
      refine j_iload dX3_inAllSets_26 rfl ?_
      refine r_iand dX3_inAllSets_28 (fun b_28 => ?_)
      refine j_istore_n dX3_inAllSets_29 (by decide) ?_
      refine j_iinc dX3_inAllSets_30 rfl (by decide) ?_
      refine j_goto (tgt := 5) dX3_inAllSets_33 rfl ?_
      first | (rw [if_pos (by omega)] at ih; exact ih) | (rw [if_neg (by omega)] at ih; exact ih)
end
