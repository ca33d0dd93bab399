/-! THE MODEL'S QUESTIONS -/
def WfP (w : Int → Int) : Prop := 0 ≤ aPe w ∧ aPe w ≤ 8
section
variable {G : jzG} {d : Nat} {sh : List (Nat × Nat)} {I : Nat → Int → Int} {F : Nat → Int → Option Nat}
theorem sm_owedBy (hsh : ShOK sh) (hfx : FxOK F) {p k : Int} (h1 : 0 ≤ 116 + 8 * p + k ∧ 116 + 8 * p + k < 2118) : jS G (d + 1) mX12_owedBy [jR (some 170), jI p, jI k] (sh, I, F) 0 0 (rI (aOw (I 171) p k) (sh, I, F)) := by
  refine jS_go [some (jR (some 170)), some (jI p), some (jI k)] (by decide +kernel) rfl (by simp [jone]) (Nat.le_of_ble_eq_true rfl) rfl (fun hok => ?_)
  refine j_aload_n dX12_owedBy_0 rfl ?_
  refine r_getS dX12_owedBy_1 flX12_13 (by first | assumption | exact hsh _ _ rfl) (fx_170_1 hfx) ?_
  refine j_iload_n dX12_owedBy_4 rfl ?_
  refine j_iload_n dX12_owedBy_5 rfl ?_
  refine r_cs2I dX12_owedBy_6 csX12_71 (Nat.le_of_ble_eq_true rfl) (Nat.le_of_eq (Nat.zero_add _)) (Nat.le_of_eq (Nat.zero_add _)) (sm_owedAt) ?_
  refine r_iaload dX12_owedBy_9 (by first | assumption | exact hsh _ _ rfl) (by first | omega | (split <;> omega)) (by first | omega | (split <;> omega)) (fun b_9 => ?_)
  refine j_iret dX12_owedBy_10 rfl ?_
  exact rI_of rfl rfl
theorem sm_hasFailed (hsh : ShOK sh) (hfx : FxOK F) : jS G d mX12_hasFailed [jR (some 170)] (sh, I, F) 0 0 (rI (if I 171 8 = 1 then 1 else 0) (sh, I, F)) := by
  refine jS_go [some (jR (some 170))] (by decide +kernel) rfl (by simp [jone]) (Nat.le_of_ble_eq_true rfl) rfl (fun hok => ?_)
  refine j_aload_n dX12_hasFailed_0 rfl ?_
  refine r_getS dX12_hasFailed_1 flX12_13 (by first | assumption | exact hsh _ _ rfl) (fx_170_1 hfx) ?_
  refine j_bipush dX12_hasFailed_4 (by decide) ?_
  refine r_iaload dX12_hasFailed_6 (by first | assumption | exact hsh _ _ rfl) (by first | omega | (split <;> omega)) (by first | omega | (split <;> omega)) (fun b_6 => ?_)
  refine j_iconst dX12_hasFailed_7 ?_
  refine j_icmp_ne (tgt := 15) dX12_hasFailed_8 rfl (by first | omega | (split <;> omega)) (by first | omega | (split <;> omega)) (fun c_8 => ?_) (fun c_8 => ?_)
  · refine j_iconst dX12_hasFailed_15 ?_
    refine j_zret dX12_hasFailed_16 rfl (by omega) ?_
    exact rI_of (by split <;> omega) rfl
  · refine j_iconst dX12_hasFailed_11 ?_
    refine j_goto (tgt := 16) dX12_hasFailed_12 rfl ?_
    refine j_zret dX12_hasFailed_16 rfl (by omega) ?_
    exact rI_of (by split <;> omega) rfl
theorem sm_noPerson (hsh : ShOK sh) (hfx : FxOK F) (hok0 : jzok (sh, I, F)) {p : Int} (h1 : jin p) (hP : WfP (I 171)) : jS G (d + 1) mX12_noPerson [jR (some 170), jI p] (sh, I, F) 0 0 (rI (if 0 ≤ p ∧ p ≤ aPe (I 171) - 1 then 0 else 1) (sh, I, F)) := by
  obtain ⟨hP0, hP1⟩ := hP
  refine jS_go [some (jR (some 170)), some (jI p)] (by decide +kernel) rfl (by simp [jone]) (Nat.le_of_ble_eq_true rfl) rfl (fun hok => ?_)
  refine j_iload_n dX12_noPerson_0 rfl ?_
  refine j_iconst dX12_noPerson_1 ?_
  refine j_aload_n dX12_noPerson_2 rfl ?_
  refine r_cv0J dX12_noPerson_3 cvX12_74 (by decide) (by first | assumption | exact hsh _ _ rfl) (Nat.le_of_ble_eq_true rfl) (Nat.le_of_eq (Nat.zero_add _)) (Nat.le_of_eq (Nat.zero_add _)) (sm_people hsh hfx) (hok.2.1 171 _) (fun b_3 => ?_)
  refine j_iconst dX12_noPerson_6 ?_
  refine j_isub dX12_noPerson_7 ?_
  refine r_cs3I dX12_noPerson_8 csX12_78 (Nat.le_of_ble_eq_true rfl) (Nat.le_of_eq (Nat.zero_add _)) (Nat.le_of_eq (Nat.zero_add _)) (sm_in (by omega) (by omega) (by omega)) ?_
  refine j_if_ne (tgt := 18) dX12_noPerson_11 rfl (by first | omega | (split <;> omega)) (fun c_11 => ?_) (fun c_11 => ?_)
  · refine j_iconst dX12_noPerson_18 ?_
    refine j_zret dX12_noPerson_19 rfl (by omega) ?_
    simp only [ite0, ne_eq, Classical.not_not] at c_11
    exact rI_of (by split <;> simp_all) rfl
  · refine j_iconst dX12_noPerson_14 ?_
    refine j_goto (tgt := 19) dX12_noPerson_15 rfl ?_
    refine j_zret dX12_noPerson_19 rfl (by omega) ?_
    simp only [ite0, ne_eq, Classical.not_not] at c_11
    exact rI_of (by split <;> simp_all) rfl
def mAll (w : Int → Int) (k : Int) : Int := jfold (fun p a => a + aOf w p k) 0 (aPe w).toNat
theorem sm_allAccounts (hsh : ShOK sh) (hfx : FxOK F) (hP : WfP (I 171)) : jS G (d + 2) mX12_allAccounts [jR (some 170)] (sh, I, F) 0 0 (rI (mAll (I 171) 1) (sh, I, F)) := by
  obtain ⟨hP0, hP1⟩ := hP
  refine jS_go [some (jR (some 170)), none, none] (by decide +kernel) rfl (by simp [jone]) (Nat.le_of_ble_eq_true rfl) rfl (fun hok => ?_)
  refine j_iconst dX12_allAccounts_0 ?_
  refine j_istore_n dX12_allAccounts_1 (by decide) ?_
  refine j_iconst dX12_allAccounts_2 ?_
  refine j_istore_n dX12_allAccounts_3 (by decide) ?_
  skip
  refine jW_loop 4 (fun _ _ => True) (fun p a => a + aOf (I 171) p 1) 0 (aPe (I 171)) (fun z a => [some (jR (some 170)), some (jI a), some (jI z)]) (fun _ _ => (sh, I, F)) hP0 trivial (fun _ _ _ _ _ => trivial) (fun a ha _ => ?_) (fun z a hz0 hz1 _ ih => ?_)
  · refine j_iload_n dX12_allAccounts_4 rfl ?_
    refine j_aload_n dX12_allAccounts_5 rfl ?_
    refine r_cv0J dX12_allAccounts_6 cvX12_74 (by decide) (by first | assumption | exact hsh _ _ rfl) (Nat.le_of_ble_eq_true rfl) (Nat.le_of_eq (Nat.zero_add _)) (Nat.le_of_eq (Nat.zero_add _)) (sm_people hsh hfx) (hok.2.1 171 _) (fun b_6 => ?_)
    refine j_icmp_ge (tgt := 27) dX12_allAccounts_9 rfl (by first | omega | (split <;> omega)) (by first | omega | (split <;> omega)) (fun c_9 => ?_) (fun c_9 => ?_)
    · refine j_iload_n dX12_allAccounts_27 rfl ?_
      refine j_iret dX12_allAccounts_28 rfl ?_
      exact rI_of ha rfl
    · exact absurd (by omega) c_9
  · refine j_iload_n dX12_allAccounts_4 rfl ?_
    refine j_aload_n dX12_allAccounts_5 rfl ?_
    refine r_cv0J dX12_allAccounts_6 cvX12_74 (by decide) (by first | assumption | exact hsh _ _ rfl) (Nat.le_of_ble_eq_true rfl) (Nat.le_of_eq (Nat.zero_add _)) (Nat.le_of_eq (Nat.zero_add _)) (sm_people hsh hfx) (hok.2.1 171 _) (fun b_6 => ?_)
    refine j_icmp_ge (tgt := 27) dX12_allAccounts_9 rfl (by first | omega | (split <;> omega)) (by first | omega | (split <;> omega)) (fun c_9 => ?_) (fun c_9 => ?_)
    · exact absurd c_9 (by omega)
    · refine j_iload_n dX12_allAccounts_12 rfl ?_
      refine j_aload_n dX12_allAccounts_13 rfl ?_
      refine j_iload_n dX12_allAccounts_14 rfl ?_
      refine j_iconst dX12_allAccounts_15 ?_
      refine r_cv2J dX12_allAccounts_16 cvX12_68 (by decide) (by first | assumption | exact hsh _ _ rfl) (Nat.le_of_ble_eq_true rfl) (Nat.le_of_eq (Nat.zero_add _)) (Nat.le_of_eq (Nat.zero_add _)) (sm_of hsh hfx (by omega)) (hok.2.1 171 _) (fun b_16 => ?_)
      refine j_iadd dX12_allAccounts_19 ?_
      refine j_istore_n dX12_allAccounts_20 (by decide) ?_
      refine j_iinc dX12_allAccounts_21 rfl (by decide) ?_
      refine j_goto (tgt := 4) dX12_allAccounts_24 rfl ?_
      exact ih
theorem sm_allForged (hsh : ShOK sh) (hfx : FxOK F) (hP : WfP (I 171)) : jS G (d + 2) mX12_allForged [jR (some 170)] (sh, I, F) 0 0 (rI (mAll (I 171) 2) (sh, I, F)) := by
  obtain ⟨hP0, hP1⟩ := hP
  refine jS_go [some (jR (some 170)), none, none] (by decide +kernel) rfl (by simp [jone]) (Nat.le_of_ble_eq_true rfl) rfl (fun hok => ?_)
  refine j_iconst dX12_allForged_0 ?_
  refine j_istore_n dX12_allForged_1 (by decide) ?_
  refine j_iconst dX12_allForged_2 ?_
  refine j_istore_n dX12_allForged_3 (by decide) ?_
  skip
  refine jW_loop 4 (fun _ _ => True) (fun p a => a + aOf (I 171) p 2) 0 (aPe (I 171)) (fun z a => [some (jR (some 170)), some (jI a), some (jI z)]) (fun _ _ => (sh, I, F)) hP0 trivial (fun _ _ _ _ _ => trivial) (fun a ha _ => ?_) (fun z a hz0 hz1 _ ih => ?_)
  · refine j_iload_n dX12_allForged_4 rfl ?_
    refine j_aload_n dX12_allForged_5 rfl ?_
    refine r_cv0J dX12_allForged_6 cvX12_74 (by decide) (by first | assumption | exact hsh _ _ rfl) (Nat.le_of_ble_eq_true rfl) (Nat.le_of_eq (Nat.zero_add _)) (Nat.le_of_eq (Nat.zero_add _)) (sm_people hsh hfx) (hok.2.1 171 _) (fun b_6 => ?_)
    refine j_icmp_ge (tgt := 27) dX12_allForged_9 rfl (by first | omega | (split <;> omega)) (by first | omega | (split <;> omega)) (fun c_9 => ?_) (fun c_9 => ?_)
    · refine j_iload_n dX12_allForged_27 rfl ?_
      refine j_iret dX12_allForged_28 rfl ?_
      exact rI_of ha rfl
    · exact absurd (by omega) c_9
  · refine j_iload_n dX12_allForged_4 rfl ?_
    refine j_aload_n dX12_allForged_5 rfl ?_
    refine r_cv0J dX12_allForged_6 cvX12_74 (by decide) (by first | assumption | exact hsh _ _ rfl) (Nat.le_of_ble_eq_true rfl) (Nat.le_of_eq (Nat.zero_add _)) (Nat.le_of_eq (Nat.zero_add _)) (sm_people hsh hfx) (hok.2.1 171 _) (fun b_6 => ?_)
    refine j_icmp_ge (tgt := 27) dX12_allForged_9 rfl (by first | omega | (split <;> omega)) (by first | omega | (split <;> omega)) (fun c_9 => ?_) (fun c_9 => ?_)
    · exact absurd c_9 (by omega)
    · refine j_iload_n dX12_allForged_12 rfl ?_
      refine j_aload_n dX12_allForged_13 rfl ?_
      refine j_iload_n dX12_allForged_14 rfl ?_
      refine j_iconst dX12_allForged_15 ?_
      refine r_cv2J dX12_allForged_16 cvX12_68 (by decide) (by first | assumption | exact hsh _ _ rfl) (Nat.le_of_ble_eq_true rfl) (Nat.le_of_eq (Nat.zero_add _)) (Nat.le_of_eq (Nat.zero_add _)) (sm_of hsh hfx (by omega)) (hok.2.1 171 _) (fun b_16 => ?_)
      refine j_iadd dX12_allForged_19 ?_
      refine j_istore_n dX12_allForged_20 (by decide) ?_
      refine j_iinc dX12_allForged_21 rfl (by decide) ?_
      refine j_goto (tgt := 4) dX12_allForged_24 rfl ?_
      exact ih
def mNet (w : Int → Int) (p : Int) : Int := jfold (fun q a => a + (aOw w q p - aOw w p q)) 0 (aPe w).toNat
theorem sm_netOf (hsh : ShOK sh) (hfx : FxOK F) (hP : WfP (I 171)) {p : Int} (h1 : 0 ≤ p ∧ p < 8) : jS G (d + 2) mX12_netOf [jR (some 170), jI p] (sh, I, F) 0 0 (rI (mNet (I 171) p) (sh, I, F)) := by
  obtain ⟨hP0, hP1⟩ := hP
  refine jS_go [some (jR (some 170)), some (jI p), none, none] (by decide +kernel) rfl (by simp [jone]) (Nat.le_of_ble_eq_true rfl) rfl (fun hok => ?_)
  refine j_iconst dX12_netOf_0 ?_
  refine j_istore_n dX12_netOf_1 (by decide) ?_
  refine j_iconst dX12_netOf_2 ?_
  refine j_istore_n dX12_netOf_3 (by decide) ?_
  skip
  refine jW_loop 4 (fun _ _ => True) (fun q a => a + (aOw (I 171) q p - aOw (I 171) p q)) 0 (aPe (I 171)) (fun z a => [some (jR (some 170)), some (jI p), some (jI a), some (jI z)]) (fun _ _ => (sh, I, F)) hP0 trivial (fun _ _ _ _ _ => trivial) (fun a ha _ => ?_) (fun z a hz0 hz1 _ ih => ?_)
  · refine j_iload_n dX12_netOf_4 rfl ?_
    refine j_aload_n dX12_netOf_5 rfl ?_
    refine r_cv0J dX12_netOf_6 cvX12_74 (by decide) (by first | assumption | exact hsh _ _ rfl) (Nat.le_of_ble_eq_true rfl) (Nat.le_of_eq (Nat.zero_add _)) (Nat.le_of_eq (Nat.zero_add _)) (sm_people hsh hfx) (hok.2.1 171 _) (fun b_6 => ?_)
    refine j_icmp_ge (tgt := 34) dX12_netOf_9 rfl (by first | omega | (split <;> omega)) (by first | omega | (split <;> omega)) (fun c_9 => ?_) (fun c_9 => ?_)
    · refine j_iload_n dX12_netOf_34 rfl ?_
      refine j_iret dX12_netOf_35 rfl ?_
      exact rI_of ha rfl
    · exact absurd (by omega) c_9
  · refine j_iload_n dX12_netOf_4 rfl ?_
    refine j_aload_n dX12_netOf_5 rfl ?_
    refine r_cv0J dX12_netOf_6 cvX12_74 (by decide) (by first | assumption | exact hsh _ _ rfl) (Nat.le_of_ble_eq_true rfl) (Nat.le_of_eq (Nat.zero_add _)) (Nat.le_of_eq (Nat.zero_add _)) (sm_people hsh hfx) (hok.2.1 171 _) (fun b_6 => ?_)
    refine j_icmp_ge (tgt := 34) dX12_netOf_9 rfl (by first | omega | (split <;> omega)) (by first | omega | (split <;> omega)) (fun c_9 => ?_) (fun c_9 => ?_)
    · exact absurd c_9 (by omega)
    · refine j_iload_n dX12_netOf_12 rfl ?_
      refine j_aload_n dX12_netOf_13 rfl ?_
      refine j_iload_n dX12_netOf_14 rfl ?_
      refine j_iload_n dX12_netOf_15 rfl ?_
      refine r_cv2J dX12_netOf_16 cvX12_329 (by decide) (by first | assumption | exact hsh _ _ rfl) (Nat.le_of_ble_eq_true rfl) (Nat.le_of_eq (Nat.zero_add _)) (Nat.le_of_eq (Nat.zero_add _)) (sm_owedBy hsh hfx (by omega)) (hok.2.1 171 _) (fun b_16 => ?_)
      refine j_aload_n dX12_netOf_19 rfl ?_
      refine j_iload_n dX12_netOf_20 rfl ?_
      refine j_iload_n dX12_netOf_21 rfl ?_
      refine r_cv2J dX12_netOf_22 cvX12_329 (by decide) (by first | assumption | exact hsh _ _ rfl) (Nat.le_of_ble_eq_true rfl) (Nat.le_of_eq (Nat.zero_add _)) (Nat.le_of_eq (Nat.zero_add _)) (sm_owedBy hsh hfx (by omega)) (hok.2.1 171 _) (fun b_22 => ?_)
      refine j_isub dX12_netOf_25 ?_
      refine j_iadd dX12_netOf_26 ?_
      refine j_istore_n dX12_netOf_27 (by decide) ?_
      refine j_iinc dX12_netOf_28 rfl (by decide) ?_
      refine j_goto (tgt := 4) dX12_netOf_31 rfl ?_
      exact ih
def mWorst (w : Int → Int) (p : Int) : Int := jfold (fun e a => if aOf w p (6 + a) < aOf w p (6 + (e + 1)) then e + 1 else a) 0 6
theorem sm_worstDay (hsh : ShOK sh) (hfx : FxOK F) {p : Int} (h1 : 0 ≤ p ∧ p < 8) : jS G (d + 2) mX12_worstDay [jR (some 170), jI p] (sh, I, F) 0 0 (rI (mWorst (I 171) p) (sh, I, F)) := by
  refine jS_go [some (jR (some 170)), some (jI p), none, none] (by decide +kernel) rfl (by simp [jone]) (Nat.le_of_ble_eq_true rfl) rfl (fun hok => ?_)
  refine j_iconst dX12_worstDay_0 ?_
  refine j_istore_n dX12_worstDay_1 (by decide) ?_
  refine j_iconst dX12_worstDay_2 ?_
  refine j_istore_n dX12_worstDay_3 (by decide) ?_
  skip
  refine jW_loop 4 (fun _ a => 0 ≤ a ∧ a ≤ 6) (fun e a => if aOf (I 171) p (6 + a) < aOf (I 171) p (6 + (e + 1)) then e + 1 else a) 0 6 (fun z a => [some (jR (some 170)), some (jI p), some (jI a), some (jI (z + 1))]) (fun _ _ => (sh, I, F)) (by decide) (by decide) (fun z a h2 h3 h4 => by split <;> omega) (fun a ha hPa => ?_) (fun z a hz0 hz1 hPa ih => ?_)
  · refine j_iload_n dX12_worstDay_4 rfl ?_
    refine j_bipush dX12_worstDay_5 (by decide) ?_
    refine j_icmp_ge (tgt := 43) dX12_worstDay_7 rfl (by first | omega | (split <;> omega)) (by first | omega | (split <;> omega)) (fun c_7 => ?_) (fun c_7 => ?_)
    · refine j_iload_n dX12_worstDay_43 rfl ?_
      refine j_iret dX12_worstDay_44 rfl ?_
      exact rI_of ha rfl
    · exact absurd (by omega) c_7
  · refine j_iload_n dX12_worstDay_4 rfl ?_
    refine j_bipush dX12_worstDay_5 (by decide) ?_
    refine j_icmp_ge (tgt := 43) dX12_worstDay_7 rfl (by first | omega | (split <;> omega)) (by first | omega | (split <;> omega)) (fun c_7 => ?_) (fun c_7 => ?_)
    · exact absurd c_7 (by omega)
    · refine j_aload_n dX12_worstDay_10 rfl ?_
      refine j_iload_n dX12_worstDay_11 rfl ?_
      refine j_bipush dX12_worstDay_12 (by decide) ?_
      refine j_iload_n dX12_worstDay_14 rfl ?_
      refine j_iadd dX12_worstDay_15 ?_
      refine r_cv2J dX12_worstDay_16 cvX12_68 (by decide) (by first | assumption | exact hsh _ _ rfl) (Nat.le_of_ble_eq_true rfl) (Nat.le_of_eq (Nat.zero_add _)) (Nat.le_of_eq (Nat.zero_add _)) (sm_of hsh hfx (by omega)) (hok.2.1 171 _) (fun b_16 => ?_)
      refine j_aload_n dX12_worstDay_19 rfl ?_
      refine j_iload_n dX12_worstDay_20 rfl ?_
      refine j_bipush dX12_worstDay_21 (by decide) ?_
      refine j_iload_n dX12_worstDay_23 rfl ?_
      refine j_iadd dX12_worstDay_24 ?_
      refine r_cv2J dX12_worstDay_25 cvX12_68 (by decide) (by first | assumption | exact hsh _ _ rfl) (Nat.le_of_ble_eq_true rfl) (Nat.le_of_eq (Nat.zero_add _)) (Nat.le_of_eq (Nat.zero_add _)) (sm_of hsh hfx (by omega)) (hok.2.1 171 _) (fun b_25 => ?_)
      refine j_icmp_le (tgt := 35) dX12_worstDay_28 rfl (by first | omega | (split <;> omega)) (by first | omega | (split <;> omega)) (fun c_28 => ?_) (fun c_28 => ?_)
      · refine j_iload_n dX12_worstDay_35 rfl ?_
        refine j_istore_n dX12_worstDay_36 (by decide) ?_
        refine j_iinc dX12_worstDay_37 rfl (by decide) ?_
        refine j_goto (tgt := 4) dX12_worstDay_40 rfl ?_
        first | (rw [if_pos (by omega)] at ih; exact ih) | (rw [if_neg (by omega)] at ih; exact ih)
      · refine j_iload_n dX12_worstDay_31 rfl ?_
        refine j_goto (tgt := 36) dX12_worstDay_32 rfl ?_
        refine j_istore_n dX12_worstDay_36 (by decide) ?_
        refine j_iinc dX12_worstDay_37 rfl (by decide) ?_
        refine j_goto (tgt := 4) dX12_worstDay_40 rfl ?_
        first | (rw [if_pos (by omega)] at ih; exact ih) | (rw [if_neg (by omega)] at ih; exact ih)
def mWill (w : Int → Int) (p : Int) : Int := jfold (fun q a => a + (if aOf w q 3 = 0 ∧ aOf w q 4 = p then aOf w q 1 else 0)) 0 (aPe w).toNat
theorem sm_willOf (hsh : ShOK sh) (hfx : FxOK F) (hP : WfP (I 171)) {p : Int} (h1 : 0 ≤ p ∧ p < 8) : jS G (d + 3) mX12_willOf [jR (some 170), jI p] (sh, I, F) 0 0 (rI (mWill (I 171) p) (sh, I, F)) := by
  obtain ⟨hP0, hP1⟩ := hP
  refine jS_go [some (jR (some 170)), some (jI p), none, none] (by decide +kernel) rfl (by simp [jone]) (Nat.le_of_ble_eq_true rfl) rfl (fun hok => ?_)
  refine j_iconst dX12_willOf_0 ?_
  refine j_istore_n dX12_willOf_1 (by decide) ?_
  refine j_iconst dX12_willOf_2 ?_
  refine j_istore_n dX12_willOf_3 (by decide) ?_
  skip
  refine jW_loop 4 (fun _ _ => True) (fun q a => a + (if aOf (I 171) q 3 = 0 ∧ aOf (I 171) q 4 = p then aOf (I 171) q 1 else 0)) 0 (aPe (I 171)) (fun z a => [some (jR (some 170)), some (jI p), some (jI a), some (jI z)]) (fun _ _ => (sh, I, F)) hP0 trivial (fun _ _ _ _ _ => trivial) (fun a ha _ => ?_) (fun z a hz0 hz1 _ ih => ?_)
  · refine j_iload_n dX12_willOf_4 rfl ?_
    refine j_aload_n dX12_willOf_5 rfl ?_
    refine r_cv0J dX12_willOf_6 cvX12_74 (by decide) (by first | assumption | exact hsh _ _ rfl) (Nat.le_of_ble_eq_true rfl) (Nat.le_of_eq (Nat.zero_add _)) (Nat.le_of_eq (Nat.zero_add _)) (sm_people hsh hfx) (hok.2.1 171 _) (fun b_6 => ?_)
    refine j_icmp_ge (tgt := 49) dX12_willOf_9 rfl (by first | omega | (split <;> omega)) (by first | omega | (split <;> omega)) (fun c_9 => ?_) (fun c_9 => ?_)
    · refine j_iload_n dX12_willOf_49 rfl ?_
      refine j_iret dX12_willOf_50 rfl ?_
      exact rI_of ha rfl
    · exact absurd (by omega) c_9
  · refine j_iload_n dX12_willOf_4 rfl ?_
    refine j_aload_n dX12_willOf_5 rfl ?_
    refine r_cv0J dX12_willOf_6 cvX12_74 (by decide) (by first | assumption | exact hsh _ _ rfl) (Nat.le_of_ble_eq_true rfl) (Nat.le_of_eq (Nat.zero_add _)) (Nat.le_of_eq (Nat.zero_add _)) (sm_people hsh hfx) (hok.2.1 171 _) (fun b_6 => ?_)
    refine j_icmp_ge (tgt := 49) dX12_willOf_9 rfl (by first | omega | (split <;> omega)) (by first | omega | (split <;> omega)) (fun c_9 => ?_) (fun c_9 => ?_)
    · exact absurd c_9 (by omega)
    · refine j_iload_n dX12_willOf_12 rfl ?_
      refine j_aload_n dX12_willOf_13 rfl ?_
      refine j_iload_n dX12_willOf_14 rfl ?_
      refine r_cv1I dX12_willOf_15 cvX12_296 (by decide) (by first | assumption | exact hsh _ _ rfl) (Nat.le_of_ble_eq_true rfl) (Nat.le_of_eq (Nat.zero_add _)) (Nat.le_of_eq (Nat.zero_add _)) (sm_isAlive hsh hfx (by omega)) ?_
      refine j_if_eq (tgt := 40) dX12_willOf_18 rfl (by first | omega | (split <;> omega)) (fun c_18 => ?_) (fun c_18 => ?_)
      · refine j_iconst dX12_willOf_40 ?_
        refine j_iadd dX12_willOf_41 ?_
        refine j_istore_n dX12_willOf_42 (by decide) ?_
        refine j_iinc dX12_willOf_43 rfl (by decide) ?_
        refine j_goto (tgt := 4) dX12_willOf_46 rfl ?_
        rw [ite0] at c_18
        first | (rw [if_pos (by omega)] at ih; exact ih) | (rw [if_neg (by omega)] at ih; exact ih)
      · refine j_aload_n dX12_willOf_21 rfl ?_
        refine j_iload_n dX12_willOf_22 rfl ?_
        refine j_iconst dX12_willOf_23 ?_
        refine r_cv2J dX12_willOf_24 cvX12_68 (by decide) (by first | assumption | exact hsh _ _ rfl) (Nat.le_of_ble_eq_true rfl) (Nat.le_of_eq (Nat.zero_add _)) (Nat.le_of_eq (Nat.zero_add _)) (sm_of hsh hfx (by omega)) (hok.2.1 171 _) (fun b_24 => ?_)
        refine j_iload_n dX12_willOf_27 rfl ?_
        refine j_icmp_ne (tgt := 40) dX12_willOf_28 rfl (by first | omega | (split <;> omega)) (by first | omega | (split <;> omega)) (fun c_28 => ?_) (fun c_28 => ?_)
        · refine j_iconst dX12_willOf_40 ?_
          refine j_iadd dX12_willOf_41 ?_
          refine j_istore_n dX12_willOf_42 (by decide) ?_
          refine j_iinc dX12_willOf_43 rfl (by decide) ?_
          refine j_goto (tgt := 4) dX12_willOf_46 rfl ?_
          rw [ite0] at c_18
          first | (rw [if_pos (by omega)] at ih; exact ih) | (rw [if_neg (by omega)] at ih; exact ih)
        · refine j_aload_n dX12_willOf_31 rfl ?_
          refine j_iload_n dX12_willOf_32 rfl ?_
          refine j_iconst dX12_willOf_33 ?_
          refine r_cv2J dX12_willOf_34 cvX12_68 (by decide) (by first | assumption | exact hsh _ _ rfl) (Nat.le_of_ble_eq_true rfl) (Nat.le_of_eq (Nat.zero_add _)) (Nat.le_of_eq (Nat.zero_add _)) (sm_of hsh hfx (by omega)) (hok.2.1 171 _) (fun b_34 => ?_)
          refine j_goto (tgt := 41) dX12_willOf_37 rfl ?_
          refine j_iadd dX12_willOf_41 ?_
          refine j_istore_n dX12_willOf_42 (by decide) ?_
          refine j_iinc dX12_willOf_43 rfl (by decide) ?_
          refine j_goto (tgt := 4) dX12_willOf_46 rfl ?_
          rw [ite0] at c_18
          first | (rw [if_pos (by omega)] at ih; exact ih) | (rw [if_neg (by omega)] at ih; exact ih)
def mAlive (w : Int → Int) : Int := jfold (fun p a => jOr a (if aOf w p 3 = 0 then jShl 1 p else 0)) 0 (aPe w).toNat
theorem sm_alive (hsh : ShOK sh) (hfx : FxOK F) (hP : WfP (I 171)) : jS G (d + 3) mX12_alive [jR (some 170)] (sh, I, F) 0 0 (rI (mAlive (I 171)) (sh, I, F)) := by
  obtain ⟨hP0, hP1⟩ := hP
  refine jS_go [some (jR (some 170)), none, none] (by decide +kernel) rfl (by simp [jone]) (Nat.le_of_ble_eq_true rfl) rfl (fun hok => ?_)
  refine j_iconst dX12_alive_0 ?_
  refine j_istore_n dX12_alive_1 (by decide) ?_
  refine j_iconst dX12_alive_2 ?_
  refine j_istore_n dX12_alive_3 (by decide) ?_
  skip
  refine jW_loop 4 (fun _ _ => True) (fun p a => jOr a (if aOf (I 171) p 3 = 0 then jShl 1 p else 0)) 0 (aPe (I 171)) (fun z a => [some (jR (some 170)), some (jI a), some (jI z)]) (fun _ _ => (sh, I, F)) hP0 trivial (fun _ _ _ _ _ => trivial) (fun a ha _ => ?_) (fun z a hz0 hz1 _ ih => ?_)
  · refine j_iload_n dX12_alive_4 rfl ?_
    refine j_aload_n dX12_alive_5 rfl ?_
    refine r_cv0J dX12_alive_6 cvX12_74 (by decide) (by first | assumption | exact hsh _ _ rfl) (Nat.le_of_ble_eq_true rfl) (Nat.le_of_eq (Nat.zero_add _)) (Nat.le_of_eq (Nat.zero_add _)) (sm_people hsh hfx) (hok.2.1 171 _) (fun b_6 => ?_)
    refine j_icmp_ge (tgt := 36) dX12_alive_9 rfl (by first | omega | (split <;> omega)) (by first | omega | (split <;> omega)) (fun c_9 => ?_) (fun c_9 => ?_)
    · refine j_iload_n dX12_alive_36 rfl ?_
      refine j_iret dX12_alive_37 rfl ?_
      exact rI_of ha rfl
    · exact absurd (by omega) c_9
  · refine j_iload_n dX12_alive_4 rfl ?_
    refine j_aload_n dX12_alive_5 rfl ?_
    refine r_cv0J dX12_alive_6 cvX12_74 (by decide) (by first | assumption | exact hsh _ _ rfl) (Nat.le_of_ble_eq_true rfl) (Nat.le_of_eq (Nat.zero_add _)) (Nat.le_of_eq (Nat.zero_add _)) (sm_people hsh hfx) (hok.2.1 171 _) (fun b_6 => ?_)
    refine j_icmp_ge (tgt := 36) dX12_alive_9 rfl (by first | omega | (split <;> omega)) (by first | omega | (split <;> omega)) (fun c_9 => ?_) (fun c_9 => ?_)
    · exact absurd c_9 (by omega)
    · refine j_iload_n dX12_alive_12 rfl ?_
      refine j_aload_n dX12_alive_13 rfl ?_
      refine j_iload_n dX12_alive_14 rfl ?_
      refine r_cv1I dX12_alive_15 cvX12_296 (by decide) (by first | assumption | exact hsh _ _ rfl) (Nat.le_of_ble_eq_true rfl) (Nat.le_of_eq (Nat.zero_add _)) (Nat.le_of_eq (Nat.zero_add _)) (sm_isAlive hsh hfx (by omega)) ?_
      refine j_if_eq (tgt := 27) dX12_alive_18 rfl (by first | omega | (split <;> omega)) (fun c_18 => ?_) (fun c_18 => ?_)
      · refine j_iconst dX12_alive_27 ?_
        refine r_ior dX12_alive_28 (fun b_28 => ?_)
        refine j_istore_n dX12_alive_29 (by decide) ?_
        refine j_iinc dX12_alive_30 rfl (by decide) ?_
        refine j_goto (tgt := 4) dX12_alive_33 rfl ?_
        rw [ite0] at c_18
        first | (rw [if_pos (by omega)] at ih; exact ih) | (rw [if_neg (by omega)] at ih; exact ih)
      · refine j_iconst dX12_alive_21 ?_
        refine j_iload_n dX12_alive_22 rfl ?_
        refine r_ishl dX12_alive_23 (fun b_23 => ?_)
        refine j_goto (tgt := 28) dX12_alive_24 rfl ?_
        refine r_ior dX12_alive_28 (fun b_28 => ?_)
        refine j_istore_n dX12_alive_29 (by decide) ?_
        refine j_iinc dX12_alive_30 rfl (by decide) ?_
        refine j_goto (tgt := 4) dX12_alive_33 rfl ?_
        rw [ite0] at c_18
        first | (rw [if_pos (by omega)] at ih; exact ih) | (rw [if_neg (by omega)] at ih; exact ih)
def mPains (w : Int → Int) (set k : Int) : Int := jfold (fun p a => a + (if jbit set p then aOf w p (6 + k) else 0)) 0 (aPe w).toNat
theorem sm_painsOf (hsh : ShOK sh) (hfx : FxOK F) (hP : WfP (I 171)) {set k : Int} (h1 : 0 ≤ k ∧ k < 7) : jS G (d + 2) mX12_painsOf [jR (some 170), jI set, jI k] (sh, I, F) 0 0 (rI (mPains (I 171) set k) (sh, I, F)) := by
  obtain ⟨hP0, hP1⟩ := hP
  refine jS_go [some (jR (some 170)), some (jI set), some (jI k), none, none] (by decide +kernel) rfl (by simp [jone]) (Nat.le_of_ble_eq_true rfl) rfl (fun hok => ?_)
  refine j_iconst dX12_painsOf_0 ?_
  refine j_istore_n dX12_painsOf_1 (by decide) ?_
  refine j_iconst dX12_painsOf_2 ?_
  refine j_istore dX12_painsOf_3 (by decide) ?_
  skip
  refine jW_loop 5 (fun _ _ => True) (fun p a => a + (if jbit set p then aOf (I 171) p (6 + k) else 0)) 0 (aPe (I 171)) (fun z a => [some (jR (some 170)), some (jI set), some (jI k), some (jI a), some (jI z)]) (fun _ _ => (sh, I, F)) hP0 trivial (fun _ _ _ _ _ => trivial) (fun a ha _ => ?_) (fun z a hz0 hz1 _ ih => ?_)
  · refine j_iload dX12_painsOf_5 rfl ?_
    refine j_aload_n dX12_painsOf_7 rfl ?_
    refine r_cv0J dX12_painsOf_8 cvX12_74 (by decide) (by first | assumption | exact hsh _ _ rfl) (Nat.le_of_ble_eq_true rfl) (Nat.le_of_eq (Nat.zero_add _)) (Nat.le_of_eq (Nat.zero_add _)) (sm_people hsh hfx) (hok.2.1 171 _) (fun b_8 => ?_)
    refine j_icmp_ge (tgt := 46) dX12_painsOf_11 rfl (by first | omega | (split <;> omega)) (by first | omega | (split <;> omega)) (fun c_11 => ?_) (fun c_11 => ?_)
    · refine j_iload_n dX12_painsOf_46 rfl ?_
      refine j_iret dX12_painsOf_47 rfl ?_
      exact rI_of ha rfl
    · exact absurd (by omega) c_11
  · refine j_iload dX12_painsOf_5 rfl ?_
    refine j_aload_n dX12_painsOf_7 rfl ?_
    refine r_cv0J dX12_painsOf_8 cvX12_74 (by decide) (by first | assumption | exact hsh _ _ rfl) (Nat.le_of_ble_eq_true rfl) (Nat.le_of_eq (Nat.zero_add _)) (Nat.le_of_eq (Nat.zero_add _)) (sm_people hsh hfx) (hok.2.1 171 _) (fun b_8 => ?_)
    refine j_icmp_ge (tgt := 46) dX12_painsOf_11 rfl (by first | omega | (split <;> omega)) (by first | omega | (split <;> omega)) (fun c_11 => ?_) (fun c_11 => ?_)
    · exact absurd c_11 (by omega)
    · refine j_iload_n dX12_painsOf_14 rfl ?_
      refine j_iload_n dX12_painsOf_15 rfl ?_
      refine j_iload dX12_painsOf_16 rfl ?_
      refine r_cs2I dX12_painsOf_18 csX12_332 (Nat.le_of_ble_eq_true rfl) (Nat.le_of_eq (Nat.zero_add _)) (Nat.le_of_eq (Nat.zero_add _)) (sm_has) ?_
      refine j_if_eq (tgt := 37) dX12_painsOf_21 rfl (by first | omega | (split <;> omega)) (fun c_21 => ?_) (fun c_21 => ?_)
      · refine j_iconst dX12_painsOf_37 ?_
        refine j_iadd dX12_painsOf_38 ?_
        refine j_istore_n dX12_painsOf_39 (by decide) ?_
        refine j_iinc dX12_painsOf_40 rfl (by decide) ?_
        refine j_goto (tgt := 5) dX12_painsOf_43 rfl ?_
        rw [ite0] at c_21
        first | (rw [if_pos (Classical.not_not.mp c_21)] at ih; exact ih) | (rw [if_neg c_21] at ih; exact ih)
      · refine j_aload_n dX12_painsOf_24 rfl ?_
        refine j_iload dX12_painsOf_25 rfl ?_
        refine j_bipush dX12_painsOf_27 (by decide) ?_
        refine j_iload_n dX12_painsOf_29 rfl ?_
        refine j_iadd dX12_painsOf_30 ?_
        refine r_cv2J dX12_painsOf_31 cvX12_68 (by decide) (by first | assumption | exact hsh _ _ rfl) (Nat.le_of_ble_eq_true rfl) (Nat.le_of_eq (Nat.zero_add _)) (Nat.le_of_eq (Nat.zero_add _)) (sm_of hsh hfx (by omega)) (hok.2.1 171 _) (fun b_31 => ?_)
        refine j_goto (tgt := 38) dX12_painsOf_34 rfl ?_
        refine j_iadd dX12_painsOf_38 ?_
        refine j_istore_n dX12_painsOf_39 (by decide) ?_
        refine j_iinc dX12_painsOf_40 rfl (by decide) ?_
        refine j_goto (tgt := 5) dX12_painsOf_43 rfl ?_
        rw [ite0] at c_21
        first | (rw [if_pos (Classical.not_not.mp c_21)] at ih; exact ih) | (rw [if_neg c_21] at ih; exact ih)
abbrev aPaD (w : Int → Int) (p day : Int) : Int := aOf w p (6 + min 9999 day % 7)
theorem sm_painOn (hsh : ShOK sh) (hfx : FxOK F) {p day : Int} (h1 : 0 ≤ p ∧ p < 8) (h2 : 0 ≤ day ∧ day < 100000) : jS G (d + 2) mX12_painOn [jR (some 170), jI p, jI day] (sh, I, F) 0 0 (rI (aPaD (I 171) p day) (sh, I, F)) := by
  refine jS_go [some (jR (some 170)), some (jI p), some (jI day)] (by decide +kernel) rfl (by simp [jone]) (Nat.le_of_ble_eq_true rfl) rfl (fun hok => ?_)
  refine j_aload_n dX12_painOn_0 rfl ?_
  refine j_iload_n dX12_painOn_1 rfl ?_
  refine j_bipush dX12_painOn_2 (by decide) ?_
  refine j_sipush dX12_painOn_4 (by decide) ?_
  refine j_iload_n dX12_painOn_7 rfl ?_
  refine r_min dX12_painOn_8 lmX12_275 (Nat.le_of_ble_eq_true rfl) (by first | omega | (split <;> omega)) (by first | omega | (split <;> omega)) ?_
  refine j_bipush dX12_painOn_11 (by decide) ?_
  refine r_iremN dX12_painOn_13 (by first | omega | (split <;> omega)) (by first | omega | (split <;> omega)) ?_
  refine j_iadd dX12_painOn_14 ?_
  refine r_cv2J dX12_painOn_15 cvX12_68 (by decide) (by first | assumption | exact hsh _ _ rfl) (Nat.le_of_ble_eq_true rfl) (Nat.le_of_eq (Nat.zero_add _)) (Nat.le_of_eq (Nat.zero_add _)) (sm_of hsh hfx (by omega)) (hok.2.1 171 _) (fun b_15 => ?_)
  refine j_iret dX12_painOn_18 rfl ?_
  exact rI_of rfl rfl
abbrev aRoom (w : Int → Int) (p : Int) : Int := aOf w p 0 - aPaD w p (w 3)
theorem sm_roomOf (hsh : ShOK sh) (hfx : FxOK F) {p : Int} (h1 : 0 ≤ p ∧ p < 8) (h2 : 0 ≤ I 171 3 ∧ I 171 3 ≤ 9999) : jS G (d + 3) mX12_roomOf [jR (some 170), jI p] (sh, I, F) 0 0 (rI (aRoom (I 171) p) (sh, I, F)) := by
  refine jS_go [some (jR (some 170)), some (jI p)] (by decide +kernel) rfl (by simp [jone]) (Nat.le_of_ble_eq_true rfl) rfl (fun hok => ?_)
  refine j_aload_n dX12_roomOf_0 rfl ?_
  refine j_iload_n dX12_roomOf_1 rfl ?_
  refine j_iconst dX12_roomOf_2 ?_
  refine r_cv2J dX12_roomOf_3 cvX12_68 (by decide) (by first | assumption | exact hsh _ _ rfl) (Nat.le_of_ble_eq_true rfl) (Nat.le_of_eq (Nat.zero_add _)) (Nat.le_of_eq (Nat.zero_add _)) (sm_of hsh hfx (by omega)) (hok.2.1 171 _) (fun b_3 => ?_)
  refine j_aload_n dX12_roomOf_6 rfl ?_
  refine j_iload_n dX12_roomOf_7 rfl ?_
  refine j_aload_n dX12_roomOf_8 rfl ?_
  refine r_getS dX12_roomOf_9 flX12_13 (by first | assumption | exact hsh _ _ rfl) (fx_170_1 hfx) ?_
  refine j_iconst dX12_roomOf_12 ?_
  refine r_iaload dX12_roomOf_13 (by first | assumption | exact hsh _ _ rfl) (by first | omega | (split <;> omega)) (by first | omega | (split <;> omega)) (fun b_13 => ?_)
  refine r_cv2I dX12_roomOf_14 cvX12_283 (by decide) (by first | assumption | exact hsh _ _ rfl) (Nat.le_of_ble_eq_true rfl) (Nat.le_of_eq (Nat.zero_add _)) (Nat.le_of_eq (Nat.zero_add _)) (sm_painOn hsh hfx h1 (by omega)) ?_
  refine j_isub dX12_roomOf_17 ?_
  refine j_iret dX12_roomOf_18 rfl ?_
  exact rI_of rfl rfl
end
