/-! THE MODEL'S PUBLIC QUESTIONS, SECOND PART -/
section
variable {G : jzG} {d : Nat} {sh : List (Nat × Nat)} {I : Nat → Int → Int} {F : Nat → Int → Option Nat}
def mCould (w : Int → Int) (x : Int) : Int := jfold (fun p a => jOr a (if aOf w p 3 = 0 ∧ x ≤ aRoom w p then jShl 1 p else 0)) 0 (aPe w).toNat
abbrev WfD (w : Int → Int) : Prop := 0 ≤ w 3 ∧ w 3 ≤ 9999
abbrev WfB (w : Int → Int) : Prop := ∀ p, 0 ≤ p → p < aPe w → (0 ≤ aOf w p 0 ∧ aOf w p 0 ≤ 99) ∧ ∀ k, 0 ≤ k → k < 7 → 0 ≤ aOf w p (6 + k) ∧ aOf w p (6 + k) ≤ 9
theorem aPaD_in {w : Int → Int} (hB : WfB w) {p day : Int} (h0 : 0 ≤ p ∧ p < aPe w) (h1 : 0 ≤ day) : 0 ≤ aPaD w p day ∧ aPaD w p day ≤ 9 := (hB p h0.1 h0.2).2 _ (by omega) (by omega)
theorem mp_could_1 (hsh : ShOK sh) (hfx : FxOK F) (hP : WfP (I 171)) {p : Int} (h1 : jin p) (h2 : ¬ gP (I 171) p) : jS G (d + 4) mX12_could [jR (some 170), jI p] (sh, I, F) 0 0 (rI 0 (sh, jup I 170 0 1, F)) := by
  refine jS_go [some (jR (some 170)), some (jI p), none, none] (by decide +kernel) rfl (by simp [jone]) (Nat.le_of_ble_eq_true rfl) rfl (fun hok => ?_)
  refine j_aload_n dX12_could_0 rfl ?_
  refine j_iconst dX12_could_1 ?_
  refine r_putI dX12_could_2 flX12_3 rfl (by first | assumption | exact hsh _ _ rfl) (by first | omega | (split <;> omega)) (fun q => by cases q) ?_
  skip
  have hok1 : jzok (sh, jup I 170 0 0, F) := jzok_I hok jin_lit0
  have hw0 : (jup I 170 0 0) 171 = I 171 := jup_ne _ _ _ (by decide)
  clear hok
  rw [← jup_up I 170 0 0 1]
  rw [← hw0] at hP h2
  try rw [← hw0]
  obtain ⟨I1, hI1⟩ : ∃ J, J = jup I 170 0 0 := ⟨_, rfl⟩
  rw [← hI1] at hok1 hw0 hP h2 ⊢
  have hok := hok1
  refine j_aload_n dX12_could_5 rfl ?_
  refine j_aload_n dX12_could_6 rfl ?_
  refine j_iload_n dX12_could_7 rfl ?_
  refine r_cv1I dX12_could_8 cvX12_335 (by decide) (by first | assumption | exact hsh _ _ rfl) (Nat.le_of_ble_eq_true rfl) (Nat.le_of_eq (Nat.zero_add _)) (Nat.le_of_eq (Nat.zero_add _)) (sm_noP1 hsh hfx hok h1 hP h2) ?_
  refine j_iconst dX12_could_11 ?_
  refine r_cv2I dX12_could_12 cvX12_253 (by decide) (by first | assumption | exact hsh _ _ rfl) (Nat.le_of_ble_eq_true rfl) (Nat.le_of_eq (Nat.zero_add _)) (Nat.le_of_eq (Nat.zero_add _)) (sm_thr1 hsh (by omega)) ?_
  refine j_if_eq (tgt := 20) dX12_could_15 rfl (by first | omega | (split <;> omega)) (fun c_15 => by exact absurd c_15 (by decide)) (fun c_15 => ?_)
  refine j_iconst dX12_could_18 ?_
  refine j_iret dX12_could_19 rfl ?_
  exact rI_of rfl rfl
theorem mp_could_0 (hsh : ShOK sh) (hfx : FxOK F) (hP : WfP (I 171)) (hD : WfD (I 171)) (hB : WfB (I 171)) {p : Int} (h1 : jin p) (h2 : gP (I 171) p) : jS G (d + 4) mX12_could [jR (some 170), jI p] (sh, I, F) 0 0 (rI (mCould (I 171) (aOf (I 171) p 1)) (sh, jup I 170 0 0, F)) := by
  refine jS_go [some (jR (some 170)), some (jI p), none, none] (by decide +kernel) rfl (by simp [jone]) (Nat.le_of_ble_eq_true rfl) rfl (fun hok => ?_)
  refine j_aload_n dX12_could_0 rfl ?_
  refine j_iconst dX12_could_1 ?_
  refine r_putI dX12_could_2 flX12_3 rfl (by first | assumption | exact hsh _ _ rfl) (by first | omega | (split <;> omega)) (fun q => by cases q) ?_
  skip
  have hok1 : jzok (sh, jup I 170 0 0, F) := jzok_I hok jin_lit0
  have hw0 : (jup I 170 0 0) 171 = I 171 := jup_ne _ _ _ (by decide)
  clear hok
  rw [← hw0] at hP hD hB h2
  try rw [← hw0]
  obtain ⟨I1, hI1⟩ : ∃ J, J = jup I 170 0 0 := ⟨_, rfl⟩
  rw [← hI1] at hok1 hw0 hP hD hB h2 ⊢
  have hok := hok1
  have hP2 := hP.2
  refine j_aload_n dX12_could_5 rfl ?_
  refine j_aload_n dX12_could_6 rfl ?_
  refine j_iload_n dX12_could_7 rfl ?_
  refine r_cv1I dX12_could_8 cvX12_335 (by decide) (by first | assumption | exact hsh _ _ rfl) (Nat.le_of_ble_eq_true rfl) (Nat.le_of_eq (Nat.zero_add _)) (Nat.le_of_eq (Nat.zero_add _)) (sm_noP0 hsh hfx hok h1 hP h2) ?_
  refine j_iconst dX12_could_11 ?_
  refine r_cv2I dX12_could_12 cvX12_253 (by decide) (by first | assumption | exact hsh _ _ rfl) (Nat.le_of_ble_eq_true rfl) (Nat.le_of_eq (Nat.zero_add _)) (Nat.le_of_eq (Nat.zero_add _)) (sm_thr0 hsh) ?_
  refine j_if_eq (tgt := 20) dX12_could_15 rfl (by first | omega | (split <;> omega)) (fun c_15 => ?_) (fun c_15 => by exact absurd rfl c_15)
  refine j_iconst dX12_could_20 ?_
  refine j_istore_n dX12_could_21 (by decide) ?_
  refine j_iconst dX12_could_22 ?_
  refine j_istore_n dX12_could_23 (by decide) ?_
  skip
  refine jW_loop 24 (fun _ a => True) (fun q a => jOr a (if aOf (I1 171) q 3 = 0 ∧ aOf (I1 171) p 1 ≤ aRoom (I1 171) q then jShl 1 q else 0)) 0 (aPe (I1 171)) (fun z a => [some (jR (some 170)), some (jI p), some (jI a), some (jI z)]) (fun _ _ => (sh, I1, F)) hP.1 trivial (fun _ _ _ _ _ => trivial) (fun a ha _ => ?_) (fun z a hz0 hz1 hPa ih => ?_)
  · refine j_iload_n dX12_could_24 rfl ?_
    refine j_aload_n dX12_could_25 rfl ?_
    refine r_cv0J dX12_could_26 cvX12_74 (by decide) (by first | assumption | exact hsh _ _ rfl) (Nat.le_of_ble_eq_true rfl) (Nat.le_of_eq (Nat.zero_add _)) (Nat.le_of_eq (Nat.zero_add _)) (sm_people hsh hfx) (hok.2.1 171 _) (fun b_26 => ?_)
    refine j_icmp_ge (tgt := 70) dX12_could_29 rfl (by first | omega | (split <;> omega)) (by first | omega | (split <;> omega)) (fun c_29 => ?_) (fun c_29 => by exact absurd (by omega) c_29)
    refine j_iload_n dX12_could_70 rfl ?_
    refine j_iret dX12_could_71 rfl ?_
    exact rI_of ha rfl
  · have hr0 := aPaD_in hB ⟨hz0, hz1⟩ (day := I1 171 3) hD.1
    have hr1 := (hB z hz0 hz1).1
    have hr2 : aRoom (I1 171) z = aOf (I1 171) z 0 - aPaD (I1 171) z (I1 171 3) := rfl
    refine j_iload_n dX12_could_24 rfl ?_
    refine j_aload_n dX12_could_25 rfl ?_
    refine r_cv0J dX12_could_26 cvX12_74 (by decide) (by first | assumption | exact hsh _ _ rfl) (Nat.le_of_ble_eq_true rfl) (Nat.le_of_eq (Nat.zero_add _)) (Nat.le_of_eq (Nat.zero_add _)) (sm_people hsh hfx) (hok.2.1 171 _) (fun b_26 => ?_)
    refine j_icmp_ge (tgt := 70) dX12_could_29 rfl (by first | omega | (split <;> omega)) (by first | omega | (split <;> omega)) (fun c_29 => by exact absurd c_29 (by omega)) (fun c_29 => ?_)
    refine j_iload_n dX12_could_32 rfl ?_
    refine j_aload_n dX12_could_33 rfl ?_
    refine j_iload_n dX12_could_34 rfl ?_
    refine r_cv1I dX12_could_35 cvX12_296 (by decide) (by first | assumption | exact hsh _ _ rfl) (Nat.le_of_ble_eq_true rfl) (Nat.le_of_eq (Nat.zero_add _)) (Nat.le_of_eq (Nat.zero_add _)) (sm_isAlive hsh hfx (by omega)) ?_
    refine j_if_eq (tgt := 61) dX12_could_38 rfl (by first | omega | (split <;> omega)) (fun c_38 => ?_) (fun c_38 => ?_)
    · refine j_iconst dX12_could_61 ?_
      refine r_ior dX12_could_62 (fun b_62 => ?_)
      refine j_istore_n dX12_could_63 (by decide) ?_
      refine j_iinc dX12_could_64 rfl (by decide) ?_
      refine j_goto (tgt := 24) dX12_could_67 rfl ?_
      rw [ite0] at c_38
      first | (rw [if_pos (by omega)] at ih; exact ih) | (rw [if_neg (by omega)] at ih; exact ih)
    · refine j_aload_n dX12_could_41 rfl ?_
      refine j_iload_n dX12_could_42 rfl ?_
      refine r_cv1I dX12_could_43 cvX12_405 (by decide) (by first | assumption | exact hsh _ _ rfl) (Nat.le_of_ble_eq_true rfl) (Nat.le_of_eq (Nat.zero_add _)) (Nat.le_of_eq (Nat.zero_add _)) (sm_roomOf hsh hfx (by omega) hD) ?_
      refine j_aload_n dX12_could_46 rfl ?_
      refine j_iload_n dX12_could_47 rfl ?_
      refine j_iconst dX12_could_48 ?_
      refine r_cv2J dX12_could_49 cvX12_68 (by decide) (by first | assumption | exact hsh _ _ rfl) (Nat.le_of_ble_eq_true rfl) (Nat.le_of_eq (Nat.zero_add _)) (Nat.le_of_eq (Nat.zero_add _)) (sm_of hsh hfx (by omega)) (hok.2.1 171 _) (fun b_49 => ?_)
      refine j_icmp_lt (tgt := 61) dX12_could_52 rfl (by first | omega | (split <;> omega)) (by first | omega | (split <;> omega)) (fun c_52 => ?_) (fun c_52 => ?_)
      · refine j_iconst dX12_could_61 ?_
        refine r_ior dX12_could_62 (fun b_62 => ?_)
        refine j_istore_n dX12_could_63 (by decide) ?_
        refine j_iinc dX12_could_64 rfl (by decide) ?_
        refine j_goto (tgt := 24) dX12_could_67 rfl ?_
        rw [ite0] at c_38
        first | (rw [if_pos (by omega)] at ih; exact ih) | (rw [if_neg (by omega)] at ih; exact ih)
      · refine j_iconst dX12_could_55 ?_
        refine j_iload_n dX12_could_56 rfl ?_
        refine r_ishl dX12_could_57 (fun b_57 => ?_)
        refine j_goto (tgt := 62) dX12_could_58 rfl ?_
        refine r_ior dX12_could_62 (fun b_62 => ?_)
        refine j_istore_n dX12_could_63 (by decide) ?_
        refine j_iinc dX12_could_64 rfl (by decide) ?_
        refine j_goto (tgt := 24) dX12_could_67 rfl ?_
        rw [ite0] at c_38
        first | (rw [if_pos (by omega)] at ih; exact ih) | (rw [if_neg (by omega)] at ih; exact ih)
def mQuiet (w : Int → Int) : Int := jfold (fun e a => if mPains w (mAlive w) (e + 1) < mPains w (mAlive w) a then e + 1 else a) 0 6
theorem mPains_in {w : Int → Int} (hP : WfP w) (hB : WfB w) {x k : Int} (h : 0 ≤ k ∧ k < 7) : 0 ≤ mPains w x k ∧ mPains w x k ≤ 72 := by
  have hP1 := hP.1
  have hP2 := hP.2
  have := jfold_ind (f := fun p a => a + (if jbit x p then aOf w p (6 + k) else 0)) (a := 0) (fun j a => 0 ≤ a ∧ a ≤ j * 9) (by simp) (n := (aPe w).toNat) (fun j y h0 h1 q => by
    have := (hB j h0 (by omega)).2 k h.1 h.2
    rw [Int.add_mul, Int.one_mul]
    split <;> omega)
  unfold mPains
  rw [show (((aPe w).toNat : Nat) : Int) = aPe w by omega] at this
  omega
theorem mp_quiet (hsh : ShOK sh) (hfx : FxOK F) (hP : WfP (I 171)) (hB : WfB (I 171)) {b : Int} (hb : b = 0 ∨ b = 1) : jS G (d + 4) mX12_quiet [jR (some 170), jI b] (sh, I, F) 0 0 (rI (if b = 0 then mQuiet (I 171) else mPains (I 171) (mAlive (I 171)) (mQuiet (I 171))) (sh, jup I 170 0 0, F)) := by
  refine jS_go [some (jR (some 170)), some (jI b), none, none] (by decide +kernel) rfl (by simp [jone]) (Nat.le_of_ble_eq_true rfl) rfl (fun hok => ?_)
  refine j_aload_n dX12_quiet_0 rfl ?_
  refine j_iconst dX12_quiet_1 ?_
  refine r_putI dX12_quiet_2 flX12_3 rfl (by first | assumption | exact hsh _ _ rfl) (by first | omega | (split <;> omega)) (fun q => by cases q) ?_
  skip
  have hok1 : jzok (sh, jup I 170 0 0, F) := jzok_I hok jin_lit0
  have hw0 : (jup I 170 0 0) 171 = I 171 := jup_ne _ _ _ (by decide)
  clear hok
  rw [← hw0] at hP hB
  try rw [← hw0]
  obtain ⟨I1, hI1⟩ : ∃ J, J = jup I 170 0 0 := ⟨_, rfl⟩
  rw [← hI1] at hok1 hw0 hP hB ⊢
  have hok := hok1
  refine j_iconst dX12_quiet_5 ?_
  refine j_istore_n dX12_quiet_6 (by decide) ?_
  refine j_iconst dX12_quiet_7 ?_
  refine j_istore_n dX12_quiet_8 (by decide) ?_
  skip
  refine jW_loop 9 (fun _ a => 0 ≤ a ∧ a ≤ 6) (fun e a => if mPains (I1 171) (mAlive (I1 171)) (e + 1) < mPains (I1 171) (mAlive (I1 171)) a then e + 1 else a) 0 6 (fun z a => [some (jR (some 170)), some (jI b), some (jI a), some (jI (z + 1))]) (fun _ _ => (sh, I1, F)) (by decide) (by decide) (fun z a h2 h3 h4 => by split <;> omega) (fun a ha hPa => ?_) (fun z a hz0 hz1 hPa ih => ?_)
  · have ha2 : a = mQuiet (I1 171) := ha
    refine j_iload_n dX12_quiet_9 rfl ?_
    refine j_bipush dX12_quiet_10 (by decide) ?_
    refine j_icmp_ge (tgt := 48) dX12_quiet_12 rfl (by first | omega | (split <;> omega)) (by first | omega | (split <;> omega)) (fun c_12 => ?_) (fun c_12 => by exact absurd (by omega) c_12)
    refine j_iload_n dX12_quiet_48 rfl ?_
    refine j_if_eq (tgt := 64) dX12_quiet_49 rfl (by first | omega | (split <;> omega)) (fun c_49 => ?_) (fun c_49 => ?_)
    · refine j_iload_n dX12_quiet_64 rfl ?_
      refine j_iret dX12_quiet_65 rfl ?_
      subst ha2
      exact rI_of (by first | rw [if_pos c_49] | rw [if_neg c_49]) rfl
    · refine j_aload_n dX12_quiet_52 rfl ?_
      refine j_aload_n dX12_quiet_53 rfl ?_
      refine r_cv0I dX12_quiet_54 cvX12_393 (by decide) (by first | assumption | exact hsh _ _ rfl) (Nat.le_of_ble_eq_true rfl) (Nat.le_of_eq (Nat.zero_add _)) (Nat.le_of_eq (Nat.zero_add _)) (sm_alive hsh hfx hP) ?_
      refine j_iload_n dX12_quiet_57 rfl ?_
      refine r_cv2I dX12_quiet_58 cvX12_396 (by decide) (by first | assumption | exact hsh _ _ rfl) (Nat.le_of_ble_eq_true rfl) (Nat.le_of_eq (Nat.zero_add _)) (Nat.le_of_eq (Nat.zero_add _)) (sm_painsOf hsh hfx hP (by omega)) ?_
      refine j_goto (tgt := 65) dX12_quiet_61 rfl ?_
      refine j_iret dX12_quiet_65 rfl ?_
      subst ha2
      exact rI_of (by first | rw [if_pos c_49] | rw [if_neg c_49]) rfl
  · have hr0 := mPains_in hP hB (x := mAlive (I1 171)) (k := z + 1) (by omega)
    have hr1 := mPains_in hP hB (x := mAlive (I1 171)) (k := a) (by omega)
    refine j_iload_n dX12_quiet_9 rfl ?_
    refine j_bipush dX12_quiet_10 (by decide) ?_
    refine j_icmp_ge (tgt := 48) dX12_quiet_12 rfl (by first | omega | (split <;> omega)) (by first | omega | (split <;> omega)) (fun c_12 => by exact absurd c_12 (by omega)) (fun c_12 => ?_)
    refine j_aload_n dX12_quiet_15 rfl ?_
    refine j_aload_n dX12_quiet_16 rfl ?_
    refine r_cv0I dX12_quiet_17 cvX12_393 (by decide) (by first | assumption | exact hsh _ _ rfl) (Nat.le_of_ble_eq_true rfl) (Nat.le_of_eq (Nat.zero_add _)) (Nat.le_of_eq (Nat.zero_add _)) (sm_alive hsh hfx hP) ?_
    refine j_iload_n dX12_quiet_20 rfl ?_
    refine r_cv2I dX12_quiet_21 cvX12_396 (by decide) (by first | assumption | exact hsh _ _ rfl) (Nat.le_of_ble_eq_true rfl) (Nat.le_of_eq (Nat.zero_add _)) (Nat.le_of_eq (Nat.zero_add _)) (sm_painsOf hsh hfx hP (by omega)) ?_
    refine j_aload_n dX12_quiet_24 rfl ?_
    refine j_aload_n dX12_quiet_25 rfl ?_
    refine r_cv0I dX12_quiet_26 cvX12_393 (by decide) (by first | assumption | exact hsh _ _ rfl) (Nat.le_of_ble_eq_true rfl) (Nat.le_of_eq (Nat.zero_add _)) (Nat.le_of_eq (Nat.zero_add _)) (sm_alive hsh hfx hP) ?_
    refine j_iload_n dX12_quiet_29 rfl ?_
    refine r_cv2I dX12_quiet_30 cvX12_396 (by decide) (by first | assumption | exact hsh _ _ rfl) (Nat.le_of_ble_eq_true rfl) (Nat.le_of_eq (Nat.zero_add _)) (Nat.le_of_eq (Nat.zero_add _)) (sm_painsOf hsh hfx hP (by omega)) ?_
    refine j_icmp_ge (tgt := 40) dX12_quiet_33 rfl (by first | omega | (split <;> omega)) (by first | omega | (split <;> omega)) (fun c_33 => ?_) (fun c_33 => ?_)
    · refine j_iload_n dX12_quiet_40 rfl ?_
      refine j_istore_n dX12_quiet_41 (by decide) ?_
      refine j_iinc dX12_quiet_42 rfl (by decide) ?_
      refine j_goto (tgt := 9) dX12_quiet_45 rfl ?_
      first | (rw [if_pos (show mPains (I1 171) (mAlive (I1 171)) (z + 1) < mPains (I1 171) (mAlive (I1 171)) a by omega)] at ih; exact ih) | (rw [if_neg (show ¬ mPains (I1 171) (mAlive (I1 171)) (z + 1) < mPains (I1 171) (mAlive (I1 171)) a by omega)] at ih; exact ih)
    · refine j_iload_n dX12_quiet_36 rfl ?_
      refine j_goto (tgt := 41) dX12_quiet_37 rfl ?_
      refine j_istore_n dX12_quiet_41 (by decide) ?_
      refine j_iinc dX12_quiet_42 rfl (by decide) ?_
      refine j_goto (tgt := 9) dX12_quiet_45 rfl ?_
      first | (rw [if_pos (show mPains (I1 171) (mAlive (I1 171)) (z + 1) < mPains (I1 171) (mAlive (I1 171)) a by omega)] at ih; exact ih) | (rw [if_neg (show ¬ mPains (I1 171) (mAlive (I1 171)) (z + 1) < mPains (I1 171) (mAlive (I1 171)) a by omega)] at ih; exact ih)
abbrev aTwo (w : Int → Int) (p q day : Int) : Int := aPaD w p day + aPaD w q day
theorem sm_painOfTwo (hsh : ShOK sh) (hfx : FxOK F) {p q day : Int} (h1 : 0 ≤ p ∧ p < 8) (h3 : 0 ≤ q ∧ q < 8) (h2 : 0 ≤ day ∧ day < 100000) : jS G (d + 3) mX12_painOfTwo [jR (some 170), jI p, jI q, jI day] (sh, I, F) 0 0 (rI (aTwo (I 171) p q day) (sh, I, F)) := by
  refine jS_go [some (jR (some 170)), some (jI p), some (jI q), some (jI day)] (by decide +kernel) rfl (by simp [jone]) (Nat.le_of_ble_eq_true rfl) rfl (fun hok => ?_)
  refine j_aload_n dX12_painOfTwo_0 rfl ?_
  refine j_iload_n dX12_painOfTwo_1 rfl ?_
  refine j_iload_n dX12_painOfTwo_2 rfl ?_
  refine r_cv2I dX12_painOfTwo_3 cvX12_283 (by decide) (by first | assumption | exact hsh _ _ rfl) (Nat.le_of_ble_eq_true rfl) (Nat.le_of_eq (Nat.zero_add _)) (Nat.le_of_eq (Nat.zero_add _)) (sm_painOn hsh hfx h1 h2) ?_
  refine j_aload_n dX12_painOfTwo_6 rfl ?_
  refine j_iload_n dX12_painOfTwo_7 rfl ?_
  refine j_iload_n dX12_painOfTwo_8 rfl ?_
  refine r_cv2I dX12_painOfTwo_9 cvX12_283 (by decide) (by first | assumption | exact hsh _ _ rfl) (Nat.le_of_ble_eq_true rfl) (Nat.le_of_eq (Nat.zero_add _)) (Nat.le_of_eq (Nat.zero_add _)) (sm_painOn hsh hfx h3 h2) ?_
  refine j_iadd dX12_painOfTwo_12 ?_
  refine j_iret dX12_painOfTwo_13 rfl ?_
  exact rI_of rfl rfl
theorem sm_areDead0 (hsh : ShOK sh) (hfx : FxOK F) {p q : Int} (h1 : 0 ≤ p ∧ p < 8) (h2 : 0 ≤ q ∧ q < 8) (h3 : aOf (I 171) p 3 = 0 ∧ aOf (I 171) q 3 = 0) : jS G (d + 3) mX12_areDead [jR (some 170), jI p, jI q] (sh, I, F) 0 0 (rI 0 (sh, I, F)) := by
  refine jS_go [some (jR (some 170)), some (jI p), some (jI q)] (by decide +kernel) rfl (by simp [jone]) (Nat.le_of_ble_eq_true rfl) rfl (fun hok => ?_)
  refine j_aload_n dX12_areDead_0 rfl ?_
  refine j_iload_n dX12_areDead_1 rfl ?_
  refine r_cv1I dX12_areDead_2 cvX12_296 (by decide) (by first | assumption | exact hsh _ _ rfl) (Nat.le_of_ble_eq_true rfl) (Nat.le_of_eq (Nat.zero_add _)) (Nat.le_of_eq (Nat.zero_add _)) (sm_al1 hsh hfx (by omega) h3.1) ?_
  refine j_if_eq (tgt := 16) dX12_areDead_5 rfl (by first | omega | (split <;> omega)) (fun c_5 => by exact absurd c_5 (by decide)) (fun c_5 => ?_)
  refine j_aload_n dX12_areDead_8 rfl ?_
  refine j_iload_n dX12_areDead_9 rfl ?_
  refine r_cv1I dX12_areDead_10 cvX12_296 (by decide) (by first | assumption | exact hsh _ _ rfl) (Nat.le_of_ble_eq_true rfl) (Nat.le_of_eq (Nat.zero_add _)) (Nat.le_of_eq (Nat.zero_add _)) (sm_al1 hsh hfx (by omega) h3.2) ?_
  refine j_if_ne (tgt := 20) dX12_areDead_13 rfl (by first | omega | (split <;> omega)) (fun c_13 => ?_) (fun c_13 => by exact absurd (by decide) c_13)
  refine j_iconst dX12_areDead_20 ?_
  refine j_zret dX12_areDead_21 rfl (by omega) ?_
  exact rI_of rfl rfl
theorem sm_areDead1 (hsh : ShOK sh) (hfx : FxOK F) {p q : Int} (h1 : 0 ≤ p ∧ p < 8) (h2 : 0 ≤ q ∧ q < 8) (h3 : ¬ (aOf (I 171) p 3 = 0 ∧ aOf (I 171) q 3 = 0)) : jS G (d + 3) mX12_areDead [jR (some 170), jI p, jI q] (sh, I, F) 0 0 (rI 1 (sh, I, F)) := by
  refine jS_go [some (jR (some 170)), some (jI p), some (jI q)] (by decide +kernel) rfl (by simp [jone]) (Nat.le_of_ble_eq_true rfl) rfl (fun hok => ?_)
  refine j_aload_n dX12_areDead_0 rfl ?_
  refine j_iload_n dX12_areDead_1 rfl ?_
  refine r_cv1I dX12_areDead_2 cvX12_296 (by decide) (by first | assumption | exact hsh _ _ rfl) (Nat.le_of_ble_eq_true rfl) (Nat.le_of_eq (Nat.zero_add _)) (Nat.le_of_eq (Nat.zero_add _)) (sm_isAlive hsh hfx (by omega)) ?_
  refine j_if_eq (tgt := 16) dX12_areDead_5 rfl (by first | omega | (split <;> omega)) (fun c_5 => ?_) (fun c_5 => ?_)
  · refine j_iconst dX12_areDead_16 ?_
    refine j_goto (tgt := 21) dX12_areDead_17 rfl ?_
    refine j_zret dX12_areDead_21 rfl (by omega) ?_
    exact rI_of rfl rfl
  · rw [ite0] at c_5
    refine j_aload_n dX12_areDead_8 rfl ?_
    refine j_iload_n dX12_areDead_9 rfl ?_
    refine r_cv1I dX12_areDead_10 cvX12_296 (by decide) (by first | assumption | exact hsh _ _ rfl) (Nat.le_of_ble_eq_true rfl) (Nat.le_of_eq (Nat.zero_add _)) (Nat.le_of_eq (Nat.zero_add _)) (sm_isAlive hsh hfx (by omega)) ?_
    refine j_if_ne (tgt := 20) dX12_areDead_13 rfl (by first | omega | (split <;> omega)) (fun c_13 => ?_) (fun c_13 => ?_)
    · simp only [ite0, ne_eq, Classical.not_not] at c_13
      exact absurd ⟨Classical.not_not.mp c_5, c_13⟩ h3
    · refine j_iconst dX12_areDead_16 ?_
      refine j_goto (tgt := 21) dX12_areDead_17 rfl ?_
      refine j_zret dX12_areDead_21 rfl (by omega) ?_
      exact rI_of rfl rfl
def mFelt (w : Int → Int) (p n level : Int) : Int := jfold (fun k a => a + max 0 (level - aPaD w p (w 3 + k))) 0 n.toNat
theorem mFelt_in {w : Int → Int} (hD : WfD w) (hB : WfB w) {p n level : Int} (h0 : 0 ≤ p ∧ p < aPe w) (h1 : 0 ≤ n ∧ n ≤ 40) (h2 : 0 ≤ level ∧ level ≤ 110000) : 0 ≤ mFelt w p n level ∧ mFelt w p n level ≤ 4400000 := by
  have := jfold_ind (f := fun k a => a + max 0 (level - aPaD w p (w 3 + k))) (a := 0) (fun j a => 0 ≤ a ∧ a ≤ j * 110000) (by simp) (n := n.toNat) (fun j y h3 h4 q => by
    have := aPaD_in hB h0 (day := w 3 + j) (by omega)
    rw [Int.add_mul, Int.one_mul]
    omega)
  unfold mFelt
  rw [show ((n.toNat : Nat) : Int) = n by omega] at this
  omega
theorem sm_isFelt (hsh : ShOK sh) (hfx : FxOK F) (hP : WfP (I 171)) (hD : WfD (I 171)) (hB : WfB (I 171)) {p n level : Int} (h0 : 0 ≤ p ∧ p < aPe (I 171)) (h1 : 0 ≤ n ∧ n ≤ 40) (h2 : 0 ≤ level ∧ level ≤ 110000) : jS G (d + 3) mX12_isFelt [jR (some 170), jI p, jI n, jI level] (sh, I, F) 0 0 (rI (if aOf (I 171) p 1 ≤ mFelt (I 171) p n level then 1 else 0) (sh, I, F)) := by
  have hP2 := hP.2
  refine jS_go [some (jR (some 170)), some (jI p), some (jI n), some (jI level), none, none] (by decide +kernel) rfl (by simp [jone]) (Nat.le_of_ble_eq_true rfl) rfl (fun hok => ?_)
  refine j_iconst dX12_isFelt_0 ?_
  refine j_istore dX12_isFelt_1 (by decide) ?_
  refine j_iconst dX12_isFelt_3 ?_
  refine j_istore dX12_isFelt_4 (by decide) ?_
  skip
  refine jW_loop 6 (fun z a => 0 ≤ a ∧ a ≤ z * 110000) (fun k a => a + max 0 (level - aPaD (I 171) p (I 171 3 + k))) 0 n (fun z a => [some (jR (some 170)), some (jI p), some (jI n), some (jI level), some (jI a), some (jI z)]) (fun _ _ => (sh, I, F)) h1.1 (by simp) (fun z a h3 h4 h5 => by have := aPaD_in hB h0 (day := I 171 3 + z) (by omega); omega) (fun a ha hPa => ?_) (fun z a hz0 hz1 hPa ih => ?_)
  · have ha2 : a = mFelt (I 171) p n level := ha
    have := mFelt_in hD hB h0 h1 h2
    refine j_iload dX12_isFelt_6 rfl ?_
    refine j_iload_n dX12_isFelt_8 rfl ?_
    refine j_icmp_ge (tgt := 43) dX12_isFelt_9 rfl (by first | omega | (split <;> omega)) (by first | omega | (split <;> omega)) (fun c_9 => ?_) (fun c_9 => by exact absurd (by omega) c_9)
    refine j_iload dX12_isFelt_43 rfl ?_
    refine j_aload_n dX12_isFelt_45 rfl ?_
    refine j_iload_n dX12_isFelt_46 rfl ?_
    refine j_iconst dX12_isFelt_47 ?_
    refine r_cv2J dX12_isFelt_48 cvX12_68 (by decide) (by first | assumption | exact hsh _ _ rfl) (Nat.le_of_ble_eq_true rfl) (Nat.le_of_eq (Nat.zero_add _)) (Nat.le_of_eq (Nat.zero_add _)) (sm_of hsh hfx (by omega)) (hok.2.1 171 _) (fun b_48 => ?_)
    refine j_icmp_lt (tgt := 58) dX12_isFelt_51 rfl (by first | omega | (split <;> omega)) (by first | omega | (split <;> omega)) (fun c_51 => ?_) (fun c_51 => ?_)
    · refine j_iconst dX12_isFelt_58 ?_
      refine j_zret dX12_isFelt_59 rfl (by omega) ?_
      exact rI_of (by rw [← ha2]; split <;> omega) rfl
    · refine j_iconst dX12_isFelt_54 ?_
      refine j_goto (tgt := 59) dX12_isFelt_55 rfl ?_
      refine j_zret dX12_isFelt_59 rfl (by omega) ?_
      exact rI_of (by rw [← ha2]; split <;> omega) rfl
  · have hr := aPaD_in hB h0 (day := I 171 3 + z) (by omega)
    refine j_iload dX12_isFelt_6 rfl ?_
    refine j_iload_n dX12_isFelt_8 rfl ?_
    refine j_icmp_ge (tgt := 43) dX12_isFelt_9 rfl (by first | omega | (split <;> omega)) (by first | omega | (split <;> omega)) (fun c_9 => by exact absurd c_9 (by omega)) (fun c_9 => ?_)
    refine j_iload dX12_isFelt_12 rfl ?_
    refine j_iconst dX12_isFelt_14 ?_
    refine j_iload_n dX12_isFelt_15 rfl ?_
    refine j_aload_n dX12_isFelt_16 rfl ?_
    refine j_iload_n dX12_isFelt_17 rfl ?_
    refine j_aload_n dX12_isFelt_18 rfl ?_
    refine r_getS dX12_isFelt_19 flX12_13 (by first | assumption | exact hsh _ _ rfl) (fx_170_1 hfx) ?_
    refine j_iconst dX12_isFelt_22 ?_
    refine r_iaload dX12_isFelt_23 (by first | assumption | exact hsh _ _ rfl) (by first | omega | (split <;> omega)) (by first | omega | (split <;> omega)) (fun b_23 => ?_)
    refine j_iload dX12_isFelt_24 rfl ?_
    refine j_iadd dX12_isFelt_26 ?_
    refine r_cv2I dX12_isFelt_27 cvX12_283 (by decide) (by first | assumption | exact hsh _ _ rfl) (Nat.le_of_ble_eq_true rfl) (Nat.le_of_eq (Nat.zero_add _)) (Nat.le_of_eq (Nat.zero_add _)) (sm_painOn hsh hfx (by omega) (by omega)) ?_
    refine j_isub dX12_isFelt_30 ?_
    refine r_max dX12_isFelt_31 lmX12_280 (Nat.le_of_ble_eq_true rfl) (by first | omega | (split <;> omega)) (by first | omega | (split <;> omega)) ?_
    refine j_iadd dX12_isFelt_34 ?_
    refine j_istore dX12_isFelt_35 (by decide) ?_
    refine j_iinc dX12_isFelt_37 rfl (by decide) ?_
    refine j_goto (tgt := 6) dX12_isFelt_40 rfl ?_
    exact ih
end
