/-! THE MODEL'S PUBLIC QUESTIONS, FIRST PART -/
section
variable {G : jzG} {d : Nat} {sh : List (Nat × Nat)} {I : Nat → Int → Int} {F : Nat → Int → Option Nat}
theorem sm_thr0 (hsh : ShOK sh) {c : Int} : jS G d mX12_throwsIf [jR (some 170), jI 0, jI c] (sh, I, F) 0 0 (rI 0 (sh, I, F)) := by
  refine jS_go [some (jR (some 170)), some (jI 0), some (jI c)] (by decide +kernel) rfl (by simp [jone]) (Nat.le_of_ble_eq_true rfl) rfl (fun hok => ?_)
  refine j_iload_n dX12_throwsIf_0 rfl ?_
  refine j_if_eq (tgt := 9) dX12_throwsIf_1 rfl (by first | omega | (split <;> omega)) (fun c_1 => ?_) (fun c_1 => ?_)
  · refine j_iload_n dX12_throwsIf_9 rfl ?_
    refine j_zret dX12_throwsIf_10 rfl (by omega) ?_
    exact rI_of rfl rfl
  · exact absurd rfl c_1
theorem sm_thr1 (hsh : ShOK sh) {c : Int} (hc : jin c) : jS G d mX12_throwsIf [jR (some 170), jI 1, jI c] (sh, I, F) 0 0 (rI 1 (sh, jup I 170 0 c, F)) := by
  refine jS_go [some (jR (some 170)), some (jI 1), some (jI c)] (by decide +kernel) rfl (by simp [jone]) (Nat.le_of_ble_eq_true rfl) rfl (fun hok => ?_)
  refine j_iload_n dX12_throwsIf_0 rfl ?_
  refine j_if_eq (tgt := 9) dX12_throwsIf_1 rfl (by first | omega | (split <;> omega)) (fun c_1 => ?_) (fun c_1 => ?_)
  · exact absurd c_1 (by decide)
  · refine j_aload_n dX12_throwsIf_4 rfl ?_
    refine j_iload_n dX12_throwsIf_5 rfl ?_
    refine r_putI dX12_throwsIf_6 flX12_3 rfl (by first | assumption | exact hsh _ _ rfl) (by first | omega | (split <;> omega)) (fun q => by cases q) ?_
    refine j_iload_n dX12_throwsIf_9 rfl ?_
    refine j_zret dX12_throwsIf_10 rfl (by omega) ?_
    exact rI_of rfl rfl
abbrev gP (w : Int → Int) (p : Int) : Prop := 0 ≤ p ∧ p ≤ aPe w - 1
theorem sm_noP0 (hsh : ShOK sh) (hfx : FxOK F) (hok : jzok (sh, I, F)) {p : Int} (h1 : jin p) (hP : WfP (I 171)) (h : gP (I 171) p) : jS G (d + 1) mX12_noPerson [jR (some 170), jI p] (sh, I, F) 0 0 (rI 0 (sh, I, F)) := by
  have := sm_noPerson (G := G) (d := d) hsh hfx hok h1 hP
  rw [if_pos h] at this
  exact this
theorem sm_noP1 (hsh : ShOK sh) (hfx : FxOK F) (hok : jzok (sh, I, F)) {p : Int} (h1 : jin p) (hP : WfP (I 171)) (h : ¬ gP (I 171) p) : jS G (d + 1) mX12_noPerson [jR (some 170), jI p] (sh, I, F) 0 0 (rI 1 (sh, I, F)) := by
  have := sm_noPerson (G := G) (d := d) hsh hfx hok h1 hP
  rw [if_neg h] at this
  exact this
theorem sm_al1 (hsh : ShOK sh) (hfx : FxOK F) {p : Int} (h1 : 0 ≤ p ∧ p < 100) (h : aOf (I 171) p 3 = 0) : jS G (d + 2) mX12_isAlive [jR (some 170), jI p] (sh, I, F) 0 0 (rI 1 (sh, I, F)) := by
  have := sm_isAlive (G := G) (d := d) (I := I) hsh hfx h1
  rw [if_pos h] at this
  exact this
theorem sm_al0 (hsh : ShOK sh) (hfx : FxOK F) {p : Int} (h1 : 0 ≤ p ∧ p < 100) (h : ¬ aOf (I 171) p 3 = 0) : jS G (d + 2) mX12_isAlive [jR (some 170), jI p] (sh, I, F) 0 0 (rI 0 (sh, I, F)) := by
  have := sm_isAlive (G := G) (d := d) (I := I) hsh hfx h1
  rw [if_neg h] at this
  exact this
theorem sm_in1 {v lo hi : Int} (h1 : jin v) (h2 : jin lo) (h3 : jin hi) (h : lo ≤ v ∧ v ≤ hi) : jS G d mX12_in [jI v, jI lo, jI hi] (sh, I, F) 0 0 (rI 1 (sh, I, F)) := by
  have := sm_in (G := G) (d := d) (sh := sh) (I := I) (F := F) h1 h2 h3
  rw [if_pos h] at this
  exact this
theorem sm_in0 {v lo hi : Int} (h1 : jin v) (h2 : jin lo) (h3 : jin hi) (h : ¬ (lo ≤ v ∧ v ≤ hi)) : jS G d mX12_in [jI v, jI lo, jI hi] (sh, I, F) 0 0 (rI 0 (sh, I, F)) := by
  have := sm_in (G := G) (d := d) (sh := sh) (I := I) (F := F) h1 h2 h3
  rw [if_neg h] at this
  exact this
theorem sm_thrown (hsh : ShOK sh) : jS G d mX12_thrown [jR (some 170)] (sh, I, F) 0 0 (rI (I 170 0) (sh, I, F)) := by
  refine jS_go [some (jR (some 170))] (by decide +kernel) rfl (by simp [jone]) (Nat.le_of_ble_eq_true rfl) rfl (fun hok => ?_)
  refine j_aload_n dX12_thrown_0 rfl ?_
  refine r_getI dX12_thrown_1 flX12_3 (by first | assumption | exact hsh _ _ rfl) (fun b_1 => ?_)
  refine j_iret dX12_thrown_4 rfl ?_
  exact rI_of rfl rfl
theorem mp_run_1 (hsh : ShOK sh) (hfx : FxOK F) (hP : WfP (I 171)) {p b : Int} (h1 : jin p) (h2 : ¬ gP (I 171) p) : jS G (d + 4) mX12_run [jR (some 170), jI p, jI b] (sh, I, F) 0 0 (rI 0 (sh, jup I 170 0 1, F)) := by
  refine jS_go [some (jR (some 170)), some (jI p), some (jI b), none] (by decide +kernel) rfl (by simp [jone]) (Nat.le_of_ble_eq_true rfl) rfl (fun hok => ?_)
  refine j_aload_n dX12_run_0 rfl ?_
  refine j_iconst dX12_run_1 ?_
  refine r_putI dX12_run_2 flX12_3 rfl (by first | assumption | exact hsh _ _ rfl) (by first | omega | (split <;> omega)) (fun q => by cases q) ?_
  skip
  have hok1 : jzok (sh, jup I 170 0 0, F) := jzok_I hok jin_lit0
  have hw0 : (jup I 170 0 0) 171 = I 171 := jup_ne _ _ _ (by decide)
  clear hok
  rw [← jup_up I 170 0 0 1]
  rw [← hw0] at hP h2
  try rw [← hw0]
  obtain ⟨I1, hI1⟩ : ∃ J, J = jup I 170 0 0 := ⟨_, rfl⟩
  rw [← hI1] at hok1 hw0 hP h2 ⊢
  have hok := hok1
  refine j_aload_n dX12_run_5 rfl ?_
  refine j_aload_n dX12_run_6 rfl ?_
  refine j_iload_n dX12_run_7 rfl ?_
  refine r_cv1I dX12_run_8 cvX12_335 (by decide) (by first | assumption | exact hsh _ _ rfl) (Nat.le_of_ble_eq_true rfl) (Nat.le_of_eq (Nat.zero_add _)) (Nat.le_of_eq (Nat.zero_add _)) (sm_noP1 hsh hfx hok h1 hP h2) ?_
  refine j_iconst dX12_run_11 ?_
  refine r_cv2I dX12_run_12 cvX12_253 (by decide) (by first | assumption | exact hsh _ _ rfl) (Nat.le_of_ble_eq_true rfl) (Nat.le_of_eq (Nat.zero_add _)) (Nat.le_of_eq (Nat.zero_add _)) (sm_thr1 hsh (by omega)) ?_
  refine j_if_ne (tgt := 39) dX12_run_15 rfl (by first | omega | (split <;> omega)) (fun c_15 => ?_) (fun c_15 => ?_)
  · refine j_iconst dX12_run_39 ?_
    refine j_iret dX12_run_40 rfl ?_
    exact rI_of rfl rfl
  · exact absurd (by decide) c_15
theorem mp_run_2 (hsh : ShOK sh) (hfx : FxOK F) (hP : WfP (I 171)) {p b : Int} (h1 : jin p) (h2 : gP (I 171) p) (h3 : ¬ aOf (I 171) p 3 = 0) : jS G (d + 4) mX12_run [jR (some 170), jI p, jI b] (sh, I, F) 0 0 (rI 0 (sh, jup I 170 0 2, F)) := by
  refine jS_go [some (jR (some 170)), some (jI p), some (jI b), none] (by decide +kernel) rfl (by simp [jone]) (Nat.le_of_ble_eq_true rfl) rfl (fun hok => ?_)
  refine j_aload_n dX12_run_0 rfl ?_
  refine j_iconst dX12_run_1 ?_
  refine r_putI dX12_run_2 flX12_3 rfl (by first | assumption | exact hsh _ _ rfl) (by first | omega | (split <;> omega)) (fun q => by cases q) ?_
  skip
  have hok1 : jzok (sh, jup I 170 0 0, F) := jzok_I hok jin_lit0
  have hw0 : (jup I 170 0 0) 171 = I 171 := jup_ne _ _ _ (by decide)
  clear hok
  rw [← jup_up I 170 0 0 2]
  rw [← hw0] at hP h2 h3
  try rw [← hw0]
  obtain ⟨I1, hI1⟩ : ∃ J, J = jup I 170 0 0 := ⟨_, rfl⟩
  rw [← hI1] at hok1 hw0 hP h2 h3 ⊢
  have hok := hok1
  have hP2 := hP.2
  refine j_aload_n dX12_run_5 rfl ?_
  refine j_aload_n dX12_run_6 rfl ?_
  refine j_iload_n dX12_run_7 rfl ?_
  refine r_cv1I dX12_run_8 cvX12_335 (by decide) (by first | assumption | exact hsh _ _ rfl) (Nat.le_of_ble_eq_true rfl) (Nat.le_of_eq (Nat.zero_add _)) (Nat.le_of_eq (Nat.zero_add _)) (sm_noP0 hsh hfx hok h1 hP h2) ?_
  refine j_iconst dX12_run_11 ?_
  refine r_cv2I dX12_run_12 cvX12_253 (by decide) (by first | assumption | exact hsh _ _ rfl) (Nat.le_of_ble_eq_true rfl) (Nat.le_of_eq (Nat.zero_add _)) (Nat.le_of_eq (Nat.zero_add _)) (sm_thr0 hsh) ?_
  refine j_if_ne (tgt := 39) dX12_run_15 rfl (by first | omega | (split <;> omega)) (fun c_15 => ?_) (fun c_15 => ?_)
  · exact absurd rfl c_15
  · refine j_aload_n dX12_run_18 rfl ?_
    refine j_aload_n dX12_run_19 rfl ?_
    refine j_iload_n dX12_run_20 rfl ?_
    refine r_cv1I dX12_run_21 cvX12_296 (by decide) (by first | assumption | exact hsh _ _ rfl) (Nat.le_of_ble_eq_true rfl) (Nat.le_of_eq (Nat.zero_add _)) (Nat.le_of_eq (Nat.zero_add _)) (sm_al0 hsh hfx (by omega) h3) ?_
    refine j_if_ne (tgt := 31) dX12_run_24 rfl (by first | omega | (split <;> omega)) (fun c_24 => ?_) (fun c_24 => ?_)
    · exact absurd rfl c_24
    · refine j_iconst dX12_run_27 ?_
      refine j_goto (tgt := 32) dX12_run_28 rfl ?_
      refine j_iconst dX12_run_32 ?_
      refine r_cv2I dX12_run_33 cvX12_253 (by decide) (by first | assumption | exact hsh _ _ rfl) (Nat.le_of_ble_eq_true rfl) (Nat.le_of_eq (Nat.zero_add _)) (Nat.le_of_eq (Nat.zero_add _)) (sm_thr1 hsh (by omega)) ?_
      refine j_if_eq (tgt := 41) dX12_run_36 rfl (by first | omega | (split <;> omega)) (fun c_36 => ?_) (fun c_36 => ?_)
      · exact absurd c_36 (by decide)
      · refine j_iconst dX12_run_39 ?_
        refine j_iret dX12_run_40 rfl ?_
        exact rI_of rfl rfl
theorem mp_run_0 (hsh : ShOK sh) (hfx : FxOK F) (hP : WfP (I 171)) {p b : Int} (h1 : jin p) (hb : b = 0 ∨ b = 1) (h2 : gP (I 171) p) (h3 : aOf (I 171) p 3 = 0) : jS G (d + 4) mX12_run [jR (some 170), jI p, jI b] (sh, I, F) 0 0 (rI (if b = 0 then mRun (I 171) (jShl 1 p) else mAcc (I 171) (mRun (I 171) (jShl 1 p))) (sh, jup I 170 0 0, F)) := by
  refine jS_go [some (jR (some 170)), some (jI p), some (jI b), none] (by decide +kernel) rfl (by simp [jone]) (Nat.le_of_ble_eq_true rfl) rfl (fun hok => ?_)
  refine j_aload_n dX12_run_0 rfl ?_
  refine j_iconst dX12_run_1 ?_
  refine r_putI dX12_run_2 flX12_3 rfl (by first | assumption | exact hsh _ _ rfl) (by first | omega | (split <;> omega)) (fun q => by cases q) ?_
  skip
  have hok1 : jzok (sh, jup I 170 0 0, F) := jzok_I hok jin_lit0
  have hw0 : (jup I 170 0 0) 171 = I 171 := jup_ne _ _ _ (by decide)
  clear hok
  rw [← hw0] at hP h2 h3
  try rw [← hw0]
  obtain ⟨I1, hI1⟩ : ∃ J, J = jup I 170 0 0 := ⟨_, rfl⟩
  rw [← hI1] at hok1 hw0 hP h2 h3 ⊢
  have hok := hok1
  have hP2 := hP.2
  have hst := (jShl_set h2.1 (by omega)).1
  refine j_aload_n dX12_run_5 rfl ?_
  refine j_aload_n dX12_run_6 rfl ?_
  refine j_iload_n dX12_run_7 rfl ?_
  refine r_cv1I dX12_run_8 cvX12_335 (by decide) (by first | assumption | exact hsh _ _ rfl) (Nat.le_of_ble_eq_true rfl) (Nat.le_of_eq (Nat.zero_add _)) (Nat.le_of_eq (Nat.zero_add _)) (sm_noP0 hsh hfx hok h1 hP h2) ?_
  refine j_iconst dX12_run_11 ?_
  refine r_cv2I dX12_run_12 cvX12_253 (by decide) (by first | assumption | exact hsh _ _ rfl) (Nat.le_of_ble_eq_true rfl) (Nat.le_of_eq (Nat.zero_add _)) (Nat.le_of_eq (Nat.zero_add _)) (sm_thr0 hsh) ?_
  refine j_if_ne (tgt := 39) dX12_run_15 rfl (by first | omega | (split <;> omega)) (fun c_15 => ?_) (fun c_15 => ?_)
  · exact absurd rfl c_15
  · refine j_aload_n dX12_run_18 rfl ?_
    refine j_aload_n dX12_run_19 rfl ?_
    refine j_iload_n dX12_run_20 rfl ?_
    refine r_cv1I dX12_run_21 cvX12_296 (by decide) (by first | assumption | exact hsh _ _ rfl) (Nat.le_of_ble_eq_true rfl) (Nat.le_of_eq (Nat.zero_add _)) (Nat.le_of_eq (Nat.zero_add _)) (sm_al1 hsh hfx (by omega) h3) ?_
    refine j_if_ne (tgt := 31) dX12_run_24 rfl (by first | omega | (split <;> omega)) (fun c_24 => ?_) (fun c_24 => ?_)
    · refine j_iconst dX12_run_31 ?_
      refine j_iconst dX12_run_32 ?_
      refine r_cv2I dX12_run_33 cvX12_253 (by decide) (by first | assumption | exact hsh _ _ rfl) (Nat.le_of_ble_eq_true rfl) (Nat.le_of_eq (Nat.zero_add _)) (Nat.le_of_eq (Nat.zero_add _)) (sm_thr0 hsh) ?_
      refine j_if_eq (tgt := 41) dX12_run_36 rfl (by first | omega | (split <;> omega)) (fun c_36 => ?_) (fun c_36 => ?_)
      · refine j_aload_n dX12_run_41 rfl ?_
        refine j_iconst dX12_run_42 ?_
        refine j_iload_n dX12_run_43 rfl ?_
        refine r_ishl dX12_run_44 (fun b_44 => ?_)
        refine r_cv1I dX12_run_45 cvX12_387 (by decide) (by first | assumption | exact hsh _ _ rfl) (Nat.le_of_ble_eq_true rfl) (Nat.le_of_eq (Nat.zero_add _)) (Nat.le_of_eq (Nat.zero_add _)) (sm_runFrom hsh hfx hP (by omega)) ?_
        refine j_istore_n dX12_run_48 (by decide) ?_
        refine j_iload_n dX12_run_49 rfl ?_
        refine j_if_eq (tgt := 61) dX12_run_50 rfl (by first | omega | (split <;> omega)) (fun c_50 => ?_) (fun c_50 => ?_)
        · refine j_iload_n dX12_run_61 rfl ?_
          refine j_iret dX12_run_62 rfl ?_
          exact rI_of (by first | rw [if_pos c_50] | rw [if_neg c_50]) rfl
        · refine j_aload_n dX12_run_53 rfl ?_
          refine j_iload_n dX12_run_54 rfl ?_
          refine r_cv1I dX12_run_55 cvX12_390 (by decide) (by first | assumption | exact hsh _ _ rfl) (Nat.le_of_ble_eq_true rfl) (Nat.le_of_eq (Nat.zero_add _)) (Nat.le_of_eq (Nat.zero_add _)) (sm_accountsOf hsh hfx hP) ?_
          refine j_goto (tgt := 62) dX12_run_58 rfl ?_
          refine j_iret dX12_run_62 rfl ?_
          exact rI_of (by first | rw [if_pos c_50] | rw [if_neg c_50]) rfl
      · exact absurd rfl c_36
    · exact absurd (by decide) c_24
def mReserve (w : Int → Int) : Int := jfold (fun p a => if aOf w p 3 = 0 then max a (mAcc w (mRun w (jShl 1 p))) else a) 0 (aPe w).toNat
theorem mAcc_in {w : Int → Int} (hP : 0 ≤ aPe w ∧ aPe w ≤ 8) (hw : ∀ p, 0 ≤ p → p < aPe w → 0 ≤ aOf w p 1 ∧ aOf w p 1 ≤ 99999) (x : Int) : 0 ≤ mAcc w x ∧ mAcc w x ≤ 800000 := by
  have := jfold_ind (f := fun p a => a + (if jbit x p then aOf w p 1 else 0)) (a := 0) (fun k a => 0 ≤ a ∧ a ≤ k * 99999) (by simp) (n := (aPe w).toNat) (fun k y h0 h1 q => by
    have := hw k h0 (by omega)
    rw [Int.add_mul, Int.one_mul]
    split <;> omega)
  unfold mAcc
  rw [show (((aPe w).toNat : Nat) : Int) = aPe w by omega] at this
  omega
def WfA (w : Int → Int) : Prop := ∀ p, 0 ≤ p → p < aPe w → 0 ≤ aOf w p 1 ∧ aOf w p 1 ≤ 99999
theorem mp_reserve (hsh : ShOK sh) (hfx : FxOK F) (hP : WfP (I 171)) (hA : WfA (I 171)) : jS G (d + 4) mX12_reserve [jR (some 170)] (sh, I, F) 0 0 (rI (mReserve (I 171)) (sh, jup I 170 0 0, F)) := by
  refine jS_go [some (jR (some 170)), none, none] (by decide +kernel) rfl (by simp [jone]) (Nat.le_of_ble_eq_true rfl) rfl (fun hok => ?_)
  refine j_aload_n dX12_reserve_0 rfl ?_
  refine j_iconst dX12_reserve_1 ?_
  refine r_putI dX12_reserve_2 flX12_3 rfl (by first | assumption | exact hsh _ _ rfl) (by first | omega | (split <;> omega)) (fun q => by cases q) ?_
  skip
  have hok1 : jzok (sh, jup I 170 0 0, F) := jzok_I hok jin_lit0
  have hw0 : (jup I 170 0 0) 171 = I 171 := jup_ne _ _ _ (by decide)
  clear hok
  rw [← hw0] at hP hA
  try rw [← hw0]
  obtain ⟨I1, hI1⟩ : ∃ J, J = jup I 170 0 0 := ⟨_, rfl⟩
  rw [← hI1] at hok1 hw0 hP hA ⊢
  have hok := hok1
  refine j_iconst dX12_reserve_5 ?_
  refine j_istore_n dX12_reserve_6 (by decide) ?_
  refine j_iconst dX12_reserve_7 ?_
  refine j_istore_n dX12_reserve_8 (by decide) ?_
  skip
  refine jW_loop 9 (fun _ a => 0 ≤ a ∧ a ≤ 800000) (fun p a => if aOf (I1 171) p 3 = 0 then max a (mAcc (I1 171) (mRun (I1 171) (jShl 1 p))) else a) 0 (aPe (I1 171)) (fun z a => [some (jR (some 170)), some (jI a), some (jI z)]) (fun _ _ => (sh, I1, F)) hP.1 (by decide) (fun z a h0 h1 h2 => by have := mAcc_in hP hA (mRun (I1 171) (jShl 1 z)); split <;> omega) (fun a ha _ => ?_) (fun z a hz0 hz1 hPa ih => ?_)
  · refine j_iload_n dX12_reserve_9 rfl ?_
    refine j_aload_n dX12_reserve_10 rfl ?_
    refine r_cv0J dX12_reserve_11 cvX12_74 (by decide) (by first | assumption | exact hsh _ _ rfl) (Nat.le_of_ble_eq_true rfl) (Nat.le_of_eq (Nat.zero_add _)) (Nat.le_of_eq (Nat.zero_add _)) (sm_people hsh hfx) (hok.2.1 171 _) (fun b_11 => ?_)
    refine j_icmp_ge (tgt := 47) dX12_reserve_14 rfl (by first | omega | (split <;> omega)) (by first | omega | (split <;> omega)) (fun c_14 => ?_) (fun c_14 => ?_)
    · refine j_iload_n dX12_reserve_47 rfl ?_
      refine j_iret dX12_reserve_48 rfl ?_
      exact rI_of ha rfl
    · exact absurd (by omega) c_14
  · have hP2 := hP.2
    have hst := (jShl_set hz0 (by omega)).1
    have hin := mAcc_in hP hA (mRun (I1 171) (jShl 1 z))
    refine j_iload_n dX12_reserve_9 rfl ?_
    refine j_aload_n dX12_reserve_10 rfl ?_
    refine r_cv0J dX12_reserve_11 cvX12_74 (by decide) (by first | assumption | exact hsh _ _ rfl) (Nat.le_of_ble_eq_true rfl) (Nat.le_of_eq (Nat.zero_add _)) (Nat.le_of_eq (Nat.zero_add _)) (sm_people hsh hfx) (hok.2.1 171 _) (fun b_11 => ?_)
    refine j_icmp_ge (tgt := 47) dX12_reserve_14 rfl (by first | omega | (split <;> omega)) (by first | omega | (split <;> omega)) (fun c_14 => ?_) (fun c_14 => ?_)
    · exact absurd c_14 (by omega)
    · refine j_aload_n dX12_reserve_17 rfl ?_
      refine j_iload_n dX12_reserve_18 rfl ?_
      refine r_cv1I dX12_reserve_19 cvX12_296 (by decide) (by first | assumption | exact hsh _ _ rfl) (Nat.le_of_ble_eq_true rfl) (Nat.le_of_eq (Nat.zero_add _)) (Nat.le_of_eq (Nat.zero_add _)) (sm_isAlive hsh hfx (by omega)) ?_
      refine j_if_eq (tgt := 41) dX12_reserve_22 rfl (by first | omega | (split <;> omega)) (fun c_22 => ?_) (fun c_22 => ?_)
      · refine j_iinc dX12_reserve_41 rfl (by decide) ?_
        refine j_goto (tgt := 9) dX12_reserve_44 rfl ?_
        rw [ite0] at c_22
        first | (rw [if_pos (by omega)] at ih; exact ih) | (rw [if_neg (by omega)] at ih; exact ih)
      · refine j_iload_n dX12_reserve_25 rfl ?_
        refine j_aload_n dX12_reserve_26 rfl ?_
        refine j_aload_n dX12_reserve_27 rfl ?_
        refine j_iconst dX12_reserve_28 ?_
        refine j_iload_n dX12_reserve_29 rfl ?_
        refine r_ishl dX12_reserve_30 (fun b_30 => ?_)
        refine r_cv1I dX12_reserve_31 cvX12_387 (by decide) (by first | assumption | exact hsh _ _ rfl) (Nat.le_of_ble_eq_true rfl) (Nat.le_of_eq (Nat.zero_add _)) (Nat.le_of_eq (Nat.zero_add _)) (sm_runFrom hsh hfx hP (by omega)) ?_
        refine r_cv1I dX12_reserve_34 cvX12_390 (by decide) (by first | assumption | exact hsh _ _ rfl) (Nat.le_of_ble_eq_true rfl) (Nat.le_of_eq (Nat.zero_add _)) (Nat.le_of_eq (Nat.zero_add _)) (sm_accountsOf hsh hfx hP) ?_
        refine r_max dX12_reserve_37 lmX12_280 (Nat.le_of_ble_eq_true rfl) (by first | omega | (split <;> omega)) (by first | omega | (split <;> omega)) ?_
        refine j_istore_n dX12_reserve_40 (by decide) ?_
        refine j_iinc dX12_reserve_41 rfl (by decide) ?_
        refine j_goto (tgt := 9) dX12_reserve_44 rfl ?_
        rw [ite0] at c_22
        first | (rw [if_pos (by omega)] at ih; exact ih) | (rw [if_neg (by omega)] at ih; exact ih)
end
