/-! WHAT IS ASKED -/
def vPers (w : Int → Int) (p k : Int) : Int := if k = 3 then (if aOf w p 3 = 0 then 1 else 0) else if k = 6 then mNet w p else if k = 7 then mWorst w p else if k = 8 then mWill w p else if k = 9 then mHeirs w p else aOf w p k
def vCount (w : Int → Int) (r k : Int) : Int := if k = 0 then aPe w else if k = 1 then mAlive w else if k = 2 then w 1 else if k = 3 then (if w 2 = 1 then w 420 else -1) else if k = 9 then mAll w 1 else if k = 10 then mAll w 2 else if k = 11 then w 8 else if k = 12 then w 9 else if k = 13 then w 10 else if k = 14 then r else if 4 ≤ k ∧ k ≤ 8 then w (k - 1) else -1
theorem mCost_dead {w : Int → Int} {p n : Int} (e : ¬ aOf w p 3 = 0) : mCost w p n = 0 := by
  have h : ∀ m : Nat, jfold (fun k a => if aOf w p 3 = 0 ∧ (min 9999 (w 3 + k) + 1) % 10 = 0 then aRate w a else a) (aOf w p 1) m = aOf w p 1 := by
    intro m
    induction m with
    | zero => rfl
    | succ m ih =>
      show (if _ then _ else jfold _ _ m) = _
      rw [if_neg (fun q => e q.1), ih]
  unfold mCost
  rw [h]
  omega
theorem mQuiet_in (w : Int → Int) : 0 ≤ mQuiet w ∧ mQuiet w ≤ 6 := by
  have := jfold_ind (f := fun e a => if mPains w (mAlive w) (e + 1) < mPains w (mAlive w) a then e + 1 else a) (a := (0 : Int)) (fun k a => 0 ≤ a ∧ a ≤ k) (by omega) (n := 6) (fun k y h0 h1 q => by split <;> omega)
  unfold mQuiet
  omega
theorem WF_H {w : Int → Int} (h : WF w) : WfH w := fun p h0 h1 => (h.2.1.2.2 p h0 h1).2.2.2.2.1
theorem WF_D {w : Int → Int} (h : WF w) : WfD w := h.2.1.1
theorem WF_R {w : Int → Int} (h : WF w) : WfR w := h.2.1.2.1
section
variable {G : jzG} {d : Nat} {sh : List (Nat × Nat)} {I : Nat → Int → Int} {F : Nat → Int → Option Nat} {w : Int → Int}
/-! ### the model -/
theorem mp_pain_1 (hsh : ShOK sh) (hfx : FxOK F) (hW : WF (I 171)) {p k : Int} (j1 : jin p) (j2 : jin k) (h : ¬ (gP (I 171) p ∧ 0 ≤ k ∧ k ≤ 6)) : jS G (d + 6) mX12_pain [jR (some 170), jI p, jI k] (sh, I, F) 0 0 (rI (0) (sh, jup I 170 0 1, F)) := by
  have hP : WfP (I 171) := hW.1
  have g8 : aPe (I 171) ≤ 8 := hP.2
  refine jS_go [some (jR (some 170)), some (jI p), some (jI k)] (by decide +kernel) rfl (by simp [jone]) (Nat.le_of_ble_eq_true rfl) rfl (fun hok => ?_)
  refine j_aload_n dX12_pain_0 rfl ?_
  refine j_iconst dX12_pain_1 ?_
  refine r_putI dX12_pain_2 flX12_3 rfl (by first | assumption | exact hsh _ _ rfl) (by first | omega | (split <;> omega)) (fun q => by cases q) ?_
  skip
  have hok1 : jzok (sh, jup I 170 0 0, F) := jzok_I hok jin_lit0
  have hw0 : (jup I 170 0 0) 171 = I 171 := jup_ne _ _ _ (by decide)
  clear hok
  rw [← jup_up I 170 0 0 1]
  rw [← hw0] at hP h
  try rw [← hw0]
  obtain ⟨I1, hI1⟩ : ∃ J, J = jup I 170 0 0 := ⟨_, rfl⟩
  rw [← hI1] at hok1 hw0 hP h ⊢
  have hok := hok1
  by_cases e1 : gP (I1 171) p
  · have e2 : ¬ (0 ≤ k ∧ k ≤ 6) := fun q => h ⟨e1, q⟩
    refine j_aload_n dX12_pain_5 rfl ?_
    refine j_aload_n dX12_pain_6 rfl ?_
    refine j_iload_n dX12_pain_7 rfl ?_
    refine r_cv1I dX12_pain_8 cvX12_335 (by decide) (by first | assumption | exact hsh _ _ rfl) (Nat.le_of_ble_eq_true rfl) (Nat.le_of_eq (Nat.zero_add _)) (Nat.le_of_eq (Nat.zero_add _)) (sm_noP0 hsh hfx hok (by omega) hP e1) ?_
    refine j_if_ne (tgt := 24) dX12_pain_11 rfl (by first | omega | (split <;> omega)) (fun c_11 => by exact absurd c_11 (by decide)) (fun c_11 => ?_)
    refine j_iload_n dX12_pain_14 rfl ?_
    refine j_iconst dX12_pain_15 ?_
    refine j_bipush dX12_pain_16 (by decide) ?_
    refine r_cs3I dX12_pain_18 csX12_78 (Nat.le_of_ble_eq_true rfl) (Nat.le_of_eq (Nat.zero_add _)) (Nat.le_of_eq (Nat.zero_add _)) (sm_in0 (by omega) (by omega) (by omega) e2) ?_
    refine j_if_ne (tgt := 28) dX12_pain_21 rfl (by first | omega | (split <;> omega)) (fun c_21 => by exact absurd c_21 (by decide)) (fun c_21 => ?_)
    refine j_iconst dX12_pain_24 ?_
    refine j_goto (tgt := 29) dX12_pain_25 rfl ?_
    refine j_iconst dX12_pain_29 ?_
    refine r_cv2I dX12_pain_30 cvX12_253 (by decide) (by first | assumption | exact hsh _ _ rfl) (Nat.le_of_ble_eq_true rfl) (Nat.le_of_eq (Nat.zero_add _)) (Nat.le_of_eq (Nat.zero_add _)) (sm_thr1 hsh (by omega)) ?_
    refine j_if_eq (tgt := 40) dX12_pain_33 rfl (by first | omega | (split <;> omega)) (fun c_33 => by exact absurd c_33 (by decide)) (fun c_33 => ?_)
    refine j_iconst dX12_pain_36 ?_
    refine j_goto (tgt := 49) dX12_pain_37 rfl ?_
    refine j_iret dX12_pain_49 rfl ?_
    exact rI_of rfl rfl
  · refine j_aload_n dX12_pain_5 rfl ?_
    refine j_aload_n dX12_pain_6 rfl ?_
    refine j_iload_n dX12_pain_7 rfl ?_
    refine r_cv1I dX12_pain_8 cvX12_335 (by decide) (by first | assumption | exact hsh _ _ rfl) (Nat.le_of_ble_eq_true rfl) (Nat.le_of_eq (Nat.zero_add _)) (Nat.le_of_eq (Nat.zero_add _)) (sm_noP1 hsh hfx hok (by omega) hP e1) ?_
    refine j_if_ne (tgt := 24) dX12_pain_11 rfl (by first | omega | (split <;> omega)) (fun c_11 => ?_) (fun c_11 => by exact absurd c_11 (by decide))
    refine j_iconst dX12_pain_24 ?_
    refine j_goto (tgt := 29) dX12_pain_25 rfl ?_
    refine j_iconst dX12_pain_29 ?_
    refine r_cv2I dX12_pain_30 cvX12_253 (by decide) (by first | assumption | exact hsh _ _ rfl) (Nat.le_of_ble_eq_true rfl) (Nat.le_of_eq (Nat.zero_add _)) (Nat.le_of_eq (Nat.zero_add _)) (sm_thr1 hsh (by omega)) ?_
    refine j_if_eq (tgt := 40) dX12_pain_33 rfl (by first | omega | (split <;> omega)) (fun c_33 => by exact absurd c_33 (by decide)) (fun c_33 => ?_)
    refine j_iconst dX12_pain_36 ?_
    refine j_goto (tgt := 49) dX12_pain_37 rfl ?_
    refine j_iret dX12_pain_49 rfl ?_
    exact rI_of rfl rfl
theorem mp_pain_0 (hsh : ShOK sh) (hfx : FxOK F) (hW : WF (I 171)) {p k : Int} (h1 : gP (I 171) p) (h2 : 0 ≤ k ∧ k ≤ 6) : jS G (d + 6) mX12_pain [jR (some 170), jI p, jI k] (sh, I, F) 0 0 (rI (aOf (I 171) p (6 + k)) (sh, jup I 170 0 0, F)) := by
  have hP : WfP (I 171) := hW.1
  have g8 : aPe (I 171) ≤ 8 := hP.2
  have gp : 0 ≤ p ∧ p < 8 := by have := h1.1; have := h1.2; omega
  refine jS_go [some (jR (some 170)), some (jI p), some (jI k)] (by decide +kernel) rfl (by simp [jone]) (Nat.le_of_ble_eq_true rfl) rfl (fun hok => ?_)
  refine j_aload_n dX12_pain_0 rfl ?_
  refine j_iconst dX12_pain_1 ?_
  refine r_putI dX12_pain_2 flX12_3 rfl (by first | assumption | exact hsh _ _ rfl) (by first | omega | (split <;> omega)) (fun q => by cases q) ?_
  skip
  have hok1 : jzok (sh, jup I 170 0 0, F) := jzok_I hok jin_lit0
  have hw0 : (jup I 170 0 0) 171 = I 171 := jup_ne _ _ _ (by decide)
  clear hok
  rw [← hw0] at hP h1
  try rw [← hw0]
  obtain ⟨I1, hI1⟩ : ∃ J, J = jup I 170 0 0 := ⟨_, rfl⟩
  rw [← hI1] at hok1 hw0 hP h1 ⊢
  have hok := hok1
  refine j_aload_n dX12_pain_5 rfl ?_
  refine j_aload_n dX12_pain_6 rfl ?_
  refine j_iload_n dX12_pain_7 rfl ?_
  refine r_cv1I dX12_pain_8 cvX12_335 (by decide) (by first | assumption | exact hsh _ _ rfl) (Nat.le_of_ble_eq_true rfl) (Nat.le_of_eq (Nat.zero_add _)) (Nat.le_of_eq (Nat.zero_add _)) (sm_noP0 hsh hfx hok (by omega) hP h1) ?_
  refine j_if_ne (tgt := 24) dX12_pain_11 rfl (by first | omega | (split <;> omega)) (fun c_11 => by exact absurd c_11 (by decide)) (fun c_11 => ?_)
  refine j_iload_n dX12_pain_14 rfl ?_
  refine j_iconst dX12_pain_15 ?_
  refine j_bipush dX12_pain_16 (by decide) ?_
  refine r_cs3I dX12_pain_18 csX12_78 (Nat.le_of_ble_eq_true rfl) (Nat.le_of_eq (Nat.zero_add _)) (Nat.le_of_eq (Nat.zero_add _)) (sm_in1 (by omega) (by omega) (by omega) h2) ?_
  refine j_if_ne (tgt := 28) dX12_pain_21 rfl (by first | omega | (split <;> omega)) (fun c_21 => ?_) (fun c_21 => by exact absurd c_21 (by decide))
  refine j_iconst dX12_pain_28 ?_
  refine j_iconst dX12_pain_29 ?_
  refine r_cv2I dX12_pain_30 cvX12_253 (by decide) (by first | assumption | exact hsh _ _ rfl) (Nat.le_of_ble_eq_true rfl) (Nat.le_of_eq (Nat.zero_add _)) (Nat.le_of_eq (Nat.zero_add _)) (sm_thr0 hsh) ?_
  refine j_if_eq (tgt := 40) dX12_pain_33 rfl (by first | omega | (split <;> omega)) (fun c_33 => ?_) (fun c_33 => by exact absurd c_33 (by decide))
  refine j_aload_n dX12_pain_40 rfl ?_
  refine j_iload_n dX12_pain_41 rfl ?_
  refine j_bipush dX12_pain_42 (by decide) ?_
  refine j_iload_n dX12_pain_44 rfl ?_
  refine j_iadd dX12_pain_45 ?_
  refine r_cv2J dX12_pain_46 cvX12_68 (by decide) (by first | assumption | exact hsh _ _ rfl) (Nat.le_of_ble_eq_true rfl) (Nat.le_of_eq (Nat.zero_add _)) (Nat.le_of_eq (Nat.zero_add _)) (sm_of hsh hfx (by omega)) (hok.2.1 171 _) (fun b_46 => ?_)
  refine j_iret dX12_pain_49 rfl ?_
  exact rI_of rfl rfl
theorem mp_owed_1 (hsh : ShOK sh) (hfx : FxOK F) (hW : WF (I 171)) {p q : Int} (j1 : jin p) (j2 : jin q) (h : ¬ (gP (I 171) p ∧ gP (I 171) q)) : jS G (d + 6) mX12_owed [jR (some 170), jI p, jI q] (sh, I, F) 0 0 (rI (0) (sh, jup I 170 0 1, F)) := by
  have hP : WfP (I 171) := hW.1
  have g8 : aPe (I 171) ≤ 8 := hP.2
  refine jS_go [some (jR (some 170)), some (jI p), some (jI q)] (by decide +kernel) rfl (by simp [jone]) (Nat.le_of_ble_eq_true rfl) rfl (fun hok => ?_)
  refine j_aload_n dX12_owed_0 rfl ?_
  refine j_iconst dX12_owed_1 ?_
  refine r_putI dX12_owed_2 flX12_3 rfl (by first | assumption | exact hsh _ _ rfl) (by first | omega | (split <;> omega)) (fun q => by cases q) ?_
  skip
  have hok1 : jzok (sh, jup I 170 0 0, F) := jzok_I hok jin_lit0
  have hw0 : (jup I 170 0 0) 171 = I 171 := jup_ne _ _ _ (by decide)
  clear hok
  rw [← jup_up I 170 0 0 1]
  rw [← hw0] at hP h
  try rw [← hw0]
  obtain ⟨I1, hI1⟩ : ∃ J, J = jup I 170 0 0 := ⟨_, rfl⟩
  rw [← hI1] at hok1 hw0 hP h ⊢
  have hok := hok1
  by_cases e1 : gP (I1 171) p
  · have e2 : ¬ gP (I1 171) q := fun q => h ⟨e1, q⟩
    refine j_aload_n dX12_owed_5 rfl ?_
    refine j_aload_n dX12_owed_6 rfl ?_
    refine j_iload_n dX12_owed_7 rfl ?_
    refine r_cv1I dX12_owed_8 cvX12_335 (by decide) (by first | assumption | exact hsh _ _ rfl) (Nat.le_of_ble_eq_true rfl) (Nat.le_of_eq (Nat.zero_add _)) (Nat.le_of_eq (Nat.zero_add _)) (sm_noP0 hsh hfx hok (by omega) hP e1) ?_
    refine j_if_ne (tgt := 22) dX12_owed_11 rfl (by first | omega | (split <;> omega)) (fun c_11 => by exact absurd c_11 (by decide)) (fun c_11 => ?_)
    refine j_aload_n dX12_owed_14 rfl ?_
    refine j_iload_n dX12_owed_15 rfl ?_
    refine r_cv1I dX12_owed_16 cvX12_335 (by decide) (by first | assumption | exact hsh _ _ rfl) (Nat.le_of_ble_eq_true rfl) (Nat.le_of_eq (Nat.zero_add _)) (Nat.le_of_eq (Nat.zero_add _)) (sm_noP1 hsh hfx hok (by omega) hP e2) ?_
    refine j_if_eq (tgt := 26) dX12_owed_19 rfl (by first | omega | (split <;> omega)) (fun c_19 => by exact absurd c_19 (by decide)) (fun c_19 => ?_)
    refine j_iconst dX12_owed_22 ?_
    refine j_goto (tgt := 27) dX12_owed_23 rfl ?_
    refine j_iconst dX12_owed_27 ?_
    refine r_cv2I dX12_owed_28 cvX12_253 (by decide) (by first | assumption | exact hsh _ _ rfl) (Nat.le_of_ble_eq_true rfl) (Nat.le_of_eq (Nat.zero_add _)) (Nat.le_of_eq (Nat.zero_add _)) (sm_thr1 hsh (by omega)) ?_
    refine j_if_ne (tgt := 52) dX12_owed_31 rfl (by first | omega | (split <;> omega)) (fun c_31 => ?_) (fun c_31 => by exact absurd c_31 (by decide))
    refine j_iconst dX12_owed_52 ?_
    refine j_goto (tgt := 62) dX12_owed_53 rfl ?_
    refine j_iret dX12_owed_62 rfl ?_
    exact rI_of rfl rfl
  · refine j_aload_n dX12_owed_5 rfl ?_
    refine j_aload_n dX12_owed_6 rfl ?_
    refine j_iload_n dX12_owed_7 rfl ?_
    refine r_cv1I dX12_owed_8 cvX12_335 (by decide) (by first | assumption | exact hsh _ _ rfl) (Nat.le_of_ble_eq_true rfl) (Nat.le_of_eq (Nat.zero_add _)) (Nat.le_of_eq (Nat.zero_add _)) (sm_noP1 hsh hfx hok (by omega) hP e1) ?_
    refine j_if_ne (tgt := 22) dX12_owed_11 rfl (by first | omega | (split <;> omega)) (fun c_11 => ?_) (fun c_11 => by exact absurd c_11 (by decide))
    refine j_iconst dX12_owed_22 ?_
    refine j_goto (tgt := 27) dX12_owed_23 rfl ?_
    refine j_iconst dX12_owed_27 ?_
    refine r_cv2I dX12_owed_28 cvX12_253 (by decide) (by first | assumption | exact hsh _ _ rfl) (Nat.le_of_ble_eq_true rfl) (Nat.le_of_eq (Nat.zero_add _)) (Nat.le_of_eq (Nat.zero_add _)) (sm_thr1 hsh (by omega)) ?_
    refine j_if_ne (tgt := 52) dX12_owed_31 rfl (by first | omega | (split <;> omega)) (fun c_31 => ?_) (fun c_31 => by exact absurd c_31 (by decide))
    refine j_iconst dX12_owed_52 ?_
    refine j_goto (tgt := 62) dX12_owed_53 rfl ?_
    refine j_iret dX12_owed_62 rfl ?_
    exact rI_of rfl rfl
theorem mp_owed_2 (hsh : ShOK sh) (hfx : FxOK F) (hW : WF (I 171)) {p q : Int} (h1 : gP (I 171) p ∧ gP (I 171) q) (h2 : p = q) : jS G (d + 6) mX12_owed [jR (some 170), jI p, jI q] (sh, I, F) 0 0 (rI (0) (sh, jup I 170 0 2, F)) := by
  have hP : WfP (I 171) := hW.1
  have g8 : aPe (I 171) ≤ 8 := hP.2
  have gp : 0 ≤ p ∧ p < 8 := by have := h1.1.1; have := h1.1.2; omega
  have gq : 0 ≤ q ∧ q < 8 := by have := h1.2.1; have := h1.2.2; omega
  refine jS_go [some (jR (some 170)), some (jI p), some (jI q)] (by decide +kernel) rfl (by simp [jone]) (Nat.le_of_ble_eq_true rfl) rfl (fun hok => ?_)
  refine j_aload_n dX12_owed_0 rfl ?_
  refine j_iconst dX12_owed_1 ?_
  refine r_putI dX12_owed_2 flX12_3 rfl (by first | assumption | exact hsh _ _ rfl) (by first | omega | (split <;> omega)) (fun q => by cases q) ?_
  skip
  have hok1 : jzok (sh, jup I 170 0 0, F) := jzok_I hok jin_lit0
  have hw0 : (jup I 170 0 0) 171 = I 171 := jup_ne _ _ _ (by decide)
  clear hok
  rw [← jup_up I 170 0 0 2]
  rw [← hw0] at hP h1
  try rw [← hw0]
  obtain ⟨I1, hI1⟩ : ∃ J, J = jup I 170 0 0 := ⟨_, rfl⟩
  rw [← hI1] at hok1 hw0 hP h1 ⊢
  have hok := hok1
  refine j_aload_n dX12_owed_5 rfl ?_
  refine j_aload_n dX12_owed_6 rfl ?_
  refine j_iload_n dX12_owed_7 rfl ?_
  refine r_cv1I dX12_owed_8 cvX12_335 (by decide) (by first | assumption | exact hsh _ _ rfl) (Nat.le_of_ble_eq_true rfl) (Nat.le_of_eq (Nat.zero_add _)) (Nat.le_of_eq (Nat.zero_add _)) (sm_noP0 hsh hfx hok (by omega) hP h1.1) ?_
  refine j_if_ne (tgt := 22) dX12_owed_11 rfl (by first | omega | (split <;> omega)) (fun c_11 => by exact absurd c_11 (by decide)) (fun c_11 => ?_)
  refine j_aload_n dX12_owed_14 rfl ?_
  refine j_iload_n dX12_owed_15 rfl ?_
  refine r_cv1I dX12_owed_16 cvX12_335 (by decide) (by first | assumption | exact hsh _ _ rfl) (Nat.le_of_ble_eq_true rfl) (Nat.le_of_eq (Nat.zero_add _)) (Nat.le_of_eq (Nat.zero_add _)) (sm_noP0 hsh hfx hok (by omega) hP h1.2) ?_
  refine j_if_eq (tgt := 26) dX12_owed_19 rfl (by first | omega | (split <;> omega)) (fun c_19 => ?_) (fun c_19 => by exact absurd c_19 (by decide))
  refine j_iconst dX12_owed_26 ?_
  refine j_iconst dX12_owed_27 ?_
  refine r_cv2I dX12_owed_28 cvX12_253 (by decide) (by first | assumption | exact hsh _ _ rfl) (Nat.le_of_ble_eq_true rfl) (Nat.le_of_eq (Nat.zero_add _)) (Nat.le_of_eq (Nat.zero_add _)) (sm_thr0 hsh) ?_
  refine j_if_ne (tgt := 52) dX12_owed_31 rfl (by first | omega | (split <;> omega)) (fun c_31 => by exact absurd c_31 (by decide)) (fun c_31 => ?_)
  refine j_aload_n dX12_owed_34 rfl ?_
  refine j_iload_n dX12_owed_35 rfl ?_
  refine j_iload_n dX12_owed_36 rfl ?_
  refine j_icmp_ne (tgt := 44) dX12_owed_37 rfl (by first | omega | (split <;> omega)) (by first | omega | (split <;> omega)) (fun c_37 => by exact absurd h2 c_37) (fun c_37 => ?_)
  refine j_iconst dX12_owed_40 ?_
  refine j_goto (tgt := 45) dX12_owed_41 rfl ?_
  refine j_iconst dX12_owed_45 ?_
  refine r_cv2I dX12_owed_46 cvX12_253 (by decide) (by first | assumption | exact hsh _ _ rfl) (Nat.le_of_ble_eq_true rfl) (Nat.le_of_eq (Nat.zero_add _)) (Nat.le_of_eq (Nat.zero_add _)) (sm_thr1 hsh (by omega)) ?_
  refine j_if_eq (tgt := 56) dX12_owed_49 rfl (by first | omega | (split <;> omega)) (fun c_49 => by exact absurd c_49 (by decide)) (fun c_49 => ?_)
  refine j_iconst dX12_owed_52 ?_
  refine j_goto (tgt := 62) dX12_owed_53 rfl ?_
  refine j_iret dX12_owed_62 rfl ?_
  exact rI_of rfl rfl
theorem mp_owed_0 (hsh : ShOK sh) (hfx : FxOK F) (hW : WF (I 171)) {p q : Int} (h1 : gP (I 171) p ∧ gP (I 171) q) (h2 : ¬ p = q) : jS G (d + 6) mX12_owed [jR (some 170), jI p, jI q] (sh, I, F) 0 0 (rI (aOw (I 171) p q) (sh, jup I 170 0 0, F)) := by
  have hP : WfP (I 171) := hW.1
  have g8 : aPe (I 171) ≤ 8 := hP.2
  have gp : 0 ≤ p ∧ p < 8 := by have := h1.1.1; have := h1.1.2; omega
  have gq : 0 ≤ q ∧ q < 8 := by have := h1.2.1; have := h1.2.2; omega
  refine jS_go [some (jR (some 170)), some (jI p), some (jI q)] (by decide +kernel) rfl (by simp [jone]) (Nat.le_of_ble_eq_true rfl) rfl (fun hok => ?_)
  refine j_aload_n dX12_owed_0 rfl ?_
  refine j_iconst dX12_owed_1 ?_
  refine r_putI dX12_owed_2 flX12_3 rfl (by first | assumption | exact hsh _ _ rfl) (by first | omega | (split <;> omega)) (fun q => by cases q) ?_
  skip
  have hok1 : jzok (sh, jup I 170 0 0, F) := jzok_I hok jin_lit0
  have hw0 : (jup I 170 0 0) 171 = I 171 := jup_ne _ _ _ (by decide)
  clear hok
  rw [← hw0] at hP h1
  try rw [← hw0]
  obtain ⟨I1, hI1⟩ : ∃ J, J = jup I 170 0 0 := ⟨_, rfl⟩
  rw [← hI1] at hok1 hw0 hP h1 ⊢
  have hok := hok1
  refine j_aload_n dX12_owed_5 rfl ?_
  refine j_aload_n dX12_owed_6 rfl ?_
  refine j_iload_n dX12_owed_7 rfl ?_
  refine r_cv1I dX12_owed_8 cvX12_335 (by decide) (by first | assumption | exact hsh _ _ rfl) (Nat.le_of_ble_eq_true rfl) (Nat.le_of_eq (Nat.zero_add _)) (Nat.le_of_eq (Nat.zero_add _)) (sm_noP0 hsh hfx hok (by omega) hP h1.1) ?_
  refine j_if_ne (tgt := 22) dX12_owed_11 rfl (by first | omega | (split <;> omega)) (fun c_11 => by exact absurd c_11 (by decide)) (fun c_11 => ?_)
  refine j_aload_n dX12_owed_14 rfl ?_
  refine j_iload_n dX12_owed_15 rfl ?_
  refine r_cv1I dX12_owed_16 cvX12_335 (by decide) (by first | assumption | exact hsh _ _ rfl) (Nat.le_of_ble_eq_true rfl) (Nat.le_of_eq (Nat.zero_add _)) (Nat.le_of_eq (Nat.zero_add _)) (sm_noP0 hsh hfx hok (by omega) hP h1.2) ?_
  refine j_if_eq (tgt := 26) dX12_owed_19 rfl (by first | omega | (split <;> omega)) (fun c_19 => ?_) (fun c_19 => by exact absurd c_19 (by decide))
  refine j_iconst dX12_owed_26 ?_
  refine j_iconst dX12_owed_27 ?_
  refine r_cv2I dX12_owed_28 cvX12_253 (by decide) (by first | assumption | exact hsh _ _ rfl) (Nat.le_of_ble_eq_true rfl) (Nat.le_of_eq (Nat.zero_add _)) (Nat.le_of_eq (Nat.zero_add _)) (sm_thr0 hsh) ?_
  refine j_if_ne (tgt := 52) dX12_owed_31 rfl (by first | omega | (split <;> omega)) (fun c_31 => by exact absurd c_31 (by decide)) (fun c_31 => ?_)
  refine j_aload_n dX12_owed_34 rfl ?_
  refine j_iload_n dX12_owed_35 rfl ?_
  refine j_iload_n dX12_owed_36 rfl ?_
  refine j_icmp_ne (tgt := 44) dX12_owed_37 rfl (by first | omega | (split <;> omega)) (by first | omega | (split <;> omega)) (fun c_37 => ?_) (fun c_37 => by exact absurd h2 c_37)
  refine j_iconst dX12_owed_44 ?_
  refine j_iconst dX12_owed_45 ?_
  refine r_cv2I dX12_owed_46 cvX12_253 (by decide) (by first | assumption | exact hsh _ _ rfl) (Nat.le_of_ble_eq_true rfl) (Nat.le_of_eq (Nat.zero_add _)) (Nat.le_of_eq (Nat.zero_add _)) (sm_thr0 hsh) ?_
  refine j_if_eq (tgt := 56) dX12_owed_49 rfl (by first | omega | (split <;> omega)) (fun c_49 => ?_) (fun c_49 => by exact absurd c_49 (by decide))
  refine j_aload_n dX12_owed_56 rfl ?_
  refine j_iload_n dX12_owed_57 rfl ?_
  refine j_iload_n dX12_owed_58 rfl ?_
  refine r_cv2J dX12_owed_59 cvX12_329 (by decide) (by first | assumption | exact hsh _ _ rfl) (Nat.le_of_ble_eq_true rfl) (Nat.le_of_eq (Nat.zero_add _)) (Nat.le_of_eq (Nat.zero_add _)) (sm_owedBy hsh hfx (by omega)) (hok.2.1 171 _) (fun b_59 => ?_)
  refine j_iret dX12_owed_62 rfl ?_
  exact rI_of rfl rfl
theorem mp_person_1 (hsh : ShOK sh) (hfx : FxOK F) (hW : WF (I 171)) {p k : Int} (j1 : jin p) (h2 : ¬ gP (I 171) p) : jS G (d + 6) mX12_person [jR (some 170), jI p, jI k] (sh, I, F) 0 0 (rI (0) (sh, jup I 170 0 1, F)) := by
  have hP : WfP (I 171) := hW.1
  have g8 : aPe (I 171) ≤ 8 := hP.2
  refine jS_go [some (jR (some 170)), some (jI p), some (jI k)] (by decide +kernel) rfl (by simp [jone]) (Nat.le_of_ble_eq_true rfl) rfl (fun hok => ?_)
  refine j_aload_n dX12_person_0 rfl ?_
  refine j_iconst dX12_person_1 ?_
  refine r_putI dX12_person_2 flX12_3 rfl (by first | assumption | exact hsh _ _ rfl) (by first | omega | (split <;> omega)) (fun q => by cases q) ?_
  skip
  have hok1 : jzok (sh, jup I 170 0 0, F) := jzok_I hok jin_lit0
  have hw0 : (jup I 170 0 0) 171 = I 171 := jup_ne _ _ _ (by decide)
  clear hok
  rw [← jup_up I 170 0 0 1]
  rw [← hw0] at hP h2
  try rw [← hw0]
  obtain ⟨I1, hI1⟩ : ∃ J, J = jup I 170 0 0 := ⟨_, rfl⟩
  rw [← hI1] at hok1 hw0 hP h2 ⊢
  have hok := hok1
  refine j_aload_n dX12_person_5 rfl ?_
  refine j_aload_n dX12_person_6 rfl ?_
  refine j_iload_n dX12_person_7 rfl ?_
  refine r_cv1I dX12_person_8 cvX12_335 (by decide) (by first | assumption | exact hsh _ _ rfl) (Nat.le_of_ble_eq_true rfl) (Nat.le_of_eq (Nat.zero_add _)) (Nat.le_of_eq (Nat.zero_add _)) (sm_noP1 hsh hfx hok (by omega) hP h2) ?_
  refine j_iconst dX12_person_11 ?_
  refine r_cv2I dX12_person_12 cvX12_253 (by decide) (by first | assumption | exact hsh _ _ rfl) (Nat.le_of_ble_eq_true rfl) (Nat.le_of_eq (Nat.zero_add _)) (Nat.le_of_eq (Nat.zero_add _)) (sm_thr1 hsh (by omega)) ?_
  refine j_if_ne (tgt := 41) dX12_person_15 rfl (by first | omega | (split <;> omega)) (fun c_15 => ?_) (fun c_15 => by exact absurd c_15 (by decide))
  refine j_iconst dX12_person_41 ?_
  refine j_iret dX12_person_42 rfl ?_
  exact rI_of rfl rfl
theorem mp_person_2 (hsh : ShOK sh) (hfx : FxOK F) (hW : WF (I 171)) {p k : Int} (h1 : gP (I 171) p) (j2 : jin k) (h2 : ¬ (0 ≤ k ∧ k ≤ 9)) : jS G (d + 6) mX12_person [jR (some 170), jI p, jI k] (sh, I, F) 0 0 (rI (0) (sh, jup I 170 0 2, F)) := by
  have hP : WfP (I 171) := hW.1
  have g8 : aPe (I 171) ≤ 8 := hP.2
  have gp : 0 ≤ p ∧ p < 8 := by have := h1.1; have := h1.2; omega
  refine jS_go [some (jR (some 170)), some (jI p), some (jI k)] (by decide +kernel) rfl (by simp [jone]) (Nat.le_of_ble_eq_true rfl) rfl (fun hok => ?_)
  refine j_aload_n dX12_person_0 rfl ?_
  refine j_iconst dX12_person_1 ?_
  refine r_putI dX12_person_2 flX12_3 rfl (by first | assumption | exact hsh _ _ rfl) (by first | omega | (split <;> omega)) (fun q => by cases q) ?_
  skip
  have hok1 : jzok (sh, jup I 170 0 0, F) := jzok_I hok jin_lit0
  have hw0 : (jup I 170 0 0) 171 = I 171 := jup_ne _ _ _ (by decide)
  clear hok
  rw [← jup_up I 170 0 0 2]
  rw [← hw0] at hP h1
  try rw [← hw0]
  obtain ⟨I1, hI1⟩ : ∃ J, J = jup I 170 0 0 := ⟨_, rfl⟩
  rw [← hI1] at hok1 hw0 hP h1 ⊢
  have hok := hok1
  refine j_aload_n dX12_person_5 rfl ?_
  refine j_aload_n dX12_person_6 rfl ?_
  refine j_iload_n dX12_person_7 rfl ?_
  refine r_cv1I dX12_person_8 cvX12_335 (by decide) (by first | assumption | exact hsh _ _ rfl) (Nat.le_of_ble_eq_true rfl) (Nat.le_of_eq (Nat.zero_add _)) (Nat.le_of_eq (Nat.zero_add _)) (sm_noP0 hsh hfx hok (by omega) hP h1) ?_
  refine j_iconst dX12_person_11 ?_
  refine r_cv2I dX12_person_12 cvX12_253 (by decide) (by first | assumption | exact hsh _ _ rfl) (Nat.le_of_ble_eq_true rfl) (Nat.le_of_eq (Nat.zero_add _)) (Nat.le_of_eq (Nat.zero_add _)) (sm_thr0 hsh) ?_
  refine j_if_ne (tgt := 41) dX12_person_15 rfl (by first | omega | (split <;> omega)) (fun c_15 => by exact absurd c_15 (by decide)) (fun c_15 => ?_)
  refine j_aload_n dX12_person_18 rfl ?_
  refine j_iload_n dX12_person_19 rfl ?_
  refine j_iconst dX12_person_20 ?_
  refine j_bipush dX12_person_21 (by decide) ?_
  refine r_cs3I dX12_person_23 csX12_78 (Nat.le_of_ble_eq_true rfl) (Nat.le_of_eq (Nat.zero_add _)) (Nat.le_of_eq (Nat.zero_add _)) (sm_in0 (by omega) (by omega) (by omega) h2) ?_
  refine j_if_ne (tgt := 33) dX12_person_26 rfl (by first | omega | (split <;> omega)) (fun c_26 => by exact absurd c_26 (by decide)) (fun c_26 => ?_)
  refine j_iconst dX12_person_29 ?_
  refine j_goto (tgt := 34) dX12_person_30 rfl ?_
  refine j_iconst dX12_person_34 ?_
  refine r_cv2I dX12_person_35 cvX12_253 (by decide) (by first | assumption | exact hsh _ _ rfl) (Nat.le_of_ble_eq_true rfl) (Nat.le_of_eq (Nat.zero_add _)) (Nat.le_of_eq (Nat.zero_add _)) (sm_thr1 hsh (by omega)) ?_
  refine j_if_eq (tgt := 43) dX12_person_38 rfl (by first | omega | (split <;> omega)) (fun c_38 => by exact absurd c_38 (by decide)) (fun c_38 => ?_)
  refine j_iconst dX12_person_41 ?_
  refine j_iret dX12_person_42 rfl ?_
  exact rI_of rfl rfl
theorem mp_person_0 (hsh : ShOK sh) (hfx : FxOK F) (hW : WF (I 171)) {p k : Int} (h1 : gP (I 171) p) (h2 : 0 ≤ k ∧ k ≤ 9) : jS G (d + 6) mX12_person [jR (some 170), jI p, jI k] (sh, I, F) 0 0 (rI (vPers (I 171) p k) (sh, jup I 170 0 0, F)) := by
  have hP : WfP (I 171) := hW.1
  have g8 : aPe (I 171) ≤ 8 := hP.2
  have gp : 0 ≤ p ∧ p < 8 := by have := h1.1; have := h1.2; omega
  refine jS_go [some (jR (some 170)), some (jI p), some (jI k)] (by decide +kernel) rfl (by simp [jone]) (Nat.le_of_ble_eq_true rfl) rfl (fun hok => ?_)
  refine j_aload_n dX12_person_0 rfl ?_
  refine j_iconst dX12_person_1 ?_
  refine r_putI dX12_person_2 flX12_3 rfl (by first | assumption | exact hsh _ _ rfl) (by first | omega | (split <;> omega)) (fun q => by cases q) ?_
  skip
  have hok1 : jzok (sh, jup I 170 0 0, F) := jzok_I hok jin_lit0
  have hw0 : (jup I 170 0 0) 171 = I 171 := jup_ne _ _ _ (by decide)
  clear hok
  rw [← hw0] at hP h1 hW
  try rw [← hw0]
  obtain ⟨I1, hI1⟩ : ∃ J, J = jup I 170 0 0 := ⟨_, rfl⟩
  rw [← hI1] at hok1 hw0 hP h1 hW ⊢
  have hok := hok1
  have gp2 : 0 ≤ p ∧ p < aPe (I1 171) := by have := h1.1; have := h1.2; omega
  have hH := WF_H hW
  rcases (show k = 0 ∨ k = 1 ∨ k = 2 ∨ k = 3 ∨ k = 4 ∨ k = 5 ∨ k = 6 ∨ k = 7 ∨ k = 8 ∨ k = 9 by omega) with rfl | rfl | rfl | rfl | rfl | rfl | rfl | rfl | rfl | rfl
  · refine j_aload_n dX12_person_5 rfl ?_
    refine j_aload_n dX12_person_6 rfl ?_
    refine j_iload_n dX12_person_7 rfl ?_
    refine r_cv1I dX12_person_8 cvX12_335 (by decide) (by first | assumption | exact hsh _ _ rfl) (Nat.le_of_ble_eq_true rfl) (Nat.le_of_eq (Nat.zero_add _)) (Nat.le_of_eq (Nat.zero_add _)) (sm_noP0 hsh hfx hok (by omega) hP h1) ?_
    refine j_iconst dX12_person_11 ?_
    refine r_cv2I dX12_person_12 cvX12_253 (by decide) (by first | assumption | exact hsh _ _ rfl) (Nat.le_of_ble_eq_true rfl) (Nat.le_of_eq (Nat.zero_add _)) (Nat.le_of_eq (Nat.zero_add _)) (sm_thr0 hsh) ?_
    refine j_if_ne (tgt := 41) dX12_person_15 rfl (by first | omega | (split <;> omega)) (fun c_15 => by exact absurd c_15 (by decide)) (fun c_15 => ?_)
    refine j_aload_n dX12_person_18 rfl ?_
    refine j_iload_n dX12_person_19 rfl ?_
    refine j_iconst dX12_person_20 ?_
    refine j_bipush dX12_person_21 (by decide) ?_
    refine r_cs3I dX12_person_23 csX12_78 (Nat.le_of_ble_eq_true rfl) (Nat.le_of_eq (Nat.zero_add _)) (Nat.le_of_eq (Nat.zero_add _)) (sm_in1 (by omega) (by omega) (by omega) h2) ?_
    refine j_if_ne (tgt := 33) dX12_person_26 rfl (by first | omega | (split <;> omega)) (fun c_26 => ?_) (fun c_26 => by exact absurd c_26 (by decide))
    refine j_iconst dX12_person_33 ?_
    refine j_iconst dX12_person_34 ?_
    refine r_cv2I dX12_person_35 cvX12_253 (by decide) (by first | assumption | exact hsh _ _ rfl) (Nat.le_of_ble_eq_true rfl) (Nat.le_of_eq (Nat.zero_add _)) (Nat.le_of_eq (Nat.zero_add _)) (sm_thr0 hsh) ?_
    refine j_if_eq (tgt := 43) dX12_person_38 rfl (by first | omega | (split <;> omega)) (fun c_38 => ?_) (fun c_38 => by exact absurd c_38 (by decide))
    refine j_iload_n dX12_person_43 rfl ?_
    refine j_tswOut (tgt := 126) dX12_person_44 (by first | omega | (split <;> omega)) (by first | omega | (split <;> omega)) rfl ?_
    refine j_aload_n dX12_person_126 rfl ?_
    refine j_iload_n dX12_person_127 rfl ?_
    refine j_iload_n dX12_person_128 rfl ?_
    refine r_cv2J dX12_person_129 cvX12_68 (by decide) (by first | assumption | exact hsh _ _ rfl) (Nat.le_of_ble_eq_true rfl) (Nat.le_of_eq (Nat.zero_add _)) (Nat.le_of_eq (Nat.zero_add _)) (sm_of hsh hfx (by omega)) (hok.2.1 171 _) (fun b_129 => ?_)
    refine j_iret dX12_person_132 rfl ?_
    exact rI_of rfl rfl
  · refine j_aload_n dX12_person_5 rfl ?_
    refine j_aload_n dX12_person_6 rfl ?_
    refine j_iload_n dX12_person_7 rfl ?_
    refine r_cv1I dX12_person_8 cvX12_335 (by decide) (by first | assumption | exact hsh _ _ rfl) (Nat.le_of_ble_eq_true rfl) (Nat.le_of_eq (Nat.zero_add _)) (Nat.le_of_eq (Nat.zero_add _)) (sm_noP0 hsh hfx hok (by omega) hP h1) ?_
    refine j_iconst dX12_person_11 ?_
    refine r_cv2I dX12_person_12 cvX12_253 (by decide) (by first | assumption | exact hsh _ _ rfl) (Nat.le_of_ble_eq_true rfl) (Nat.le_of_eq (Nat.zero_add _)) (Nat.le_of_eq (Nat.zero_add _)) (sm_thr0 hsh) ?_
    refine j_if_ne (tgt := 41) dX12_person_15 rfl (by first | omega | (split <;> omega)) (fun c_15 => by exact absurd c_15 (by decide)) (fun c_15 => ?_)
    refine j_aload_n dX12_person_18 rfl ?_
    refine j_iload_n dX12_person_19 rfl ?_
    refine j_iconst dX12_person_20 ?_
    refine j_bipush dX12_person_21 (by decide) ?_
    refine r_cs3I dX12_person_23 csX12_78 (Nat.le_of_ble_eq_true rfl) (Nat.le_of_eq (Nat.zero_add _)) (Nat.le_of_eq (Nat.zero_add _)) (sm_in1 (by omega) (by omega) (by omega) h2) ?_
    refine j_if_ne (tgt := 33) dX12_person_26 rfl (by first | omega | (split <;> omega)) (fun c_26 => ?_) (fun c_26 => by exact absurd c_26 (by decide))
    refine j_iconst dX12_person_33 ?_
    refine j_iconst dX12_person_34 ?_
    refine r_cv2I dX12_person_35 cvX12_253 (by decide) (by first | assumption | exact hsh _ _ rfl) (Nat.le_of_ble_eq_true rfl) (Nat.le_of_eq (Nat.zero_add _)) (Nat.le_of_eq (Nat.zero_add _)) (sm_thr0 hsh) ?_
    refine j_if_eq (tgt := 43) dX12_person_38 rfl (by first | omega | (split <;> omega)) (fun c_38 => ?_) (fun c_38 => by exact absurd c_38 (by decide))
    refine j_iload_n dX12_person_43 rfl ?_
    refine j_tswOut (tgt := 126) dX12_person_44 (by first | omega | (split <;> omega)) (by first | omega | (split <;> omega)) rfl ?_
    refine j_aload_n dX12_person_126 rfl ?_
    refine j_iload_n dX12_person_127 rfl ?_
    refine j_iload_n dX12_person_128 rfl ?_
    refine r_cv2J dX12_person_129 cvX12_68 (by decide) (by first | assumption | exact hsh _ _ rfl) (Nat.le_of_ble_eq_true rfl) (Nat.le_of_eq (Nat.zero_add _)) (Nat.le_of_eq (Nat.zero_add _)) (sm_of hsh hfx (by omega)) (hok.2.1 171 _) (fun b_129 => ?_)
    refine j_iret dX12_person_132 rfl ?_
    exact rI_of rfl rfl
  · refine j_aload_n dX12_person_5 rfl ?_
    refine j_aload_n dX12_person_6 rfl ?_
    refine j_iload_n dX12_person_7 rfl ?_
    refine r_cv1I dX12_person_8 cvX12_335 (by decide) (by first | assumption | exact hsh _ _ rfl) (Nat.le_of_ble_eq_true rfl) (Nat.le_of_eq (Nat.zero_add _)) (Nat.le_of_eq (Nat.zero_add _)) (sm_noP0 hsh hfx hok (by omega) hP h1) ?_
    refine j_iconst dX12_person_11 ?_
    refine r_cv2I dX12_person_12 cvX12_253 (by decide) (by first | assumption | exact hsh _ _ rfl) (Nat.le_of_ble_eq_true rfl) (Nat.le_of_eq (Nat.zero_add _)) (Nat.le_of_eq (Nat.zero_add _)) (sm_thr0 hsh) ?_
    refine j_if_ne (tgt := 41) dX12_person_15 rfl (by first | omega | (split <;> omega)) (fun c_15 => by exact absurd c_15 (by decide)) (fun c_15 => ?_)
    refine j_aload_n dX12_person_18 rfl ?_
    refine j_iload_n dX12_person_19 rfl ?_
    refine j_iconst dX12_person_20 ?_
    refine j_bipush dX12_person_21 (by decide) ?_
    refine r_cs3I dX12_person_23 csX12_78 (Nat.le_of_ble_eq_true rfl) (Nat.le_of_eq (Nat.zero_add _)) (Nat.le_of_eq (Nat.zero_add _)) (sm_in1 (by omega) (by omega) (by omega) h2) ?_
    refine j_if_ne (tgt := 33) dX12_person_26 rfl (by first | omega | (split <;> omega)) (fun c_26 => ?_) (fun c_26 => by exact absurd c_26 (by decide))
    refine j_iconst dX12_person_33 ?_
    refine j_iconst dX12_person_34 ?_
    refine r_cv2I dX12_person_35 cvX12_253 (by decide) (by first | assumption | exact hsh _ _ rfl) (Nat.le_of_ble_eq_true rfl) (Nat.le_of_eq (Nat.zero_add _)) (Nat.le_of_eq (Nat.zero_add _)) (sm_thr0 hsh) ?_
    refine j_if_eq (tgt := 43) dX12_person_38 rfl (by first | omega | (split <;> omega)) (fun c_38 => ?_) (fun c_38 => by exact absurd c_38 (by decide))
    refine j_iload_n dX12_person_43 rfl ?_
    refine j_tswOut (tgt := 126) dX12_person_44 (by first | omega | (split <;> omega)) (by first | omega | (split <;> omega)) rfl ?_
    refine j_aload_n dX12_person_126 rfl ?_
    refine j_iload_n dX12_person_127 rfl ?_
    refine j_iload_n dX12_person_128 rfl ?_
    refine r_cv2J dX12_person_129 cvX12_68 (by decide) (by first | assumption | exact hsh _ _ rfl) (Nat.le_of_ble_eq_true rfl) (Nat.le_of_eq (Nat.zero_add _)) (Nat.le_of_eq (Nat.zero_add _)) (sm_of hsh hfx (by omega)) (hok.2.1 171 _) (fun b_129 => ?_)
    refine j_iret dX12_person_132 rfl ?_
    exact rI_of rfl rfl
  · refine j_aload_n dX12_person_5 rfl ?_
    refine j_aload_n dX12_person_6 rfl ?_
    refine j_iload_n dX12_person_7 rfl ?_
    refine r_cv1I dX12_person_8 cvX12_335 (by decide) (by first | assumption | exact hsh _ _ rfl) (Nat.le_of_ble_eq_true rfl) (Nat.le_of_eq (Nat.zero_add _)) (Nat.le_of_eq (Nat.zero_add _)) (sm_noP0 hsh hfx hok (by omega) hP h1) ?_
    refine j_iconst dX12_person_11 ?_
    refine r_cv2I dX12_person_12 cvX12_253 (by decide) (by first | assumption | exact hsh _ _ rfl) (Nat.le_of_ble_eq_true rfl) (Nat.le_of_eq (Nat.zero_add _)) (Nat.le_of_eq (Nat.zero_add _)) (sm_thr0 hsh) ?_
    refine j_if_ne (tgt := 41) dX12_person_15 rfl (by first | omega | (split <;> omega)) (fun c_15 => by exact absurd c_15 (by decide)) (fun c_15 => ?_)
    refine j_aload_n dX12_person_18 rfl ?_
    refine j_iload_n dX12_person_19 rfl ?_
    refine j_iconst dX12_person_20 ?_
    refine j_bipush dX12_person_21 (by decide) ?_
    refine r_cs3I dX12_person_23 csX12_78 (Nat.le_of_ble_eq_true rfl) (Nat.le_of_eq (Nat.zero_add _)) (Nat.le_of_eq (Nat.zero_add _)) (sm_in1 (by omega) (by omega) (by omega) h2) ?_
    refine j_if_ne (tgt := 33) dX12_person_26 rfl (by first | omega | (split <;> omega)) (fun c_26 => ?_) (fun c_26 => by exact absurd c_26 (by decide))
    refine j_iconst dX12_person_33 ?_
    refine j_iconst dX12_person_34 ?_
    refine r_cv2I dX12_person_35 cvX12_253 (by decide) (by first | assumption | exact hsh _ _ rfl) (Nat.le_of_ble_eq_true rfl) (Nat.le_of_eq (Nat.zero_add _)) (Nat.le_of_eq (Nat.zero_add _)) (sm_thr0 hsh) ?_
    refine j_if_eq (tgt := 43) dX12_person_38 rfl (by first | omega | (split <;> omega)) (fun c_38 => ?_) (fun c_38 => by exact absurd c_38 (by decide))
    refine j_iload_n dX12_person_43 rfl ?_
    refine j_tswIn (tgt := 88) dX12_person_44 (by decide) (by decide) (by decide) rfl rfl ?_
    refine j_aload_n dX12_person_88 rfl ?_
    refine j_iload_n dX12_person_89 rfl ?_
    refine r_cv1I dX12_person_90 cvX12_296 (by decide) (by first | assumption | exact hsh _ _ rfl) (Nat.le_of_ble_eq_true rfl) (Nat.le_of_eq (Nat.zero_add _)) (Nat.le_of_eq (Nat.zero_add _)) (sm_isAlive hsh hfx (by omega)) ?_
    refine j_if_eq (tgt := 100) dX12_person_93 rfl (by first | omega | (split <;> omega)) (fun c_93 => ?_) (fun c_93 => ?_)
    · refine j_iconst dX12_person_100 ?_
      refine j_iret dX12_person_101 rfl ?_
      rw [ite0] at c_93
      unfold vPers
      rw [if_pos rfl]
      first | exact rI_of (if_neg c_93).symm rfl | exact rI_of (if_pos (Classical.not_not.1 c_93)).symm rfl
    · refine j_iconst dX12_person_96 ?_
      refine j_goto (tgt := 101) dX12_person_97 rfl ?_
      refine j_iret dX12_person_101 rfl ?_
      rw [ite0] at c_93
      unfold vPers
      rw [if_pos rfl]
      first | exact rI_of (if_neg c_93).symm rfl | exact rI_of (if_pos (Classical.not_not.1 c_93)).symm rfl
  · refine j_aload_n dX12_person_5 rfl ?_
    refine j_aload_n dX12_person_6 rfl ?_
    refine j_iload_n dX12_person_7 rfl ?_
    refine r_cv1I dX12_person_8 cvX12_335 (by decide) (by first | assumption | exact hsh _ _ rfl) (Nat.le_of_ble_eq_true rfl) (Nat.le_of_eq (Nat.zero_add _)) (Nat.le_of_eq (Nat.zero_add _)) (sm_noP0 hsh hfx hok (by omega) hP h1) ?_
    refine j_iconst dX12_person_11 ?_
    refine r_cv2I dX12_person_12 cvX12_253 (by decide) (by first | assumption | exact hsh _ _ rfl) (Nat.le_of_ble_eq_true rfl) (Nat.le_of_eq (Nat.zero_add _)) (Nat.le_of_eq (Nat.zero_add _)) (sm_thr0 hsh) ?_
    refine j_if_ne (tgt := 41) dX12_person_15 rfl (by first | omega | (split <;> omega)) (fun c_15 => by exact absurd c_15 (by decide)) (fun c_15 => ?_)
    refine j_aload_n dX12_person_18 rfl ?_
    refine j_iload_n dX12_person_19 rfl ?_
    refine j_iconst dX12_person_20 ?_
    refine j_bipush dX12_person_21 (by decide) ?_
    refine r_cs3I dX12_person_23 csX12_78 (Nat.le_of_ble_eq_true rfl) (Nat.le_of_eq (Nat.zero_add _)) (Nat.le_of_eq (Nat.zero_add _)) (sm_in1 (by omega) (by omega) (by omega) h2) ?_
    refine j_if_ne (tgt := 33) dX12_person_26 rfl (by first | omega | (split <;> omega)) (fun c_26 => ?_) (fun c_26 => by exact absurd c_26 (by decide))
    refine j_iconst dX12_person_33 ?_
    refine j_iconst dX12_person_34 ?_
    refine r_cv2I dX12_person_35 cvX12_253 (by decide) (by first | assumption | exact hsh _ _ rfl) (Nat.le_of_ble_eq_true rfl) (Nat.le_of_eq (Nat.zero_add _)) (Nat.le_of_eq (Nat.zero_add _)) (sm_thr0 hsh) ?_
    refine j_if_eq (tgt := 43) dX12_person_38 rfl (by first | omega | (split <;> omega)) (fun c_38 => ?_) (fun c_38 => by exact absurd c_38 (by decide))
    refine j_iload_n dX12_person_43 rfl ?_
    refine j_tswIn (tgt := 126) dX12_person_44 (by decide) (by decide) (by decide) rfl rfl ?_
    refine j_aload_n dX12_person_126 rfl ?_
    refine j_iload_n dX12_person_127 rfl ?_
    refine j_iload_n dX12_person_128 rfl ?_
    refine r_cv2J dX12_person_129 cvX12_68 (by decide) (by first | assumption | exact hsh _ _ rfl) (Nat.le_of_ble_eq_true rfl) (Nat.le_of_eq (Nat.zero_add _)) (Nat.le_of_eq (Nat.zero_add _)) (sm_of hsh hfx (by omega)) (hok.2.1 171 _) (fun b_129 => ?_)
    refine j_iret dX12_person_132 rfl ?_
    exact rI_of rfl rfl
  · refine j_aload_n dX12_person_5 rfl ?_
    refine j_aload_n dX12_person_6 rfl ?_
    refine j_iload_n dX12_person_7 rfl ?_
    refine r_cv1I dX12_person_8 cvX12_335 (by decide) (by first | assumption | exact hsh _ _ rfl) (Nat.le_of_ble_eq_true rfl) (Nat.le_of_eq (Nat.zero_add _)) (Nat.le_of_eq (Nat.zero_add _)) (sm_noP0 hsh hfx hok (by omega) hP h1) ?_
    refine j_iconst dX12_person_11 ?_
    refine r_cv2I dX12_person_12 cvX12_253 (by decide) (by first | assumption | exact hsh _ _ rfl) (Nat.le_of_ble_eq_true rfl) (Nat.le_of_eq (Nat.zero_add _)) (Nat.le_of_eq (Nat.zero_add _)) (sm_thr0 hsh) ?_
    refine j_if_ne (tgt := 41) dX12_person_15 rfl (by first | omega | (split <;> omega)) (fun c_15 => by exact absurd c_15 (by decide)) (fun c_15 => ?_)
    refine j_aload_n dX12_person_18 rfl ?_
    refine j_iload_n dX12_person_19 rfl ?_
    refine j_iconst dX12_person_20 ?_
    refine j_bipush dX12_person_21 (by decide) ?_
    refine r_cs3I dX12_person_23 csX12_78 (Nat.le_of_ble_eq_true rfl) (Nat.le_of_eq (Nat.zero_add _)) (Nat.le_of_eq (Nat.zero_add _)) (sm_in1 (by omega) (by omega) (by omega) h2) ?_
    refine j_if_ne (tgt := 33) dX12_person_26 rfl (by first | omega | (split <;> omega)) (fun c_26 => ?_) (fun c_26 => by exact absurd c_26 (by decide))
    refine j_iconst dX12_person_33 ?_
    refine j_iconst dX12_person_34 ?_
    refine r_cv2I dX12_person_35 cvX12_253 (by decide) (by first | assumption | exact hsh _ _ rfl) (Nat.le_of_ble_eq_true rfl) (Nat.le_of_eq (Nat.zero_add _)) (Nat.le_of_eq (Nat.zero_add _)) (sm_thr0 hsh) ?_
    refine j_if_eq (tgt := 43) dX12_person_38 rfl (by first | omega | (split <;> omega)) (fun c_38 => ?_) (fun c_38 => by exact absurd c_38 (by decide))
    refine j_iload_n dX12_person_43 rfl ?_
    refine j_tswIn (tgt := 126) dX12_person_44 (by decide) (by decide) (by decide) rfl rfl ?_
    refine j_aload_n dX12_person_126 rfl ?_
    refine j_iload_n dX12_person_127 rfl ?_
    refine j_iload_n dX12_person_128 rfl ?_
    refine r_cv2J dX12_person_129 cvX12_68 (by decide) (by first | assumption | exact hsh _ _ rfl) (Nat.le_of_ble_eq_true rfl) (Nat.le_of_eq (Nat.zero_add _)) (Nat.le_of_eq (Nat.zero_add _)) (sm_of hsh hfx (by omega)) (hok.2.1 171 _) (fun b_129 => ?_)
    refine j_iret dX12_person_132 rfl ?_
    exact rI_of rfl rfl
  · refine j_aload_n dX12_person_5 rfl ?_
    refine j_aload_n dX12_person_6 rfl ?_
    refine j_iload_n dX12_person_7 rfl ?_
    refine r_cv1I dX12_person_8 cvX12_335 (by decide) (by first | assumption | exact hsh _ _ rfl) (Nat.le_of_ble_eq_true rfl) (Nat.le_of_eq (Nat.zero_add _)) (Nat.le_of_eq (Nat.zero_add _)) (sm_noP0 hsh hfx hok (by omega) hP h1) ?_
    refine j_iconst dX12_person_11 ?_
    refine r_cv2I dX12_person_12 cvX12_253 (by decide) (by first | assumption | exact hsh _ _ rfl) (Nat.le_of_ble_eq_true rfl) (Nat.le_of_eq (Nat.zero_add _)) (Nat.le_of_eq (Nat.zero_add _)) (sm_thr0 hsh) ?_
    refine j_if_ne (tgt := 41) dX12_person_15 rfl (by first | omega | (split <;> omega)) (fun c_15 => by exact absurd c_15 (by decide)) (fun c_15 => ?_)
    refine j_aload_n dX12_person_18 rfl ?_
    refine j_iload_n dX12_person_19 rfl ?_
    refine j_iconst dX12_person_20 ?_
    refine j_bipush dX12_person_21 (by decide) ?_
    refine r_cs3I dX12_person_23 csX12_78 (Nat.le_of_ble_eq_true rfl) (Nat.le_of_eq (Nat.zero_add _)) (Nat.le_of_eq (Nat.zero_add _)) (sm_in1 (by omega) (by omega) (by omega) h2) ?_
    refine j_if_ne (tgt := 33) dX12_person_26 rfl (by first | omega | (split <;> omega)) (fun c_26 => ?_) (fun c_26 => by exact absurd c_26 (by decide))
    refine j_iconst dX12_person_33 ?_
    refine j_iconst dX12_person_34 ?_
    refine r_cv2I dX12_person_35 cvX12_253 (by decide) (by first | assumption | exact hsh _ _ rfl) (Nat.le_of_ble_eq_true rfl) (Nat.le_of_eq (Nat.zero_add _)) (Nat.le_of_eq (Nat.zero_add _)) (sm_thr0 hsh) ?_
    refine j_if_eq (tgt := 43) dX12_person_38 rfl (by first | omega | (split <;> omega)) (fun c_38 => ?_) (fun c_38 => by exact absurd c_38 (by decide))
    refine j_iload_n dX12_person_43 rfl ?_
    refine j_tswIn (tgt := 102) dX12_person_44 (by decide) (by decide) (by decide) rfl rfl ?_
    refine j_aload_n dX12_person_102 rfl ?_
    refine j_iload_n dX12_person_103 rfl ?_
    refine r_cv1I dX12_person_104 cvX12_338 (by decide) (by first | assumption | exact hsh _ _ rfl) (Nat.le_of_ble_eq_true rfl) (Nat.le_of_eq (Nat.zero_add _)) (Nat.le_of_eq (Nat.zero_add _)) (sm_netOf hsh hfx hP gp) ?_
    refine j_iret dX12_person_107 rfl ?_
    exact rI_of rfl rfl
  · refine j_aload_n dX12_person_5 rfl ?_
    refine j_aload_n dX12_person_6 rfl ?_
    refine j_iload_n dX12_person_7 rfl ?_
    refine r_cv1I dX12_person_8 cvX12_335 (by decide) (by first | assumption | exact hsh _ _ rfl) (Nat.le_of_ble_eq_true rfl) (Nat.le_of_eq (Nat.zero_add _)) (Nat.le_of_eq (Nat.zero_add _)) (sm_noP0 hsh hfx hok (by omega) hP h1) ?_
    refine j_iconst dX12_person_11 ?_
    refine r_cv2I dX12_person_12 cvX12_253 (by decide) (by first | assumption | exact hsh _ _ rfl) (Nat.le_of_ble_eq_true rfl) (Nat.le_of_eq (Nat.zero_add _)) (Nat.le_of_eq (Nat.zero_add _)) (sm_thr0 hsh) ?_
    refine j_if_ne (tgt := 41) dX12_person_15 rfl (by first | omega | (split <;> omega)) (fun c_15 => by exact absurd c_15 (by decide)) (fun c_15 => ?_)
    refine j_aload_n dX12_person_18 rfl ?_
    refine j_iload_n dX12_person_19 rfl ?_
    refine j_iconst dX12_person_20 ?_
    refine j_bipush dX12_person_21 (by decide) ?_
    refine r_cs3I dX12_person_23 csX12_78 (Nat.le_of_ble_eq_true rfl) (Nat.le_of_eq (Nat.zero_add _)) (Nat.le_of_eq (Nat.zero_add _)) (sm_in1 (by omega) (by omega) (by omega) h2) ?_
    refine j_if_ne (tgt := 33) dX12_person_26 rfl (by first | omega | (split <;> omega)) (fun c_26 => ?_) (fun c_26 => by exact absurd c_26 (by decide))
    refine j_iconst dX12_person_33 ?_
    refine j_iconst dX12_person_34 ?_
    refine r_cv2I dX12_person_35 cvX12_253 (by decide) (by first | assumption | exact hsh _ _ rfl) (Nat.le_of_ble_eq_true rfl) (Nat.le_of_eq (Nat.zero_add _)) (Nat.le_of_eq (Nat.zero_add _)) (sm_thr0 hsh) ?_
    refine j_if_eq (tgt := 43) dX12_person_38 rfl (by first | omega | (split <;> omega)) (fun c_38 => ?_) (fun c_38 => by exact absurd c_38 (by decide))
    refine j_iload_n dX12_person_43 rfl ?_
    refine j_tswIn (tgt := 108) dX12_person_44 (by decide) (by decide) (by decide) rfl rfl ?_
    refine j_aload_n dX12_person_108 rfl ?_
    refine j_iload_n dX12_person_109 rfl ?_
    refine r_cv1I dX12_person_110 cvX12_341 (by decide) (by first | assumption | exact hsh _ _ rfl) (Nat.le_of_ble_eq_true rfl) (Nat.le_of_eq (Nat.zero_add _)) (Nat.le_of_eq (Nat.zero_add _)) (sm_worstDay hsh hfx gp) ?_
    refine j_iret dX12_person_113 rfl ?_
    exact rI_of rfl rfl
  · refine j_aload_n dX12_person_5 rfl ?_
    refine j_aload_n dX12_person_6 rfl ?_
    refine j_iload_n dX12_person_7 rfl ?_
    refine r_cv1I dX12_person_8 cvX12_335 (by decide) (by first | assumption | exact hsh _ _ rfl) (Nat.le_of_ble_eq_true rfl) (Nat.le_of_eq (Nat.zero_add _)) (Nat.le_of_eq (Nat.zero_add _)) (sm_noP0 hsh hfx hok (by omega) hP h1) ?_
    refine j_iconst dX12_person_11 ?_
    refine r_cv2I dX12_person_12 cvX12_253 (by decide) (by first | assumption | exact hsh _ _ rfl) (Nat.le_of_ble_eq_true rfl) (Nat.le_of_eq (Nat.zero_add _)) (Nat.le_of_eq (Nat.zero_add _)) (sm_thr0 hsh) ?_
    refine j_if_ne (tgt := 41) dX12_person_15 rfl (by first | omega | (split <;> omega)) (fun c_15 => by exact absurd c_15 (by decide)) (fun c_15 => ?_)
    refine j_aload_n dX12_person_18 rfl ?_
    refine j_iload_n dX12_person_19 rfl ?_
    refine j_iconst dX12_person_20 ?_
    refine j_bipush dX12_person_21 (by decide) ?_
    refine r_cs3I dX12_person_23 csX12_78 (Nat.le_of_ble_eq_true rfl) (Nat.le_of_eq (Nat.zero_add _)) (Nat.le_of_eq (Nat.zero_add _)) (sm_in1 (by omega) (by omega) (by omega) h2) ?_
    refine j_if_ne (tgt := 33) dX12_person_26 rfl (by first | omega | (split <;> omega)) (fun c_26 => ?_) (fun c_26 => by exact absurd c_26 (by decide))
    refine j_iconst dX12_person_33 ?_
    refine j_iconst dX12_person_34 ?_
    refine r_cv2I dX12_person_35 cvX12_253 (by decide) (by first | assumption | exact hsh _ _ rfl) (Nat.le_of_ble_eq_true rfl) (Nat.le_of_eq (Nat.zero_add _)) (Nat.le_of_eq (Nat.zero_add _)) (sm_thr0 hsh) ?_
    refine j_if_eq (tgt := 43) dX12_person_38 rfl (by first | omega | (split <;> omega)) (fun c_38 => ?_) (fun c_38 => by exact absurd c_38 (by decide))
    refine j_iload_n dX12_person_43 rfl ?_
    refine j_tswIn (tgt := 114) dX12_person_44 (by decide) (by decide) (by decide) rfl rfl ?_
    refine j_aload_n dX12_person_114 rfl ?_
    refine j_iload_n dX12_person_115 rfl ?_
    refine r_cv1I dX12_person_116 cvX12_344 (by decide) (by first | assumption | exact hsh _ _ rfl) (Nat.le_of_ble_eq_true rfl) (Nat.le_of_eq (Nat.zero_add _)) (Nat.le_of_eq (Nat.zero_add _)) (sm_willOf hsh hfx hP gp) ?_
    refine j_iret dX12_person_119 rfl ?_
    exact rI_of rfl rfl
  · refine j_aload_n dX12_person_5 rfl ?_
    refine j_aload_n dX12_person_6 rfl ?_
    refine j_iload_n dX12_person_7 rfl ?_
    refine r_cv1I dX12_person_8 cvX12_335 (by decide) (by first | assumption | exact hsh _ _ rfl) (Nat.le_of_ble_eq_true rfl) (Nat.le_of_eq (Nat.zero_add _)) (Nat.le_of_eq (Nat.zero_add _)) (sm_noP0 hsh hfx hok (by omega) hP h1) ?_
    refine j_iconst dX12_person_11 ?_
    refine r_cv2I dX12_person_12 cvX12_253 (by decide) (by first | assumption | exact hsh _ _ rfl) (Nat.le_of_ble_eq_true rfl) (Nat.le_of_eq (Nat.zero_add _)) (Nat.le_of_eq (Nat.zero_add _)) (sm_thr0 hsh) ?_
    refine j_if_ne (tgt := 41) dX12_person_15 rfl (by first | omega | (split <;> omega)) (fun c_15 => by exact absurd c_15 (by decide)) (fun c_15 => ?_)
    refine j_aload_n dX12_person_18 rfl ?_
    refine j_iload_n dX12_person_19 rfl ?_
    refine j_iconst dX12_person_20 ?_
    refine j_bipush dX12_person_21 (by decide) ?_
    refine r_cs3I dX12_person_23 csX12_78 (Nat.le_of_ble_eq_true rfl) (Nat.le_of_eq (Nat.zero_add _)) (Nat.le_of_eq (Nat.zero_add _)) (sm_in1 (by omega) (by omega) (by omega) h2) ?_
    refine j_if_ne (tgt := 33) dX12_person_26 rfl (by first | omega | (split <;> omega)) (fun c_26 => ?_) (fun c_26 => by exact absurd c_26 (by decide))
    refine j_iconst dX12_person_33 ?_
    refine j_iconst dX12_person_34 ?_
    refine r_cv2I dX12_person_35 cvX12_253 (by decide) (by first | assumption | exact hsh _ _ rfl) (Nat.le_of_ble_eq_true rfl) (Nat.le_of_eq (Nat.zero_add _)) (Nat.le_of_eq (Nat.zero_add _)) (sm_thr0 hsh) ?_
    refine j_if_eq (tgt := 43) dX12_person_38 rfl (by first | omega | (split <;> omega)) (fun c_38 => ?_) (fun c_38 => by exact absurd c_38 (by decide))
    refine j_iload_n dX12_person_43 rfl ?_
    refine j_tswIn (tgt := 120) dX12_person_44 (by decide) (by decide) (by decide) rfl rfl ?_
    refine j_aload_n dX12_person_120 rfl ?_
    refine j_iload_n dX12_person_121 rfl ?_
    refine r_cv1I dX12_person_122 cvX12_347 (by decide) (by first | assumption | exact hsh _ _ rfl) (Nat.le_of_ble_eq_true rfl) (Nat.le_of_eq (Nat.zero_add _)) (Nat.le_of_eq (Nat.zero_add _)) (sm_heirsOf hsh hfx hP hH gp2) ?_
    refine j_iret dX12_person_125 rfl ?_
    exact rI_of rfl rfl
theorem mp_cost_1 (hsh : ShOK sh) (hfx : FxOK F) (hW : WF (I 171)) {p n : Int} (j1 : jin p) (h2 : ¬ gP (I 171) p) : jS G (d + 6) mX12_cost [jR (some 170), jI p, jI n] (sh, I, F) 0 0 (rI (0) (sh, jup I 170 0 1, F)) := by
  have hP : WfP (I 171) := hW.1
  have g8 : aPe (I 171) ≤ 8 := hP.2
  refine jS_go [some (jR (some 170)), some (jI p), some (jI n), none, none] (by decide +kernel) rfl (by simp [jone]) (Nat.le_of_ble_eq_true rfl) rfl (fun hok => ?_)
  refine j_aload_n dX12_cost_0 rfl ?_
  refine j_iconst dX12_cost_1 ?_
  refine r_putI dX12_cost_2 flX12_3 rfl (by first | assumption | exact hsh _ _ rfl) (by first | omega | (split <;> omega)) (fun q => by cases q) ?_
  skip
  have hok1 : jzok (sh, jup I 170 0 0, F) := jzok_I hok jin_lit0
  have hw0 : (jup I 170 0 0) 171 = I 171 := jup_ne _ _ _ (by decide)
  clear hok
  rw [← jup_up I 170 0 0 1]
  rw [← hw0] at hP h2
  try rw [← hw0]
  obtain ⟨I1, hI1⟩ : ∃ J, J = jup I 170 0 0 := ⟨_, rfl⟩
  rw [← hI1] at hok1 hw0 hP h2 ⊢
  have hok := hok1
  refine j_aload_n dX12_cost_5 rfl ?_
  refine j_aload_n dX12_cost_6 rfl ?_
  refine j_iload_n dX12_cost_7 rfl ?_
  refine r_cv1I dX12_cost_8 cvX12_335 (by decide) (by first | assumption | exact hsh _ _ rfl) (Nat.le_of_ble_eq_true rfl) (Nat.le_of_eq (Nat.zero_add _)) (Nat.le_of_eq (Nat.zero_add _)) (sm_noP1 hsh hfx hok (by omega) hP h2) ?_
  refine j_iconst dX12_cost_11 ?_
  refine r_cv2I dX12_cost_12 cvX12_253 (by decide) (by first | assumption | exact hsh _ _ rfl) (Nat.le_of_ble_eq_true rfl) (Nat.le_of_eq (Nat.zero_add _)) (Nat.le_of_eq (Nat.zero_add _)) (sm_thr1 hsh (by omega)) ?_
  refine j_if_ne (tgt := 41) dX12_cost_15 rfl (by first | omega | (split <;> omega)) (fun c_15 => ?_) (fun c_15 => by exact absurd c_15 (by decide))
  refine j_iconst dX12_cost_41 ?_
  refine j_iret dX12_cost_42 rfl ?_
  exact rI_of rfl rfl
theorem mp_cost_2 (hsh : ShOK sh) (hfx : FxOK F) (hW : WF (I 171)) {p n : Int} (h1 : gP (I 171) p) (j2 : jin n) (h2 : ¬ (0 ≤ n ∧ n ≤ 60)) : jS G (d + 6) mX12_cost [jR (some 170), jI p, jI n] (sh, I, F) 0 0 (rI (0) (sh, jup I 170 0 2, F)) := by
  have hP : WfP (I 171) := hW.1
  have g8 : aPe (I 171) ≤ 8 := hP.2
  have gp : 0 ≤ p ∧ p < 8 := by have := h1.1; have := h1.2; omega
  refine jS_go [some (jR (some 170)), some (jI p), some (jI n), none, none] (by decide +kernel) rfl (by simp [jone]) (Nat.le_of_ble_eq_true rfl) rfl (fun hok => ?_)
  refine j_aload_n dX12_cost_0 rfl ?_
  refine j_iconst dX12_cost_1 ?_
  refine r_putI dX12_cost_2 flX12_3 rfl (by first | assumption | exact hsh _ _ rfl) (by first | omega | (split <;> omega)) (fun q => by cases q) ?_
  skip
  have hok1 : jzok (sh, jup I 170 0 0, F) := jzok_I hok jin_lit0
  have hw0 : (jup I 170 0 0) 171 = I 171 := jup_ne _ _ _ (by decide)
  clear hok
  rw [← jup_up I 170 0 0 2]
  rw [← hw0] at hP h1
  try rw [← hw0]
  obtain ⟨I1, hI1⟩ : ∃ J, J = jup I 170 0 0 := ⟨_, rfl⟩
  rw [← hI1] at hok1 hw0 hP h1 ⊢
  have hok := hok1
  refine j_aload_n dX12_cost_5 rfl ?_
  refine j_aload_n dX12_cost_6 rfl ?_
  refine j_iload_n dX12_cost_7 rfl ?_
  refine r_cv1I dX12_cost_8 cvX12_335 (by decide) (by first | assumption | exact hsh _ _ rfl) (Nat.le_of_ble_eq_true rfl) (Nat.le_of_eq (Nat.zero_add _)) (Nat.le_of_eq (Nat.zero_add _)) (sm_noP0 hsh hfx hok (by omega) hP h1) ?_
  refine j_iconst dX12_cost_11 ?_
  refine r_cv2I dX12_cost_12 cvX12_253 (by decide) (by first | assumption | exact hsh _ _ rfl) (Nat.le_of_ble_eq_true rfl) (Nat.le_of_eq (Nat.zero_add _)) (Nat.le_of_eq (Nat.zero_add _)) (sm_thr0 hsh) ?_
  refine j_if_ne (tgt := 41) dX12_cost_15 rfl (by first | omega | (split <;> omega)) (fun c_15 => by exact absurd c_15 (by decide)) (fun c_15 => ?_)
  refine j_aload_n dX12_cost_18 rfl ?_
  refine j_iload_n dX12_cost_19 rfl ?_
  refine j_iconst dX12_cost_20 ?_
  refine j_bipush dX12_cost_21 (by decide) ?_
  refine r_cs3I dX12_cost_23 csX12_78 (Nat.le_of_ble_eq_true rfl) (Nat.le_of_eq (Nat.zero_add _)) (Nat.le_of_eq (Nat.zero_add _)) (sm_in0 (by omega) (by omega) (by omega) h2) ?_
  refine j_if_ne (tgt := 33) dX12_cost_26 rfl (by first | omega | (split <;> omega)) (fun c_26 => by exact absurd c_26 (by decide)) (fun c_26 => ?_)
  refine j_iconst dX12_cost_29 ?_
  refine j_goto (tgt := 34) dX12_cost_30 rfl ?_
  refine j_iconst dX12_cost_34 ?_
  refine r_cv2I dX12_cost_35 cvX12_253 (by decide) (by first | assumption | exact hsh _ _ rfl) (Nat.le_of_ble_eq_true rfl) (Nat.le_of_eq (Nat.zero_add _)) (Nat.le_of_eq (Nat.zero_add _)) (sm_thr1 hsh (by omega)) ?_
  refine j_if_eq (tgt := 43) dX12_cost_38 rfl (by first | omega | (split <;> omega)) (fun c_38 => by exact absurd c_38 (by decide)) (fun c_38 => ?_)
  refine j_iconst dX12_cost_41 ?_
  refine j_iret dX12_cost_42 rfl ?_
  exact rI_of rfl rfl
theorem mp_fault (hsh : ShOK sh) : jS G d mX12_fault [jR (some 170)] (sh, I, F) 0 0 (rI (I 170 14) (sh, jup I 170 0 0, F)) := by
  have q : jup I 170 0 0 170 14 = I 170 14 := jup_row _ _ _ (by decide)
  refine jS_go [some (jR (some 170))] (by decide +kernel) rfl (by simp [jone]) (Nat.le_of_ble_eq_true rfl) rfl (fun hok => ?_)
  refine j_aload_n dX12_fault_0 rfl ?_
  refine j_iconst dX12_fault_1 ?_
  refine r_putI dX12_fault_2 flX12_3 rfl (by first | assumption | exact hsh _ _ rfl) (by first | omega | (split <;> omega)) (fun q => by cases q) ?_
  refine j_aload_n dX12_fault_5 rfl ?_
  refine r_getIE dX12_fault_6 flX12_33 (by first | assumption | exact hsh _ _ rfl) q (fun b_6 => ?_)
  refine j_iret dX12_fault_9 rfl ?_
  exact rI_of rfl rfl
theorem mp_seed (hsh : ShOK sh) (hfx : FxOK F) {n : Int} (hn : jin n) : jS G d mX12_seed [jR (some 170), jI n] (sh, I, F) 0 0 (rI (I 171 11) (sh, jup (jup I 170 0 0) 171 11 n, F)) := by
  have q : jup I 170 0 0 171 11 = I 171 11 := jup_cell _ _ _ _ (by decide)
  refine jS_go [some (jR (some 170)), some (jI n), none] (by decide +kernel) rfl (by simp [jone]) (Nat.le_of_ble_eq_true rfl) rfl (fun hok => ?_)
  refine j_aload_n dX12_seed_0 rfl ?_
  refine j_iconst dX12_seed_1 ?_
  refine r_putI dX12_seed_2 flX12_3 rfl (by first | assumption | exact hsh _ _ rfl) (by first | omega | (split <;> omega)) (fun q => by cases q) ?_
  refine j_aload_n dX12_seed_5 rfl ?_
  refine r_getS dX12_seed_6 flX12_13 (by first | assumption | exact hsh _ _ rfl) (fx_170_1 hfx) ?_
  refine j_bipush dX12_seed_9 (by decide) ?_
  refine r_ialoadE dX12_seed_11 (by first | assumption | exact hsh _ _ rfl) (by first | omega | (split <;> omega)) (by first | omega | (split <;> omega)) q (fun b_11 => ?_)
  refine j_istore_n dX12_seed_12 (by decide) ?_
  refine j_aload_n dX12_seed_13 rfl ?_
  refine r_getS dX12_seed_14 flX12_13 (by first | assumption | exact hsh _ _ rfl) (fx_170_1 hfx) ?_
  refine j_bipush dX12_seed_17 (by decide) ?_
  refine j_iload_n dX12_seed_19 rfl ?_
  refine r_iastore dX12_seed_20 (by first | assumption | exact hsh _ _ rfl) (by first | omega | (split <;> omega)) (by first | omega | (split <;> omega)) (by first | omega | (split <;> omega)) ?_
  refine j_iload_n dX12_seed_21 rfl ?_
  refine j_iret dX12_seed_22 rfl ?_
  exact rI_of rfl rfl
theorem mp_count (hsh : ShOK sh) (hfx : FxOK F) (hW : WF (I 171)) {k : Int} (hk : jin k) : jS G (d + 6) mX12_count [jR (some 170), jI k] (sh, I, F) 0 0 (rI (vCount (I 171) (I 170 7) k) (sh, jup I 170 0 0, F)) := by
  have hP : WfP (I 171) := hW.1
  have g8 : aPe (I 171) ≤ 8 := hP.2
  refine jS_go [some (jR (some 170)), some (jI k)] (by decide +kernel) rfl (by simp [jone]) (Nat.le_of_ble_eq_true rfl) rfl (fun hok => ?_)
  refine j_aload_n dX12_count_0 rfl ?_
  refine j_iconst dX12_count_1 ?_
  refine r_putI dX12_count_2 flX12_3 rfl (by first | assumption | exact hsh _ _ rfl) (by first | omega | (split <;> omega)) (fun q => by cases q) ?_
  skip
  have hok1 : jzok (sh, jup I 170 0 0, F) := jzok_I hok jin_lit0
  have hw0 : (jup I 170 0 0) 171 = I 171 := jup_ne _ _ _ (by decide)
  clear hok
  rw [← hw0] at hP
  try rw [← hw0]
  obtain ⟨I1, hI1⟩ : ∃ J, J = jup I 170 0 0 := ⟨_, rfl⟩
  rw [← hI1] at hok1 hw0 hP ⊢
  have hok := hok1
  have b7 : I1 170 7 = I 170 7 := by rw [hI1, jup_row _ _ _ (by decide)]
  by_cases e : 0 ≤ k ∧ k ≤ 14
  · rcases (show k = 0 ∨ k = 1 ∨ k = 2 ∨ k = 3 ∨ k = 4 ∨ k = 5 ∨ k = 6 ∨ k = 7 ∨ k = 8 ∨ k = 9 ∨ k = 10 ∨ k = 11 ∨ k = 12 ∨ k = 13 ∨ k = 14 by omega) with rfl | rfl | rfl | rfl | rfl | rfl | rfl | rfl | rfl | rfl | rfl | rfl | rfl | rfl | rfl
    · refine j_iload_n dX12_count_5 rfl ?_
      refine j_tswIn (tgt := 80) dX12_count_6 (by decide) (by decide) (by decide) rfl rfl ?_
      refine j_aload_n dX12_count_80 rfl ?_
      refine r_cv0J dX12_count_81 cvX12_74 (by decide) (by first | assumption | exact hsh _ _ rfl) (Nat.le_of_ble_eq_true rfl) (Nat.le_of_eq (Nat.zero_add _)) (Nat.le_of_eq (Nat.zero_add _)) (sm_people hsh hfx) (hok.2.1 171 _) (fun b_81 => ?_)
      refine j_iret dX12_count_84 rfl ?_
      exact rI_of rfl rfl
    · refine j_iload_n dX12_count_5 rfl ?_
      refine j_tswIn (tgt := 85) dX12_count_6 (by decide) (by decide) (by decide) rfl rfl ?_
      refine j_aload_n dX12_count_85 rfl ?_
      refine r_cv0I dX12_count_86 cvX12_393 (by decide) (by first | assumption | exact hsh _ _ rfl) (Nat.le_of_ble_eq_true rfl) (Nat.le_of_eq (Nat.zero_add _)) (Nat.le_of_eq (Nat.zero_add _)) (sm_alive hsh hfx hP) ?_
      refine j_iret dX12_count_89 rfl ?_
      exact rI_of rfl rfl
    · refine j_iload_n dX12_count_5 rfl ?_
      refine j_tswIn (tgt := 90) dX12_count_6 (by decide) (by decide) (by decide) rfl rfl ?_
      refine j_aload_n dX12_count_90 rfl ?_
      refine r_getS dX12_count_91 flX12_13 (by first | assumption | exact hsh _ _ rfl) (fx_170_1 hfx) ?_
      refine j_iconst dX12_count_94 ?_
      refine r_iaload dX12_count_95 (by first | assumption | exact hsh _ _ rfl) (by first | omega | (split <;> omega)) (by first | omega | (split <;> omega)) (fun b_95 => ?_)
      refine j_iret dX12_count_96 rfl ?_
      exact rI_of rfl rfl
    · refine j_iload_n dX12_count_5 rfl ?_
      refine j_tswIn (tgt := 97) dX12_count_6 (by decide) (by decide) (by decide) rfl rfl ?_
      refine j_aload_n dX12_count_97 rfl ?_
      refine r_getS dX12_count_98 flX12_13 (by first | assumption | exact hsh _ _ rfl) (fx_170_1 hfx) ?_
      refine j_iconst dX12_count_101 ?_
      refine r_iaload dX12_count_102 (by first | assumption | exact hsh _ _ rfl) (by first | omega | (split <;> omega)) (by first | omega | (split <;> omega)) (fun b_102 => ?_)
      refine j_iconst dX12_count_103 ?_
      refine j_icmp_ne (tgt := 118) dX12_count_104 rfl (by first | omega | (split <;> omega)) (by first | omega | (split <;> omega)) (fun c_104 => ?_) (fun c_104 => ?_)
      · refine j_iconst dX12_count_118 ?_
        refine j_iret dX12_count_119 rfl ?_
        first | exact rI_of (if_pos (Classical.not_not.1 c_104)).symm rfl | exact rI_of (if_neg c_104).symm rfl
      · refine j_aload_n dX12_count_107 rfl ?_
        refine r_getS dX12_count_108 flX12_13 (by first | assumption | exact hsh _ _ rfl) (fx_170_1 hfx) ?_
        refine j_sipush dX12_count_111 (by decide) ?_
        refine r_iaload dX12_count_114 (by first | assumption | exact hsh _ _ rfl) (by first | omega | (split <;> omega)) (by first | omega | (split <;> omega)) (fun b_114 => ?_)
        refine j_goto (tgt := 119) dX12_count_115 rfl ?_
        refine j_iret dX12_count_119 rfl ?_
        first | exact rI_of (if_pos (Classical.not_not.1 c_104)).symm rfl | exact rI_of (if_neg c_104).symm rfl
    · refine j_iload_n dX12_count_5 rfl ?_
      refine j_tswIn (tgt := 159) dX12_count_6 (by decide) (by decide) (by decide) rfl rfl ?_
      refine j_iload_n dX12_count_159 rfl ?_
      refine j_iconst dX12_count_160 ?_
      refine j_bipush dX12_count_161 (by decide) ?_
      refine r_cs3I dX12_count_163 csX12_78 (Nat.le_of_ble_eq_true rfl) (Nat.le_of_eq (Nat.zero_add _)) (Nat.le_of_eq (Nat.zero_add _)) (sm_in1 (by decide) (by decide) (by decide) (by decide)) ?_
      refine j_if_eq (tgt := 180) dX12_count_166 rfl (by first | omega | (split <;> omega)) (fun c_166 => by exact absurd c_166 (by decide)) (fun c_166 => ?_)
      refine j_aload_n dX12_count_169 rfl ?_
      refine r_getS dX12_count_170 flX12_13 (by first | assumption | exact hsh _ _ rfl) (fx_170_1 hfx) ?_
      refine j_iload_n dX12_count_173 rfl ?_
      refine j_iconst dX12_count_174 ?_
      refine j_isub dX12_count_175 ?_
      refine r_iaload dX12_count_176 (by first | assumption | exact hsh _ _ rfl) (by first | omega | (split <;> omega)) (by first | omega | (split <;> omega)) (fun b_176 => ?_)
      refine j_goto (tgt := 181) dX12_count_177 rfl ?_
      refine j_iret dX12_count_181 rfl ?_
      exact rI_of rfl rfl
    · refine j_iload_n dX12_count_5 rfl ?_
      refine j_tswIn (tgt := 159) dX12_count_6 (by decide) (by decide) (by decide) rfl rfl ?_
      refine j_iload_n dX12_count_159 rfl ?_
      refine j_iconst dX12_count_160 ?_
      refine j_bipush dX12_count_161 (by decide) ?_
      refine r_cs3I dX12_count_163 csX12_78 (Nat.le_of_ble_eq_true rfl) (Nat.le_of_eq (Nat.zero_add _)) (Nat.le_of_eq (Nat.zero_add _)) (sm_in1 (by decide) (by decide) (by decide) (by decide)) ?_
      refine j_if_eq (tgt := 180) dX12_count_166 rfl (by first | omega | (split <;> omega)) (fun c_166 => by exact absurd c_166 (by decide)) (fun c_166 => ?_)
      refine j_aload_n dX12_count_169 rfl ?_
      refine r_getS dX12_count_170 flX12_13 (by first | assumption | exact hsh _ _ rfl) (fx_170_1 hfx) ?_
      refine j_iload_n dX12_count_173 rfl ?_
      refine j_iconst dX12_count_174 ?_
      refine j_isub dX12_count_175 ?_
      refine r_iaload dX12_count_176 (by first | assumption | exact hsh _ _ rfl) (by first | omega | (split <;> omega)) (by first | omega | (split <;> omega)) (fun b_176 => ?_)
      refine j_goto (tgt := 181) dX12_count_177 rfl ?_
      refine j_iret dX12_count_181 rfl ?_
      exact rI_of rfl rfl
    · refine j_iload_n dX12_count_5 rfl ?_
      refine j_tswIn (tgt := 159) dX12_count_6 (by decide) (by decide) (by decide) rfl rfl ?_
      refine j_iload_n dX12_count_159 rfl ?_
      refine j_iconst dX12_count_160 ?_
      refine j_bipush dX12_count_161 (by decide) ?_
      refine r_cs3I dX12_count_163 csX12_78 (Nat.le_of_ble_eq_true rfl) (Nat.le_of_eq (Nat.zero_add _)) (Nat.le_of_eq (Nat.zero_add _)) (sm_in1 (by decide) (by decide) (by decide) (by decide)) ?_
      refine j_if_eq (tgt := 180) dX12_count_166 rfl (by first | omega | (split <;> omega)) (fun c_166 => by exact absurd c_166 (by decide)) (fun c_166 => ?_)
      refine j_aload_n dX12_count_169 rfl ?_
      refine r_getS dX12_count_170 flX12_13 (by first | assumption | exact hsh _ _ rfl) (fx_170_1 hfx) ?_
      refine j_iload_n dX12_count_173 rfl ?_
      refine j_iconst dX12_count_174 ?_
      refine j_isub dX12_count_175 ?_
      refine r_iaload dX12_count_176 (by first | assumption | exact hsh _ _ rfl) (by first | omega | (split <;> omega)) (by first | omega | (split <;> omega)) (fun b_176 => ?_)
      refine j_goto (tgt := 181) dX12_count_177 rfl ?_
      refine j_iret dX12_count_181 rfl ?_
      exact rI_of rfl rfl
    · refine j_iload_n dX12_count_5 rfl ?_
      refine j_tswIn (tgt := 159) dX12_count_6 (by decide) (by decide) (by decide) rfl rfl ?_
      refine j_iload_n dX12_count_159 rfl ?_
      refine j_iconst dX12_count_160 ?_
      refine j_bipush dX12_count_161 (by decide) ?_
      refine r_cs3I dX12_count_163 csX12_78 (Nat.le_of_ble_eq_true rfl) (Nat.le_of_eq (Nat.zero_add _)) (Nat.le_of_eq (Nat.zero_add _)) (sm_in1 (by decide) (by decide) (by decide) (by decide)) ?_
      refine j_if_eq (tgt := 180) dX12_count_166 rfl (by first | omega | (split <;> omega)) (fun c_166 => by exact absurd c_166 (by decide)) (fun c_166 => ?_)
      refine j_aload_n dX12_count_169 rfl ?_
      refine r_getS dX12_count_170 flX12_13 (by first | assumption | exact hsh _ _ rfl) (fx_170_1 hfx) ?_
      refine j_iload_n dX12_count_173 rfl ?_
      refine j_iconst dX12_count_174 ?_
      refine j_isub dX12_count_175 ?_
      refine r_iaload dX12_count_176 (by first | assumption | exact hsh _ _ rfl) (by first | omega | (split <;> omega)) (by first | omega | (split <;> omega)) (fun b_176 => ?_)
      refine j_goto (tgt := 181) dX12_count_177 rfl ?_
      refine j_iret dX12_count_181 rfl ?_
      exact rI_of rfl rfl
    · refine j_iload_n dX12_count_5 rfl ?_
      refine j_tswIn (tgt := 159) dX12_count_6 (by decide) (by decide) (by decide) rfl rfl ?_
      refine j_iload_n dX12_count_159 rfl ?_
      refine j_iconst dX12_count_160 ?_
      refine j_bipush dX12_count_161 (by decide) ?_
      refine r_cs3I dX12_count_163 csX12_78 (Nat.le_of_ble_eq_true rfl) (Nat.le_of_eq (Nat.zero_add _)) (Nat.le_of_eq (Nat.zero_add _)) (sm_in1 (by decide) (by decide) (by decide) (by decide)) ?_
      refine j_if_eq (tgt := 180) dX12_count_166 rfl (by first | omega | (split <;> omega)) (fun c_166 => by exact absurd c_166 (by decide)) (fun c_166 => ?_)
      refine j_aload_n dX12_count_169 rfl ?_
      refine r_getS dX12_count_170 flX12_13 (by first | assumption | exact hsh _ _ rfl) (fx_170_1 hfx) ?_
      refine j_iload_n dX12_count_173 rfl ?_
      refine j_iconst dX12_count_174 ?_
      refine j_isub dX12_count_175 ?_
      refine r_iaload dX12_count_176 (by first | assumption | exact hsh _ _ rfl) (by first | omega | (split <;> omega)) (by first | omega | (split <;> omega)) (fun b_176 => ?_)
      refine j_goto (tgt := 181) dX12_count_177 rfl ?_
      refine j_iret dX12_count_181 rfl ?_
      exact rI_of rfl rfl
    · refine j_iload_n dX12_count_5 rfl ?_
      refine j_tswIn (tgt := 120) dX12_count_6 (by decide) (by decide) (by decide) rfl rfl ?_
      refine j_aload_n dX12_count_120 rfl ?_
      refine r_cv0I dX12_count_121 cvX12_312 (by decide) (by first | assumption | exact hsh _ _ rfl) (Nat.le_of_ble_eq_true rfl) (Nat.le_of_eq (Nat.zero_add _)) (Nat.le_of_eq (Nat.zero_add _)) (sm_allAccounts hsh hfx hP) ?_
      refine j_iret dX12_count_124 rfl ?_
      exact rI_of rfl rfl
    · refine j_iload_n dX12_count_5 rfl ?_
      refine j_tswIn (tgt := 125) dX12_count_6 (by decide) (by decide) (by decide) rfl rfl ?_
      refine j_aload_n dX12_count_125 rfl ?_
      refine r_cv0I dX12_count_126 cvX12_417 (by decide) (by first | assumption | exact hsh _ _ rfl) (Nat.le_of_ble_eq_true rfl) (Nat.le_of_eq (Nat.zero_add _)) (Nat.le_of_eq (Nat.zero_add _)) (sm_allForged hsh hfx hP) ?_
      refine j_iret dX12_count_129 rfl ?_
      exact rI_of rfl rfl
    · refine j_iload_n dX12_count_5 rfl ?_
      refine j_tswIn (tgt := 130) dX12_count_6 (by decide) (by decide) (by decide) rfl rfl ?_
      refine j_aload_n dX12_count_130 rfl ?_
      refine r_getS dX12_count_131 flX12_13 (by first | assumption | exact hsh _ _ rfl) (fx_170_1 hfx) ?_
      refine j_bipush dX12_count_134 (by decide) ?_
      refine r_iaload dX12_count_136 (by first | assumption | exact hsh _ _ rfl) (by first | omega | (split <;> omega)) (by first | omega | (split <;> omega)) (fun b_136 => ?_)
      refine j_iret dX12_count_137 rfl ?_
      exact rI_of rfl rfl
    · refine j_iload_n dX12_count_5 rfl ?_
      refine j_tswIn (tgt := 138) dX12_count_6 (by decide) (by decide) (by decide) rfl rfl ?_
      refine j_aload_n dX12_count_138 rfl ?_
      refine r_getS dX12_count_139 flX12_13 (by first | assumption | exact hsh _ _ rfl) (fx_170_1 hfx) ?_
      refine j_bipush dX12_count_142 (by decide) ?_
      refine r_iaload dX12_count_144 (by first | assumption | exact hsh _ _ rfl) (by first | omega | (split <;> omega)) (by first | omega | (split <;> omega)) (fun b_144 => ?_)
      refine j_iret dX12_count_145 rfl ?_
      exact rI_of rfl rfl
    · refine j_iload_n dX12_count_5 rfl ?_
      refine j_tswIn (tgt := 146) dX12_count_6 (by decide) (by decide) (by decide) rfl rfl ?_
      refine j_aload_n dX12_count_146 rfl ?_
      refine r_getS dX12_count_147 flX12_13 (by first | assumption | exact hsh _ _ rfl) (fx_170_1 hfx) ?_
      refine j_bipush dX12_count_150 (by decide) ?_
      refine r_iaload dX12_count_152 (by first | assumption | exact hsh _ _ rfl) (by first | omega | (split <;> omega)) (by first | omega | (split <;> omega)) (fun b_152 => ?_)
      refine j_iret dX12_count_153 rfl ?_
      exact rI_of rfl rfl
    · refine j_iload_n dX12_count_5 rfl ?_
      refine j_tswIn (tgt := 154) dX12_count_6 (by decide) (by decide) (by decide) rfl rfl ?_
      refine j_aload_n dX12_count_154 rfl ?_
      refine r_getIE dX12_count_155 flX12_61 (by first | assumption | exact hsh _ _ rfl) b7 (fun b_155 => ?_)
      refine j_iret dX12_count_158 rfl ?_
      exact rI_of rfl rfl
  · have hv : vCount (I1 171) (I 170 7) k = -1 := by unfold vCount; rw [if_neg (by omega), if_neg (by omega), if_neg (by omega), if_neg (by omega), if_neg (by omega), if_neg (by omega), if_neg (by omega), if_neg (by omega), if_neg (by omega), if_neg (by omega), if_neg (by omega)]
    refine j_iload_n dX12_count_5 rfl ?_
    refine j_tswOut (tgt := 159) dX12_count_6 (by first | omega | (split <;> omega)) (by first | omega | (split <;> omega)) rfl ?_
    refine j_iload_n dX12_count_159 rfl ?_
    refine j_iconst dX12_count_160 ?_
    refine j_bipush dX12_count_161 (by decide) ?_
    refine r_cs3I dX12_count_163 csX12_78 (Nat.le_of_ble_eq_true rfl) (Nat.le_of_eq (Nat.zero_add _)) (Nat.le_of_eq (Nat.zero_add _)) (sm_in0 (by omega) (by decide) (by decide) (fun q => e (by omega))) ?_
    refine j_if_eq (tgt := 180) dX12_count_166 rfl (by first | omega | (split <;> omega)) (fun c_166 => ?_) (fun c_166 => by exact absurd c_166 (by decide))
    refine j_iconst dX12_count_180 ?_
    refine j_iret dX12_count_181 rfl ?_
    exact rI_of hv.symm rfl
/-! ### the class -/
theorem cp_run_1 (hsh : ShOK sh) (hfx : FxOK F) (hst : StAt sh F 2) (hR : Rp I 2 w) (hW : WF w) {p b : Int} (j1 : jin p) (h2 : ¬ gP w p) : jS G (d + 6) mX11_run [jR (some 0), jI p, jI b] (sh, I, F) 1 6 (rX xIob (sh, I, F)) := by
  have g8 := hW.1
  refine jS_go [some (jR (some 0)), some (jI p), some (jI b), none] (by decide +kernel) rfl (by simp [jone]) (Nat.le_of_ble_eq_true rfl) rfl (fun hok => ?_)
  refine j_aload_n dX11_run_0 rfl ?_
  refine j_iload_n dX11_run_1 rfl ?_
  exact r_cv1X dX11_run_2 cvX11_119 (by decide) (by first | assumption | exact hsh _ _ rfl) (Nat.le_of_ble_eq_true rfl) (Nat.le_refl _) (Nat.le_refl _) rfl (cg_person1 hsh hfx hR (by omega) h2) (⟨rfl, rfl⟩)
theorem cp_run_2 (hsh : ShOK sh) (hfx : FxOK F) (hst : StAt sh F 2) (hR : Rp I 2 w) (hW : WF w) {p b : Int} (h1 : gP w p) (h2 : ¬ aOf w p 3 = 0) : jS G (d + 6) mX11_run [jR (some 0), jI p, jI b] (sh, I, F) 1 6 (rX xIse (sh, I, F)) := by
  have g8 := hW.1
  have gp : 0 ≤ p ∧ p < aPe w := by have := h1.1; have := h1.2; omega
  refine jS_go [some (jR (some 0)), some (jI p), some (jI b), none] (by decide +kernel) rfl (by simp [jone]) (Nat.le_of_ble_eq_true rfl) rfl (fun hok => ?_)
  refine j_aload_n dX11_run_0 rfl ?_
  refine j_iload_n dX11_run_1 rfl ?_
  refine r_cv1V dX11_run_2 cvX11_119 (by decide) (by first | assumption | exact hsh _ _ rfl) (Nat.le_of_ble_eq_true rfl) (Nat.le_of_eq (Nat.zero_add _)) (Nat.le_of_eq (Nat.zero_add _)) (cg_person0 hsh hfx hR (by omega) h1) ?_
  refine j_aload_n dX11_run_5 rfl ?_
  refine j_iload_n dX11_run_6 rfl ?_
  exact r_cv1X dX11_run_7 cvX11_176 (by decide) (by first | assumption | exact hsh _ _ rfl) (Nat.le_of_ble_eq_true rfl) (Nat.le_refl _) (Nat.le_refl _) rfl (cg_live0 hsh hfx hst hR (by omega) h1 h2) (⟨rfl, rfl⟩)
theorem cp_run_0 (hsh : ShOK sh) (hfx : FxOK F) (hst : StAt sh F 2) (hR : Rp I 2 w) (hW : WF w) {p b : Int} (h1 : gP w p) (h2 : aOf w p 3 = 0) (hb : b = 0 ∨ b = 1) : jS G (d + 6) mX11_run [jR (some 0), jI p, jI b] (sh, I, F) 0 0 (rI (if b = 0 then mRun w (jShl 1 p) else mAcc w (mRun w (jShl 1 p))) (sh, I, F)) := by
  have g8 := hW.1
  have gp : 0 ≤ p ∧ p < aPe w := by have := h1.1; have := h1.2; omega
  refine jS_go [some (jR (some 0)), some (jI p), some (jI b), none] (by decide +kernel) rfl (by simp [jone]) (Nat.le_of_ble_eq_true rfl) rfl (fun hok => ?_)
  refine j_aload_n dX11_run_0 rfl ?_
  refine j_iload_n dX11_run_1 rfl ?_
  refine r_cv1V dX11_run_2 cvX11_119 (by decide) (by first | assumption | exact hsh _ _ rfl) (Nat.le_of_ble_eq_true rfl) (Nat.le_of_eq (Nat.zero_add _)) (Nat.le_of_eq (Nat.zero_add _)) (cg_person0 hsh hfx hR (by omega) h1) ?_
  refine j_aload_n dX11_run_5 rfl ?_
  refine j_iload_n dX11_run_6 rfl ?_
  refine r_cv1V dX11_run_7 cvX11_176 (by decide) (by first | assumption | exact hsh _ _ rfl) (Nat.le_of_ble_eq_true rfl) (Nat.le_of_eq (Nat.zero_add _)) (Nat.le_of_eq (Nat.zero_add _)) (cg_live1 hsh hfx hst hR (by omega) h1 h2) ?_
  refine j_aload_n dX11_run_10 rfl ?_
  refine r_getS dX11_run_11 flX11_20 (by first | assumption | exact hsh _ _ rfl) (fx_0_3 hfx) ?_
  refine j_iconst dX11_run_14 ?_
  refine j_iload_n dX11_run_15 rfl ?_
  refine r_ishl dX11_run_16 (fun b_16 => ?_)
  refine r_cs2I dX11_run_17 csX11_264 (Nat.le_of_ble_eq_true rfl) (Nat.le_of_eq (Nat.zero_add _)) (Nat.le_of_eq (Nat.zero_add _)) (sc_runFrom hst hR (by have := (jShl_set gp.1 (show p < 8 by omega)).1; omega) (mCt_shl gp g8.2)) ?_
  refine j_istore_n dX11_run_20 (by decide) ?_
  refine j_iload_n dX11_run_21 rfl ?_
  refine j_if_eq (tgt := 36) dX11_run_22 rfl (by first | omega | (split <;> omega)) (fun c_22 => ?_) (fun c_22 => ?_)
  · refine j_iload_n dX11_run_36 rfl ?_
    refine j_iret dX11_run_37 rfl ?_
    exact rI_of (by first | rw [if_pos c_22] | rw [if_neg c_22]) rfl
  · refine j_aload_n dX11_run_25 rfl ?_
    refine r_getS dX11_run_26 flX11_20 (by first | assumption | exact hsh _ _ rfl) (fx_0_3 hfx) ?_
    refine j_iload_n dX11_run_29 rfl ?_
    refine r_cv1I dX11_run_30 cvX11_269 (by decide) (by first | assumption | exact hsh _ _ rfl) (Nat.le_of_ble_eq_true rfl) (Nat.le_of_eq (Nat.zero_add _)) (Nat.le_of_eq (Nat.zero_add _)) (sc_accountsOf hst hR) ?_
    refine j_goto (tgt := 37) dX11_run_33 rfl ?_
    refine j_iret dX11_run_37 rfl ?_
    exact rI_of (by first | rw [if_pos c_22] | rw [if_neg c_22]) rfl
theorem cp_plan_1 (hsh : ShOK sh) (hfx : FxOK F) (hst : StAt sh F 2) (hR : Rp I 2 w) (hW : WF w) {p n k : Int} (j1 : jin p) (h2 : ¬ gP w p) : jS G (d + 6) mX11_plan [jR (some 0), jI p, jI n, jI k] (sh, I, F) 1 6 (rX xIob (sh, I, F)) := by
  have g8 := hW.1
  refine jS_go [some (jR (some 0)), some (jI p), some (jI n), some (jI k), none] (by decide +kernel) rfl (by simp [jone]) (Nat.le_of_ble_eq_true rfl) rfl (fun hok => ?_)
  refine j_aload_n dX11_plan_0 rfl ?_
  refine j_iload_n dX11_plan_1 rfl ?_
  exact r_cv1X dX11_plan_2 cvX11_119 (by decide) (by first | assumption | exact hsh _ _ rfl) (Nat.le_of_ble_eq_true rfl) (Nat.le_refl _) (Nat.le_refl _) rfl (cg_person1 hsh hfx hR (by omega) h2) (⟨rfl, rfl⟩)
theorem cp_plan_2 (hsh : ShOK sh) (hfx : FxOK F) (hst : StAt sh F 2) (hR : Rp I 2 w) (hW : WF w) {p n k : Int} (h1 : gP w p) (j2 : jin n) (h3 : ¬ (1 ≤ n ∧ n ≤ 40)) : jS G (d + 6) mX11_plan [jR (some 0), jI p, jI n, jI k] (sh, I, F) 1 6 (rX xIae (sh, I, F)) := by
  have g8 := hW.1
  have gp : 0 ≤ p ∧ p < aPe w := by have := h1.1; have := h1.2; omega
  refine jS_go [some (jR (some 0)), some (jI p), some (jI n), some (jI k), none] (by decide +kernel) rfl (by simp [jone]) (Nat.le_of_ble_eq_true rfl) rfl (fun hok => ?_)
  refine j_aload_n dX11_plan_0 rfl ?_
  refine j_iload_n dX11_plan_1 rfl ?_
  refine r_cv1V dX11_plan_2 cvX11_119 (by decide) (by first | assumption | exact hsh _ _ rfl) (Nat.le_of_ble_eq_true rfl) (Nat.le_of_eq (Nat.zero_add _)) (Nat.le_of_eq (Nat.zero_add _)) (cg_person0 hsh hfx hR (by omega) h1) ?_
  refine j_aload_n dX11_plan_5 rfl ?_
  refine j_iload_n dX11_plan_6 rfl ?_
  refine j_iconst dX11_plan_7 ?_
  refine j_bipush dX11_plan_8 (by decide) ?_
  exact r_cv3X dX11_plan_10 cvX11_191 (by decide) (by first | assumption | exact hsh _ _ rfl) (Nat.le_of_ble_eq_true rfl) (Nat.le_refl _) (Nat.le_refl _) rfl (cg_lie1 hsh (by omega) (by omega) (by omega) h3) (⟨rfl, rfl⟩)
theorem cp_plan_0 (hsh : ShOK sh) (hfx : FxOK F) (hst : StAt sh F 2) (hR : Rp I 2 w) (hW : WF w) {p n k : Int} (h1 : gP w p) (j3 : jin k) (h3 : 1 ≤ n ∧ n ≤ 40) : jS G (d + 6) mX11_plan [jR (some 0), jI p, jI n, jI k] (sh, I, F) 0 0 (rI (mPlan w p n k) (sh, I, F)) := by
  have g8 := hW.1
  have gp : 0 ≤ p ∧ p < aPe w := by have := h1.1; have := h1.2; omega
  have hlv : 0 ≤ mLevel w p n ∧ mLevel w p n ≤ 110000 := by have := mLevel_in (WF_D hW) (WF_B hW) (WF_A hW) gp h3; omega
  refine jS_go [some (jR (some 0)), some (jI p), some (jI n), some (jI k), none] (by decide +kernel) rfl (by simp [jone]) (Nat.le_of_ble_eq_true rfl) rfl (fun hok => ?_)
  refine j_aload_n dX11_plan_0 rfl ?_
  refine j_iload_n dX11_plan_1 rfl ?_
  refine r_cv1V dX11_plan_2 cvX11_119 (by decide) (by first | assumption | exact hsh _ _ rfl) (Nat.le_of_ble_eq_true rfl) (Nat.le_of_eq (Nat.zero_add _)) (Nat.le_of_eq (Nat.zero_add _)) (cg_person0 hsh hfx hR (by omega) h1) ?_
  refine j_aload_n dX11_plan_5 rfl ?_
  refine j_iload_n dX11_plan_6 rfl ?_
  refine j_iconst dX11_plan_7 ?_
  refine j_bipush dX11_plan_8 (by decide) ?_
  refine r_cv3V dX11_plan_10 cvX11_191 (by decide) (by first | assumption | exact hsh _ _ rfl) (Nat.le_of_ble_eq_true rfl) (Nat.le_of_eq (Nat.zero_add _)) (Nat.le_of_eq (Nat.zero_add _)) (cg_lie0 hsh (by omega) (by omega) (by omega) h3) ?_
  refine j_iload_n dX11_plan_13 rfl ?_
  refine j_iconst dX11_plan_14 ?_
  refine j_icmp_lt (tgt := 23) dX11_plan_15 rfl (by first | omega | (split <;> omega)) (by first | omega | (split <;> omega)) (fun c_15 => ?_) (fun c_15 => ?_)
  · refine j_iconst dX11_plan_23 ?_
    refine j_iret dX11_plan_24 rfl ?_
    refine rI_of ?_ rfl
    unfold mPlan
    first | rw [if_pos (by omega)] | rw [if_neg (by omega), if_pos (by omega)] | rw [if_neg (by omega), if_neg (by omega)]
  · refine j_iload_n dX11_plan_18 rfl ?_
    refine j_iload_n dX11_plan_19 rfl ?_
    refine j_icmp_lt (tgt := 25) dX11_plan_20 rfl (by first | omega | (split <;> omega)) (by first | omega | (split <;> omega)) (fun c_20 => ?_) (fun c_20 => ?_)
    · refine j_aload_n dX11_plan_25 rfl ?_
      refine r_getS dX11_plan_26 flX11_20 (by first | assumption | exact hsh _ _ rfl) (fx_0_3 hfx) ?_
      refine j_iload_n dX11_plan_29 rfl ?_
      refine j_iload_n dX11_plan_30 rfl ?_
      refine r_cs3I dX11_plan_31 csX11_247 (Nat.le_of_ble_eq_true rfl) (Nat.le_of_eq (Nat.zero_add _)) (Nat.le_of_eq (Nat.zero_add _)) (sc_leastBorne hst hR (WF_D hW) (WF_B hW) (WF_A hW) gp h3) ?_
      refine j_istore dX11_plan_34 (by decide) ?_
      refine j_iload_n dX11_plan_36 rfl ?_
      refine j_iconst dX11_plan_37 ?_
      refine j_icmp_ne (tgt := 46) dX11_plan_38 rfl (by first | omega | (split <;> omega)) (by first | omega | (split <;> omega)) (fun c_38 => ?_) (fun c_38 => ?_)
      · refine j_aload_n dX11_plan_46 rfl ?_
        refine r_getS dX11_plan_47 flX11_20 (by first | assumption | exact hsh _ _ rfl) (fx_0_3 hfx) ?_
        refine j_iload_n dX11_plan_50 rfl ?_
        refine j_iload dX11_plan_51 rfl ?_
        refine j_iload_n dX11_plan_53 rfl ?_
        refine r_cs4I dX11_plan_54 csX11_251 (Nat.le_of_ble_eq_true rfl) (Nat.le_of_eq (Nat.zero_add _)) (Nat.le_of_eq (Nat.zero_add _)) (sc_partOn hst hR (WF_D hW) (WF_B hW) gp (by omega) hlv) ?_
        refine j_iret dX11_plan_57 rfl ?_
        refine rI_of ?_ rfl
        unfold mPlan
        first | rw [if_pos (by omega)] | rw [if_neg (by omega), if_pos (by omega)] | rw [if_neg (by omega), if_neg (by omega)]
      · refine j_iload dX11_plan_41 rfl ?_
        refine j_goto (tgt := 57) dX11_plan_43 rfl ?_
        refine j_iret dX11_plan_57 rfl ?_
        refine rI_of ?_ rfl
        unfold mPlan
        first | rw [if_pos (by omega)] | rw [if_neg (by omega), if_pos (by omega)] | rw [if_neg (by omega), if_neg (by omega)]
    · refine j_iconst dX11_plan_23 ?_
      refine j_iret dX11_plan_24 rfl ?_
      refine rI_of ?_ rfl
      unfold mPlan
      first | rw [if_pos (by omega)] | rw [if_neg (by omega), if_pos (by omega)] | rw [if_neg (by omega), if_neg (by omega)]
theorem cp_cost_1 (hsh : ShOK sh) (hfx : FxOK F) (hst : StAt sh F 2) (hR : Rp I 2 w) (hW : WF w) {p n : Int} (j1 : jin p) (h2 : ¬ gP w p) : jS G (d + 6) mX11_cost [jR (some 0), jI p, jI n] (sh, I, F) 1 6 (rX xIob (sh, I, F)) := by
  have g8 := hW.1
  refine jS_go [some (jR (some 0)), some (jI p), some (jI n)] (by decide +kernel) rfl (by simp [jone]) (Nat.le_of_ble_eq_true rfl) rfl (fun hok => ?_)
  refine j_aload_n dX11_cost_0 rfl ?_
  refine j_iload_n dX11_cost_1 rfl ?_
  exact r_cv1X dX11_cost_2 cvX11_119 (by decide) (by first | assumption | exact hsh _ _ rfl) (Nat.le_of_ble_eq_true rfl) (Nat.le_refl _) (Nat.le_refl _) rfl (cg_person1 hsh hfx hR (by omega) h2) (⟨rfl, rfl⟩)
theorem cp_cost_2 (hsh : ShOK sh) (hfx : FxOK F) (hst : StAt sh F 2) (hR : Rp I 2 w) (hW : WF w) {p n : Int} (h1 : gP w p) (j2 : jin n) (h3 : ¬ (0 ≤ n ∧ n ≤ 60)) : jS G (d + 6) mX11_cost [jR (some 0), jI p, jI n] (sh, I, F) 1 6 (rX xIae (sh, I, F)) := by
  have g8 := hW.1
  have gp : 0 ≤ p ∧ p < aPe w := by have := h1.1; have := h1.2; omega
  refine jS_go [some (jR (some 0)), some (jI p), some (jI n)] (by decide +kernel) rfl (by simp [jone]) (Nat.le_of_ble_eq_true rfl) rfl (fun hok => ?_)
  refine j_aload_n dX11_cost_0 rfl ?_
  refine j_iload_n dX11_cost_1 rfl ?_
  refine r_cv1V dX11_cost_2 cvX11_119 (by decide) (by first | assumption | exact hsh _ _ rfl) (Nat.le_of_ble_eq_true rfl) (Nat.le_of_eq (Nat.zero_add _)) (Nat.le_of_eq (Nat.zero_add _)) (cg_person0 hsh hfx hR (by omega) h1) ?_
  refine j_aload_n dX11_cost_5 rfl ?_
  refine j_iload_n dX11_cost_6 rfl ?_
  refine j_iconst dX11_cost_7 ?_
  refine j_bipush dX11_cost_8 (by decide) ?_
  exact r_cv3X dX11_cost_10 cvX11_191 (by decide) (by first | assumption | exact hsh _ _ rfl) (Nat.le_of_ble_eq_true rfl) (Nat.le_refl _) (Nat.le_refl _) rfl (cg_lie1 hsh (by omega) (by omega) (by omega) h3) (⟨rfl, rfl⟩)
theorem cp_cost_0 (hsh : ShOK sh) (hfx : FxOK F) (hst : StAt sh F 2) (hR : Rp I 2 w) (hW : WF w) {p n : Int} (h1 : gP w p) (h3 : 0 ≤ n ∧ n ≤ 60) : jS G (d + 6) mX11_cost [jR (some 0), jI p, jI n] (sh, I, F) 0 0 (rI (mCost w p n) (sh, I, F)) := by
  have g8 := hW.1
  have gp : 0 ≤ p ∧ p < aPe w := by have := h1.1; have := h1.2; omega
  refine jS_go [some (jR (some 0)), some (jI p), some (jI n)] (by decide +kernel) rfl (by simp [jone]) (Nat.le_of_ble_eq_true rfl) rfl (fun hok => ?_)
  by_cases e : aOf w p 3 = 0
  · refine j_aload_n dX11_cost_0 rfl ?_
    refine j_iload_n dX11_cost_1 rfl ?_
    refine r_cv1V dX11_cost_2 cvX11_119 (by decide) (by first | assumption | exact hsh _ _ rfl) (Nat.le_of_ble_eq_true rfl) (Nat.le_of_eq (Nat.zero_add _)) (Nat.le_of_eq (Nat.zero_add _)) (cg_person0 hsh hfx hR (by omega) h1) ?_
    refine j_aload_n dX11_cost_5 rfl ?_
    refine j_iload_n dX11_cost_6 rfl ?_
    refine j_iconst dX11_cost_7 ?_
    refine j_bipush dX11_cost_8 (by decide) ?_
    refine r_cv3V dX11_cost_10 cvX11_191 (by decide) (by first | assumption | exact hsh _ _ rfl) (Nat.le_of_ble_eq_true rfl) (Nat.le_of_eq (Nat.zero_add _)) (Nat.le_of_eq (Nat.zero_add _)) (cg_lie0 hsh (by omega) (by omega) (by omega) h3) ?_
    refine j_aload_n dX11_cost_13 rfl ?_
    refine r_getS dX11_cost_14 flX11_20 (by first | assumption | exact hsh _ _ rfl) (fx_0_3 hfx) ?_
    refine j_iload_n dX11_cost_17 rfl ?_
    refine r_cv1I dX11_cost_18 cvX11_131 (by decide) (by first | assumption | exact hsh _ _ rfl) (Nat.le_of_ble_eq_true rfl) (Nat.le_of_eq (Nat.zero_add _)) (Nat.le_of_eq (Nat.zero_add _)) (sc_al1 hst hR (by omega) h1 e) ?_
    refine j_if_eq (tgt := 36) dX11_cost_21 rfl (by first | omega | (split <;> omega)) (fun c_21 => by exact absurd c_21 (by decide)) (fun c_21 => ?_)
    refine j_aload_n dX11_cost_24 rfl ?_
    refine r_getS dX11_cost_25 flX11_20 (by first | assumption | exact hsh _ _ rfl) (fx_0_3 hfx) ?_
    refine j_iload_n dX11_cost_28 rfl ?_
    refine j_iload_n dX11_cost_29 rfl ?_
    refine r_cs3I dX11_cost_30 csX11_255 (Nat.le_of_ble_eq_true rfl) (Nat.le_of_eq (Nat.zero_add _)) (Nat.le_of_eq (Nat.zero_add _)) (sc_interestOver hst hR (WF_D hW) (WF_A hW) (WF_R hW) gp h3 e) ?_
    refine j_goto (tgt := 37) dX11_cost_33 rfl ?_
    refine j_iret dX11_cost_37 rfl ?_
    exact rI_of rfl rfl
  · have hz : mCost w p n = 0 := mCost_dead e
    refine j_aload_n dX11_cost_0 rfl ?_
    refine j_iload_n dX11_cost_1 rfl ?_
    refine r_cv1V dX11_cost_2 cvX11_119 (by decide) (by first | assumption | exact hsh _ _ rfl) (Nat.le_of_ble_eq_true rfl) (Nat.le_of_eq (Nat.zero_add _)) (Nat.le_of_eq (Nat.zero_add _)) (cg_person0 hsh hfx hR (by omega) h1) ?_
    refine j_aload_n dX11_cost_5 rfl ?_
    refine j_iload_n dX11_cost_6 rfl ?_
    refine j_iconst dX11_cost_7 ?_
    refine j_bipush dX11_cost_8 (by decide) ?_
    refine r_cv3V dX11_cost_10 cvX11_191 (by decide) (by first | assumption | exact hsh _ _ rfl) (Nat.le_of_ble_eq_true rfl) (Nat.le_of_eq (Nat.zero_add _)) (Nat.le_of_eq (Nat.zero_add _)) (cg_lie0 hsh (by omega) (by omega) (by omega) h3) ?_
    refine j_aload_n dX11_cost_13 rfl ?_
    refine r_getS dX11_cost_14 flX11_20 (by first | assumption | exact hsh _ _ rfl) (fx_0_3 hfx) ?_
    refine j_iload_n dX11_cost_17 rfl ?_
    refine r_cv1I dX11_cost_18 cvX11_131 (by decide) (by first | assumption | exact hsh _ _ rfl) (Nat.le_of_ble_eq_true rfl) (Nat.le_of_eq (Nat.zero_add _)) (Nat.le_of_eq (Nat.zero_add _)) (sc_al0 hst hR (by omega) h1 e) ?_
    refine j_if_eq (tgt := 36) dX11_cost_21 rfl (by first | omega | (split <;> omega)) (fun c_21 => ?_) (fun c_21 => by exact absurd c_21 (by decide))
    refine j_iconst dX11_cost_36 ?_
    refine j_iret dX11_cost_37 rfl ?_
    exact rI_of hz.symm rfl
theorem cp_spark (hsh : ShOK sh) (hfx : FxOK F) (hst : StAt sh F 2) (hR : Rp I 2 w) (hW : WF w)  : jS G (d + 6) mX11_spark [jR (some 0)] (sh, I, F) 0 0 (rI (mBest (vSpark w)) (sh, I, F)) := by
  have g8 := hW.1
  refine jS_go [some (jR (some 0))] (by decide +kernel) rfl (by simp [jone]) (Nat.le_of_ble_eq_true rfl) rfl (fun hok => ?_)
  refine j_aload_n dX11_spark_0 rfl ?_
  refine r_getS dX11_spark_1 flX11_20 (by first | assumption | exact hsh _ _ rfl) (fx_0_3 hfx) ?_
  refine r_cs1I dX11_spark_4 csX11_272 (Nat.le_of_ble_eq_true rfl) (Nat.le_of_eq (Nat.zero_add _)) (Nat.le_of_eq (Nat.zero_add _)) (sc_fewestToTell hst hR (WF_A hW)) ?_
  refine j_iret dX11_spark_7 rfl ?_
  exact rI_of rfl rfl
theorem cp_reserve (hsh : ShOK sh) (hfx : FxOK F) (hst : StAt sh F 2) (hR : Rp I 2 w) (hW : WF w)  : jS G (d + 6) mX11_reserve [jR (some 0)] (sh, I, F) 0 0 (rI (mReserve w) (sh, I, F)) := by
  have g8 := hW.1
  refine jS_go [some (jR (some 0))] (by decide +kernel) rfl (by simp [jone]) (Nat.le_of_ble_eq_true rfl) rfl (fun hok => ?_)
  refine j_aload_n dX11_reserve_0 rfl ?_
  refine r_getS dX11_reserve_1 flX11_20 (by first | assumption | exact hsh _ _ rfl) (fx_0_3 hfx) ?_
  refine r_cs1I dX11_reserve_4 csX11_275 (Nat.le_of_ble_eq_true rfl) (Nat.le_of_eq (Nat.zero_add _)) (Nat.le_of_eq (Nat.zero_add _)) (sc_greatestRun hst hR (WF_A hW)) ?_
  refine j_iret dX11_reserve_7 rfl ?_
  exact rI_of rfl rfl
theorem cp_could_1 (hsh : ShOK sh) (hfx : FxOK F) (hst : StAt sh F 2) (hR : Rp I 2 w) (hW : WF w) {p : Int} (j1 : jin p) (h2 : ¬ gP w p) : jS G (d + 6) mX11_could [jR (some 0), jI p] (sh, I, F) 1 6 (rX xIob (sh, I, F)) := by
  have g8 := hW.1
  refine jS_go [some (jR (some 0)), some (jI p)] (by decide +kernel) rfl (by simp [jone]) (Nat.le_of_ble_eq_true rfl) rfl (fun hok => ?_)
  refine j_aload_n dX11_could_0 rfl ?_
  refine j_iload_n dX11_could_1 rfl ?_
  exact r_cv1X dX11_could_2 cvX11_119 (by decide) (by first | assumption | exact hsh _ _ rfl) (Nat.le_of_ble_eq_true rfl) (Nat.le_refl _) (Nat.le_refl _) rfl (cg_person1 hsh hfx hR (by omega) h2) (⟨rfl, rfl⟩)
theorem cp_could_0 (hsh : ShOK sh) (hfx : FxOK F) (hst : StAt sh F 2) (hR : Rp I 2 w) (hW : WF w) {p : Int} (h1 : gP w p) : jS G (d + 6) mX11_could [jR (some 0), jI p] (sh, I, F) 0 0 (rI (mCould w (aOf w p 1)) (sh, I, F)) := by
  have g8 := hW.1
  have gp : 0 ≤ p ∧ p < aPe w := by have := h1.1; have := h1.2; omega
  refine jS_go [some (jR (some 0)), some (jI p)] (by decide +kernel) rfl (by simp [jone]) (Nat.le_of_ble_eq_true rfl) rfl (fun hok => ?_)
  have u := hR.2.2.1 p gp.1 gp.2
  have hA := WF_A hW p gp.1 gp.2
  obtain ⟨g0, g1, g2, g3, g4, g5, g6, g7, g8, g9, e1, e2, e3, e4, e5, e6, e7, e8, e9⟩ := id hst
  refine j_aload_n dX11_could_0 rfl ?_
  refine j_iload_n dX11_could_1 rfl ?_
  refine r_cv1V dX11_could_2 cvX11_119 (by decide) (by first | assumption | exact hsh _ _ rfl) (Nat.le_of_ble_eq_true rfl) (Nat.le_of_eq (Nat.zero_add _)) (Nat.le_of_eq (Nat.zero_add _)) (cg_person0 hsh hfx hR (by omega) h1) ?_
  refine j_aload_n dX11_could_5 rfl ?_
  refine r_getS dX11_could_6 flX11_20 (by first | assumption | exact hsh _ _ rfl) (fx_0_3 hfx) ?_
  refine j_aload_n dX11_could_9 rfl ?_
  refine r_getS dX11_could_10 flX11_20 (by first | assumption | exact hsh _ _ rfl) (fx_0_3 hfx) ?_
  refine r_getS dX11_could_13 flX11_125 (by first | assumption | exact hsh _ _ rfl) (by assumption) ?_
  refine j_iload_n dX11_could_16 rfl ?_
  refine r_ialoadE dX11_could_17 (by first | assumption | exact hsh _ _ rfl) (by first | omega | (split <;> omega)) (by first | omega | (split <;> omega)) u.2.1 (fun b_17 => ?_)
  refine r_cs2I dX11_could_18 csX11_293 (Nat.le_of_ble_eq_true rfl) (Nat.le_of_eq (Nat.zero_add _)) (Nat.le_of_eq (Nat.zero_add _)) (sc_whoCouldBear hst hR (WF_D hW) (WF_B hW) hA) ?_
  refine j_iret dX11_could_21 rfl ?_
  exact rI_of rfl rfl
theorem cp_fewest (hsh : ShOK sh) (hfx : FxOK F) (hst : StAt sh F 2) (hR : Rp I 2 w) (hW : WF w)  : jS G (d + 6) mX11_fewest [jR (some 0)] (sh, I, F) 0 0 (rI (mBest (vFew w)) (sh, I, F)) := by
  have g8 := hW.1
  refine jS_go [some (jR (some 0))] (by decide +kernel) rfl (by simp [jone]) (Nat.le_of_ble_eq_true rfl) rfl (fun hok => ?_)
  refine j_aload_n dX11_fewest_0 rfl ?_
  refine r_getS dX11_fewest_1 flX11_20 (by first | assumption | exact hsh _ _ rfl) (fx_0_3 hfx) ?_
  refine r_cs1I dX11_fewest_4 csX11_296 (Nat.le_of_ble_eq_true rfl) (Nat.le_of_eq (Nat.zero_add _)) (Nat.le_of_eq (Nat.zero_add _)) (sc_fewestBearers hst hR (WF_D hW) (WF_B hW) (WF_A hW)) ?_
  refine j_iret dX11_fewest_7 rfl ?_
  exact rI_of rfl rfl
theorem cp_quiet (hsh : ShOK sh) (hfx : FxOK F) (hst : StAt sh F 2) (hR : Rp I 2 w) (hW : WF w) {b : Int} (hb : b = 0 ∨ b = 1) : jS G (d + 6) mX11_quiet [jR (some 0), jI b] (sh, I, F) 0 0 (rI (if b = 0 then mQuiet w else mPains w (mAlive w) (mQuiet w)) (sh, I, F)) := by
  have g8 := hW.1
  refine jS_go [some (jR (some 0)), some (jI b), none] (by decide +kernel) rfl (by simp [jone]) (Nat.le_of_ble_eq_true rfl) rfl (fun hok => ?_)
  have rA := hR.2.2.2.2.1
  have hq := mQuiet_in w
  obtain ⟨g0, g1, g2, g3, g4, g5, g6, g7, g8, g9, e1, e2, e3, e4, e5, e6, e7, e8, e9⟩ := id hst
  refine j_aload_n dX11_quiet_0 rfl ?_
  refine r_getS dX11_quiet_1 flX11_20 (by first | assumption | exact hsh _ _ rfl) (fx_0_3 hfx) ?_
  refine r_cs1I dX11_quiet_4 csX11_299 (Nat.le_of_ble_eq_true rfl) (Nat.le_of_eq (Nat.zero_add _)) (Nat.le_of_eq (Nat.zero_add _)) (sc_quietDay hst hR (WF_B hW)) ?_
  refine j_istore_n dX11_quiet_7 (by decide) ?_
  refine j_iload_n dX11_quiet_8 rfl ?_
  refine j_if_eq (tgt := 30) dX11_quiet_9 rfl (by first | omega | (split <;> omega)) (fun c_9 => ?_) (fun c_9 => ?_)
  · refine j_iload_n dX11_quiet_30 rfl ?_
    refine j_iret dX11_quiet_31 rfl ?_
    exact rI_of (by first | rw [if_pos c_9] | rw [if_neg c_9]) rfl
  · refine j_aload_n dX11_quiet_12 rfl ?_
    refine r_getS dX11_quiet_13 flX11_20 (by first | assumption | exact hsh _ _ rfl) (fx_0_3 hfx) ?_
    refine j_aload_n dX11_quiet_16 rfl ?_
    refine r_getS dX11_quiet_17 flX11_20 (by first | assumption | exact hsh _ _ rfl) (fx_0_3 hfx) ?_
    refine r_getIE dX11_quiet_20 flX11_219 (by first | assumption | exact hsh _ _ rfl) rA (fun b_20 => ?_)
    refine j_iload_n dX11_quiet_23 rfl ?_
    refine r_cs3I dX11_quiet_24 csX11_302 (Nat.le_of_ble_eq_true rfl) (Nat.le_of_eq (Nat.zero_add _)) (Nat.le_of_eq (Nat.zero_add _)) (sc_painTogether hst hR (by omega)) ?_
    refine j_goto (tgt := 31) dX11_quiet_27 rfl ?_
    refine j_iret dX11_quiet_31 rfl ?_
    exact rI_of (by first | rw [if_pos c_9] | rw [if_neg c_9]) rfl
theorem cp_strike (hsh : ShOK sh) (hfx : FxOK F) (hst : StAt sh F 2) (hR : Rp I 2 w) (hW : WF w)  : jS G (d + 6) mX11_strike [jR (some 0)] (sh, I, F) 0 0 (rI (mStrike w) (sh, I, F)) := by
  have g8 := hW.1
  refine jS_go [some (jR (some 0))] (by decide +kernel) rfl (by simp [jone]) (Nat.le_of_ble_eq_true rfl) rfl (fun hok => ?_)
  refine j_aload_n dX11_strike_0 rfl ?_
  refine r_getS dX11_strike_1 flX11_61 (by first | assumption | exact hsh _ _ rfl) (fx_0_11 hfx) ?_
  refine j_aload_n dX11_strike_4 rfl ?_
  refine r_getS dX11_strike_5 flX11_20 (by first | assumption | exact hsh _ _ rfl) (fx_0_3 hfx) ?_
  refine r_cv1I dX11_strike_8 cvX11_315 (by decide) (by first | assumption | exact hsh _ _ rfl) (Nat.le_of_ble_eq_true rfl) (Nat.le_of_eq (Nat.zero_add _)) (Nat.le_of_eq (Nat.zero_add _)) (sc_mutual hst hR) ?_
  refine j_iret dX11_strike_11 rfl ?_
  exact rI_of rfl rfl
theorem cp_ring_1 (hsh : ShOK sh) (hfx : FxOK F) (hst : StAt sh F 2) (hR : Rp I 2 w) (hW : WF w) {p : Int} (j1 : jin p) (h2 : ¬ gP w p) : jS G (d + 6) mX11_ring [jR (some 0), jI p] (sh, I, F) 1 6 (rX xIob (sh, I, F)) := by
  have g8 := hW.1
  refine jS_go [some (jR (some 0)), some (jI p)] (by decide +kernel) rfl (by simp [jone]) (Nat.le_of_ble_eq_true rfl) rfl (fun hok => ?_)
  refine j_aload_n dX11_ring_0 rfl ?_
  refine j_iload_n dX11_ring_1 rfl ?_
  exact r_cv1X dX11_ring_2 cvX11_119 (by decide) (by first | assumption | exact hsh _ _ rfl) (Nat.le_of_ble_eq_true rfl) (Nat.le_refl _) (Nat.le_refl _) rfl (cg_person1 hsh hfx hR (by omega) h2) (⟨rfl, rfl⟩)
theorem cp_pain_1 (hsh : ShOK sh) (hfx : FxOK F) (hst : StAt sh F 2) (hR : Rp I 2 w) (hW : WF w) {p k : Int} (j1 : jin p) (j2 : jin k) (h : ¬ (gP w p ∧ 0 ≤ k ∧ k ≤ 6)) : jS G (d + 6) mX11_pain [jR (some 0), jI p, jI k] (sh, I, F) 1 6 (rX xIob (sh, I, F)) := by
  have g8 := hW.1
  refine jS_go [some (jR (some 0)), some (jI p), some (jI k)] (by decide +kernel) rfl (by simp [jone]) (Nat.le_of_ble_eq_true rfl) rfl (fun hok => ?_)
  by_cases e1 : gP w p
  · have e2 : ¬ (0 ≤ k ∧ k ≤ 6) := fun q => h ⟨e1, q⟩
    refine j_aload_n dX11_pain_0 rfl ?_
    refine j_iload_n dX11_pain_1 rfl ?_
    refine r_cv1V dX11_pain_2 cvX11_119 (by decide) (by first | assumption | exact hsh _ _ rfl) (Nat.le_of_ble_eq_true rfl) (Nat.le_of_eq (Nat.zero_add _)) (Nat.le_of_eq (Nat.zero_add _)) (cg_person0 hsh hfx hR (by omega) e1) ?_
    refine j_aload_n dX11_pain_5 rfl ?_
    refine j_iload_n dX11_pain_6 rfl ?_
    exact r_cv1X dX11_pain_7 cvX11_162 (by decide) (by first | assumption | exact hsh _ _ rfl) (Nat.le_of_ble_eq_true rfl) (Nat.le_refl _) (Nat.le_refl _) rfl (cg_week1 hsh (by omega) e2) (⟨rfl, rfl⟩)
  · refine j_aload_n dX11_pain_0 rfl ?_
    refine j_iload_n dX11_pain_1 rfl ?_
    exact r_cv1X dX11_pain_2 cvX11_119 (by decide) (by first | assumption | exact hsh _ _ rfl) (Nat.le_of_ble_eq_true rfl) (Nat.le_refl _) (Nat.le_refl _) rfl (cg_person1 hsh hfx hR (by omega) e1) (⟨rfl, rfl⟩)
theorem cp_pain_0 (hsh : ShOK sh) (hfx : FxOK F) (hst : StAt sh F 2) (hR : Rp I 2 w) (hW : WF w) {p k : Int} (h1 : gP w p) (h2 : 0 ≤ k ∧ k ≤ 6) : jS G (d + 6) mX11_pain [jR (some 0), jI p, jI k] (sh, I, F) 0 0 (rI (aOf w p (6 + k)) (sh, I, F)) := by
  have g8 := hW.1
  have gp : 0 ≤ p ∧ p < aPe w := by have := h1.1; have := h1.2; omega
  refine jS_go [some (jR (some 0)), some (jI p), some (jI k)] (by decide +kernel) rfl (by simp [jone]) (Nat.le_of_ble_eq_true rfl) rfl (fun hok => ?_)
  have ek : aPaD w p k = aOf w p (6 + k) := by unfold aPaD; rw [show min 9999 k % 7 = k by omega]
  have sp := sc_painOn (G := G) (d := d + 5) (I := I) hst hR (day := k) gp (by omega)
  rw [ek] at sp
  refine j_aload_n dX11_pain_0 rfl ?_
  refine j_iload_n dX11_pain_1 rfl ?_
  refine r_cv1V dX11_pain_2 cvX11_119 (by decide) (by first | assumption | exact hsh _ _ rfl) (Nat.le_of_ble_eq_true rfl) (Nat.le_of_eq (Nat.zero_add _)) (Nat.le_of_eq (Nat.zero_add _)) (cg_person0 hsh hfx hR (by omega) h1) ?_
  refine j_aload_n dX11_pain_5 rfl ?_
  refine j_iload_n dX11_pain_6 rfl ?_
  refine r_cv1V dX11_pain_7 cvX11_162 (by decide) (by first | assumption | exact hsh _ _ rfl) (Nat.le_of_ble_eq_true rfl) (Nat.le_of_eq (Nat.zero_add _)) (Nat.le_of_eq (Nat.zero_add _)) (cg_week0 hsh (by omega) h2) ?_
  refine j_aload_n dX11_pain_10 rfl ?_
  refine r_getS dX11_pain_11 flX11_20 (by first | assumption | exact hsh _ _ rfl) (fx_0_3 hfx) ?_
  refine j_iload_n dX11_pain_14 rfl ?_
  refine j_iload_n dX11_pain_15 rfl ?_
  refine r_cv2I dX11_pain_16 cvX11_165 (by decide) (by first | assumption | exact hsh _ _ rfl) (Nat.le_of_ble_eq_true rfl) (Nat.le_of_eq (Nat.zero_add _)) (Nat.le_of_eq (Nat.zero_add _)) (sp) ?_
  refine j_iret dX11_pain_19 rfl ?_
  exact rI_of rfl rfl
theorem cp_owed_1 (hsh : ShOK sh) (hfx : FxOK F) (hst : StAt sh F 2) (hR : Rp I 2 w) (hW : WF w) {p q : Int} (j1 : jin p) (j2 : jin q) (h : ¬ (gP w p ∧ gP w q)) : jS G (d + 6) mX11_owed [jR (some 0), jI p, jI q] (sh, I, F) 1 6 (rX xIob (sh, I, F)) := by
  have g8 := hW.1
  refine jS_go [some (jR (some 0)), some (jI p), some (jI q)] (by decide +kernel) rfl (by simp [jone]) (Nat.le_of_ble_eq_true rfl) rfl (fun hok => ?_)
  refine j_aload_n dX11_owed_0 rfl ?_
  refine j_iload_n dX11_owed_1 rfl ?_
  refine j_iload_n dX11_owed_2 rfl ?_
  exact r_cv2X dX11_owed_3 cvX11_169 (by decide) (by first | assumption | exact hsh _ _ rfl) (Nat.le_of_ble_eq_true rfl) (Nat.le_refl _) (Nat.le_refl _) rfl (cg_two1 hsh hfx hR (by omega) (by omega) h) (⟨rfl, rfl⟩)
theorem cp_owed_2 (hsh : ShOK sh) (hfx : FxOK F) (hst : StAt sh F 2) (hR : Rp I 2 w) (hW : WF w) {p q : Int} (h1 : gP w p ∧ gP w q) (h2 : p = q) : jS G (d + 6) mX11_owed [jR (some 0), jI p, jI q] (sh, I, F) 1 6 (rX xIae (sh, I, F)) := by
  have g8 := hW.1
  have gp : 0 ≤ p ∧ p < aPe w := by have := h1.1.1; have := h1.1.2; omega
  have gq : 0 ≤ q ∧ q < aPe w := by have := h1.2.1; have := h1.2.2; omega
  refine jS_go [some (jR (some 0)), some (jI p), some (jI q)] (by decide +kernel) rfl (by simp [jone]) (Nat.le_of_ble_eq_true rfl) rfl (fun hok => ?_)
  refine j_aload_n dX11_owed_0 rfl ?_
  refine j_iload_n dX11_owed_1 rfl ?_
  refine j_iload_n dX11_owed_2 rfl ?_
  exact r_cv2X dX11_owed_3 cvX11_169 (by decide) (by first | assumption | exact hsh _ _ rfl) (Nat.le_of_ble_eq_true rfl) (Nat.le_refl _) (Nat.le_refl _) rfl (cg_two2 hsh hfx hR (by omega) (by omega) h1 h2) (⟨rfl, rfl⟩)
theorem cp_owed_0 (hsh : ShOK sh) (hfx : FxOK F) (hst : StAt sh F 2) (hR : Rp I 2 w) (hW : WF w) {p q : Int} (h1 : gP w p ∧ gP w q) (h2 : ¬ p = q) : jS G (d + 6) mX11_owed [jR (some 0), jI p, jI q] (sh, I, F) 0 0 (rI (aOw w p q) (sh, I, F)) := by
  have g8 := hW.1
  have gp : 0 ≤ p ∧ p < aPe w := by have := h1.1.1; have := h1.1.2; omega
  have gq : 0 ≤ q ∧ q < aPe w := by have := h1.2.1; have := h1.2.2; omega
  refine jS_go [some (jR (some 0)), some (jI p), some (jI q)] (by decide +kernel) rfl (by simp [jone]) (Nat.le_of_ble_eq_true rfl) rfl (fun hok => ?_)
  have u := hR.2.2.2.1 p q gp.1 gp.2 gq.1 gq.2
  obtain ⟨g0, g1, g2, g3, g4, g5, g6, g7, g8, g9, e1, e2, e3, e4, e5, e6, e7, e8, e9⟩ := id hst
  refine j_aload_n dX11_owed_0 rfl ?_
  refine j_iload_n dX11_owed_1 rfl ?_
  refine j_iload_n dX11_owed_2 rfl ?_
  refine r_cv2V dX11_owed_3 cvX11_169 (by decide) (by first | assumption | exact hsh _ _ rfl) (Nat.le_of_ble_eq_true rfl) (Nat.le_of_eq (Nat.zero_add _)) (Nat.le_of_eq (Nat.zero_add _)) (cg_two0 hsh hfx hR (by omega) (by omega) h1 h2) ?_
  refine j_aload_n dX11_owed_6 rfl ?_
  refine r_getS dX11_owed_7 flX11_20 (by first | assumption | exact hsh _ _ rfl) (fx_0_3 hfx) ?_
  refine r_getS dX11_owed_10 flX11_173 (by first | assumption | exact hsh _ _ rfl) (by assumption) ?_
  refine j_iload_n dX11_owed_13 rfl ?_
  refine j_bipush dX11_owed_14 (by decide) ?_
  refine j_imul dX11_owed_16 ?_
  refine j_iload_n dX11_owed_17 rfl ?_
  refine j_iadd dX11_owed_18 ?_
  refine r_ialoadE dX11_owed_19 (by first | assumption | exact hsh _ _ rfl) (by first | omega | (split <;> omega)) (by first | omega | (split <;> omega)) u (fun b_19 => ?_)
  refine j_iret dX11_owed_20 rfl ?_
  exact rI_of rfl rfl
theorem cp_person_1 (hsh : ShOK sh) (hfx : FxOK F) (hst : StAt sh F 2) (hR : Rp I 2 w) (hW : WF w) {p k : Int} (j1 : jin p) (h2 : ¬ gP w p) : jS G (d + 6) mX11_person [jR (some 0), jI p, jI k] (sh, I, F) 1 6 (rX xIob (sh, I, F)) := by
  have g8 := hW.1
  refine jS_go [some (jR (some 0)), some (jI p), some (jI k)] (by decide +kernel) rfl (by simp [jone]) (Nat.le_of_ble_eq_true rfl) rfl (fun hok => ?_)
  refine j_aload_n dX11_person_0 rfl ?_
  refine j_iload_n dX11_person_1 rfl ?_
  exact r_cv1X dX11_person_2 cvX11_119 (by decide) (by first | assumption | exact hsh _ _ rfl) (Nat.le_of_ble_eq_true rfl) (Nat.le_refl _) (Nat.le_refl _) rfl (cg_person1 hsh hfx hR (by omega) h2) (⟨rfl, rfl⟩)
theorem cp_person_2 (hsh : ShOK sh) (hfx : FxOK F) (hst : StAt sh F 2) (hR : Rp I 2 w) (hW : WF w) {p k : Int} (h1 : gP w p) (j2 : jin k) (h2 : ¬ (0 ≤ k ∧ k ≤ 9)) : jS G (d + 6) mX11_person [jR (some 0), jI p, jI k] (sh, I, F) 1 6 (rX xNse (sh, I, F)) := by
  have g8 := hW.1
  have gp : 0 ≤ p ∧ p < aPe w := by have := h1.1; have := h1.2; omega
  refine jS_go [some (jR (some 0)), some (jI p), some (jI k)] (by decide +kernel) rfl (by simp [jone]) (Nat.le_of_ble_eq_true rfl) rfl (fun hok => ?_)
  refine j_aload_n dX11_person_0 rfl ?_
  refine j_iload_n dX11_person_1 rfl ?_
  refine r_cv1V dX11_person_2 cvX11_119 (by decide) (by first | assumption | exact hsh _ _ rfl) (Nat.le_of_ble_eq_true rfl) (Nat.le_of_eq (Nat.zero_add _)) (Nat.le_of_eq (Nat.zero_add _)) (cg_person0 hsh hfx hR (by omega) h1) ?_
  refine j_iload_n dX11_person_5 rfl ?_
  refine j_tswOut (tgt := 163) dX11_person_6 (by first | omega | (split <;> omega)) (by first | omega | (split <;> omega)) rfl ?_
  exact j_throwN dX11_person_163 dX11_person_166 dX11_person_167 dX11_person_169 dX11_person_172 rfl th_what ⟨rfl, rfl⟩
theorem cp_person_0 (hsh : ShOK sh) (hfx : FxOK F) (hst : StAt sh F 2) (hR : Rp I 2 w) (hW : WF w) {p k : Int} (h1 : gP w p) (h2 : 0 ≤ k ∧ k ≤ 9) : jS G (d + 6) mX11_person [jR (some 0), jI p, jI k] (sh, I, F) 0 0 (rI (vPers w p k) (sh, I, F)) := by
  have g8 := hW.1
  have gp : 0 ≤ p ∧ p < aPe w := by have := h1.1; have := h1.2; omega
  refine jS_go [some (jR (some 0)), some (jI p), some (jI k)] (by decide +kernel) rfl (by simp [jone]) (Nat.le_of_ble_eq_true rfl) rfl (fun hok => ?_)
  have u := hR.2.2.1 p gp.1 gp.2
  obtain ⟨g0, g1, g2, g3, g4, g5, g6, g7, g8, g9, e1, e2, e3, e4, e5, e6, e7, e8, e9⟩ := id hst
  rcases (show k = 0 ∨ k = 1 ∨ k = 2 ∨ k = 3 ∨ k = 4 ∨ k = 5 ∨ k = 6 ∨ k = 7 ∨ k = 8 ∨ k = 9 by omega) with rfl | rfl | rfl | rfl | rfl | rfl | rfl | rfl | rfl | rfl
  · refine j_aload_n dX11_person_0 rfl ?_
    refine j_iload_n dX11_person_1 rfl ?_
    refine r_cv1V dX11_person_2 cvX11_119 (by decide) (by first | assumption | exact hsh _ _ rfl) (Nat.le_of_ble_eq_true rfl) (Nat.le_of_eq (Nat.zero_add _)) (Nat.le_of_eq (Nat.zero_add _)) (cg_person0 hsh hfx hR (by omega) h1) ?_
    refine j_iload_n dX11_person_5 rfl ?_
    refine j_tswIn (tgt := 60) dX11_person_6 (by decide) (by decide) (by decide) rfl rfl ?_
    refine j_aload_n dX11_person_60 rfl ?_
    refine r_getS dX11_person_61 flX11_20 (by first | assumption | exact hsh _ _ rfl) (fx_0_3 hfx) ?_
    refine r_getS dX11_person_64 flX11_122 (by first | assumption | exact hsh _ _ rfl) (by assumption) ?_
    refine j_iload_n dX11_person_67 rfl ?_
    refine r_ialoadE dX11_person_68 (by first | assumption | exact hsh _ _ rfl) (by first | omega | (split <;> omega)) (by first | omega | (split <;> omega)) u.1 (fun b_68 => ?_)
    refine j_iret dX11_person_69 rfl ?_
    exact rI_of rfl rfl
  · refine j_aload_n dX11_person_0 rfl ?_
    refine j_iload_n dX11_person_1 rfl ?_
    refine r_cv1V dX11_person_2 cvX11_119 (by decide) (by first | assumption | exact hsh _ _ rfl) (Nat.le_of_ble_eq_true rfl) (Nat.le_of_eq (Nat.zero_add _)) (Nat.le_of_eq (Nat.zero_add _)) (cg_person0 hsh hfx hR (by omega) h1) ?_
    refine j_iload_n dX11_person_5 rfl ?_
    refine j_tswIn (tgt := 70) dX11_person_6 (by decide) (by decide) (by decide) rfl rfl ?_
    refine j_aload_n dX11_person_70 rfl ?_
    refine r_getS dX11_person_71 flX11_20 (by first | assumption | exact hsh _ _ rfl) (fx_0_3 hfx) ?_
    refine r_getS dX11_person_74 flX11_125 (by first | assumption | exact hsh _ _ rfl) (by assumption) ?_
    refine j_iload_n dX11_person_77 rfl ?_
    refine r_ialoadE dX11_person_78 (by first | assumption | exact hsh _ _ rfl) (by first | omega | (split <;> omega)) (by first | omega | (split <;> omega)) u.2.1 (fun b_78 => ?_)
    refine j_iret dX11_person_79 rfl ?_
    exact rI_of rfl rfl
  · refine j_aload_n dX11_person_0 rfl ?_
    refine j_iload_n dX11_person_1 rfl ?_
    refine r_cv1V dX11_person_2 cvX11_119 (by decide) (by first | assumption | exact hsh _ _ rfl) (Nat.le_of_ble_eq_true rfl) (Nat.le_of_eq (Nat.zero_add _)) (Nat.le_of_eq (Nat.zero_add _)) (cg_person0 hsh hfx hR (by omega) h1) ?_
    refine j_iload_n dX11_person_5 rfl ?_
    refine j_tswIn (tgt := 80) dX11_person_6 (by decide) (by decide) (by decide) rfl rfl ?_
    refine j_aload_n dX11_person_80 rfl ?_
    refine r_getS dX11_person_81 flX11_20 (by first | assumption | exact hsh _ _ rfl) (fx_0_3 hfx) ?_
    refine r_getS dX11_person_84 flX11_128 (by first | assumption | exact hsh _ _ rfl) (by assumption) ?_
    refine j_iload_n dX11_person_87 rfl ?_
    refine r_ialoadE dX11_person_88 (by first | assumption | exact hsh _ _ rfl) (by first | omega | (split <;> omega)) (by first | omega | (split <;> omega)) u.2.2.1 (fun b_88 => ?_)
    refine j_iret dX11_person_89 rfl ?_
    exact rI_of rfl rfl
  · by_cases e : aOf w p 3 = 0
    · refine j_aload_n dX11_person_0 rfl ?_
      refine j_iload_n dX11_person_1 rfl ?_
      refine r_cv1V dX11_person_2 cvX11_119 (by decide) (by first | assumption | exact hsh _ _ rfl) (Nat.le_of_ble_eq_true rfl) (Nat.le_of_eq (Nat.zero_add _)) (Nat.le_of_eq (Nat.zero_add _)) (cg_person0 hsh hfx hR (by omega) h1) ?_
      refine j_iload_n dX11_person_5 rfl ?_
      refine j_tswIn (tgt := 90) dX11_person_6 (by decide) (by decide) (by decide) rfl rfl ?_
      refine j_aload_n dX11_person_90 rfl ?_
      refine r_getS dX11_person_91 flX11_20 (by first | assumption | exact hsh _ _ rfl) (fx_0_3 hfx) ?_
      refine j_iload_n dX11_person_94 rfl ?_
      refine r_cv1I dX11_person_95 cvX11_131 (by decide) (by first | assumption | exact hsh _ _ rfl) (Nat.le_of_ble_eq_true rfl) (Nat.le_of_eq (Nat.zero_add _)) (Nat.le_of_eq (Nat.zero_add _)) (sc_al1 hst hR (by omega) h1 e) ?_
      refine j_if_eq (tgt := 105) dX11_person_98 rfl (by first | omega | (split <;> omega)) (fun c_98 => by exact absurd c_98 (by decide)) (fun c_98 => ?_)
      refine j_iconst dX11_person_101 ?_
      refine j_goto (tgt := 106) dX11_person_102 rfl ?_
      refine j_iret dX11_person_106 rfl ?_
      exact rI_of (by unfold vPers; rw [if_pos rfl, if_pos e]) rfl
    · refine j_aload_n dX11_person_0 rfl ?_
      refine j_iload_n dX11_person_1 rfl ?_
      refine r_cv1V dX11_person_2 cvX11_119 (by decide) (by first | assumption | exact hsh _ _ rfl) (Nat.le_of_ble_eq_true rfl) (Nat.le_of_eq (Nat.zero_add _)) (Nat.le_of_eq (Nat.zero_add _)) (cg_person0 hsh hfx hR (by omega) h1) ?_
      refine j_iload_n dX11_person_5 rfl ?_
      refine j_tswIn (tgt := 90) dX11_person_6 (by decide) (by decide) (by decide) rfl rfl ?_
      refine j_aload_n dX11_person_90 rfl ?_
      refine r_getS dX11_person_91 flX11_20 (by first | assumption | exact hsh _ _ rfl) (fx_0_3 hfx) ?_
      refine j_iload_n dX11_person_94 rfl ?_
      refine r_cv1I dX11_person_95 cvX11_131 (by decide) (by first | assumption | exact hsh _ _ rfl) (Nat.le_of_ble_eq_true rfl) (Nat.le_of_eq (Nat.zero_add _)) (Nat.le_of_eq (Nat.zero_add _)) (sc_al0 hst hR (by omega) h1 e) ?_
      refine j_if_eq (tgt := 105) dX11_person_98 rfl (by first | omega | (split <;> omega)) (fun c_98 => ?_) (fun c_98 => by exact absurd c_98 (by decide))
      refine j_iconst dX11_person_105 ?_
      refine j_iret dX11_person_106 rfl ?_
      exact rI_of (by unfold vPers; rw [if_pos rfl, if_neg e]) rfl
  · refine j_aload_n dX11_person_0 rfl ?_
    refine j_iload_n dX11_person_1 rfl ?_
    refine r_cv1V dX11_person_2 cvX11_119 (by decide) (by first | assumption | exact hsh _ _ rfl) (Nat.le_of_ble_eq_true rfl) (Nat.le_of_eq (Nat.zero_add _)) (Nat.le_of_eq (Nat.zero_add _)) (cg_person0 hsh hfx hR (by omega) h1) ?_
    refine j_iload_n dX11_person_5 rfl ?_
    refine j_tswIn (tgt := 107) dX11_person_6 (by decide) (by decide) (by decide) rfl rfl ?_
    refine j_aload_n dX11_person_107 rfl ?_
    refine r_getS dX11_person_108 flX11_20 (by first | assumption | exact hsh _ _ rfl) (fx_0_3 hfx) ?_
    refine r_getS dX11_person_111 flX11_135 (by first | assumption | exact hsh _ _ rfl) (by assumption) ?_
    refine j_iload_n dX11_person_114 rfl ?_
    refine r_ialoadE dX11_person_115 (by first | assumption | exact hsh _ _ rfl) (by first | omega | (split <;> omega)) (by first | omega | (split <;> omega)) u.2.2.2.2.1 (fun b_115 => ?_)
    refine j_iret dX11_person_116 rfl ?_
    exact rI_of rfl rfl
  · refine j_aload_n dX11_person_0 rfl ?_
    refine j_iload_n dX11_person_1 rfl ?_
    refine r_cv1V dX11_person_2 cvX11_119 (by decide) (by first | assumption | exact hsh _ _ rfl) (Nat.le_of_ble_eq_true rfl) (Nat.le_of_eq (Nat.zero_add _)) (Nat.le_of_eq (Nat.zero_add _)) (cg_person0 hsh hfx hR (by omega) h1) ?_
    refine j_iload_n dX11_person_5 rfl ?_
    refine j_tswIn (tgt := 117) dX11_person_6 (by decide) (by decide) (by decide) rfl rfl ?_
    refine j_aload_n dX11_person_117 rfl ?_
    refine r_getS dX11_person_118 flX11_20 (by first | assumption | exact hsh _ _ rfl) (fx_0_3 hfx) ?_
    refine r_getS dX11_person_121 flX11_138 (by first | assumption | exact hsh _ _ rfl) (by assumption) ?_
    refine j_iload_n dX11_person_124 rfl ?_
    refine r_ialoadE dX11_person_125 (by first | assumption | exact hsh _ _ rfl) (by first | omega | (split <;> omega)) (by first | omega | (split <;> omega)) u.2.2.2.2.2.1 (fun b_125 => ?_)
    refine j_iret dX11_person_126 rfl ?_
    exact rI_of rfl rfl
  · refine j_aload_n dX11_person_0 rfl ?_
    refine j_iload_n dX11_person_1 rfl ?_
    refine r_cv1V dX11_person_2 cvX11_119 (by decide) (by first | assumption | exact hsh _ _ rfl) (Nat.le_of_ble_eq_true rfl) (Nat.le_of_eq (Nat.zero_add _)) (Nat.le_of_eq (Nat.zero_add _)) (cg_person0 hsh hfx hR (by omega) h1) ?_
    refine j_iload_n dX11_person_5 rfl ?_
    refine j_tswIn (tgt := 127) dX11_person_6 (by decide) (by decide) (by decide) rfl rfl ?_
    refine j_aload_n dX11_person_127 rfl ?_
    refine r_getS dX11_person_128 flX11_20 (by first | assumption | exact hsh _ _ rfl) (fx_0_3 hfx) ?_
    refine j_iload_n dX11_person_131 rfl ?_
    refine r_cv1I dX11_person_132 cvX11_141 (by decide) (by first | assumption | exact hsh _ _ rfl) (Nat.le_of_ble_eq_true rfl) (Nat.le_of_eq (Nat.zero_add _)) (Nat.le_of_eq (Nat.zero_add _)) (sc_netOf hst hR gp) ?_
    refine j_iret dX11_person_135 rfl ?_
    exact rI_of rfl rfl
  · refine j_aload_n dX11_person_0 rfl ?_
    refine j_iload_n dX11_person_1 rfl ?_
    refine r_cv1V dX11_person_2 cvX11_119 (by decide) (by first | assumption | exact hsh _ _ rfl) (Nat.le_of_ble_eq_true rfl) (Nat.le_of_eq (Nat.zero_add _)) (Nat.le_of_eq (Nat.zero_add _)) (cg_person0 hsh hfx hR (by omega) h1) ?_
    refine j_iload_n dX11_person_5 rfl ?_
    refine j_tswIn (tgt := 136) dX11_person_6 (by decide) (by decide) (by decide) rfl rfl ?_
    refine j_aload_n dX11_person_136 rfl ?_
    refine r_getS dX11_person_137 flX11_20 (by first | assumption | exact hsh _ _ rfl) (fx_0_3 hfx) ?_
    refine j_iload_n dX11_person_140 rfl ?_
    refine r_cs2I dX11_person_141 csX11_145 (Nat.le_of_ble_eq_true rfl) (Nat.le_of_eq (Nat.zero_add _)) (Nat.le_of_eq (Nat.zero_add _)) (sc_worstDay hst hR gp) ?_
    refine j_iret dX11_person_144 rfl ?_
    exact rI_of rfl rfl
  · refine j_aload_n dX11_person_0 rfl ?_
    refine j_iload_n dX11_person_1 rfl ?_
    refine r_cv1V dX11_person_2 cvX11_119 (by decide) (by first | assumption | exact hsh _ _ rfl) (Nat.le_of_ble_eq_true rfl) (Nat.le_of_eq (Nat.zero_add _)) (Nat.le_of_eq (Nat.zero_add _)) (cg_person0 hsh hfx hR (by omega) h1) ?_
    refine j_iload_n dX11_person_5 rfl ?_
    refine j_tswIn (tgt := 145) dX11_person_6 (by decide) (by decide) (by decide) rfl rfl ?_
    refine j_aload_n dX11_person_145 rfl ?_
    refine r_getS dX11_person_146 flX11_20 (by first | assumption | exact hsh _ _ rfl) (fx_0_3 hfx) ?_
    refine j_iload_n dX11_person_149 rfl ?_
    refine r_cs2I dX11_person_150 csX11_151 (Nat.le_of_ble_eq_true rfl) (Nat.le_of_eq (Nat.zero_add _)) (Nat.le_of_eq (Nat.zero_add _)) (sc_will hst hR gp) ?_
    refine j_iret dX11_person_153 rfl ?_
    exact rI_of rfl rfl
  · refine j_aload_n dX11_person_0 rfl ?_
    refine j_iload_n dX11_person_1 rfl ?_
    refine r_cv1V dX11_person_2 cvX11_119 (by decide) (by first | assumption | exact hsh _ _ rfl) (Nat.le_of_ble_eq_true rfl) (Nat.le_of_eq (Nat.zero_add _)) (Nat.le_of_eq (Nat.zero_add _)) (cg_person0 hsh hfx hR (by omega) h1) ?_
    refine j_iload_n dX11_person_5 rfl ?_
    refine j_tswIn (tgt := 154) dX11_person_6 (by decide) (by decide) (by decide) rfl rfl ?_
    refine j_aload_n dX11_person_154 rfl ?_
    refine r_getS dX11_person_155 flX11_20 (by first | assumption | exact hsh _ _ rfl) (fx_0_3 hfx) ?_
    refine j_iload_n dX11_person_158 rfl ?_
    refine r_cs2I dX11_person_159 csX11_154 (Nat.le_of_ble_eq_true rfl) (Nat.le_of_eq (Nat.zero_add _)) (Nat.le_of_eq (Nat.zero_add _)) (sc_heirs hst hR (WF_H hW) gp) ?_
    refine j_iret dX11_person_162 rfl ?_
    exact rI_of rfl rfl
theorem cp_count (hsh : ShOK sh) (hfx : FxOK F) (hst : StAt sh F 2) (hR : Rp I 2 w) (hW : WF w) {r k : Int} (hk : jin k) (hL : LwR sh I F 2 w) (h16 : I 2 16 = w 9) (hlg : I (2 + 8) 1 = w 10) (hmm : I 32 1 = r) : jS G (d + 6) mX11_count [jR (some 0), jI k] (sh, I, F) 0 0 (rI (vCount w r k) (sh, I, F)) := by
  have g8 := hW.1
  refine jS_go [some (jR (some 0)), some (jI k)] (by decide +kernel) rfl (by simp [jone]) (Nat.le_of_ble_eq_true rfl) rfl (fun hok => ?_)
  have eA := mAcc_all (w := w) g8
  obtain ⟨r0, r1, rP, rO, rA, r9, r10, r11, r12, r13, r14, r15, r16, r17⟩ := id hR
  obtain ⟨g0, g1, g2, g3, g4, g5, g6, g7, g8, g9, e1, e2, e3, e4, e5, e6, e7, e8, e9⟩ := id hst
  by_cases e : 0 ≤ k ∧ k ≤ 14
  · rcases (show k = 0 ∨ k = 1 ∨ k = 2 ∨ k = 3 ∨ k = 4 ∨ k = 5 ∨ k = 6 ∨ k = 7 ∨ k = 8 ∨ k = 9 ∨ k = 10 ∨ k = 11 ∨ k = 12 ∨ k = 13 ∨ k = 14 by omega) with rfl | rfl | rfl | rfl | rfl | rfl | rfl | rfl | rfl | rfl | rfl | rfl | rfl | rfl | rfl
    · refine j_iload_n dX11_count_0 rfl ?_
      refine j_tswIn (tgt := 76) dX11_count_1 (by decide) (by decide) (by decide) rfl rfl ?_
      refine j_aload_n dX11_count_76 rfl ?_
      refine r_getS dX11_count_77 flX11_20 (by first | assumption | exact hsh _ _ rfl) (fx_0_3 hfx) ?_
      refine r_getIE dX11_count_80 flX11_278 (by first | assumption | exact hsh _ _ rfl) r0 (fun b_80 => ?_)
      refine j_iret dX11_count_83 rfl ?_
      exact rI_of rfl rfl
    · refine j_iload_n dX11_count_0 rfl ?_
      refine j_tswIn (tgt := 84) dX11_count_1 (by decide) (by decide) (by decide) rfl rfl ?_
      refine j_aload_n dX11_count_84 rfl ?_
      refine r_getS dX11_count_85 flX11_20 (by first | assumption | exact hsh _ _ rfl) (fx_0_3 hfx) ?_
      refine r_getIE dX11_count_88 flX11_219 (by first | assumption | exact hsh _ _ rfl) rA (fun b_88 => ?_)
      refine j_iret dX11_count_91 rfl ?_
      exact rI_of rfl rfl
    · refine j_iload_n dX11_count_0 rfl ?_
      refine j_tswIn (tgt := 92) dX11_count_1 (by decide) (by decide) (by decide) rfl rfl ?_
      refine j_aload_n dX11_count_92 rfl ?_
      refine r_getS dX11_count_93 flX11_20 (by first | assumption | exact hsh _ _ rfl) (fx_0_3 hfx) ?_
      refine r_getIE dX11_count_96 flX11_96 (by first | assumption | exact hsh _ _ rfl) r15 (fun b_96 => ?_)
      refine j_iret dX11_count_99 rfl ?_
      exact rI_of rfl rfl
    · rcases hL with ⟨l1, l2⟩ | ⟨l1, l, l2, l3⟩
      · refine j_iload_n dX11_count_0 rfl ?_
        refine j_tswIn (tgt := 100) dX11_count_1 (by decide) (by decide) (by decide) rfl rfl ?_
        refine j_aload_n dX11_count_100 rfl ?_
        refine r_getS dX11_count_101 flX11_20 (by first | assumption | exact hsh _ _ rfl) (fx_0_3 hfx) ?_
        refine r_getR dX11_count_104 flX11_110 (by first | assumption | exact hsh _ _ rfl) ?_
        refine j_ifnonnull (tgt := 114) dX11_count_107 rfl (fun a_107 c_107 => by exact absurd (c_107.symm.trans l2) (by simp)) (fun c_107 => ?_)
        refine j_iconst dX11_count_110 ?_
        refine j_goto (tgt := 124) dX11_count_111 rfl ?_
        refine j_iret dX11_count_124 rfl ?_
        exact rI_of (by unfold vCount; rw [if_neg (by decide), if_neg (by decide), if_neg (by decide), if_pos rfl, if_neg (by omega)]) rfl
      · obtain ⟨l4, l5, la, ls, lc, nc, l6, l7, l8, l9, l10⟩ := l3
        refine j_iload_n dX11_count_0 rfl ?_
        refine j_tswIn (tgt := 100) dX11_count_1 (by decide) (by decide) (by decide) rfl rfl ?_
        refine j_aload_n dX11_count_100 rfl ?_
        refine r_getS dX11_count_101 flX11_20 (by first | assumption | exact hsh _ _ rfl) (fx_0_3 hfx) ?_
        refine r_getR dX11_count_104 flX11_110 (by first | assumption | exact hsh _ _ rfl) ?_
        refine j_ifnonnull (tgt := 114) dX11_count_107 rfl (fun a_107 c_107 => ?_) (fun c_107 => by exact absurd (c_107.symm.trans l2) (by simp))
        refine j_aload_n dX11_count_114 rfl ?_
        refine r_getS dX11_count_115 flX11_20 (by first | assumption | exact hsh _ _ rfl) (fx_0_3 hfx) ?_
        refine r_getS dX11_count_118 flX11_110 (by first | assumption | exact hsh _ _ rfl) l2 ?_
        refine r_getIE dX11_count_121 flX11_114 (by first | assumption | exact hsh _ _ rfl) l9 (fun b_121 => ?_)
        refine j_iret dX11_count_124 rfl ?_
        exact rI_of (by unfold vCount; rw [if_neg (by decide), if_neg (by decide), if_neg (by decide), if_pos rfl, if_pos l1]) rfl
    · refine j_iload_n dX11_count_0 rfl ?_
      refine j_tswIn (tgt := 125) dX11_count_1 (by decide) (by decide) (by decide) rfl rfl ?_
      refine j_aload_n dX11_count_125 rfl ?_
      refine r_getS dX11_count_126 flX11_20 (by first | assumption | exact hsh _ _ rfl) (fx_0_3 hfx) ?_
      refine r_getIE dX11_count_129 flX11_230 (by first | assumption | exact hsh _ _ rfl) r13 (fun b_129 => ?_)
      refine j_iret dX11_count_132 rfl ?_
      exact rI_of rfl rfl
    · refine j_iload_n dX11_count_0 rfl ?_
      refine j_tswIn (tgt := 133) dX11_count_1 (by decide) (by decide) (by decide) rfl rfl ?_
      refine j_aload_n dX11_count_133 rfl ?_
      refine r_getS dX11_count_134 flX11_20 (by first | assumption | exact hsh _ _ rfl) (fx_0_3 hfx) ?_
      refine r_getIE dX11_count_137 flX11_306 (by first | assumption | exact hsh _ _ rfl) r9 (fun b_137 => ?_)
      refine j_iret dX11_count_140 rfl ?_
      exact rI_of rfl rfl
    · refine j_iload_n dX11_count_0 rfl ?_
      refine j_tswIn (tgt := 141) dX11_count_1 (by decide) (by decide) (by decide) rfl rfl ?_
      refine j_aload_n dX11_count_141 rfl ?_
      refine r_getS dX11_count_142 flX11_20 (by first | assumption | exact hsh _ _ rfl) (fx_0_3 hfx) ?_
      refine r_getIE dX11_count_145 flX11_349 (by first | assumption | exact hsh _ _ rfl) r10 (fun b_145 => ?_)
      refine j_iret dX11_count_148 rfl ?_
      exact rI_of rfl rfl
    · refine j_iload_n dX11_count_0 rfl ?_
      refine j_tswIn (tgt := 149) dX11_count_1 (by decide) (by decide) (by decide) rfl rfl ?_
      refine j_aload_n dX11_count_149 rfl ?_
      refine r_getS dX11_count_150 flX11_20 (by first | assumption | exact hsh _ _ rfl) (fx_0_3 hfx) ?_
      refine r_getIE dX11_count_153 flX11_352 (by first | assumption | exact hsh _ _ rfl) r11 (fun b_153 => ?_)
      refine j_iret dX11_count_156 rfl ?_
      exact rI_of rfl rfl
    · refine j_iload_n dX11_count_0 rfl ?_
      refine j_tswIn (tgt := 157) dX11_count_1 (by decide) (by decide) (by decide) rfl rfl ?_
      refine j_aload_n dX11_count_157 rfl ?_
      refine r_getS dX11_count_158 flX11_20 (by first | assumption | exact hsh _ _ rfl) (fx_0_3 hfx) ?_
      refine r_getIE dX11_count_161 flX11_355 (by first | assumption | exact hsh _ _ rfl) r12 (fun b_161 => ?_)
      refine j_iret dX11_count_164 rfl ?_
      exact rI_of rfl rfl
    · refine j_iload_n dX11_count_0 rfl ?_
      refine j_tswIn (tgt := 165) dX11_count_1 (by decide) (by decide) (by decide) rfl rfl ?_
      refine j_aload_n dX11_count_165 rfl ?_
      refine r_getS dX11_count_166 flX11_20 (by first | assumption | exact hsh _ _ rfl) (fx_0_3 hfx) ?_
      refine j_aload_n dX11_count_169 rfl ?_
      refine r_getS dX11_count_170 flX11_20 (by first | assumption | exact hsh _ _ rfl) (fx_0_3 hfx) ?_
      refine r_cv0I dX11_count_173 cvX11_222 (by decide) (by first | assumption | exact hsh _ _ rfl) (Nat.le_of_ble_eq_true rfl) (Nat.le_of_eq (Nat.zero_add _)) (Nat.le_of_eq (Nat.zero_add _)) (sc_everybody hst hR) ?_
      refine r_cv1I dX11_count_176 cvX11_269 (by decide) (by first | assumption | exact hsh _ _ rfl) (Nat.le_of_ble_eq_true rfl) (Nat.le_of_eq (Nat.zero_add _)) (Nat.le_of_eq (Nat.zero_add _)) (sc_accountsOf hst hR) ?_
      rw [show mAcc w (jShl 1 (aPe w) - 1) = mAll w 1 from eA]
      refine j_iret dX11_count_179 rfl ?_
      exact rI_of rfl rfl
    · refine j_iload_n dX11_count_0 rfl ?_
      refine j_tswIn (tgt := 180) dX11_count_1 (by decide) (by decide) (by decide) rfl rfl ?_
      refine j_aload_n dX11_count_180 rfl ?_
      refine r_getS dX11_count_181 flX11_20 (by first | assumption | exact hsh _ _ rfl) (fx_0_3 hfx) ?_
      refine r_cv0I dX11_count_184 cvX11_358 (by decide) (by first | assumption | exact hsh _ _ rfl) (Nat.le_of_ble_eq_true rfl) (Nat.le_of_eq (Nat.zero_add _)) (Nat.le_of_eq (Nat.zero_add _)) (sc_forgedTogether hst hR) ?_
      refine j_iret dX11_count_187 rfl ?_
      exact rI_of rfl rfl
    · refine j_iload_n dX11_count_0 rfl ?_
      refine j_tswIn (tgt := 188) dX11_count_1 (by decide) (by decide) (by decide) rfl rfl ?_
      refine j_aload_n dX11_count_188 rfl ?_
      refine r_getS dX11_count_189 flX11_20 (by first | assumption | exact hsh _ _ rfl) (fx_0_3 hfx) ?_
      refine r_getIE dX11_count_192 flX11_226 (by first | assumption | exact hsh _ _ rfl) r17 (fun b_192 => ?_)
      refine j_if_eq (tgt := 202) dX11_count_195 rfl (by first | omega | (split <;> omega)) (fun c_195 => ?_) (fun c_195 => ?_)
      · refine j_iconst dX11_count_202 ?_
        refine j_iret dX11_count_203 rfl ?_
        exact rI_of (by have := hW.2.2.2.1; show _ = w 8; omega) rfl
      · refine j_iconst dX11_count_198 ?_
        refine j_goto (tgt := 203) dX11_count_199 rfl ?_
        refine j_iret dX11_count_203 rfl ?_
        exact rI_of (by have := hW.2.2.2.1; show _ = w 8; omega) rfl
    · refine j_iload_n dX11_count_0 rfl ?_
      refine j_tswIn (tgt := 204) dX11_count_1 (by decide) (by decide) (by decide) rfl rfl ?_
      refine j_aload_n dX11_count_204 rfl ?_
      refine r_getS dX11_count_205 flX11_20 (by first | assumption | exact hsh _ _ rfl) (fx_0_3 hfx) ?_
      refine r_getIE dX11_count_208 flX11_241 (by first | assumption | exact hsh _ _ rfl) h16 (fun b_208 => ?_)
      refine j_iret dX11_count_211 rfl ?_
      exact rI_of rfl rfl
    · refine j_iload_n dX11_count_0 rfl ?_
      refine j_tswIn (tgt := 212) dX11_count_1 (by decide) (by decide) (by decide) rfl rfl ?_
      refine j_aload_n dX11_count_212 rfl ?_
      refine r_getS dX11_count_213 flX11_20 (by first | assumption | exact hsh _ _ rfl) (fx_0_3 hfx) ?_
      refine r_getS dX11_count_216 flX11_324 (by first | assumption | exact hsh _ _ rfl) (by assumption) ?_
      refine r_getIE dX11_count_219 flX11_361 (by first | assumption | exact hsh _ _ rfl) hlg (fun b_219 => ?_)
      refine j_iret dX11_count_222 rfl ?_
      exact rI_of rfl rfl
    · refine j_iload_n dX11_count_0 rfl ?_
      refine j_tswIn (tgt := 223) dX11_count_1 (by decide) (by decide) (by decide) rfl rfl ?_
      refine j_aload_n dX11_count_223 rfl ?_
      refine r_getS dX11_count_224 flX11_33 (by first | assumption | exact hsh _ _ rfl) (fx_0_7 hfx) ?_
      refine r_getIE dX11_count_227 flX11_364 (by first | assumption | exact hsh _ _ rfl) hmm (fun b_227 => ?_)
      refine j_iret dX11_count_230 rfl ?_
      exact rI_of rfl rfl
  · have hv : vCount w r k = -1 := by unfold vCount; rw [if_neg (by omega), if_neg (by omega), if_neg (by omega), if_neg (by omega), if_neg (by omega), if_neg (by omega), if_neg (by omega), if_neg (by omega), if_neg (by omega), if_neg (by omega), if_neg (by omega)]
    refine j_iload_n dX11_count_0 rfl ?_
    refine j_tswOut (tgt := 231) dX11_count_1 (by first | omega | (split <;> omega)) (by first | omega | (split <;> omega)) rfl ?_
    refine j_iconst dX11_count_231 ?_
    refine j_iret dX11_count_232 rfl ?_
    exact rI_of hv.symm rfl
theorem cp_fault (hsh : ShOK sh) : jS G d mX11_fault [jR (some 0)] (sh, I, F) 0 0 (rI (I 0 2) (sh, I, F)) := by
  refine jS_go [some (jR (some 0))] (by decide +kernel) rfl (by simp [jone]) (Nat.le_of_ble_eq_true rfl) rfl (fun hok => ?_)
  refine j_aload_n dX11_fault_0 rfl ?_
  refine r_getI dX11_fault_1 flX11_13 (by first | assumption | exact hsh _ _ rfl) (fun b_1 => ?_)
  refine j_iret dX11_fault_4 rfl ?_
  exact rI_of rfl rfl
theorem cp_seed (hsh : ShOK sh) (hfx : FxOK F) (hst : StAt sh F 2) (hR : Rp I 2 w) {n : Int} (hn : jin n) : jS G d mX11_seed [jR (some 0), jI n] (sh, I, F) 0 0 (rI (w 11) (sh, jup I 2 14 n, F)) := by
  have r14 := hR.2.2.2.2.2.2.2.2.2.2.1
  obtain ⟨g0, g1, g2, g3, g4, g5, g6, g7, g8, g9, e1, e2, e3, e4, e5, e6, e7, e8, e9⟩ := id hst
  refine jS_go [some (jR (some 0)), some (jI n), none] (by decide +kernel) rfl (by simp [jone]) (Nat.le_of_ble_eq_true rfl) rfl (fun hok => ?_)
  refine j_aload_n dX11_seed_0 rfl ?_
  refine r_getS dX11_seed_1 flX11_20 (by first | assumption | exact hsh _ _ rfl) (fx_0_3 hfx) ?_
  refine r_getIE dX11_seed_4 flX11_318 (by first | assumption | exact hsh _ _ rfl) r14 (fun b_4 => ?_)
  refine j_istore_n dX11_seed_7 (by decide) ?_
  refine j_aload_n dX11_seed_8 rfl ?_
  refine r_getS dX11_seed_9 flX11_20 (by first | assumption | exact hsh _ _ rfl) (fx_0_3 hfx) ?_
  refine j_iload_n dX11_seed_12 rfl ?_
  refine r_putI dX11_seed_13 flX11_318 rfl (by first | assumption | exact hsh _ _ rfl) (by first | omega | (split <;> omega)) (fun q => by cases q) ?_
  refine j_iload_n dX11_seed_16 rfl ?_
  refine j_iret dX11_seed_17 rfl ?_
  exact rI_of rfl rfl
end
