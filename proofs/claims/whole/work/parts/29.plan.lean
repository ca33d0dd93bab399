/-! PLANS, SHARES, COST, FEELINGS, SAINTS -/
noncomputable def jfirst (P : Int → Prop) (N : Int) : Int := by
  classical
  exact if h : ∃ k, (0 ≤ k ∧ k < N) ∧ P k ∧ ∀ j, 0 ≤ j → j < k → ¬ P j then Classical.choose h else -1
theorem jfirst_hit {P : Int → Prop} {N k : Int} (h0 : 0 ≤ k) (h1 : k < N) (h2 : P k) (h3 : ∀ j, 0 ≤ j → j < k → ¬ P j) : jfirst P N = k := by
  have hx : ∃ k, (0 ≤ k ∧ k < N) ∧ P k ∧ ∀ j, 0 ≤ j → j < k → ¬ P j := ⟨k, ⟨h0, h1⟩, h2, h3⟩
  unfold jfirst
  rw [dif_pos hx]
  obtain ⟨a, b, c⟩ := Classical.choose_spec hx
  rcases Int.lt_trichotomy (Classical.choose hx) k with q | q | q
  · exact absurd b (h3 _ a.1 q)
  · exact q
  · exact absurd h2 (c k h0 q)
theorem jfirst_none {P : Int → Prop} {N : Int} (h : ∀ j, 0 ≤ j → j < N → ¬ P j) : jfirst P N = -1 := by
  unfold jfirst
  rw [dif_neg]
  rintro ⟨k, ⟨h0, h1⟩, h2, -⟩
  exact h k h0 h1 h2
def mPart (w : Int → Int) (p L k : Int) : Int := min (mFelt w p (k + 1) L) (aOf w p 1) - min (mFelt w p k L) (aOf w p 1)
theorem mFelt_s {w : Int → Int} {p L z : Int} (h : 0 ≤ z) : mFelt w p (z + 1) L = mFelt w p z L + max 0 (L - aPaD w p (w 3 + z)) := jfold_s _ _ h
def mRest (w : Int → Int) (p q z : Int) : Int := jfold (fun k a => a - max 0 (aOf w p 0 + aOf w q 0 - aTwo w p q (w 3 + k))) (aOf w p 1 + aOf w q 1) z.toNat
theorem mRest_s {w : Int → Int} {p q z : Int} (h : 0 ≤ z) : mRest w p q (z + 1) = mRest w p q z - max 0 (aOf w p 0 + aOf w q 0 - aTwo w p q (w 3 + z)) := jfold_s _ _ h
noncomputable def mShares (w : Int → Int) (p q : Int) : Int := jfirst (fun k => mRest w p q k ≤ 0) 41
theorem mRest_in {w : Int → Int} (hD : WfD w) (hB : WfB w) (hA : WfA w) {p q z : Int} (h0 : 0 ≤ p ∧ p < aPe w) (h1 : 0 ≤ q ∧ q < aPe w) (h2 : 0 ≤ z ∧ z ≤ 41) : -10000 ≤ mRest w p q z ∧ mRest w p q z ≤ 200000 := by
  have := jfold_ind (f := fun k a => a - max 0 (aOf w p 0 + aOf w q 0 - aTwo w p q (w 3 + k))) (a := aOf w p 1 + aOf w q 1) (fun j a => -(j * 198) ≤ a ∧ a ≤ 200000) (by have := hA p h0.1 h0.2; have := hA q h1.1 h1.2; omega) (n := z.toNat) (fun j y h3 h4 q2 => by
    have := aPaD_in hB h0 (day := w 3 + j) (by omega)
    have := aPaD_in hB h1 (day := w 3 + j) (by omega)
    have := (hB p h0.1 h0.2).1
    have := (hB q h1.1 h1.2).1
    have e : aTwo w p q (w 3 + j) = aPaD w p (w 3 + j) + aPaD w q (w 3 + j) := rfl
    show -((j + 1) * 198) ≤ y - max 0 _ ∧ y - max 0 _ ≤ 200000
    omega)
  unfold mRest
  rw [show ((z.toNat : Nat) : Int) = z by omega] at this
  omega
section
variable {G : jzG} {d : Nat} {sh : List (Nat × Nat)} {I : Nat → Int → Int} {F : Nat → Int → Option Nat}
theorem sc_partOn {s : Nat} {w : Int → Int} (hs : StAt sh F s) (hR : Rp I s w) (hD : WfD w) (hB : WfB w) {p L k : Int} (h0 : 0 ≤ p ∧ p < aPe w) (h1 : 0 ≤ k ∧ k < 40) (h2 : 0 ≤ L ∧ L ≤ 110000) : jS G (d + 2) mX1_partOn [jR (some s), jI p, jI L, jI k] (sh, I, F) 0 0 (rI (mPart w p L k) (sh, I, F)) := by
  obtain ⟨g0, g1, g2, g3, g4, g5, g6, g7, g8, g9, e1, e2, e3, e4, e5, e6, e7, e8, e9⟩ := id hs
  obtain ⟨r0, r1, rP, rO, rA, r9, r10, r11, r12, r13, r14, r15, r16, r17⟩ := id hR
  obtain ⟨q0, q1, q2, q3, q4, q5, q6⟩ := rP p h0.1 h0.2
  have f1 := mFelt_in hD hB h0 (n := k) (level := L) (by omega) h2
  have f2 := mFelt_in hD hB h0 (n := k + 1) (level := L) (by omega) h2
  refine jS_go [some (jR (some s)), some (jI p), some (jI L), some (jI k), none, none] (by decide +kernel) rfl (by simp [jone]) (Nat.le_of_ble_eq_true rfl) rfl (fun hok => ?_)
  refine j_aload_n dX1_partOn_0 rfl ?_
  refine j_iload_n dX1_partOn_1 rfl ?_
  refine j_iload_n dX1_partOn_2 rfl ?_
  refine j_iload_n dX1_partOn_3 rfl ?_
  refine r_cs4I dX1_partOn_4 csX1_30 (Nat.le_of_ble_eq_true rfl) (Nat.le_of_eq (Nat.zero_add _)) (Nat.le_of_eq (Nat.zero_add _)) (sc_roomUnder hs hR hD hB h0 (by omega) h2) ?_
  refine j_istore dX1_partOn_7 (by decide) ?_
  refine j_aload_n dX1_partOn_9 rfl ?_
  refine j_iload_n dX1_partOn_10 rfl ?_
  refine j_iload_n dX1_partOn_11 rfl ?_
  refine j_iconst dX1_partOn_12 ?_
  refine j_iadd dX1_partOn_13 ?_
  refine j_iload_n dX1_partOn_14 rfl ?_
  refine r_cs4I dX1_partOn_15 csX1_30 (Nat.le_of_ble_eq_true rfl) (Nat.le_of_eq (Nat.zero_add _)) (Nat.le_of_eq (Nat.zero_add _)) (sc_roomUnder hs hR hD hB h0 (by omega) h2) ?_
  refine j_istore dX1_partOn_18 (by decide) ?_
  refine j_iload dX1_partOn_20 rfl ?_
  refine j_aload_n dX1_partOn_22 rfl ?_
  refine r_getS dX1_partOn_23 flX1_27 (by first | assumption | exact hsh _ _ rfl) (by assumption) ?_
  refine j_iload_n dX1_partOn_26 rfl ?_
  refine r_ialoadE dX1_partOn_27 (by first | assumption | exact hsh _ _ rfl) (by first | omega | (split <;> omega)) (by first | omega | (split <;> omega)) q1 (fun b_27 => ?_)
  refine r_min dX1_partOn_28 lmX1_36 (Nat.le_of_ble_eq_true rfl) (by first | omega | (split <;> omega)) (by first | omega | (split <;> omega)) ?_
  refine j_iload dX1_partOn_31 rfl ?_
  refine j_aload_n dX1_partOn_33 rfl ?_
  refine r_getS dX1_partOn_34 flX1_27 (by first | assumption | exact hsh _ _ rfl) (by assumption) ?_
  refine j_iload_n dX1_partOn_37 rfl ?_
  refine r_ialoadE dX1_partOn_38 (by first | assumption | exact hsh _ _ rfl) (by first | omega | (split <;> omega)) (by first | omega | (split <;> omega)) q1 (fun b_38 => ?_)
  refine r_min dX1_partOn_39 lmX1_36 (Nat.le_of_ble_eq_true rfl) (by first | omega | (split <;> omega)) (by first | omega | (split <;> omega)) ?_
  refine j_isub dX1_partOn_42 ?_
  refine j_iret dX1_partOn_43 rfl ?_
  exact rI_of rfl rfl
theorem mp_plan_1 (hsh : ShOK sh) (hfx : FxOK F) (hP : WfP (I 171)) {p n k : Int} (h1 : jin p) (h2 : ¬ gP (I 171) p) : jS G (d + 5) mX12_plan [jR (some 170), jI p, jI n, jI k] (sh, I, F) 0 0 (rI 0 (sh, jup I 170 0 1, F)) := by
  refine jS_go [some (jR (some 170)), some (jI p), some (jI n), some (jI k), none, none, none, none] (by decide +kernel) rfl (by simp [jone]) (Nat.le_of_ble_eq_true rfl) rfl (fun hok => ?_)
  refine j_aload_n dX12_plan_0 rfl ?_
  refine j_iconst dX12_plan_1 ?_
  refine r_putI dX12_plan_2 flX12_3 rfl (by first | assumption | exact hsh _ _ rfl) (by first | omega | (split <;> omega)) (fun q => by cases q) ?_
  skip
  have hok1 : jzok (sh, jup I 170 0 0, F) := jzok_I hok jin_lit0
  have hw0 : (jup I 170 0 0) 171 = I 171 := jup_ne _ _ _ (by decide)
  clear hok
  rw [← jup_up I 170 0 0 1]
  rw [← hw0] at hP h2
  try rw [← hw0]
  obtain ⟨I1, hI1⟩ : ∃ J, J = jup I 170 0 0 := ⟨_, rfl⟩
  rw [← hI1] at hok1 hw0 hP h2 ⊢
  have hok := hok1
  refine j_aload_n dX12_plan_5 rfl ?_
  refine j_aload_n dX12_plan_6 rfl ?_
  refine j_iload_n dX12_plan_7 rfl ?_
  refine r_cv1I dX12_plan_8 cvX12_335 (by decide) (by first | assumption | exact hsh _ _ rfl) (Nat.le_of_ble_eq_true rfl) (Nat.le_of_eq (Nat.zero_add _)) (Nat.le_of_eq (Nat.zero_add _)) (sm_noP1 hsh hfx hok h1 hP h2) ?_
  refine j_iconst dX12_plan_11 ?_
  refine r_cv2I dX12_plan_12 cvX12_253 (by decide) (by first | assumption | exact hsh _ _ rfl) (Nat.le_of_ble_eq_true rfl) (Nat.le_of_eq (Nat.zero_add _)) (Nat.le_of_eq (Nat.zero_add _)) (sm_thr1 hsh (by omega)) ?_
  refine j_if_ne (tgt := 41) dX12_plan_15 rfl (by first | omega | (split <;> omega)) (fun c_15 => ?_) (fun c_15 => by exact absurd (by decide) c_15)
  refine j_iconst dX12_plan_41 ?_
  refine j_iret dX12_plan_42 rfl ?_
  exact rI_of rfl rfl
theorem mp_plan_2 (hsh : ShOK sh) (hfx : FxOK F) (hP : WfP (I 171)) {p n k : Int} (h1 : jin p) (hn : jin n) (h2 : gP (I 171) p) (h3 : ¬ (1 ≤ n ∧ n ≤ 40)) : jS G (d + 5) mX12_plan [jR (some 170), jI p, jI n, jI k] (sh, I, F) 0 0 (rI 0 (sh, jup I 170 0 2, F)) := by
  refine jS_go [some (jR (some 170)), some (jI p), some (jI n), some (jI k), none, none, none, none] (by decide +kernel) rfl (by simp [jone]) (Nat.le_of_ble_eq_true rfl) rfl (fun hok => ?_)
  refine j_aload_n dX12_plan_0 rfl ?_
  refine j_iconst dX12_plan_1 ?_
  refine r_putI dX12_plan_2 flX12_3 rfl (by first | assumption | exact hsh _ _ rfl) (by first | omega | (split <;> omega)) (fun q => by cases q) ?_
  skip
  have hok1 : jzok (sh, jup I 170 0 0, F) := jzok_I hok jin_lit0
  have hw0 : (jup I 170 0 0) 171 = I 171 := jup_ne _ _ _ (by decide)
  clear hok
  rw [← jup_up I 170 0 0 2]
  rw [← hw0] at hP h2
  try rw [← hw0]
  obtain ⟨I1, hI1⟩ : ∃ J, J = jup I 170 0 0 := ⟨_, rfl⟩
  rw [← hI1] at hok1 hw0 hP h2 ⊢
  have hok := hok1
  refine j_aload_n dX12_plan_5 rfl ?_
  refine j_aload_n dX12_plan_6 rfl ?_
  refine j_iload_n dX12_plan_7 rfl ?_
  refine r_cv1I dX12_plan_8 cvX12_335 (by decide) (by first | assumption | exact hsh _ _ rfl) (Nat.le_of_ble_eq_true rfl) (Nat.le_of_eq (Nat.zero_add _)) (Nat.le_of_eq (Nat.zero_add _)) (sm_noP0 hsh hfx hok h1 hP h2) ?_
  refine j_iconst dX12_plan_11 ?_
  refine r_cv2I dX12_plan_12 cvX12_253 (by decide) (by first | assumption | exact hsh _ _ rfl) (Nat.le_of_ble_eq_true rfl) (Nat.le_of_eq (Nat.zero_add _)) (Nat.le_of_eq (Nat.zero_add _)) (sm_thr0 hsh) ?_
  refine j_if_ne (tgt := 41) dX12_plan_15 rfl (by first | omega | (split <;> omega)) (fun c_15 => by exact absurd rfl c_15) (fun c_15 => ?_)
  refine j_aload_n dX12_plan_18 rfl ?_
  refine j_iload_n dX12_plan_19 rfl ?_
  refine j_iconst dX12_plan_20 ?_
  refine j_bipush dX12_plan_21 (by decide) ?_
  refine r_cs3I dX12_plan_23 csX12_78 (Nat.le_of_ble_eq_true rfl) (Nat.le_of_eq (Nat.zero_add _)) (Nat.le_of_eq (Nat.zero_add _)) (sm_in0 hn (by omega) (by omega) h3) ?_
  refine j_if_ne (tgt := 33) dX12_plan_26 rfl (by first | omega | (split <;> omega)) (fun c_26 => by exact absurd rfl c_26) (fun c_26 => ?_)
  refine j_iconst dX12_plan_29 ?_
  refine j_goto (tgt := 34) dX12_plan_30 rfl ?_
  refine j_iconst dX12_plan_34 ?_
  refine r_cv2I dX12_plan_35 cvX12_253 (by decide) (by first | assumption | exact hsh _ _ rfl) (Nat.le_of_ble_eq_true rfl) (Nat.le_of_eq (Nat.zero_add _)) (Nat.le_of_eq (Nat.zero_add _)) (sm_thr1 hsh (by omega)) ?_
  refine j_if_eq (tgt := 43) dX12_plan_38 rfl (by first | omega | (split <;> omega)) (fun c_38 => by exact absurd c_38 (by decide)) (fun c_38 => ?_)
  refine j_iconst dX12_plan_41 ?_
  refine j_iret dX12_plan_42 rfl ?_
  exact rI_of rfl rfl
noncomputable def mPlan (w : Int → Int) (p n k : Int) : Int := if k = -1 then mLevel w p n else if 0 ≤ k ∧ k ≤ n - 1 then mPart w p (mLevel w p n) k else -1
theorem mLevel_in {w : Int → Int} (hD : WfD w) (hB : WfB w) (hA : WfA w) {p n : Int} (h0 : 0 ≤ p ∧ p < aPe w) (h1 : 1 ≤ n ∧ n ≤ 40) : 0 ≤ mLevel w p n ∧ mLevel w p n ≤ 100009 := by
  have hAp := hA p h0.1 h0.2
  by_cases hx : ∃ L, LeastL w p n L
  · obtain ⟨L, hL⟩ := hx
    rw [mLevel_of hL]
    refine ⟨hL.1, Classical.byContradiction (fun q => ?_)⟩
    have h2 := hL.2.2 100009 (by omega) (by omega)
    have h3 := mFelt_big hD hB h0 h1 (x := 100000) (by omega)
    rw [show (100000 : Int) + 9 = 100009 from rfl] at h3
    omega
  · unfold mLevel
    rw [dif_neg hx]
    omega
theorem mp_plan_0 (hsh : ShOK sh) (hfx : FxOK F) (hP : WfP (I 171)) (hD : WfD (I 171)) (hB : WfB (I 171)) (hA : WfA (I 171)) {p n k : Int} (h1 : jin p) (hn : jin n) (hk : jin k) (h2 : gP (I 171) p) (h3 : 1 ≤ n ∧ n ≤ 40) : jS G (d + 5) mX12_plan [jR (some 170), jI p, jI n, jI k] (sh, I, F) 0 0 (rI (mPlan (I 171) p n k) (sh, jup I 170 0 0, F)) := by
  refine jS_go [some (jR (some 170)), some (jI p), some (jI n), some (jI k), none, none, none, none] (by decide +kernel) rfl (by simp [jone]) (Nat.le_of_ble_eq_true rfl) rfl (fun hok => ?_)
  refine j_aload_n dX12_plan_0 rfl ?_
  refine j_iconst dX12_plan_1 ?_
  refine r_putI dX12_plan_2 flX12_3 rfl (by first | assumption | exact hsh _ _ rfl) (by first | omega | (split <;> omega)) (fun q => by cases q) ?_
  skip
  have hok1 : jzok (sh, jup I 170 0 0, F) := jzok_I hok jin_lit0
  have hw0 : (jup I 170 0 0) 171 = I 171 := jup_ne _ _ _ (by decide)
  clear hok
  rw [← hw0] at hP hD hB hA h2
  try rw [← hw0]
  obtain ⟨I1, hI1⟩ : ∃ J, J = jup I 170 0 0 := ⟨_, rfl⟩
  rw [← hI1] at hok1 hw0 hP hD hB hA h2 ⊢
  have hok := hok1
  have hP2 := hP.2
  have hAp := hA p h2.1 (by omega)
  have hlv := mLevel_in hD hB hA (p := p) (n := n) (by omega) h3
  have inner : ¬ k = -1 → (0 ≤ k ∧ k ≤ n - 1) → jW G mX12_plan (d + 5) (rI (mPlan (I1 171) p n k) (sh, I1, F)) 86 [some (jR (some 170)), some (jI p), some (jI n), some (jI k), some (jI (mLevel (I1 171) p n)), some (jI (aOf (I1 171) p 1)), some (jI 0), some (jI 0)] [] (sh, I1, F) 0 0 := by
    intro hk1 hk2
    have hf := fun z (hz : 0 ≤ z ∧ z ≤ 40) => mFelt_in hD hB (w := I1 171) (p := p) (n := z) (level := mLevel (I1 171) p n) (by omega) hz (by omega)
    have e0 : mFelt (I1 171) p 0 (mLevel (I1 171) p n) = 0 := rfl
    have e1 : aOf (I1 171) p 1 - min (mFelt (I1 171) p 0 (mLevel (I1 171) p n)) (aOf (I1 171) p 1) = aOf (I1 171) p 1 := by rw [e0]; omega
    suffices key : jW G mX12_plan (d + 5) (rI (mPlan (I1 171) p n k) (sh, I1, F)) 86 ([some (jR (some 170)), some (jI p), some (jI n), some (jI k), some (jI (mLevel (I1 171) p n)), some (jI (aOf (I1 171) p 1 - min (mFelt (I1 171) p 0 (mLevel (I1 171) p n)) (aOf (I1 171) p 1))), some (jI (if 0 = 0 then 0 else mPart (I1 171) p (mLevel (I1 171) p n) (0 - 1))), some (jI 0)]) [] (sh, I1, F) 0 0 by
      rw [e1, if_pos rfl] at key
      exact key
    refine jW_loop 86 (fun _ _ => True) (fun _ _ => ()) () (k + 1) (fun (z : Int) (_ : Unit) => [some (jR (some 170)), some (jI p), some (jI n), some (jI k), some (jI (mLevel (I1 171) p n)), some (jI (aOf (I1 171) p 1 - min (mFelt (I1 171) p z (mLevel (I1 171) p n)) (aOf (I1 171) p 1))), some (jI (if z = 0 then 0 else mPart (I1 171) p (mLevel (I1 171) p n) (z - 1))), some (jI z)]) (fun _ _ => (sh, I1, F)) (by omega) trivial (fun _ _ _ _ _ => trivial) (fun a ha hPa => ?_) (fun z a hz0 hz1 hPa ih => ?_)
    · have hf1 := hf (k + 1) (by omega)
      have hf2 := hf k (by omega)
      have e9 : mPart (I1 171) p (mLevel (I1 171) p n) k = mPlan (I1 171) p n k := by unfold mPlan; rw [if_neg hk1, if_pos hk2]
      rw [if_neg (by omega), show k + 1 - 1 = k by omega]
      refine j_iload dX12_plan_86 rfl ?_
      refine j_iload_n dX12_plan_88 rfl ?_
      refine j_icmp_gt (tgt := 133) dX12_plan_89 rfl (by first | omega | (split <;> omega)) (by first | omega | (split <;> omega)) (fun c_89 => ?_) (fun c_89 => by exact absurd (by omega) c_89)
      refine j_iload dX12_plan_133 rfl ?_
      refine j_iret dX12_plan_135 rfl ?_
      exact rI_of e9 rfl
    · have hr := aPaD_in hB (w := I1 171) (p := p) (day := I1 171 3 + z) (by omega) (by omega)
      have hf1 := hf z (by omega)
      have hs1 := mFelt_s (w := I1 171) (p := p) (L := mLevel (I1 171) p n) hz0
      have e1 : min (aOf (I1 171) p 1 - min (mFelt (I1 171) p z (mLevel (I1 171) p n)) (aOf (I1 171) p 1)) (max 0 (mLevel (I1 171) p n - aPaD (I1 171) p (I1 171 3 + z))) = mPart (I1 171) p (mLevel (I1 171) p n) z := by
        unfold mPart
        rw [hs1]; omega
      have e2 : aOf (I1 171) p 1 - min (mFelt (I1 171) p z (mLevel (I1 171) p n)) (aOf (I1 171) p 1) - mPart (I1 171) p (mLevel (I1 171) p n) z = aOf (I1 171) p 1 - min (mFelt (I1 171) p (z + 1) (mLevel (I1 171) p n)) (aOf (I1 171) p 1) := by
        unfold mPart; omega
      rw [if_neg (show ¬ z + 1 = 0 by omega), show z + 1 - 1 = z by omega, ← e2, ← e1] at ih
      refine j_iload dX12_plan_86 rfl ?_
      refine j_iload_n dX12_plan_88 rfl ?_
      refine j_icmp_gt (tgt := 133) dX12_plan_89 rfl (by first | omega | (split <;> omega)) (by first | omega | (split <;> omega)) (fun c_89 => by exact absurd c_89 (by omega)) (fun c_89 => ?_)
      refine j_iload dX12_plan_92 rfl ?_
      refine j_iconst dX12_plan_94 ?_
      refine j_iload dX12_plan_95 rfl ?_
      refine j_aload_n dX12_plan_97 rfl ?_
      refine j_iload_n dX12_plan_98 rfl ?_
      refine j_aload_n dX12_plan_99 rfl ?_
      refine r_getS dX12_plan_100 flX12_13 (by first | assumption | exact hsh _ _ rfl) (fx_170_1 hfx) ?_
      refine j_iconst dX12_plan_103 ?_
      refine r_iaload dX12_plan_104 (by first | assumption | exact hsh _ _ rfl) (by first | omega | (split <;> omega)) (by first | omega | (split <;> omega)) (fun b_104 => ?_)
      refine j_iload dX12_plan_105 rfl ?_
      refine j_iadd dX12_plan_107 ?_
      refine r_cv2I dX12_plan_108 cvX12_283 (by decide) (by first | assumption | exact hsh _ _ rfl) (Nat.le_of_ble_eq_true rfl) (Nat.le_of_eq (Nat.zero_add _)) (Nat.le_of_eq (Nat.zero_add _)) (sm_painOn hsh hfx (by omega) (by omega)) ?_
      refine j_isub dX12_plan_111 ?_
      refine r_max dX12_plan_112 lmX12_280 (Nat.le_of_ble_eq_true rfl) (by first | omega | (split <;> omega)) (by first | omega | (split <;> omega)) ?_
      refine r_min dX12_plan_115 lmX12_275 (Nat.le_of_ble_eq_true rfl) (by first | omega | (split <;> omega)) (by first | omega | (split <;> omega)) ?_
      refine j_istore dX12_plan_118 (by decide) ?_
      refine j_iload dX12_plan_120 rfl ?_
      refine j_iload dX12_plan_122 rfl ?_
      refine j_isub dX12_plan_124 ?_
      refine j_istore dX12_plan_125 (by decide) ?_
      refine j_iinc dX12_plan_127 rfl (by decide) ?_
      refine j_goto (tgt := 86) dX12_plan_130 rfl ?_
      exact ih
  refine j_aload_n dX12_plan_5 rfl ?_
  refine j_aload_n dX12_plan_6 rfl ?_
  refine j_iload_n dX12_plan_7 rfl ?_
  refine r_cv1I dX12_plan_8 cvX12_335 (by decide) (by first | assumption | exact hsh _ _ rfl) (Nat.le_of_ble_eq_true rfl) (Nat.le_of_eq (Nat.zero_add _)) (Nat.le_of_eq (Nat.zero_add _)) (sm_noP0 hsh hfx hok h1 hP h2) ?_
  refine j_iconst dX12_plan_11 ?_
  refine r_cv2I dX12_plan_12 cvX12_253 (by decide) (by first | assumption | exact hsh _ _ rfl) (Nat.le_of_ble_eq_true rfl) (Nat.le_of_eq (Nat.zero_add _)) (Nat.le_of_eq (Nat.zero_add _)) (sm_thr0 hsh) ?_
  refine j_if_ne (tgt := 41) dX12_plan_15 rfl (by first | omega | (split <;> omega)) (fun c_15 => by exact absurd rfl c_15) (fun c_15 => ?_)
  refine j_aload_n dX12_plan_18 rfl ?_
  refine j_iload_n dX12_plan_19 rfl ?_
  refine j_iconst dX12_plan_20 ?_
  refine j_bipush dX12_plan_21 (by decide) ?_
  refine r_cs3I dX12_plan_23 csX12_78 (Nat.le_of_ble_eq_true rfl) (Nat.le_of_eq (Nat.zero_add _)) (Nat.le_of_eq (Nat.zero_add _)) (sm_in1 hn (by omega) (by omega) h3) ?_
  refine j_if_ne (tgt := 33) dX12_plan_26 rfl (by first | omega | (split <;> omega)) (fun c_26 => ?_) (fun c_26 => by exact absurd (by decide) c_26)
  refine j_iconst dX12_plan_33 ?_
  refine j_iconst dX12_plan_34 ?_
  refine r_cv2I dX12_plan_35 cvX12_253 (by decide) (by first | assumption | exact hsh _ _ rfl) (Nat.le_of_ble_eq_true rfl) (Nat.le_of_eq (Nat.zero_add _)) (Nat.le_of_eq (Nat.zero_add _)) (sm_thr0 hsh) ?_
  refine j_if_eq (tgt := 43) dX12_plan_38 rfl (by first | omega | (split <;> omega)) (fun c_38 => ?_) (fun c_38 => by exact absurd rfl c_38)
  refine j_aload_n dX12_plan_43 rfl ?_
  refine j_iload_n dX12_plan_44 rfl ?_
  refine j_iload_n dX12_plan_45 rfl ?_
  refine r_cv2I dX12_plan_46 cvX12_370 (by decide) (by first | assumption | exact hsh _ _ rfl) (Nat.le_of_ble_eq_true rfl) (Nat.le_of_eq (Nat.zero_add _)) (Nat.le_of_eq (Nat.zero_add _)) (sm_levelOf hsh hfx hP hD hB hA (by omega) h3) ?_
  refine j_istore dX12_plan_49 (by decide) ?_
  refine j_iload_n dX12_plan_51 rfl ?_
  refine j_iconst dX12_plan_52 ?_
  refine j_icmp_ne (tgt := 59) dX12_plan_53 rfl (by first | omega | (split <;> omega)) (by first | omega | (split <;> omega)) (fun c_53 => ?_) (fun c_53 => ?_)
  · refine j_iload_n dX12_plan_59 rfl ?_
    refine j_iconst dX12_plan_60 ?_
    refine j_iload_n dX12_plan_61 rfl ?_
    refine j_iconst dX12_plan_62 ?_
    refine j_isub dX12_plan_63 ?_
    refine r_cs3I dX12_plan_64 csX12_78 (Nat.le_of_ble_eq_true rfl) (Nat.le_of_eq (Nat.zero_add _)) (Nat.le_of_eq (Nat.zero_add _)) (sm_in hk (by omega) (by omega)) ?_
    refine j_if_ne (tgt := 72) dX12_plan_67 rfl (by first | omega | (split <;> omega)) (fun c_67 => ?_) (fun c_67 => ?_)
    · simp only [ite0, ne_eq, Classical.not_not] at c_67
      refine j_aload_n dX12_plan_72 rfl ?_
      refine j_iload_n dX12_plan_73 rfl ?_
      refine j_iconst dX12_plan_74 ?_
      refine r_cv2J dX12_plan_75 cvX12_68 (by decide) (by first | assumption | exact hsh _ _ rfl) (Nat.le_of_ble_eq_true rfl) (Nat.le_of_eq (Nat.zero_add _)) (Nat.le_of_eq (Nat.zero_add _)) (sm_of hsh hfx (by omega)) (hok.2.1 171 _) (fun b_75 => ?_)
      refine j_istore dX12_plan_78 (by decide) ?_
      refine j_iconst dX12_plan_80 ?_
      refine j_istore dX12_plan_81 (by decide) ?_
      refine j_iconst dX12_plan_83 ?_
      refine j_istore dX12_plan_84 (by decide) ?_
      exact inner c_53 c_67
    · simp only [ite0, ne_eq, Classical.not_not] at c_67
      refine j_iconst dX12_plan_70 ?_
      refine j_iret dX12_plan_71 rfl ?_
      exact rI_of (by unfold mPlan; rw [if_neg c_53, if_neg c_67]) rfl
  · refine j_iload dX12_plan_56 rfl ?_
    refine j_iret dX12_plan_58 rfl ?_
    exact rI_of (by unfold mPlan; rw [if_pos (by omega)]) rfl
end
