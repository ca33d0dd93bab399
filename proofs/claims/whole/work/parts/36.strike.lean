/-! STRIKE, FEELINGS, SAINT, SHARE, PARTED -/
section
variable {G : jzG} {d : Nat} {sh : List (Nat × Nat)} {I : Nat → Int → Int} {F : Nat → Int → Option Nat} {s : Nat} {w : Int → Int}
def mStrike (w : Int → Int) : Int := jfold (fun p a => jfold (fun q b => b + min (aOw w p q) (aOw w q p)) a p.toNat) 0 (aPe w).toNat
theorem mp_strike (hsh : ShOK sh) (hfx : FxOK F) (hP : WfP (I 171)) : jS G (d + 3) mX12_strike [jR (some 170)] (sh, I, F) 0 0 (rI (mStrike (I 171)) (sh, jup I 170 0 0, F)) := by
  refine jS_go [some (jR (some 170)), none, none, none] (by decide +kernel) rfl (by simp [jone]) (Nat.le_of_ble_eq_true rfl) rfl (fun hok => ?_)
  refine j_aload_n dX12_strike_0 rfl ?_
  refine j_iconst dX12_strike_1 ?_
  refine r_putI dX12_strike_2 flX12_3 rfl (by first | assumption | exact hsh _ _ rfl) (by first | omega | (split <;> omega)) (fun q => by cases q) ?_
  skip
  have hok1 : jzok (sh, jup I 170 0 0, F) := jzok_I hok jin_lit0
  have hw0 : (jup I 170 0 0) 171 = I 171 := jup_ne _ _ _ (by decide)
  clear hok
  rw [← hw0] at hP
  try rw [← hw0]
  obtain ⟨I1, hI1⟩ : ∃ J, J = jup I 170 0 0 := ⟨_, rfl⟩
  rw [← hI1] at hok1 hw0 hP ⊢
  have hok := hok1
  have hP2 := hP.2
  have outer : ∀ o : Option jzV, jW G mX12_strike (d + 3) (rI (mStrike (I1 171)) (sh, I1, F)) 9 [some (jR (some 170)), some (jI 0), some (jI 0), o] [] (sh, I1, F) 0 0 := by
    have key : ∀ (m : Nat) (z a : Int) (o : Option jzV), z + m = aPe (I1 171) → 0 ≤ z → a = jfold (fun p a => jfold (fun q b => b + min (aOw (I1 171) p q) (aOw (I1 171) q p)) a p.toNat) 0 z.toNat → jW G mX12_strike (d + 3) (rI (mStrike (I1 171)) (sh, I1, F)) 9 [some (jR (some 170)), some (jI a), some (jI z), o] [] (sh, I1, F) 0 0 := by
      intro m
      induction m with
      | zero =>
        intro z a o hz hz0 ha
        refine j_iload_n dX12_strike_9 rfl ?_
        refine j_aload_n dX12_strike_10 rfl ?_
        refine r_cv0J dX12_strike_11 cvX12_74 (by decide) (by first | assumption | exact hsh _ _ rfl) (Nat.le_of_ble_eq_true rfl) (Nat.le_of_eq (Nat.zero_add _)) (Nat.le_of_eq (Nat.zero_add _)) (sm_people hsh hfx) (hok.2.1 171 _) (fun b_11 => ?_)
        refine j_icmp_ge (tgt := 54) dX12_strike_14 rfl (by first | omega | (split <;> omega)) (by first | omega | (split <;> omega)) (fun c_14 => ?_) (fun c_14 => by exact absurd (by omega) c_14)
        refine j_iload_n dX12_strike_54 rfl ?_
        refine j_iret dX12_strike_55 rfl ?_
        exact rI_of (by rw [ha, show z = aPe (I1 171) by omega]; rfl) rfl
      | succ m ih =>
        intro z a o hz hz0 ha
        refine j_iload_n dX12_strike_9 rfl ?_
        refine j_aload_n dX12_strike_10 rfl ?_
        refine r_cv0J dX12_strike_11 cvX12_74 (by decide) (by first | assumption | exact hsh _ _ rfl) (Nat.le_of_ble_eq_true rfl) (Nat.le_of_eq (Nat.zero_add _)) (Nat.le_of_eq (Nat.zero_add _)) (sm_people hsh hfx) (hok.2.1 171 _) (fun b_11 => ?_)
        refine j_icmp_ge (tgt := 54) dX12_strike_14 rfl (by first | omega | (split <;> omega)) (by first | omega | (split <;> omega)) (fun c_14 => by exact absurd c_14 (by omega)) (fun c_14 => ?_)
        refine j_iconst dX12_strike_17 ?_
        refine j_istore_n dX12_strike_18 (by decide) ?_
        skip
        refine jW_loop 19 (fun _ _ => True) (fun q b => b + min (aOw (I1 171) z q) (aOw (I1 171) q z)) a z (fun y b => [some (jR (some 170)), some (jI b), some (jI z), some (jI y)]) (fun _ _ => (sh, I1, F)) hz0 trivial (fun _ _ _ _ _ => trivial) (fun b hb _ => ?_) (fun y b hy0 hy1 _ ih2 => ?_)
        · refine j_iload_n dX12_strike_19 rfl ?_
          refine j_iload_n dX12_strike_20 rfl ?_
          refine j_icmp_ge (tgt := 48) dX12_strike_21 rfl (by first | omega | (split <;> omega)) (by first | omega | (split <;> omega)) (fun c_21 => ?_) (fun c_21 => by exact absurd (by omega) c_21)
          refine j_iinc dX12_strike_48 rfl (by decide) ?_
          refine j_goto (tgt := 9) dX12_strike_51 rfl ?_
          exact ih (z + 1) b _ (by omega) (by omega) (by rw [jfold_s _ _ hz0, ← ha]; exact hb)
        · refine j_iload_n dX12_strike_19 rfl ?_
          refine j_iload_n dX12_strike_20 rfl ?_
          refine j_icmp_ge (tgt := 48) dX12_strike_21 rfl (by first | omega | (split <;> omega)) (by first | omega | (split <;> omega)) (fun c_21 => by exact absurd c_21 (by omega)) (fun c_21 => ?_)
          refine j_iload_n dX12_strike_24 rfl ?_
          refine j_aload_n dX12_strike_25 rfl ?_
          refine j_iload_n dX12_strike_26 rfl ?_
          refine j_iload_n dX12_strike_27 rfl ?_
          refine r_cv2J dX12_strike_28 cvX12_329 (by decide) (by first | assumption | exact hsh _ _ rfl) (Nat.le_of_ble_eq_true rfl) (Nat.le_of_eq (Nat.zero_add _)) (Nat.le_of_eq (Nat.zero_add _)) (sm_owedBy hsh hfx (by omega)) (hok.2.1 171 _) (fun b_28 => ?_)
          refine j_aload_n dX12_strike_31 rfl ?_
          refine j_iload_n dX12_strike_32 rfl ?_
          refine j_iload_n dX12_strike_33 rfl ?_
          refine r_cv2J dX12_strike_34 cvX12_329 (by decide) (by first | assumption | exact hsh _ _ rfl) (Nat.le_of_ble_eq_true rfl) (Nat.le_of_eq (Nat.zero_add _)) (Nat.le_of_eq (Nat.zero_add _)) (sm_owedBy hsh hfx (by omega)) (hok.2.1 171 _) (fun b_34 => ?_)
          refine r_min dX12_strike_37 lmX12_275 (Nat.le_of_ble_eq_true rfl) (by first | omega | (split <;> omega)) (by first | omega | (split <;> omega)) ?_
          refine j_iadd dX12_strike_40 ?_
          refine j_istore_n dX12_strike_41 (by decide) ?_
          refine j_iinc dX12_strike_42 rfl (by decide) ?_
          refine j_goto (tgt := 19) dX12_strike_45 rfl ?_
          exact ih2
    intro o
    exact key (aPe (I1 171)).toNat 0 0 o (by have := hP.1; omega) (by omega) rfl
  refine j_iconst dX12_strike_5 ?_
  refine j_istore_n dX12_strike_6 (by decide) ?_
  refine j_iconst dX12_strike_7 ?_
  refine j_istore_n dX12_strike_8 (by decide) ?_
  exact outer _
theorem sc_mutual (hs : StAt sh F s) (hR : Rp I s w) {r : Nat} : jS G (d + 1) mX4_mutual [jR (some r), jR (some s)] (sh, I, F) 0 0 (rI (mStrike w) (sh, I, F)) := by
  obtain ⟨g0, g1, g2, g3, g4, g5, g6, g7, g8, g9, e1, e2, e3, e4, e5, e6, e7, e8, e9⟩ := id hs
  obtain ⟨r0, r1, rP, rO, rA, r9, r10, r11, r12, r13, r14, r15, r16, r17⟩ := id hR
  refine jS_go [some (jR (some r)), some (jR (some s)), none, none, none] (by decide +kernel) rfl (by simp [jone]) (Nat.le_of_ble_eq_true rfl) rfl (fun hok => ?_)
  have key : ∀ (m : Nat) (z a : Int) (o : Option jzV), z + m = aPe w → 0 ≤ z → a = jfold (fun p a => jfold (fun q b => b + min (aOw w p q) (aOw w q p)) a p.toNat) 0 z.toNat → jW G mX4_mutual (d + 1) (rI (mStrike w) (sh, I, F)) 4 [some (jR (some r)), some (jR (some s)), some (jI a), some (jI z), o] [] (sh, I, F) 0 0 := by
    intro m
    induction m with
    | zero =>
      intro z a o hz hz0 ha
      refine j_iload_n dX4_mutual_4 rfl ?_
      refine j_aload_n dX4_mutual_5 rfl ?_
      refine r_getIE dX4_mutual_6 flX4_31 (by first | assumption | exact hsh _ _ rfl) r0 (fun b_6 => ?_)
      refine j_icmp_ge (tgt := 63) dX4_mutual_9 rfl (by first | omega | (split <;> omega)) (by first | omega | (split <;> omega)) (fun c_9 => ?_) (fun c_9 => by exact absurd (by omega) c_9)
      refine j_iload_n dX4_mutual_63 rfl ?_
      refine j_iret dX4_mutual_64 rfl ?_
      exact rI_of (by rw [ha, show z = aPe w by omega]; rfl) rfl
    | succ m ih =>
      intro z a o hz hz0 ha
      refine j_iload_n dX4_mutual_4 rfl ?_
      refine j_aload_n dX4_mutual_5 rfl ?_
      refine r_getIE dX4_mutual_6 flX4_31 (by first | assumption | exact hsh _ _ rfl) r0 (fun b_6 => ?_)
      refine j_icmp_ge (tgt := 63) dX4_mutual_9 rfl (by first | omega | (split <;> omega)) (by first | omega | (split <;> omega)) (fun c_9 => by exact absurd c_9 (by omega)) (fun c_9 => ?_)
      refine j_iconst dX4_mutual_12 ?_
      refine j_istore dX4_mutual_13 (by decide) ?_
      skip
      refine jW_loop 15 (fun _ _ => True) (fun q b => b + min (aOw w z q) (aOw w q z)) a z (fun y b => [some (jR (some r)), some (jR (some s)), some (jI b), some (jI z), some (jI y)]) (fun _ _ => (sh, I, F)) hz0 trivial (fun _ _ _ _ _ => trivial) (fun b hb _ => ?_) (fun y b hy0 hy1 _ ih2 => ?_)
      · refine j_iload dX4_mutual_15 rfl ?_
        refine j_iload_n dX4_mutual_17 rfl ?_
        refine j_icmp_ge (tgt := 57) dX4_mutual_18 rfl (by first | omega | (split <;> omega)) (by first | omega | (split <;> omega)) (fun c_18 => ?_) (fun c_18 => by exact absurd (by omega) c_18)
        refine j_iinc dX4_mutual_57 rfl (by decide) ?_
        refine j_goto (tgt := 4) dX4_mutual_60 rfl ?_
        exact ih (z + 1) b _ (by omega) (by omega) (by rw [jfold_s _ _ hz0, ← ha]; exact hb)
      · have q1 := rO z y hz0 (by omega) hy0 (by omega)
        have q2 := rO y z hy0 (by omega) hz0 (by omega)
        refine j_iload dX4_mutual_15 rfl ?_
        refine j_iload_n dX4_mutual_17 rfl ?_
        refine j_icmp_ge (tgt := 57) dX4_mutual_18 rfl (by first | omega | (split <;> omega)) (by first | omega | (split <;> omega)) (fun c_18 => by exact absurd c_18 (by omega)) (fun c_18 => ?_)
        refine j_iload_n dX4_mutual_21 rfl ?_
        refine j_aload_n dX4_mutual_22 rfl ?_
        refine r_getS dX4_mutual_23 flX4_41 (by first | assumption | exact hsh _ _ rfl) (by assumption) ?_
        refine j_iload_n dX4_mutual_26 rfl ?_
        refine j_bipush dX4_mutual_27 (by decide) ?_
        refine j_imul dX4_mutual_29 ?_
        refine j_iload dX4_mutual_30 rfl ?_
        refine j_iadd dX4_mutual_32 ?_
        refine r_ialoadE dX4_mutual_33 (by first | assumption | exact hsh _ _ rfl) (by first | omega | (split <;> omega)) (by first | omega | (split <;> omega)) q1 (fun b_33 => ?_)
        refine j_aload_n dX4_mutual_34 rfl ?_
        refine r_getS dX4_mutual_35 flX4_41 (by first | assumption | exact hsh _ _ rfl) (by assumption) ?_
        refine j_iload dX4_mutual_38 rfl ?_
        refine j_bipush dX4_mutual_40 (by decide) ?_
        refine j_imul dX4_mutual_42 ?_
        refine j_iload_n dX4_mutual_43 rfl ?_
        refine j_iadd dX4_mutual_44 ?_
        refine r_ialoadE dX4_mutual_45 (by first | assumption | exact hsh _ _ rfl) (by first | omega | (split <;> omega)) (by first | omega | (split <;> omega)) q2 (fun b_45 => ?_)
        refine r_min dX4_mutual_46 lmX4_50 (Nat.le_of_ble_eq_true rfl) (by first | omega | (split <;> omega)) (by first | omega | (split <;> omega)) ?_
        refine j_iadd dX4_mutual_49 ?_
        refine j_istore_n dX4_mutual_50 (by decide) ?_
        refine j_iinc dX4_mutual_51 rfl (by decide) ?_
        refine j_goto (tgt := 15) dX4_mutual_54 rfl ?_
        exact ih2
  refine j_iconst dX4_mutual_0 ?_
  refine j_istore_n dX4_mutual_1 (by decide) ?_
  refine j_iconst dX4_mutual_2 ?_
  refine j_istore_n dX4_mutual_3 (by decide) ?_
  exact key (aPe w).toNat 0 0 _ (by omega) (by omega) rfl
def mMany (w : Int → Int) : Int := jfold (fun p a => a + (if aOf w p 3 = 0 ∧ 0 < aOf w p 1 then 1 else 0)) 0 (aPe w).toNat
theorem mMany_in (hP : 0 ≤ aPe w ∧ aPe w ≤ 8) : 0 ≤ mMany w ∧ mMany w ≤ 8 := by
  have := jfold_ind (f := fun p a => a + (if aOf w p 3 = 0 ∧ 0 < aOf w p 1 then 1 else 0)) (a := 0) (fun k a => 0 ≤ a ∧ a ≤ k) (by simp) (n := (aPe w).toNat) (fun k y h0 h1 q => by split <;> omega)
  unfold mMany
  omega
noncomputable def mFeel (w : Int → Int) : Int := jfirst (fun j => mMany w ≤ jShl 1 j) 4
theorem jShl_dbl : ∀ z : Fin 5, jShl 1 (z.val : Int) * 2 = jShl 1 ((z.val : Int) + 1) := by decide +kernel
theorem jShl_dbl' {z : Int} (h0 : 0 ≤ z) (h1 : z < 5) : jShl 1 z * 2 = jShl 1 (z + 1) := by
  obtain ⟨n, rfl⟩ := Int.eq_ofNat_of_zero_le h0
  exact jShl_dbl ⟨n, by omega⟩
theorem jShl_3 : jShl 1 3 = 8 := by decide +kernel
theorem mp_feelings (hsh : ShOK sh) (hfx : FxOK F) (hP : WfP (I 171)) : jS G (d + 3) mX12_feelings [jR (some 170)] (sh, I, F) 0 0 (rI (mFeel (I 171)) (sh, jup I 170 0 0, F)) := by
  refine jS_go [some (jR (some 170)), none, none] (by decide +kernel) rfl (by simp [jone]) (Nat.le_of_ble_eq_true rfl) rfl (fun hok => ?_)
  refine j_aload_n dX12_feelings_0 rfl ?_
  refine j_iconst dX12_feelings_1 ?_
  refine r_putI dX12_feelings_2 flX12_3 rfl (by first | assumption | exact hsh _ _ rfl) (by first | omega | (split <;> omega)) (fun q => by cases q) ?_
  skip
  have hok1 : jzok (sh, jup I 170 0 0, F) := jzok_I hok jin_lit0
  have hw0 : (jup I 170 0 0) 171 = I 171 := jup_ne _ _ _ (by decide)
  clear hok
  rw [← hw0] at hP
  try rw [← hw0]
  obtain ⟨I1, hI1⟩ : ∃ J, J = jup I 170 0 0 := ⟨_, rfl⟩
  rw [← hI1] at hok1 hw0 hP ⊢
  have hok := hok1
  have hP2 := hP.2
  refine j_iconst dX12_feelings_5 ?_
  refine j_istore_n dX12_feelings_6 (by decide) ?_
  refine j_iconst dX12_feelings_7 ?_
  refine j_istore_n dX12_feelings_8 (by decide) ?_
  skip
  refine jW_loop 9 (fun _ _ => True) (fun p a => a + (if aOf (I1 171) p 3 = 0 ∧ 0 < aOf (I1 171) p 1 then 1 else 0)) 0 (aPe (I1 171)) (fun z a => [some (jR (some 170)), some (jI a), some (jI z)]) (fun _ _ => (sh, I1, F)) hP.1 trivial (fun _ _ _ _ _ => trivial) (fun a ha _ => ?_) (fun z a hz0 hz1 _ ih => ?_)
  · have ha2 : a = mMany (I1 171) := ha
    have hin := mMany_in hP
    have loop : ∀ (m : Nat) (z : Int), z + m = 3 → 0 ≤ z → (∀ j, 0 ≤ j → j < z → ¬ mMany (I1 171) ≤ jShl 1 j) → jW G mX12_feelings (d + 3) (rI (mFeel (I1 171)) (sh, I1, F)) 50 [some (jR (some 170)), some (jI a), some (jI z)] [] (sh, I1, F) 0 0 := by
      intro m
      induction m with
      | zero =>
        intro z hz hz0 hj
        have e3 : z = 3 := by omega
        subst e3
        have e8 := jShl_3
        refine j_iconst dX12_feelings_50 ?_
        refine j_iload_n dX12_feelings_51 rfl ?_
        refine r_ishl dX12_feelings_52 (fun b_52 => ?_)
        refine j_iload_n dX12_feelings_53 rfl ?_
        refine j_icmp_ge (tgt := 63) dX12_feelings_54 rfl (by first | omega | (split <;> omega)) (by first | omega | (split <;> omega)) (fun c_54 => ?_) (fun c_54 => by exact absurd (by omega) c_54)
        refine j_iload_n dX12_feelings_63 rfl ?_
        refine j_iret dX12_feelings_64 rfl ?_
        exact rI_of (jfirst_hit hz0 (by omega) (by omega) hj).symm rfl
      | succ m ih =>
        intro z hz hz0 hj
        refine j_iconst dX12_feelings_50 ?_
        refine j_iload_n dX12_feelings_51 rfl ?_
        refine r_ishl dX12_feelings_52 (fun b_52 => ?_)
        refine j_iload_n dX12_feelings_53 rfl ?_
        refine j_icmp_ge (tgt := 63) dX12_feelings_54 rfl (by first | omega | (split <;> omega)) (by first | omega | (split <;> omega)) (fun c_54 => ?_) (fun c_54 => ?_)
        · refine j_iload_n dX12_feelings_63 rfl ?_
          refine j_iret dX12_feelings_64 rfl ?_
          exact rI_of (jfirst_hit hz0 (by omega) (by omega) hj).symm rfl
        · refine j_iinc dX12_feelings_57 rfl (by decide) ?_
          refine j_goto (tgt := 50) dX12_feelings_60 rfl ?_
          exact ih (z + 1) (by omega) (by omega) (fun j a b => by
            by_cases e : j = z
            · subst e; omega
            · exact hj j a (by omega))
    refine j_iload_n dX12_feelings_9 rfl ?_
    refine j_aload_n dX12_feelings_10 rfl ?_
    refine r_cv0J dX12_feelings_11 cvX12_74 (by decide) (by first | assumption | exact hsh _ _ rfl) (Nat.le_of_ble_eq_true rfl) (Nat.le_of_eq (Nat.zero_add _)) (Nat.le_of_eq (Nat.zero_add _)) (sm_people hsh hfx) (hok.2.1 171 _) (fun b_11 => ?_)
    refine j_icmp_ge (tgt := 48) dX12_feelings_14 rfl (by first | omega | (split <;> omega)) (by first | omega | (split <;> omega)) (fun c_14 => ?_) (fun c_14 => by exact absurd (by omega) c_14)
    refine j_iconst dX12_feelings_48 ?_
    refine j_istore_n dX12_feelings_49 (by decide) ?_
    exact loop 3 0 (by omega) (by omega) (fun j a b => by omega)
  · refine j_iload_n dX12_feelings_9 rfl ?_
    refine j_aload_n dX12_feelings_10 rfl ?_
    refine r_cv0J dX12_feelings_11 cvX12_74 (by decide) (by first | assumption | exact hsh _ _ rfl) (Nat.le_of_ble_eq_true rfl) (Nat.le_of_eq (Nat.zero_add _)) (Nat.le_of_eq (Nat.zero_add _)) (sm_people hsh hfx) (hok.2.1 171 _) (fun b_11 => ?_)
    refine j_icmp_ge (tgt := 48) dX12_feelings_14 rfl (by first | omega | (split <;> omega)) (by first | omega | (split <;> omega)) (fun c_14 => by exact absurd c_14 (by omega)) (fun c_14 => ?_)
    refine j_iload_n dX12_feelings_17 rfl ?_
    refine j_aload_n dX12_feelings_18 rfl ?_
    refine j_iload_n dX12_feelings_19 rfl ?_
    refine r_cv1I dX12_feelings_20 cvX12_296 (by decide) (by first | assumption | exact hsh _ _ rfl) (Nat.le_of_ble_eq_true rfl) (Nat.le_of_eq (Nat.zero_add _)) (Nat.le_of_eq (Nat.zero_add _)) (sm_isAlive hsh hfx (by omega)) ?_
    refine j_if_eq (tgt := 39) dX12_feelings_23 rfl (by first | omega | (split <;> omega)) (fun c_23 => ?_) (fun c_23 => ?_)
    · refine j_iconst dX12_feelings_39 ?_
      refine j_iadd dX12_feelings_40 ?_
      refine j_istore_n dX12_feelings_41 (by decide) ?_
      refine j_iinc dX12_feelings_42 rfl (by decide) ?_
      refine j_goto (tgt := 9) dX12_feelings_45 rfl ?_
      rw [ite0] at c_23
      first | (rw [if_pos (by omega)] at ih; exact ih) | (rw [if_neg (by omega)] at ih; exact ih)
    · refine j_aload_n dX12_feelings_26 rfl ?_
      refine j_iload_n dX12_feelings_27 rfl ?_
      refine j_iconst dX12_feelings_28 ?_
      refine r_cv2J dX12_feelings_29 cvX12_68 (by decide) (by first | assumption | exact hsh _ _ rfl) (Nat.le_of_ble_eq_true rfl) (Nat.le_of_eq (Nat.zero_add _)) (Nat.le_of_eq (Nat.zero_add _)) (sm_of hsh hfx (by omega)) (hok.2.1 171 _) (fun b_29 => ?_)
      refine j_if_le (tgt := 39) dX12_feelings_32 rfl (by first | omega | (split <;> omega)) (fun c_32 => ?_) (fun c_32 => ?_)
      · refine j_iconst dX12_feelings_39 ?_
        refine j_iadd dX12_feelings_40 ?_
        refine j_istore_n dX12_feelings_41 (by decide) ?_
        refine j_iinc dX12_feelings_42 rfl (by decide) ?_
        refine j_goto (tgt := 9) dX12_feelings_45 rfl ?_
        rw [ite0] at c_23
        first | (rw [if_pos (by omega)] at ih; exact ih) | (rw [if_neg (by omega)] at ih; exact ih)
      · refine j_iconst dX12_feelings_35 ?_
        refine j_goto (tgt := 40) dX12_feelings_36 rfl ?_
        refine j_iadd dX12_feelings_40 ?_
        refine j_istore_n dX12_feelings_41 (by decide) ?_
        refine j_iinc dX12_feelings_42 rfl (by decide) ?_
        refine j_goto (tgt := 9) dX12_feelings_45 rfl ?_
        rw [ite0] at c_23
        first | (rw [if_pos (by omega)] at ih; exact ih) | (rw [if_neg (by omega)] at ih; exact ih)
theorem cp_feelings (hsh : ShOK sh) (hfx : FxOK F) (hs : StAt sh F 2) (hR : Rp I 2 w) : jS G (d + 1) mX11_feelings [jR (some 0)] (sh, I, F) 0 0 (rI (mFeel w) (sh, I, F)) := by
  obtain ⟨g0, g1, g2, g3, g4, g5, g6, g7, g8, g9, e1, e2, e3, e4, e5, e6, e7, e8, e9⟩ := id hs
  obtain ⟨r0, r1, rP, rO, rA, r9, r10, r11, r12, r13, r14, r15, r16, r17⟩ := id hR
  refine jS_go [some (jR (some 0)), none, none, none] (by decide +kernel) rfl (by simp [jone]) (Nat.le_of_ble_eq_true rfl) rfl (fun hok => ?_)
  generalize hQ : rI (mFeel w) (sh, I, F) = Q9
  refine j_iconst dX11_feelings_0 ?_
  refine j_istore_n dX11_feelings_1 (by decide) ?_
  refine j_iconst dX11_feelings_2 ?_
  refine j_istore_n dX11_feelings_3 (by decide) ?_
  skip
  refine jW_loop 4 (fun _ _ => True) (fun p a => a + (if aOf w p 3 = 0 ∧ 0 < aOf w p 1 then 1 else 0)) 0 (aPe w) (fun z a => [some (jR (some 0)), some (jI a), some (jI z), none]) (fun _ _ => (sh, I, F)) r1.1 trivial (fun _ _ _ _ _ => trivial) (fun a ha _ => ?_) (fun z a hz0 hz1 _ ih => ?_)
  · have ha2 : a = mMany w := ha
    have hin := mMany_in r1
    subst hQ
    have loop : ∀ (m : Nat) (z : Int), z + m = 3 → 0 ≤ z → (∀ j, 0 ≤ j → j < z → ¬ mMany w ≤ jShl 1 j) → jW G mX11_feelings (d + 1) (rI (mFeel w) (sh, I, F)) 51 [some (jR (some 0)), some (jI a), some (jI z), some (jI (jShl 1 z))] [] (sh, I, F) 0 0 := by
      intro m
      induction m with
      | zero =>
        intro z hz hz0 hj
        have e3 : z = 3 := by omega
        subst e3
        have e8 := jShl_3
        refine j_iload_n dX11_feelings_51 rfl ?_
        refine j_iload_n dX11_feelings_52 rfl ?_
        refine j_icmp_ge (tgt := 66) dX11_feelings_53 rfl (by first | omega | (split <;> omega)) (by first | omega | (split <;> omega)) (fun c_53 => ?_) (fun c_53 => by exact absurd (by omega) c_53)
        refine j_iload_n dX11_feelings_66 rfl ?_
        refine j_iret dX11_feelings_67 rfl ?_
        exact rI_of (jfirst_hit hz0 (by omega) (by omega) hj).symm rfl
      | succ m ih =>
        intro z hz hz0 hj
        have hjn : jin (jShl 1 z) := jShl_in _ _
        refine j_iload_n dX11_feelings_51 rfl ?_
        refine j_iload_n dX11_feelings_52 rfl ?_
        refine j_icmp_ge (tgt := 66) dX11_feelings_53 rfl (by first | omega | (split <;> omega)) (by first | omega | (split <;> omega)) (fun c_53 => ?_) (fun c_53 => ?_)
        · refine j_iload_n dX11_feelings_66 rfl ?_
          refine j_iret dX11_feelings_67 rfl ?_
          exact rI_of (jfirst_hit hz0 (by omega) (by omega) hj).symm rfl
        · refine j_iinc dX11_feelings_56 rfl (by decide) ?_
          refine j_iload_n dX11_feelings_59 rfl ?_
          refine j_iconst dX11_feelings_60 ?_
          refine j_imul dX11_feelings_61 ?_
          refine j_istore_n dX11_feelings_62 (by decide) ?_
          refine j_goto (tgt := 51) dX11_feelings_63 rfl ?_
          rw [jShl_dbl' hz0 (by omega)]
          exact ih (z + 1) (by omega) (by omega) (fun j a b => by
            by_cases e : j = z
            · subst e; omega
            · exact hj j a (by omega))
    refine j_iload_n dX11_feelings_4 rfl ?_
    refine j_aload_n dX11_feelings_5 rfl ?_
    refine r_getS dX11_feelings_6 flX11_20 (by first | assumption | exact hsh _ _ rfl) (fx_0_3 hfx) ?_
    refine r_getIE dX11_feelings_9 flX11_278 (by first | assumption | exact hsh _ _ rfl) r0 (fun b_9 => ?_)
    refine j_icmp_ge (tgt := 47) dX11_feelings_12 rfl (by first | omega | (split <;> omega)) (by first | omega | (split <;> omega)) (fun c_12 => ?_) (fun c_12 => by exact absurd (by omega) c_12)
    refine j_iconst dX11_feelings_47 ?_
    refine j_istore_n dX11_feelings_48 (by decide) ?_
    refine j_iconst dX11_feelings_49 ?_
    refine j_istore_n dX11_feelings_50 (by decide) ?_
    exact loop 3 0 (by omega) (by omega) (fun j a b => by omega)
  · have u := rP z hz0 hz1
    refine j_iload_n dX11_feelings_4 rfl ?_
    refine j_aload_n dX11_feelings_5 rfl ?_
    refine r_getS dX11_feelings_6 flX11_20 (by first | assumption | exact hsh _ _ rfl) (fx_0_3 hfx) ?_
    refine r_getIE dX11_feelings_9 flX11_278 (by first | assumption | exact hsh _ _ rfl) r0 (fun b_9 => ?_)
    refine j_icmp_ge (tgt := 47) dX11_feelings_12 rfl (by first | omega | (split <;> omega)) (by first | omega | (split <;> omega)) (fun c_12 => by exact absurd c_12 (by omega)) (fun c_12 => ?_)
    refine j_aload_n dX11_feelings_15 rfl ?_
    refine r_getS dX11_feelings_16 flX11_20 (by first | assumption | exact hsh _ _ rfl) (fx_0_3 hfx) ?_
    refine j_iload_n dX11_feelings_19 rfl ?_
    refine r_cv1I dX11_feelings_20 cvX11_131 (by decide) (by first | assumption | exact hsh _ _ rfl) (Nat.le_of_ble_eq_true rfl) (Nat.le_of_eq (Nat.zero_add _)) (Nat.le_of_eq (Nat.zero_add _)) (sc_isAlive hs hR (by omega)) ?_
    refine j_if_eq (tgt := 41) dX11_feelings_23 rfl (by first | omega | (split <;> omega)) (fun c_23 => ?_) (fun c_23 => ?_)
    · refine j_iinc dX11_feelings_41 rfl (by decide) ?_
      refine j_goto (tgt := 4) dX11_feelings_44 rfl ?_
      rw [ite0] at c_23
      first | (rw [if_pos (by omega)] at ih; exact ih) | (rw [if_neg (by omega), Int.add_zero] at ih; exact ih)
    · refine j_aload_n dX11_feelings_26 rfl ?_
      refine r_getS dX11_feelings_27 flX11_20 (by first | assumption | exact hsh _ _ rfl) (fx_0_3 hfx) ?_
      refine r_getS dX11_feelings_30 flX11_125 (by first | assumption | exact hsh _ _ rfl) (by assumption) ?_
      refine j_iload_n dX11_feelings_33 rfl ?_
      refine r_ialoadE dX11_feelings_34 (by first | assumption | exact hsh _ _ rfl) (by first | omega | (split <;> omega)) (by first | omega | (split <;> omega)) u.2.1 (fun b_34 => ?_)
      refine j_if_le (tgt := 41) dX11_feelings_35 rfl (by first | omega | (split <;> omega)) (fun c_35 => ?_) (fun c_35 => ?_)
      · refine j_iinc dX11_feelings_41 rfl (by decide) ?_
        refine j_goto (tgt := 4) dX11_feelings_44 rfl ?_
        rw [ite0] at c_23
        first | (rw [if_pos (by omega)] at ih; exact ih) | (rw [if_neg (by omega), Int.add_zero] at ih; exact ih)
      · refine j_iinc dX11_feelings_38 rfl (by decide) ?_
        refine j_iinc dX11_feelings_41 rfl (by decide) ?_
        refine j_goto (tgt := 4) dX11_feelings_44 rfl ?_
        rw [ite0] at c_23
        first | (rw [if_pos (by omega)] at ih; exact ih) | (rw [if_neg (by omega), Int.add_zero] at ih; exact ih)
theorem mp_saint_1 (hsh : ShOK sh) (hfx : FxOK F) {x k b : Int} (h1 : jin k) (h2 : ¬ (0 ≤ k ∧ k ≤ 6)) : jS G (d + 4) mX12_saint [jR (some 170), jI x, jI k, jI b] (sh, I, F) 0 0 (rI 0 (sh, jup I 170 0 1, F)) := by
  refine jS_go [some (jR (some 170)), some (jI x), some (jI k), some (jI b), none, none, none, none] (by decide +kernel) rfl (by simp [jone]) (Nat.le_of_ble_eq_true rfl) rfl (fun hok => ?_)
  refine j_aload_n dX12_saint_0 rfl ?_
  refine j_iconst dX12_saint_1 ?_
  refine r_putI dX12_saint_2 flX12_3 rfl (by first | assumption | exact hsh _ _ rfl) (by first | omega | (split <;> omega)) (fun q => by cases q) ?_
  skip
  have hok1 : jzok (sh, jup I 170 0 0, F) := jzok_I hok jin_lit0
  have hw0 : (jup I 170 0 0) 171 = I 171 := jup_ne _ _ _ (by decide)
  clear hok
  rw [← jup_up I 170 0 0 1]
  try rw [← hw0]
  obtain ⟨I1, hI1⟩ : ∃ J, J = jup I 170 0 0 := ⟨_, rfl⟩
  rw [← hI1] at hok1 hw0  ⊢
  have hok := hok1
  refine j_aload_n dX12_saint_5 rfl ?_
  refine j_iload_n dX12_saint_6 rfl ?_
  refine j_iconst dX12_saint_7 ?_
  refine j_bipush dX12_saint_8 (by decide) ?_
  refine r_cs3I dX12_saint_10 csX12_78 (Nat.le_of_ble_eq_true rfl) (Nat.le_of_eq (Nat.zero_add _)) (Nat.le_of_eq (Nat.zero_add _)) (sm_in0 (by omega) (by omega) (by omega) h2) ?_
  refine j_if_ne (tgt := 20) dX12_saint_13 rfl (by first | omega | (split <;> omega)) (fun c_13 => by exact absurd c_13 (by decide)) (fun c_13 => ?_)
  refine j_iconst dX12_saint_16 ?_
  refine j_goto (tgt := 21) dX12_saint_17 rfl ?_
  refine j_iconst dX12_saint_21 ?_
  refine r_cv2I dX12_saint_22 cvX12_253 (by decide) (by first | assumption | exact hsh _ _ rfl) (Nat.le_of_ble_eq_true rfl) (Nat.le_of_eq (Nat.zero_add _)) (Nat.le_of_eq (Nat.zero_add _)) (sm_thr1 hsh (by omega)) ?_
  refine j_if_eq (tgt := 30) dX12_saint_25 rfl (by first | omega | (split <;> omega)) (fun c_25 => by exact absurd c_25 (by decide)) (fun c_25 => ?_)
  refine j_iconst dX12_saint_28 ?_
  refine j_iret dX12_saint_29 rfl ?_
  exact rI_of rfl rfl
theorem mp_saint_0 (hsh : ShOK sh) (hfx : FxOK F) (hP : WfP (I 171)) (hB : WfB (I 171)) {x k b : Int} (hx : jin x) (h1 : jin k) (h2 : 0 ≤ k ∧ k ≤ 6) (hb : b = 0 ∨ b = 1) : jS G (d + 4) mX12_saint [jR (some 170), jI x, jI k, jI b] (sh, I, F) 0 0 (rI (if b = 0 then mSetN (I 171) x k else if mSetN (I 171) x k = 0 then 0 else mSetB (I 171) x k) (sh, jup I 170 0 0, F)) := by
  refine jS_go [some (jR (some 170)), some (jI x), some (jI k), some (jI b), none, none, none, none] (by decide +kernel) rfl (by simp [jone]) (Nat.le_of_ble_eq_true rfl) rfl (fun hok => ?_)
  refine j_aload_n dX12_saint_0 rfl ?_
  refine j_iconst dX12_saint_1 ?_
  refine r_putI dX12_saint_2 flX12_3 rfl (by first | assumption | exact hsh _ _ rfl) (by first | omega | (split <;> omega)) (fun q => by cases q) ?_
  skip
  have hok1 : jzok (sh, jup I 170 0 0, F) := jzok_I hok jin_lit0
  have hw0 : (jup I 170 0 0) 171 = I 171 := jup_ne _ _ _ (by decide)
  clear hok
  rw [← hw0] at hP hB
  try rw [← hw0]
  obtain ⟨I1, hI1⟩ : ∃ J, J = jup I 170 0 0 := ⟨_, rfl⟩
  rw [← hI1] at hok1 hw0 hP hB ⊢
  have hok := hok1
  have hP2 := hP.2
  have hall := aAllS_in hP
  have hall2 : aAllS (I1 171) = jShl 1 (aPe (I1 171)) - 1 := rfl
  generalize hQ : rI (if b = 0 then mSetN (I1 171) x k else if mSetN (I1 171) x k = 0 then 0 else mSetB (I1 171) x k) (sh, I1, F) = Q9
  refine j_aload_n dX12_saint_5 rfl ?_
  refine j_iload_n dX12_saint_6 rfl ?_
  refine j_iconst dX12_saint_7 ?_
  refine j_bipush dX12_saint_8 (by decide) ?_
  refine r_cs3I dX12_saint_10 csX12_78 (Nat.le_of_ble_eq_true rfl) (Nat.le_of_eq (Nat.zero_add _)) (Nat.le_of_eq (Nat.zero_add _)) (sm_in1 (by omega) (by omega) (by omega) h2) ?_
  refine j_if_ne (tgt := 20) dX12_saint_13 rfl (by first | omega | (split <;> omega)) (fun c_13 => ?_) (fun c_13 => by exact absurd c_13 (by decide))
  refine j_iconst dX12_saint_20 ?_
  refine j_iconst dX12_saint_21 ?_
  refine r_cv2I dX12_saint_22 cvX12_253 (by decide) (by first | assumption | exact hsh _ _ rfl) (Nat.le_of_ble_eq_true rfl) (Nat.le_of_eq (Nat.zero_add _)) (Nat.le_of_eq (Nat.zero_add _)) (sm_thr0 hsh) ?_
  refine j_if_eq (tgt := 30) dX12_saint_25 rfl (by first | omega | (split <;> omega)) (fun c_25 => ?_) (fun c_25 => by exact absurd c_25 (by decide))
  refine j_iconst dX12_saint_30 ?_
  refine j_istore dX12_saint_31 (by decide) ?_
  refine j_iconst dX12_saint_33 ?_
  refine j_aload_n dX12_saint_34 rfl ?_
  refine r_cv0J dX12_saint_35 cvX12_74 (by decide) (by first | assumption | exact hsh _ _ rfl) (Nat.le_of_ble_eq_true rfl) (Nat.le_of_eq (Nat.zero_add _)) (Nat.le_of_eq (Nat.zero_add _)) (sm_people hsh hfx) (hok.2.1 171 _) (fun b_35 => ?_)
  refine r_ishl dX12_saint_38 (fun b_38 => ?_)
  refine j_iconst dX12_saint_39 ?_
  refine j_isub dX12_saint_40 ?_
  refine j_istore dX12_saint_41 (by decide) ?_
  refine j_iload dX12_saint_43 rfl ?_
  refine j_istore dX12_saint_45 (by decide) ?_
  refine j_iconst dX12_saint_47 ?_
  refine j_istore dX12_saint_48 (by decide) ?_
  skip
  rw [← hall2]
  refine jW_loop 50 (fun z (a : Int × Int) => 0 ≤ a.1 ∧ a.1 ≤ z) (fun t a => if mPains (I1 171) t k = x then (a.1 + 1, jAnd a.2 t) else a) (0, aAllS (I1 171)) (aAllS (I1 171) + 1) (fun z a => [some (jR (some 170)), some (jI x), some (jI k), some (jI b), some (jI a.1), some (jI (aAllS (I1 171))), some (jI a.2), some (jI z)]) (fun _ _ => (sh, I1, F)) (by omega) (by simp) (fun z a h3 h4 h5 => by split <;> (try dsimp only) <;> omega) (fun a ha hPa => ?_) (fun z a hz0 hz1 hPa ih => ?_)
  · have hN : ∀ n : Nat, (jfold (fun t (a : Int × Int) => if mPains (I1 171) t k = x then (a.1 + 1, jAnd a.2 t) else a) ((0 : Int), aAllS (I1 171)) n) = (jfold (fun t a => if mPains (I1 171) t k = x then a + 1 else a) 0 n, jfold (fun t a => if mPains (I1 171) t k = x then jAnd a t else a) (aAllS (I1 171)) n) := by
      intro n
      induction n with
      | zero => rfl
      | succ n ih =>
        show (if mPains (I1 171) n k = x then _ else _) = _
        rw [ih]
        show _ = ((if mPains (I1 171) n k = x then _ else _), (if mPains (I1 171) n k = x then _ else _))
        split <;> rfl
    rw [hN] at ha
    have ha1 : a.1 = mSetN (I1 171) x k := by rw [ha]; rfl
    have ha2 : a.2 = mSetB (I1 171) x k := by rw [ha]; rfl
    subst hQ

    refine j_iload dX12_saint_50 rfl ?_
    refine j_iload dX12_saint_52 rfl ?_
    refine j_icmp_gt (tgt := 87) dX12_saint_54 rfl (by first | omega | (split <;> omega)) (by first | omega | (split <;> omega)) (fun c_54 => ?_) (fun c_54 => by exact absurd (by omega) c_54)
    refine j_iload_n dX12_saint_87 rfl ?_
    refine j_if_ne (tgt := 96) dX12_saint_88 rfl (by first | omega | (split <;> omega)) (fun c_88 => ?_) (fun c_88 => ?_)
    · refine j_iload dX12_saint_96 rfl ?_
      refine j_if_ne (tgt := 105) dX12_saint_98 rfl (by first | omega | (split <;> omega)) (fun c_98 => ?_) (fun c_98 => ?_)
      · refine j_iload dX12_saint_105 rfl ?_
        refine j_iret dX12_saint_107 rfl ?_
        exact rI_of (by split <;> first | omega | (split <;> omega)) rfl
      · refine j_iconst dX12_saint_101 ?_
        refine j_goto (tgt := 107) dX12_saint_102 rfl ?_
        refine j_iret dX12_saint_107 rfl ?_
        exact rI_of (by split <;> first | omega | (split <;> omega)) rfl
    · refine j_iload dX12_saint_91 rfl ?_
      refine j_goto (tgt := 107) dX12_saint_93 rfl ?_
      refine j_iret dX12_saint_107 rfl ?_
      exact rI_of (by split <;> first | omega | (split <;> omega)) rfl
  · have hr0 := mPains_in hP hB (x := z) (k := k) (by omega)

    refine j_iload dX12_saint_50 rfl ?_
    refine j_iload dX12_saint_52 rfl ?_
    refine j_icmp_gt (tgt := 87) dX12_saint_54 rfl (by first | omega | (split <;> omega)) (by first | omega | (split <;> omega)) (fun c_54 => by exact absurd c_54 (by omega)) (fun c_54 => ?_)
    refine j_aload_n dX12_saint_57 rfl ?_
    refine j_iload dX12_saint_58 rfl ?_
    refine j_iload_n dX12_saint_60 rfl ?_
    refine r_cv2I dX12_saint_61 cvX12_396 (by decide) (by first | assumption | exact hsh _ _ rfl) (Nat.le_of_ble_eq_true rfl) (Nat.le_of_eq (Nat.zero_add _)) (Nat.le_of_eq (Nat.zero_add _)) (sm_painsOf hsh hfx hP (by omega)) ?_
    refine j_iload_n dX12_saint_64 rfl ?_
    refine j_icmp_eq (tgt := 71) dX12_saint_65 rfl (by first | omega | (split <;> omega)) (by first | omega | (split <;> omega)) (fun c_65 => ?_) (fun c_65 => ?_)
    · refine j_iinc dX12_saint_71 rfl (by decide) ?_
      refine j_iload dX12_saint_74 rfl ?_
      refine j_iload dX12_saint_76 rfl ?_
      refine r_iand dX12_saint_78 (fun b_78 => ?_)
      refine j_istore dX12_saint_79 (by decide) ?_
      refine j_iinc dX12_saint_81 rfl (by decide) ?_
      refine j_goto (tgt := 50) dX12_saint_84 rfl ?_
      first | (rw [if_pos (show mPains (I1 171) z k = x by omega)] at ih; exact ih) | (rw [if_neg (show ¬ mPains (I1 171) z k = x by omega)] at ih; exact ih)
    · refine j_goto (tgt := 81) dX12_saint_68 rfl ?_
      refine j_iinc dX12_saint_81 rfl (by decide) ?_
      refine j_goto (tgt := 50) dX12_saint_84 rfl ?_
      first | (rw [if_pos (show mPains (I1 171) z k = x by omega)] at ih; exact ih) | (rw [if_neg (show ¬ mPains (I1 171) z k = x by omega)] at ih; exact ih)
theorem cp_saint_0 (hsh : ShOK sh) (hfx : FxOK F) (hs : StAt sh F 2) (hR : Rp I 2 w) (hB : WfB w) {x k b : Int} (hx : jin x) (h1 : jin k) (h2 : 0 ≤ k ∧ k ≤ 6) (hb : b = 0 ∨ b = 1) : jS G (d + 3) mX11_saint [jR (some 0), jI x, jI k, jI b] (sh, I, F) 0 0 (rI (if b = 0 then mSetN w x k else if mSetN w x k = 0 then 0 else mSetB w x k) (sh, I, F)) := by
  refine jS_go [some (jR (some 0)), some (jI x), some (jI k), some (jI b)] (by decide +kernel) rfl (by simp [jone]) (Nat.le_of_ble_eq_true rfl) rfl (fun hok => ?_)
  refine j_aload_n dX11_saint_0 rfl ?_
  refine j_iload_n dX11_saint_1 rfl ?_
  refine r_cv1V dX11_saint_2 cvX11_162 (by decide) (by first | assumption | exact hsh _ _ rfl) (Nat.le_of_ble_eq_true rfl) (Nat.le_of_eq (Nat.zero_add _)) (Nat.le_of_eq (Nat.zero_add _)) (cg_week0 hsh (by omega) h2) ?_
  refine j_iload_n dX11_saint_5 rfl ?_
  refine j_if_eq (tgt := 21) dX11_saint_6 rfl (by first | omega | (split <;> omega)) (fun c_6 => ?_) (fun c_6 => ?_)
  · refine j_aload_n dX11_saint_21 rfl ?_
    refine r_getS dX11_saint_22 flX11_20 (by first | assumption | exact hsh _ _ rfl) (fx_0_3 hfx) ?_
    refine j_iload_n dX11_saint_25 rfl ?_
    refine j_iload_n dX11_saint_26 rfl ?_
    refine r_cs3I dX11_saint_27 csX11_284 (Nat.le_of_ble_eq_true rfl) (Nat.le_of_eq (Nat.zero_add _)) (Nat.le_of_eq (Nat.zero_add _)) (sc_setsWithPain hs hR hB hx (by omega)) ?_
    refine j_iret dX11_saint_30 rfl ?_
    exact rI_of (by first | rw [if_pos c_6] | rw [if_neg c_6]) rfl
  · refine j_aload_n dX11_saint_9 rfl ?_
    refine r_getS dX11_saint_10 flX11_20 (by first | assumption | exact hsh _ _ rfl) (fx_0_3 hfx) ?_
    refine j_iload_n dX11_saint_13 rfl ?_
    refine j_iload_n dX11_saint_14 rfl ?_
    refine r_cs3I dX11_saint_15 csX11_281 (Nat.le_of_ble_eq_true rfl) (Nat.le_of_eq (Nat.zero_add _)) (Nat.le_of_eq (Nat.zero_add _)) (sc_inAllSets hs hR hB hx (by omega)) ?_
    refine j_goto (tgt := 30) dX11_saint_18 rfl ?_
    refine j_iret dX11_saint_30 rfl ?_
    exact rI_of (by first | rw [if_pos c_6] | rw [if_neg c_6]) rfl
theorem cp_saint_1 (hsh : ShOK sh) (hfx : FxOK F) {x k b : Int} (h1 : jin k) (h2 : ¬ (0 ≤ k ∧ k ≤ 6)) : jS G (d + 3) mX11_saint [jR (some 0), jI x, jI k, jI b] (sh, I, F) 1 6 (rX xIob (sh, I, F)) := by
  refine jS_go [some (jR (some 0)), some (jI x), some (jI k), some (jI b)] (by decide +kernel) rfl (by simp [jone]) (Nat.le_of_ble_eq_true rfl) rfl (fun hok => ?_)
  refine j_aload_n dX11_saint_0 rfl ?_
  refine j_iload_n dX11_saint_1 rfl ?_
  exact r_cv1X dX11_saint_2 cvX11_162 (by decide) (by first | assumption | exact hsh _ _ rfl) (Nat.le_of_ble_eq_true rfl) (Nat.le_refl _) (Nat.le_refl _) rfl (cg_week1 hsh (by omega) h2) (⟨rfl, rfl⟩)
end
