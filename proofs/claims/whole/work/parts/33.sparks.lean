/-! SPARKS AND BEARERS, BOTH SIDES -/
section
variable {G : jzG} {d : Nat} {sh : List (Nat × Nat)} {I : Nat → Int → Int} {F : Nat → Int → Option Nat} {s : Nat} {w : Int → Int}
theorem sc_fewestToTell (hs : StAt sh F s) (hR : Rp I s w) (hA : WfA w) : jS G (d + 3) mX3_fewestToTell [jR (some s)] (sh, I, F) 0 0 (rI (mBest (vSpark w)) (sh, I, F)) := by
  obtain ⟨g0, g1, g2, g3, g4, g5, g6, g7, g8, g9, e1, e2, e3, e4, e5, e6, e7, e8, e9⟩ := id hs
  obtain ⟨r0, r1, rP, rO, rA, r9, r10, r11, r12, r13, r14, r15, r16, r17⟩ := id hR
  have hall := aAllS_in r1
  have hall2 : aAllS w = jShl 1 (aPe w) - 1 := rfl
  have hal := mAlive_set r1
  have hle := mAlive_all r1
  refine jS_go [some (jR (some s)), none, none, none] (by decide +kernel) rfl (by simp [jone]) (Nat.le_of_ble_eq_true rfl) rfl (fun hok => ?_)
  have loop : ∀ (m : Nat) (z b : Int) (o : Option jzV), z + m = aAllS w + 1 → 1 ≤ z → IsBest (fun x => x < z ∧ vSpark w x) b → (b = -1 ∨ (0 ≤ b ∧ b < 256)) → jW G mX3_fewestToTell (d + 3) (rI (mBest (vSpark w)) (sh, I, F)) 4 [some (jR (some s)), some (jI b), some (jI z), o] [] (sh, I, F) 0 0 := by
    intro m
    induction m with
    | zero =>
      intro z b o hz hz1 hb hb1
      have hfin : mBest (vSpark w) = b := mBest_of (IsBest_cong hb (fun x hx0 hx1 => ⟨fun q => q.2, fun q => ⟨by have := (jan_sub ⟨hx0, hx1⟩ hal.1 q.2.1).1; omega, q⟩⟩))
      refine j_iload_n dX3_fewestToTell_4 rfl ?_
      refine j_aload_n dX3_fewestToTell_5 rfl ?_
      refine r_cv0I dX3_fewestToTell_6 cvX3_26 (by decide) (by first | assumption | exact hsh _ _ rfl) (Nat.le_of_ble_eq_true rfl) (Nat.le_of_eq (Nat.zero_add _)) (Nat.le_of_eq (Nat.zero_add _)) (sc_everybody hs hR) ?_
      refine j_icmp_gt (tgt := 65) dX3_fewestToTell_9 rfl (by first | omega | (split <;> omega)) (by first | omega | (split <;> omega)) (fun c_9 => ?_) (fun c_9 => by exact absurd (by omega) c_9)
      refine j_iload_n dX3_fewestToTell_65 rfl ?_
      refine j_iret dX3_fewestToTell_66 rfl ?_
      exact rI_of hfin.symm rfl
    | succ m ih =>
      intro z b o hz hz1 hb hb1
      have hup := fun (t : Prop) [Decidable t] ht => IsBest_up (V := vSpark w) (z := z) (b := b) (by omega) hb t ht
      have hacc := mAcc_in r1 hA (mRun w z)
      refine j_iload_n dX3_fewestToTell_4 rfl ?_
      refine j_aload_n dX3_fewestToTell_5 rfl ?_
      refine r_cv0I dX3_fewestToTell_6 cvX3_26 (by decide) (by first | assumption | exact hsh _ _ rfl) (Nat.le_of_ble_eq_true rfl) (Nat.le_of_eq (Nat.zero_add _)) (Nat.le_of_eq (Nat.zero_add _)) (sc_everybody hs hR) ?_
      refine j_icmp_gt (tgt := 65) dX3_fewestToTell_9 rfl (by first | omega | (split <;> omega)) (by first | omega | (split <;> omega)) (fun c_9 => by exact absurd c_9 (by omega)) (fun c_9 => ?_)
      refine j_iload_n dX3_fewestToTell_12 rfl ?_
      refine j_aload_n dX3_fewestToTell_13 rfl ?_
      refine r_getIE dX3_fewestToTell_14 flX3_30 (by first | assumption | exact hsh _ _ rfl) rA (fun b_14 => ?_)
      refine j_iconst dX3_fewestToTell_17 ?_
      refine r_ixor dX3_fewestToTell_18 (fun b_18 => ?_)
      refine r_iand dX3_fewestToTell_19 (fun b_19 => ?_)
      refine j_if_ne (tgt := 27) dX3_fewestToTell_20 rfl (by first | omega | (split <;> omega)) (fun c_20 => ?_) (fun c_20 => ?_)
      · refine j_iconst dX3_fewestToTell_27 ?_
        refine j_istore_n dX3_fewestToTell_28 (by decide) ?_
        refine j_iload_n dX3_fewestToTell_29 rfl ?_
        refine j_if_eq (tgt := 59) dX3_fewestToTell_30 rfl (by first | omega | (split <;> omega)) (fun c_30 => ?_) (fun c_30 => ?_)
        · refine j_iinc dX3_fewestToTell_59 rfl (by decide) ?_
          refine j_goto (tgt := 4) dX3_fewestToTell_62 rfl ?_
          first | exact ih _ _ _ (by omega) (by omega) (by have := hup True ⟨fun _ => by refine ⟨⟨by omega, by omega, by omega⟩, by omega⟩, fun _ => trivial⟩; rwa [if_pos trivial] at this) (by omega) | exact ih _ _ _ (by omega) (by omega) (by have := hup False ⟨fun q => q.elim, fun q => by obtain ⟨⟨q1, q2, q3⟩, q4⟩ := q; omega⟩; rwa [if_neg not_false] at this) (by omega)
        · refine j_iload_n dX3_fewestToTell_33 rfl ?_
          refine j_iload_n dX3_fewestToTell_34 rfl ?_
          refine r_cs2I dX3_fewestToTell_35 csX3_33 (Nat.le_of_ble_eq_true rfl) (Nat.le_of_eq (Nat.zero_add _)) (Nat.le_of_eq (Nat.zero_add _)) (sc_isFewer (by omega) (by omega)) ?_
          refine j_if_eq (tgt := 59) dX3_fewestToTell_38 rfl (by first | omega | (split <;> omega)) (fun c_38 => ?_) (fun c_38 => ?_)
          · rw [ite0] at c_38
            refine j_iinc dX3_fewestToTell_59 rfl (by decide) ?_
            refine j_goto (tgt := 4) dX3_fewestToTell_62 rfl ?_
            first | exact ih _ _ _ (by omega) (by omega) (by have := hup True ⟨fun _ => by refine ⟨⟨by omega, by omega, by omega⟩, by omega⟩, fun _ => trivial⟩; rwa [if_pos trivial] at this) (by omega) | exact ih _ _ _ (by omega) (by omega) (by have := hup False ⟨fun q => q.elim, fun q => by obtain ⟨⟨q1, q2, q3⟩, q4⟩ := q; omega⟩; rwa [if_neg not_false] at this) (by omega)
          · rw [ite0] at c_38
            refine j_aload_n dX3_fewestToTell_41 rfl ?_
            refine j_aload_n dX3_fewestToTell_42 rfl ?_
            refine j_iload_n dX3_fewestToTell_43 rfl ?_
            refine r_cs2I dX3_fewestToTell_44 csX3_39 (Nat.le_of_ble_eq_true rfl) (Nat.le_of_eq (Nat.zero_add _)) (Nat.le_of_eq (Nat.zero_add _)) (sc_runFrom hs hR (by omega) (mCt_sub r1 (by omega) (by omega))) ?_
            refine r_cv1I dX3_fewestToTell_47 cvX3_43 (by decide) (by first | assumption | exact hsh _ _ rfl) (Nat.le_of_ble_eq_true rfl) (Nat.le_of_eq (Nat.zero_add _)) (Nat.le_of_eq (Nat.zero_add _)) (sc_accountsOf hs hR) ?_
            refine j_aload_n dX3_fewestToTell_50 rfl ?_
            refine r_getIE dX3_fewestToTell_51 flX3_47 (by first | assumption | exact hsh _ _ rfl) r9 (fun b_51 => ?_)
            refine j_icmp_le (tgt := 59) dX3_fewestToTell_54 rfl (by first | omega | (split <;> omega)) (by first | omega | (split <;> omega)) (fun c_54 => ?_) (fun c_54 => ?_)
            · refine j_iinc dX3_fewestToTell_59 rfl (by decide) ?_
              refine j_goto (tgt := 4) dX3_fewestToTell_62 rfl ?_
              first | exact ih _ _ _ (by omega) (by omega) (by have := hup True ⟨fun _ => by refine ⟨⟨by omega, by omega, by omega⟩, by omega⟩, fun _ => trivial⟩; rwa [if_pos trivial] at this) (by omega) | exact ih _ _ _ (by omega) (by omega) (by have := hup False ⟨fun q => q.elim, fun q => by obtain ⟨⟨q1, q2, q3⟩, q4⟩ := q; omega⟩; rwa [if_neg not_false] at this) (by omega)
            · refine j_iload_n dX3_fewestToTell_57 rfl ?_
              refine j_istore_n dX3_fewestToTell_58 (by decide) ?_
              refine j_iinc dX3_fewestToTell_59 rfl (by decide) ?_
              refine j_goto (tgt := 4) dX3_fewestToTell_62 rfl ?_
              first | exact ih _ _ _ (by omega) (by omega) (by have := hup True ⟨fun _ => by refine ⟨⟨by omega, by omega, by omega⟩, by omega⟩, fun _ => trivial⟩; rwa [if_pos trivial] at this) (by omega) | exact ih _ _ _ (by omega) (by omega) (by have := hup False ⟨fun q => q.elim, fun q => by obtain ⟨⟨q1, q2, q3⟩, q4⟩ := q; omega⟩; rwa [if_neg not_false] at this) (by omega)
      · refine j_iconst dX3_fewestToTell_23 ?_
        refine j_goto (tgt := 28) dX3_fewestToTell_24 rfl ?_
        refine j_istore_n dX3_fewestToTell_28 (by decide) ?_
        refine j_iload_n dX3_fewestToTell_29 rfl ?_
        refine j_if_eq (tgt := 59) dX3_fewestToTell_30 rfl (by first | omega | (split <;> omega)) (fun c_30 => ?_) (fun c_30 => ?_)
        · refine j_iinc dX3_fewestToTell_59 rfl (by decide) ?_
          refine j_goto (tgt := 4) dX3_fewestToTell_62 rfl ?_
          first | exact ih _ _ _ (by omega) (by omega) (by have := hup True ⟨fun _ => by refine ⟨⟨by omega, by omega, by omega⟩, by omega⟩, fun _ => trivial⟩; rwa [if_pos trivial] at this) (by omega) | exact ih _ _ _ (by omega) (by omega) (by have := hup False ⟨fun q => q.elim, fun q => by obtain ⟨⟨q1, q2, q3⟩, q4⟩ := q; omega⟩; rwa [if_neg not_false] at this) (by omega)
        · refine j_iload_n dX3_fewestToTell_33 rfl ?_
          refine j_iload_n dX3_fewestToTell_34 rfl ?_
          refine r_cs2I dX3_fewestToTell_35 csX3_33 (Nat.le_of_ble_eq_true rfl) (Nat.le_of_eq (Nat.zero_add _)) (Nat.le_of_eq (Nat.zero_add _)) (sc_isFewer (by omega) (by omega)) ?_
          refine j_if_eq (tgt := 59) dX3_fewestToTell_38 rfl (by first | omega | (split <;> omega)) (fun c_38 => ?_) (fun c_38 => ?_)
          · rw [ite0] at c_38
            refine j_iinc dX3_fewestToTell_59 rfl (by decide) ?_
            refine j_goto (tgt := 4) dX3_fewestToTell_62 rfl ?_
            first | exact ih _ _ _ (by omega) (by omega) (by have := hup True ⟨fun _ => by refine ⟨⟨by omega, by omega, by omega⟩, by omega⟩, fun _ => trivial⟩; rwa [if_pos trivial] at this) (by omega) | exact ih _ _ _ (by omega) (by omega) (by have := hup False ⟨fun q => q.elim, fun q => by obtain ⟨⟨q1, q2, q3⟩, q4⟩ := q; omega⟩; rwa [if_neg not_false] at this) (by omega)
          · rw [ite0] at c_38
            refine j_aload_n dX3_fewestToTell_41 rfl ?_
            refine j_aload_n dX3_fewestToTell_42 rfl ?_
            refine j_iload_n dX3_fewestToTell_43 rfl ?_
            refine r_cs2I dX3_fewestToTell_44 csX3_39 (Nat.le_of_ble_eq_true rfl) (Nat.le_of_eq (Nat.zero_add _)) (Nat.le_of_eq (Nat.zero_add _)) (sc_runFrom hs hR (by omega) (mCt_sub r1 (by omega) (by omega))) ?_
            refine r_cv1I dX3_fewestToTell_47 cvX3_43 (by decide) (by first | assumption | exact hsh _ _ rfl) (Nat.le_of_ble_eq_true rfl) (Nat.le_of_eq (Nat.zero_add _)) (Nat.le_of_eq (Nat.zero_add _)) (sc_accountsOf hs hR) ?_
            refine j_aload_n dX3_fewestToTell_50 rfl ?_
            refine r_getIE dX3_fewestToTell_51 flX3_47 (by first | assumption | exact hsh _ _ rfl) r9 (fun b_51 => ?_)
            refine j_icmp_le (tgt := 59) dX3_fewestToTell_54 rfl (by first | omega | (split <;> omega)) (by first | omega | (split <;> omega)) (fun c_54 => ?_) (fun c_54 => ?_)
            · refine j_iinc dX3_fewestToTell_59 rfl (by decide) ?_
              refine j_goto (tgt := 4) dX3_fewestToTell_62 rfl ?_
              first | exact ih _ _ _ (by omega) (by omega) (by have := hup True ⟨fun _ => by refine ⟨⟨by omega, by omega, by omega⟩, by omega⟩, fun _ => trivial⟩; rwa [if_pos trivial] at this) (by omega) | exact ih _ _ _ (by omega) (by omega) (by have := hup False ⟨fun q => q.elim, fun q => by obtain ⟨⟨q1, q2, q3⟩, q4⟩ := q; omega⟩; rwa [if_neg not_false] at this) (by omega)
            · refine j_iload_n dX3_fewestToTell_57 rfl ?_
              refine j_istore_n dX3_fewestToTell_58 (by decide) ?_
              refine j_iinc dX3_fewestToTell_59 rfl (by decide) ?_
              refine j_goto (tgt := 4) dX3_fewestToTell_62 rfl ?_
              first | exact ih _ _ _ (by omega) (by omega) (by have := hup True ⟨fun _ => by refine ⟨⟨by omega, by omega, by omega⟩, by omega⟩, fun _ => trivial⟩; rwa [if_pos trivial] at this) (by omega) | exact ih _ _ _ (by omega) (by omega) (by have := hup False ⟨fun q => q.elim, fun q => by obtain ⟨⟨q1, q2, q3⟩, q4⟩ := q; omega⟩; rwa [if_neg not_false] at this) (by omega)
  refine j_iconst dX3_fewestToTell_0 ?_
  refine j_istore_n dX3_fewestToTell_1 (by decide) ?_
  refine j_iconst dX3_fewestToTell_2 ?_
  refine j_istore_n dX3_fewestToTell_3 (by decide) ?_
  exact loop (aAllS w).toNat 1 (-1) _ (by omega) (by omega) (Or.inl ⟨rfl, fun x _ _ q => by have := q.2.1; omega⟩) (Or.inl rfl)
theorem mp_spark (hsh : ShOK sh) (hfx : FxOK F) (hP : WfP (I 171)) (hA : WfA (I 171)) : jS G (d + 4) mX12_spark [jR (some 170)] (sh, I, F) 0 0 (rI (mBest (vSpark (I 171))) (sh, jup I 170 0 0, F)) := by
  refine jS_go [some (jR (some 170)), none, none, none] (by decide +kernel) rfl (by simp [jone]) (Nat.le_of_ble_eq_true rfl) rfl (fun hok => ?_)
  refine j_aload_n dX12_spark_0 rfl ?_
  refine j_iconst dX12_spark_1 ?_
  refine r_putI dX12_spark_2 flX12_3 rfl (by first | assumption | exact hsh _ _ rfl) (by first | omega | (split <;> omega)) (fun q => by cases q) ?_
  skip
  have hok1 : jzok (sh, jup I 170 0 0, F) := jzok_I hok jin_lit0
  have hw0 : (jup I 170 0 0) 171 = I 171 := jup_ne _ _ _ (by decide)
  clear hok
  rw [← hw0] at hP hA
  try rw [← hw0]
  obtain ⟨I1, hI1⟩ : ∃ J, J = jup I 170 0 0 := ⟨_, rfl⟩
  rw [← hI1] at hok1 hw0 hP hA ⊢
  have hok := hok1
  have hP2 := hP.2
  have hal := mAlive_set hP
  have loop : ∀ (m : Nat) (z b : Int), z = m → z ≤ mAlive (I1 171) → IsBest (fun x => z < x ∧ vSpark (I1 171) x) b → (b = -1 ∨ (0 ≤ b ∧ b < 256)) → jW G mX12_spark (d + 4) (rI (mBest (vSpark (I1 171))) (sh, I1, F)) 14 [some (jR (some 170)), some (jI (mAlive (I1 171))), some (jI b), some (jI z)] [] (sh, I1, F) 0 0 := by
    intro m
    induction m with
    | zero =>
      intro z b hz hz1 hb hb1
      have hfin : mBest (vSpark (I1 171)) = b := mBest_of (IsBest_cong hb (fun x hx0 hx1 => ⟨fun q => q.2, fun q => ⟨by have := q.1; omega, q⟩⟩))
      refine j_iload_n dX12_spark_14 rfl ?_
      refine j_if_le (tgt := 74) dX12_spark_15 rfl (by first | omega | (split <;> omega)) (fun c_15 => ?_) (fun c_15 => by exact absurd (by omega) c_15)
      refine j_iload_n dX12_spark_74 rfl ?_
      refine j_iret dX12_spark_75 rfl ?_
      exact rI_of hfin.symm rfl
    | succ m ih =>
      intro z b hz hz1 hb hb1
      have hdn := fun (t : Prop) [Decidable t] ht => IsBest_down (V := vSpark (I1 171)) (z := z) (b := b) (by omega) hb t ht
      have hacc := mAcc_in hP hA (mRun (I1 171) z)
      refine j_iload_n dX12_spark_14 rfl ?_
      refine j_if_le (tgt := 74) dX12_spark_15 rfl (by first | omega | (split <;> omega)) (fun c_15 => by exact absurd c_15 (by omega)) (fun c_15 => ?_)
      refine j_iload_n dX12_spark_18 rfl ?_
      refine j_iload_n dX12_spark_19 rfl ?_
      refine j_iconst dX12_spark_20 ?_
      refine r_ixor dX12_spark_21 (fun b_21 => ?_)
      refine r_iand dX12_spark_22 (fun b_22 => ?_)
      refine j_if_ne (tgt := 68) dX12_spark_23 rfl (by first | omega | (split <;> omega)) (fun c_23 => ?_) (fun c_23 => ?_)
      · refine j_iinc dX12_spark_68 rfl (by decide) ?_
        refine j_goto (tgt := 14) dX12_spark_71 rfl ?_
        rw [show z + -1 = z - 1 from rfl]
        first | exact ih _ _ (by omega) (by omega) (by have := hdn True ⟨fun _ => by refine ⟨⟨by omega, by omega, by omega⟩, by omega⟩, fun _ => trivial⟩; rwa [if_pos trivial] at this) (by omega) | exact ih _ _ (by omega) (by omega) (by have := hdn False ⟨fun q => q.elim, fun q => by obtain ⟨⟨q1, q2, q3⟩, q4⟩ := q; omega⟩; rwa [if_neg not_false] at this) (by omega)
      · refine j_iload_n dX12_spark_26 rfl ?_
        refine j_if_lt (tgt := 44) dX12_spark_27 rfl (by first | omega | (split <;> omega)) (fun c_27 => ?_) (fun c_27 => ?_)
        · refine j_aload_n dX12_spark_44 rfl ?_
          refine j_aload_n dX12_spark_45 rfl ?_
          refine j_iload_n dX12_spark_46 rfl ?_
          refine r_cv1I dX12_spark_47 cvX12_387 (by decide) (by first | assumption | exact hsh _ _ rfl) (Nat.le_of_ble_eq_true rfl) (Nat.le_of_eq (Nat.zero_add _)) (Nat.le_of_eq (Nat.zero_add _)) (sm_runFrom hsh hfx hP (by omega)) ?_
          refine r_cv1I dX12_spark_50 cvX12_390 (by decide) (by first | assumption | exact hsh _ _ rfl) (Nat.le_of_ble_eq_true rfl) (Nat.le_of_eq (Nat.zero_add _)) (Nat.le_of_eq (Nat.zero_add _)) (sm_accountsOf hsh hfx hP) ?_
          refine j_aload_n dX12_spark_53 rfl ?_
          refine r_getS dX12_spark_54 flX12_13 (by first | assumption | exact hsh _ _ rfl) (fx_170_1 hfx) ?_
          refine j_iconst dX12_spark_57 ?_
          refine r_iaload dX12_spark_58 (by first | assumption | exact hsh _ _ rfl) (by first | omega | (split <;> omega)) (by first | omega | (split <;> omega)) (fun b_58 => ?_)
          refine j_icmp_le (tgt := 66) dX12_spark_59 rfl (by first | omega | (split <;> omega)) (by first | omega | (split <;> omega)) (fun c_59 => ?_) (fun c_59 => ?_)
          · refine j_iload_n dX12_spark_66 rfl ?_
            refine j_istore_n dX12_spark_67 (by decide) ?_
            refine j_iinc dX12_spark_68 rfl (by decide) ?_
            refine j_goto (tgt := 14) dX12_spark_71 rfl ?_
            rw [show z + -1 = z - 1 from rfl]
            first | exact ih _ _ (by omega) (by omega) (by have := hdn True ⟨fun _ => by refine ⟨⟨by omega, by omega, by omega⟩, by omega⟩, fun _ => trivial⟩; rwa [if_pos trivial] at this) (by omega) | exact ih _ _ (by omega) (by omega) (by have := hdn False ⟨fun q => q.elim, fun q => by obtain ⟨⟨q1, q2, q3⟩, q4⟩ := q; omega⟩; rwa [if_neg not_false] at this) (by omega)
          · refine j_iload_n dX12_spark_62 rfl ?_
            refine j_goto (tgt := 67) dX12_spark_63 rfl ?_
            refine j_istore_n dX12_spark_67 (by decide) ?_
            refine j_iinc dX12_spark_68 rfl (by decide) ?_
            refine j_goto (tgt := 14) dX12_spark_71 rfl ?_
            rw [show z + -1 = z - 1 from rfl]
            first | exact ih _ _ (by omega) (by omega) (by have := hdn True ⟨fun _ => by refine ⟨⟨by omega, by omega, by omega⟩, by omega⟩, fun _ => trivial⟩; rwa [if_pos trivial] at this) (by omega) | exact ih _ _ (by omega) (by omega) (by have := hdn False ⟨fun q => q.elim, fun q => by obtain ⟨⟨q1, q2, q3⟩, q4⟩ := q; omega⟩; rwa [if_neg not_false] at this) (by omega)
        · refine j_iload_n dX12_spark_30 rfl ?_
          refine r_cs1J dX12_spark_31 csX12_379 (Nat.le_of_ble_eq_true rfl) (Nat.le_of_eq (Nat.zero_add _)) (Nat.le_of_eq (Nat.zero_add _)) (sj_bitCount) (jAnd_in _ _) (fun b_31 => ?_)
          refine j_iload_n dX12_spark_34 rfl ?_
          refine r_cs1J dX12_spark_35 csX12_379 (Nat.le_of_ble_eq_true rfl) (Nat.le_of_eq (Nat.zero_add _)) (Nat.le_of_eq (Nat.zero_add _)) (sj_bitCount) (jAnd_in _ _) (fun b_35 => ?_)
          refine j_icmp_le (tgt := 44) dX12_spark_38 rfl (by first | omega | (split <;> omega)) (by first | omega | (split <;> omega)) (fun c_38 => ?_) (fun c_38 => ?_)
          · refine j_aload_n dX12_spark_44 rfl ?_
            refine j_aload_n dX12_spark_45 rfl ?_
            refine j_iload_n dX12_spark_46 rfl ?_
            refine r_cv1I dX12_spark_47 cvX12_387 (by decide) (by first | assumption | exact hsh _ _ rfl) (Nat.le_of_ble_eq_true rfl) (Nat.le_of_eq (Nat.zero_add _)) (Nat.le_of_eq (Nat.zero_add _)) (sm_runFrom hsh hfx hP (by omega)) ?_
            refine r_cv1I dX12_spark_50 cvX12_390 (by decide) (by first | assumption | exact hsh _ _ rfl) (Nat.le_of_ble_eq_true rfl) (Nat.le_of_eq (Nat.zero_add _)) (Nat.le_of_eq (Nat.zero_add _)) (sm_accountsOf hsh hfx hP) ?_
            refine j_aload_n dX12_spark_53 rfl ?_
            refine r_getS dX12_spark_54 flX12_13 (by first | assumption | exact hsh _ _ rfl) (fx_170_1 hfx) ?_
            refine j_iconst dX12_spark_57 ?_
            refine r_iaload dX12_spark_58 (by first | assumption | exact hsh _ _ rfl) (by first | omega | (split <;> omega)) (by first | omega | (split <;> omega)) (fun b_58 => ?_)
            refine j_icmp_le (tgt := 66) dX12_spark_59 rfl (by first | omega | (split <;> omega)) (by first | omega | (split <;> omega)) (fun c_59 => ?_) (fun c_59 => ?_)
            · refine j_iload_n dX12_spark_66 rfl ?_
              refine j_istore_n dX12_spark_67 (by decide) ?_
              refine j_iinc dX12_spark_68 rfl (by decide) ?_
              refine j_goto (tgt := 14) dX12_spark_71 rfl ?_
              rw [show z + -1 = z - 1 from rfl]
              first | exact ih _ _ (by omega) (by omega) (by have := hdn True ⟨fun _ => by refine ⟨⟨by omega, by omega, by omega⟩, by omega⟩, fun _ => trivial⟩; rwa [if_pos trivial] at this) (by omega) | exact ih _ _ (by omega) (by omega) (by have := hdn False ⟨fun q => q.elim, fun q => by obtain ⟨⟨q1, q2, q3⟩, q4⟩ := q; omega⟩; rwa [if_neg not_false] at this) (by omega)
            · refine j_iload_n dX12_spark_62 rfl ?_
              refine j_goto (tgt := 67) dX12_spark_63 rfl ?_
              refine j_istore_n dX12_spark_67 (by decide) ?_
              refine j_iinc dX12_spark_68 rfl (by decide) ?_
              refine j_goto (tgt := 14) dX12_spark_71 rfl ?_
              rw [show z + -1 = z - 1 from rfl]
              first | exact ih _ _ (by omega) (by omega) (by have := hdn True ⟨fun _ => by refine ⟨⟨by omega, by omega, by omega⟩, by omega⟩, fun _ => trivial⟩; rwa [if_pos trivial] at this) (by omega) | exact ih _ _ (by omega) (by omega) (by have := hdn False ⟨fun q => q.elim, fun q => by obtain ⟨⟨q1, q2, q3⟩, q4⟩ := q; omega⟩; rwa [if_neg not_false] at this) (by omega)
          · refine j_goto (tgt := 68) dX12_spark_41 rfl ?_
            refine j_iinc dX12_spark_68 rfl (by decide) ?_
            refine j_goto (tgt := 14) dX12_spark_71 rfl ?_
            rw [show z + -1 = z - 1 from rfl]
            first | exact ih _ _ (by omega) (by omega) (by have := hdn True ⟨fun _ => by refine ⟨⟨by omega, by omega, by omega⟩, by omega⟩, fun _ => trivial⟩; rwa [if_pos trivial] at this) (by omega) | exact ih _ _ (by omega) (by omega) (by have := hdn False ⟨fun q => q.elim, fun q => by obtain ⟨⟨q1, q2, q3⟩, q4⟩ := q; omega⟩; rwa [if_neg not_false] at this) (by omega)
  refine j_aload_n dX12_spark_5 rfl ?_
  refine r_cv0I dX12_spark_6 cvX12_393 (by decide) (by first | assumption | exact hsh _ _ rfl) (Nat.le_of_ble_eq_true rfl) (Nat.le_of_eq (Nat.zero_add _)) (Nat.le_of_eq (Nat.zero_add _)) (sm_alive hsh hfx hP) ?_
  refine j_istore_n dX12_spark_9 (by decide) ?_
  refine j_iconst dX12_spark_10 ?_
  refine j_istore_n dX12_spark_11 (by decide) ?_
  refine j_iload_n dX12_spark_12 rfl ?_
  refine j_istore_n dX12_spark_13 (by decide) ?_
  exact loop (mAlive (I1 171)).toNat _ _ (by omega) (by omega) (Or.inl ⟨rfl, fun x hx0 hx1 q => by have := (jan_sub ⟨hx0, hx1⟩ hal.1 q.2.2.1).1; have := q.1; omega⟩) (Or.inl rfl)
theorem mRooms_in (hP : 0 ≤ aPe w ∧ aPe w ≤ 8) (hD : WfD w) (hB : WfB w) (x : Int) : 0 ≤ mRooms w x ∧ mRooms w x ≤ 800 := by
  have := jfold_ind (f := fun p a => a + (if jbit x p then max 0 (aRoom w p) else 0)) (a := 0) (fun k a => 0 ≤ a ∧ a ≤ k * 99) (by simp) (n := (aPe w).toNat) (fun k y h0 h1 q => by
    have h2 := aPaD_in hB (p := k) (day := w 3) ⟨h0, by omega⟩ hD.1
    have h3 := (hB k h0 (by omega)).1
    have h4 : aRoom w k = aOf w k 0 - aPaD w k (w 3) := rfl
    rw [Int.add_mul, Int.one_mul]
    split <;> omega)
  unfold mRooms
  rw [show (((aPe w).toNat : Nat) : Int) = aPe w by omega] at this
  omega
theorem mAll_in (hP : 0 ≤ aPe w ∧ aPe w ≤ 8) (hA : WfA w) : 0 ≤ mAll w 1 ∧ mAll w 1 ≤ 800000 := by
  have := jfold_ind (f := fun p a => a + aOf w p 1) (a := 0) (fun k a => 0 ≤ a ∧ a ≤ k * 99999) (by simp) (n := (aPe w).toNat) (fun k y h0 h1 q => by
    have := hA k h0 (by omega)
    rw [Int.add_mul, Int.one_mul]
    omega)
  unfold mAll
  rw [show (((aPe w).toNat : Nat) : Int) = aPe w by omega] at this
  omega
/-- all together, as a set -/
theorem mAcc_all (hP : 0 ≤ aPe w ∧ aPe w ≤ 8) : mAcc w (aAllS w) = mAll w 1 := by
  refine jfold_cong (fun k h0 h1 x => ?_)
  rw [if_pos]
  obtain ⟨n, en⟩ := Int.eq_ofNat_of_zero_le hP.1
  obtain ⟨m, em⟩ := Int.eq_ofNat_of_zero_le h0
  have hp : 0 < 2 ^ n := Nat.pow_pos (by decide)
  have h8 : 2 ^ n ≤ 2 ^ 8 := Nat.pow_le_pow_right (by decide) (by omega)
  have e3 : aAllS w = ((2 ^ n - 1 : Nat) : Int) := by
    unfold aAllS
    rw [en, jShl_nat (by omega)]
    omega
  rw [e3, em, jbit_nat (by omega) (by omega), Nat.testBit_two_pow_sub_one]
  exact decide_eq_true (by omega)
theorem sc_fewestBearers (hs : StAt sh F s) (hR : Rp I s w) (hD : WfD w) (hB : WfB w) (hA : WfA w) : jS G (d + 3) mX3_fewestBearers [jR (some s)] (sh, I, F) 0 0 (rI (mBest (vFew w)) (sh, I, F)) := by
  obtain ⟨g0, g1, g2, g3, g4, g5, g6, g7, g8, g9, e1, e2, e3, e4, e5, e6, e7, e8, e9⟩ := id hs
  obtain ⟨r0, r1, rP, rO, rA, r9, r10, r11, r12, r13, r14, r15, r16, r17⟩ := id hR
  have hall := aAllS_in r1
  have hall2 : aAllS w = jShl 1 (aPe w) - 1 := rfl
  have hal := mAlive_set r1
  have hle := mAlive_all r1
  have hac := mAll_in r1 hA
  refine jS_go [some (jR (some s)), none, none, none, none] (by decide +kernel) rfl (by simp [jone]) (Nat.le_of_ble_eq_true rfl) rfl (fun hok => ?_)
  have loop : ∀ (m : Nat) (z b : Int) (o : Option jzV), z + m = aAllS w + 1 → 0 ≤ z → IsBest (fun x => x < z ∧ vFew w x) b → (b = -1 ∨ (0 ≤ b ∧ b < 256)) → jW G mX3_fewestBearers (d + 3) (rI (mBest (vFew w)) (sh, I, F)) 13 [some (jR (some s)), some (jI (mAll w 1)), some (jI b), some (jI z), o] [] (sh, I, F) 0 0 := by
    intro m
    induction m with
    | zero =>
      intro z b o hz hz1 hb hb1
      have hfin : mBest (vFew w) = b := mBest_of (IsBest_cong hb (fun x hx0 hx1 => ⟨fun q => q.2, fun q => ⟨by have := (jan_sub ⟨hx0, hx1⟩ hal.1 q.1).1; omega, q⟩⟩))
      refine j_iload_n dX3_fewestBearers_13 rfl ?_
      refine j_aload_n dX3_fewestBearers_14 rfl ?_
      refine r_cv0I dX3_fewestBearers_15 cvX3_26 (by decide) (by first | assumption | exact hsh _ _ rfl) (Nat.le_of_ble_eq_true rfl) (Nat.le_of_eq (Nat.zero_add _)) (Nat.le_of_eq (Nat.zero_add _)) (sc_everybody hs hR) ?_
      refine j_icmp_gt (tgt := 69) dX3_fewestBearers_18 rfl (by first | omega | (split <;> omega)) (by first | omega | (split <;> omega)) (fun c_18 => ?_) (fun c_18 => by exact absurd (by omega) c_18)
      refine j_iload_n dX3_fewestBearers_69 rfl ?_
      refine j_iret dX3_fewestBearers_70 rfl ?_
      exact rI_of hfin.symm rfl
    | succ m ih =>
      intro z b o hz hz1 hb hb1
      have hup := fun (t : Prop) [Decidable t] ht => IsBest_up (V := vFew w) (z := z) (b := b) (by omega) hb t ht
      have hrm := mRooms_in r1 hD hB z
      refine j_iload_n dX3_fewestBearers_13 rfl ?_
      refine j_aload_n dX3_fewestBearers_14 rfl ?_
      refine r_cv0I dX3_fewestBearers_15 cvX3_26 (by decide) (by first | assumption | exact hsh _ _ rfl) (Nat.le_of_ble_eq_true rfl) (Nat.le_of_eq (Nat.zero_add _)) (Nat.le_of_eq (Nat.zero_add _)) (sc_everybody hs hR) ?_
      refine j_icmp_gt (tgt := 69) dX3_fewestBearers_18 rfl (by first | omega | (split <;> omega)) (by first | omega | (split <;> omega)) (fun c_18 => by exact absurd c_18 (by omega)) (fun c_18 => ?_)
      refine j_iload_n dX3_fewestBearers_21 rfl ?_
      refine j_aload_n dX3_fewestBearers_22 rfl ?_
      refine r_getIE dX3_fewestBearers_23 flX3_30 (by first | assumption | exact hsh _ _ rfl) rA (fun b_23 => ?_)
      refine j_iconst dX3_fewestBearers_26 ?_
      refine r_ixor dX3_fewestBearers_27 (fun b_27 => ?_)
      refine r_iand dX3_fewestBearers_28 (fun b_28 => ?_)
      refine j_if_ne (tgt := 36) dX3_fewestBearers_29 rfl (by first | omega | (split <;> omega)) (fun c_29 => ?_) (fun c_29 => ?_)
      · refine j_iconst dX3_fewestBearers_36 ?_
        refine j_istore dX3_fewestBearers_37 (by decide) ?_
        refine j_iload dX3_fewestBearers_39 rfl ?_
        refine j_if_eq (tgt := 63) dX3_fewestBearers_41 rfl (by first | omega | (split <;> omega)) (fun c_41 => ?_) (fun c_41 => ?_)
        · refine j_iinc dX3_fewestBearers_63 rfl (by decide) ?_
          refine j_goto (tgt := 13) dX3_fewestBearers_66 rfl ?_
          first | exact ih _ _ _ (by omega) (by omega) (by have := hup True ⟨fun _ => by refine ⟨⟨by omega, by omega⟩, by omega⟩, fun _ => trivial⟩; rwa [if_pos trivial] at this) (by omega) | exact ih _ _ _ (by omega) (by omega) (by have := hup False ⟨fun q => q.elim, fun q => by obtain ⟨⟨q1, q2⟩, q4⟩ := q; omega⟩; rwa [if_neg not_false] at this) (by omega)
        · refine j_iload_n dX3_fewestBearers_44 rfl ?_
          refine j_iload_n dX3_fewestBearers_45 rfl ?_
          refine r_cs2I dX3_fewestBearers_46 csX3_33 (Nat.le_of_ble_eq_true rfl) (Nat.le_of_eq (Nat.zero_add _)) (Nat.le_of_eq (Nat.zero_add _)) (sc_isFewer (by omega) (by omega)) ?_
          refine j_if_eq (tgt := 63) dX3_fewestBearers_49 rfl (by first | omega | (split <;> omega)) (fun c_49 => ?_) (fun c_49 => ?_)
          · rw [ite0] at c_49
            refine j_iinc dX3_fewestBearers_63 rfl (by decide) ?_
            refine j_goto (tgt := 13) dX3_fewestBearers_66 rfl ?_
            first | exact ih _ _ _ (by omega) (by omega) (by have := hup True ⟨fun _ => by refine ⟨⟨by omega, by omega⟩, by omega⟩, fun _ => trivial⟩; rwa [if_pos trivial] at this) (by omega) | exact ih _ _ _ (by omega) (by omega) (by have := hup False ⟨fun q => q.elim, fun q => by obtain ⟨⟨q1, q2⟩, q4⟩ := q; omega⟩; rwa [if_neg not_false] at this) (by omega)
          · rw [ite0] at c_49
            refine j_aload_n dX3_fewestBearers_52 rfl ?_
            refine j_iload_n dX3_fewestBearers_53 rfl ?_
            refine r_cs2I dX3_fewestBearers_54 csX3_69 (Nat.le_of_ble_eq_true rfl) (Nat.le_of_eq (Nat.zero_add _)) (Nat.le_of_eq (Nat.zero_add _)) (sc_roomOf hs hR hD hB) ?_
            refine j_iload_n dX3_fewestBearers_57 rfl ?_
            refine j_icmp_lt (tgt := 63) dX3_fewestBearers_58 rfl (by first | omega | (split <;> omega)) (by first | omega | (split <;> omega)) (fun c_58 => ?_) (fun c_58 => ?_)
            · refine j_iinc dX3_fewestBearers_63 rfl (by decide) ?_
              refine j_goto (tgt := 13) dX3_fewestBearers_66 rfl ?_
              first | exact ih _ _ _ (by omega) (by omega) (by have := hup True ⟨fun _ => by refine ⟨⟨by omega, by omega⟩, by omega⟩, fun _ => trivial⟩; rwa [if_pos trivial] at this) (by omega) | exact ih _ _ _ (by omega) (by omega) (by have := hup False ⟨fun q => q.elim, fun q => by obtain ⟨⟨q1, q2⟩, q4⟩ := q; omega⟩; rwa [if_neg not_false] at this) (by omega)
            · refine j_iload_n dX3_fewestBearers_61 rfl ?_
              refine j_istore_n dX3_fewestBearers_62 (by decide) ?_
              refine j_iinc dX3_fewestBearers_63 rfl (by decide) ?_
              refine j_goto (tgt := 13) dX3_fewestBearers_66 rfl ?_
              first | exact ih _ _ _ (by omega) (by omega) (by have := hup True ⟨fun _ => by refine ⟨⟨by omega, by omega⟩, by omega⟩, fun _ => trivial⟩; rwa [if_pos trivial] at this) (by omega) | exact ih _ _ _ (by omega) (by omega) (by have := hup False ⟨fun q => q.elim, fun q => by obtain ⟨⟨q1, q2⟩, q4⟩ := q; omega⟩; rwa [if_neg not_false] at this) (by omega)
      · refine j_iconst dX3_fewestBearers_32 ?_
        refine j_goto (tgt := 37) dX3_fewestBearers_33 rfl ?_
        refine j_istore dX3_fewestBearers_37 (by decide) ?_
        refine j_iload dX3_fewestBearers_39 rfl ?_
        refine j_if_eq (tgt := 63) dX3_fewestBearers_41 rfl (by first | omega | (split <;> omega)) (fun c_41 => ?_) (fun c_41 => ?_)
        · refine j_iinc dX3_fewestBearers_63 rfl (by decide) ?_
          refine j_goto (tgt := 13) dX3_fewestBearers_66 rfl ?_
          first | exact ih _ _ _ (by omega) (by omega) (by have := hup True ⟨fun _ => by refine ⟨⟨by omega, by omega⟩, by omega⟩, fun _ => trivial⟩; rwa [if_pos trivial] at this) (by omega) | exact ih _ _ _ (by omega) (by omega) (by have := hup False ⟨fun q => q.elim, fun q => by obtain ⟨⟨q1, q2⟩, q4⟩ := q; omega⟩; rwa [if_neg not_false] at this) (by omega)
        · refine j_iload_n dX3_fewestBearers_44 rfl ?_
          refine j_iload_n dX3_fewestBearers_45 rfl ?_
          refine r_cs2I dX3_fewestBearers_46 csX3_33 (Nat.le_of_ble_eq_true rfl) (Nat.le_of_eq (Nat.zero_add _)) (Nat.le_of_eq (Nat.zero_add _)) (sc_isFewer (by omega) (by omega)) ?_
          refine j_if_eq (tgt := 63) dX3_fewestBearers_49 rfl (by first | omega | (split <;> omega)) (fun c_49 => ?_) (fun c_49 => ?_)
          · rw [ite0] at c_49
            refine j_iinc dX3_fewestBearers_63 rfl (by decide) ?_
            refine j_goto (tgt := 13) dX3_fewestBearers_66 rfl ?_
            first | exact ih _ _ _ (by omega) (by omega) (by have := hup True ⟨fun _ => by refine ⟨⟨by omega, by omega⟩, by omega⟩, fun _ => trivial⟩; rwa [if_pos trivial] at this) (by omega) | exact ih _ _ _ (by omega) (by omega) (by have := hup False ⟨fun q => q.elim, fun q => by obtain ⟨⟨q1, q2⟩, q4⟩ := q; omega⟩; rwa [if_neg not_false] at this) (by omega)
          · rw [ite0] at c_49
            refine j_aload_n dX3_fewestBearers_52 rfl ?_
            refine j_iload_n dX3_fewestBearers_53 rfl ?_
            refine r_cs2I dX3_fewestBearers_54 csX3_69 (Nat.le_of_ble_eq_true rfl) (Nat.le_of_eq (Nat.zero_add _)) (Nat.le_of_eq (Nat.zero_add _)) (sc_roomOf hs hR hD hB) ?_
            refine j_iload_n dX3_fewestBearers_57 rfl ?_
            refine j_icmp_lt (tgt := 63) dX3_fewestBearers_58 rfl (by first | omega | (split <;> omega)) (by first | omega | (split <;> omega)) (fun c_58 => ?_) (fun c_58 => ?_)
            · refine j_iinc dX3_fewestBearers_63 rfl (by decide) ?_
              refine j_goto (tgt := 13) dX3_fewestBearers_66 rfl ?_
              first | exact ih _ _ _ (by omega) (by omega) (by have := hup True ⟨fun _ => by refine ⟨⟨by omega, by omega⟩, by omega⟩, fun _ => trivial⟩; rwa [if_pos trivial] at this) (by omega) | exact ih _ _ _ (by omega) (by omega) (by have := hup False ⟨fun q => q.elim, fun q => by obtain ⟨⟨q1, q2⟩, q4⟩ := q; omega⟩; rwa [if_neg not_false] at this) (by omega)
            · refine j_iload_n dX3_fewestBearers_61 rfl ?_
              refine j_istore_n dX3_fewestBearers_62 (by decide) ?_
              refine j_iinc dX3_fewestBearers_63 rfl (by decide) ?_
              refine j_goto (tgt := 13) dX3_fewestBearers_66 rfl ?_
              first | exact ih _ _ _ (by omega) (by omega) (by have := hup True ⟨fun _ => by refine ⟨⟨by omega, by omega⟩, by omega⟩, fun _ => trivial⟩; rwa [if_pos trivial] at this) (by omega) | exact ih _ _ _ (by omega) (by omega) (by have := hup False ⟨fun q => q.elim, fun q => by obtain ⟨⟨q1, q2⟩, q4⟩ := q; omega⟩; rwa [if_neg not_false] at this) (by omega)
  have e9 : mAcc w (jShl 1 (aPe w) - 1) = mAll w 1 := mAcc_all r1
  refine j_aload_n dX3_fewestBearers_0 rfl ?_
  refine j_aload_n dX3_fewestBearers_1 rfl ?_
  refine r_cv0I dX3_fewestBearers_2 cvX3_26 (by decide) (by first | assumption | exact hsh _ _ rfl) (Nat.le_of_ble_eq_true rfl) (Nat.le_of_eq (Nat.zero_add _)) (Nat.le_of_eq (Nat.zero_add _)) (sc_everybody hs hR) ?_
  refine r_cv1I dX3_fewestBearers_5 cvX3_43 (by decide) (by first | assumption | exact hsh _ _ rfl) (Nat.le_of_ble_eq_true rfl) (Nat.le_of_eq (Nat.zero_add _)) (Nat.le_of_eq (Nat.zero_add _)) (sc_accountsOf hs hR) ?_
  rw [e9]
  refine j_istore_n dX3_fewestBearers_8 (by decide) ?_
  refine j_iconst dX3_fewestBearers_9 ?_
  refine j_istore_n dX3_fewestBearers_10 (by decide) ?_
  refine j_iconst dX3_fewestBearers_11 ?_
  refine j_istore_n dX3_fewestBearers_12 (by decide) ?_
  exact loop (aAllS w + 1).toNat 0 (-1) _ (by omega) (by omega) (Or.inl ⟨rfl, fun x _ _ q => by have := q.1; omega⟩) (Or.inl rfl)
theorem mp_fewest (hsh : ShOK sh) (hfx : FxOK F) (hP : WfP (I 171)) (hD : WfD (I 171)) (hB : WfB (I 171)) (hA : WfA (I 171)) : jS G (d + 5) mX12_fewest [jR (some 170)] (sh, I, F) 0 0 (rI (mBest (vFew (I 171))) (sh, jup I 170 0 0, F)) := by
  refine jS_go [some (jR (some 170)), none, none, none] (by decide +kernel) rfl (by simp [jone]) (Nat.le_of_ble_eq_true rfl) rfl (fun hok => ?_)
  refine j_aload_n dX12_fewest_0 rfl ?_
  refine j_iconst dX12_fewest_1 ?_
  refine r_putI dX12_fewest_2 flX12_3 rfl (by first | assumption | exact hsh _ _ rfl) (by first | omega | (split <;> omega)) (fun q => by cases q) ?_
  skip
  have hok1 : jzok (sh, jup I 170 0 0, F) := jzok_I hok jin_lit0
  have hw0 : (jup I 170 0 0) 171 = I 171 := jup_ne _ _ _ (by decide)
  clear hok
  rw [← hw0] at hP hD hB hA
  try rw [← hw0]
  obtain ⟨I1, hI1⟩ : ∃ J, J = jup I 170 0 0 := ⟨_, rfl⟩
  rw [← hI1] at hok1 hw0 hP hD hB hA ⊢
  have hok := hok1
  have hP2 := hP.2
  have hal := mAlive_set hP
  have hac := mAll_in hP hA
  have loop : ∀ (m : Nat) (z b : Int), z + 1 = m → z ≤ mAlive (I1 171) → IsBest (fun x => z < x ∧ vFew (I1 171) x) b → (b = -1 ∨ (0 ≤ b ∧ b < 256)) → jW G mX12_fewest (d + 5) (rI (mBest (vFew (I1 171))) (sh, I1, F)) 14 [some (jR (some 170)), some (jI (mAlive (I1 171))), some (jI b), some (jI z)] [] (sh, I1, F) 0 0 := by
    intro m
    induction m with
    | zero =>
      intro z b hz hz1 hb hb1
      have hfin : mBest (vFew (I1 171)) = b := mBest_of (IsBest_cong hb (fun x hx0 hx1 => ⟨fun q => q.2, fun q => ⟨by omega, q⟩⟩))
      refine j_iload_n dX12_fewest_14 rfl ?_
      refine j_if_lt (tgt := 68) dX12_fewest_15 rfl (by first | omega | (split <;> omega)) (fun c_15 => ?_) (fun c_15 => by exact absurd (by omega) c_15)
      refine j_iload_n dX12_fewest_68 rfl ?_
      refine j_iret dX12_fewest_69 rfl ?_
      exact rI_of hfin.symm rfl
    | succ m ih =>
      intro z b hz hz1 hb hb1
      have hdn := fun (t : Prop) [Decidable t] ht => IsBest_down (V := vFew (I1 171)) (z := z) (b := b) (by omega) hb t ht
      have hrm := mRooms_in hP hD hB z
      refine j_iload_n dX12_fewest_14 rfl ?_
      refine j_if_lt (tgt := 68) dX12_fewest_15 rfl (by first | omega | (split <;> omega)) (fun c_15 => by exact absurd c_15 (by omega)) (fun c_15 => ?_)
      refine j_iload_n dX12_fewest_18 rfl ?_
      refine j_iload_n dX12_fewest_19 rfl ?_
      refine j_iconst dX12_fewest_20 ?_
      refine r_ixor dX12_fewest_21 (fun b_21 => ?_)
      refine r_iand dX12_fewest_22 (fun b_22 => ?_)
      refine j_if_ne (tgt := 62) dX12_fewest_23 rfl (by first | omega | (split <;> omega)) (fun c_23 => ?_) (fun c_23 => ?_)
      · refine j_iinc dX12_fewest_62 rfl (by decide) ?_
        refine j_goto (tgt := 14) dX12_fewest_65 rfl ?_
        rw [show z + -1 = z - 1 from rfl]
        first | exact ih _ _ (by omega) (by omega) (by have := hdn True ⟨fun _ => by refine ⟨⟨by omega, by omega⟩, by omega⟩, fun _ => trivial⟩; rwa [if_pos trivial] at this) (by omega) | exact ih _ _ (by omega) (by omega) (by have := hdn False ⟨fun q => q.elim, fun q => by obtain ⟨⟨q1, q2⟩, q4⟩ := q; omega⟩; rwa [if_neg not_false] at this) (by omega)
      · refine j_iload_n dX12_fewest_26 rfl ?_
        refine j_if_lt (tgt := 44) dX12_fewest_27 rfl (by first | omega | (split <;> omega)) (fun c_27 => ?_) (fun c_27 => ?_)
        · refine j_aload_n dX12_fewest_44 rfl ?_
          refine j_iload_n dX12_fewest_45 rfl ?_
          refine r_cv1I dX12_fewest_46 cvX12_408 (by decide) (by first | assumption | exact hsh _ _ rfl) (Nat.le_of_ble_eq_true rfl) (Nat.le_of_eq (Nat.zero_add _)) (Nat.le_of_eq (Nat.zero_add _)) (sm_roomsOf hsh hfx hP hD hB) ?_
          refine j_aload_n dX12_fewest_49 rfl ?_
          refine r_cv0I dX12_fewest_50 cvX12_312 (by decide) (by first | assumption | exact hsh _ _ rfl) (Nat.le_of_ble_eq_true rfl) (Nat.le_of_eq (Nat.zero_add _)) (Nat.le_of_eq (Nat.zero_add _)) (sm_allAccounts hsh hfx hP) ?_
          refine j_icmp_lt (tgt := 60) dX12_fewest_53 rfl (by first | omega | (split <;> omega)) (by first | omega | (split <;> omega)) (fun c_53 => ?_) (fun c_53 => ?_)
          · refine j_iload_n dX12_fewest_60 rfl ?_
            refine j_istore_n dX12_fewest_61 (by decide) ?_
            refine j_iinc dX12_fewest_62 rfl (by decide) ?_
            refine j_goto (tgt := 14) dX12_fewest_65 rfl ?_
            rw [show z + -1 = z - 1 from rfl]
            first | exact ih _ _ (by omega) (by omega) (by have := hdn True ⟨fun _ => by refine ⟨⟨by omega, by omega⟩, by omega⟩, fun _ => trivial⟩; rwa [if_pos trivial] at this) (by omega) | exact ih _ _ (by omega) (by omega) (by have := hdn False ⟨fun q => q.elim, fun q => by obtain ⟨⟨q1, q2⟩, q4⟩ := q; omega⟩; rwa [if_neg not_false] at this) (by omega)
          · refine j_iload_n dX12_fewest_56 rfl ?_
            refine j_goto (tgt := 61) dX12_fewest_57 rfl ?_
            refine j_istore_n dX12_fewest_61 (by decide) ?_
            refine j_iinc dX12_fewest_62 rfl (by decide) ?_
            refine j_goto (tgt := 14) dX12_fewest_65 rfl ?_
            rw [show z + -1 = z - 1 from rfl]
            first | exact ih _ _ (by omega) (by omega) (by have := hdn True ⟨fun _ => by refine ⟨⟨by omega, by omega⟩, by omega⟩, fun _ => trivial⟩; rwa [if_pos trivial] at this) (by omega) | exact ih _ _ (by omega) (by omega) (by have := hdn False ⟨fun q => q.elim, fun q => by obtain ⟨⟨q1, q2⟩, q4⟩ := q; omega⟩; rwa [if_neg not_false] at this) (by omega)
        · refine j_iload_n dX12_fewest_30 rfl ?_
          refine r_cs1J dX12_fewest_31 csX12_379 (Nat.le_of_ble_eq_true rfl) (Nat.le_of_eq (Nat.zero_add _)) (Nat.le_of_eq (Nat.zero_add _)) (sj_bitCount) (jAnd_in _ _) (fun b_31 => ?_)
          refine j_iload_n dX12_fewest_34 rfl ?_
          refine r_cs1J dX12_fewest_35 csX12_379 (Nat.le_of_ble_eq_true rfl) (Nat.le_of_eq (Nat.zero_add _)) (Nat.le_of_eq (Nat.zero_add _)) (sj_bitCount) (jAnd_in _ _) (fun b_35 => ?_)
          refine j_icmp_le (tgt := 44) dX12_fewest_38 rfl (by first | omega | (split <;> omega)) (by first | omega | (split <;> omega)) (fun c_38 => ?_) (fun c_38 => ?_)
          · refine j_aload_n dX12_fewest_44 rfl ?_
            refine j_iload_n dX12_fewest_45 rfl ?_
            refine r_cv1I dX12_fewest_46 cvX12_408 (by decide) (by first | assumption | exact hsh _ _ rfl) (Nat.le_of_ble_eq_true rfl) (Nat.le_of_eq (Nat.zero_add _)) (Nat.le_of_eq (Nat.zero_add _)) (sm_roomsOf hsh hfx hP hD hB) ?_
            refine j_aload_n dX12_fewest_49 rfl ?_
            refine r_cv0I dX12_fewest_50 cvX12_312 (by decide) (by first | assumption | exact hsh _ _ rfl) (Nat.le_of_ble_eq_true rfl) (Nat.le_of_eq (Nat.zero_add _)) (Nat.le_of_eq (Nat.zero_add _)) (sm_allAccounts hsh hfx hP) ?_
            refine j_icmp_lt (tgt := 60) dX12_fewest_53 rfl (by first | omega | (split <;> omega)) (by first | omega | (split <;> omega)) (fun c_53 => ?_) (fun c_53 => ?_)
            · refine j_iload_n dX12_fewest_60 rfl ?_
              refine j_istore_n dX12_fewest_61 (by decide) ?_
              refine j_iinc dX12_fewest_62 rfl (by decide) ?_
              refine j_goto (tgt := 14) dX12_fewest_65 rfl ?_
              rw [show z + -1 = z - 1 from rfl]
              first | exact ih _ _ (by omega) (by omega) (by have := hdn True ⟨fun _ => by refine ⟨⟨by omega, by omega⟩, by omega⟩, fun _ => trivial⟩; rwa [if_pos trivial] at this) (by omega) | exact ih _ _ (by omega) (by omega) (by have := hdn False ⟨fun q => q.elim, fun q => by obtain ⟨⟨q1, q2⟩, q4⟩ := q; omega⟩; rwa [if_neg not_false] at this) (by omega)
            · refine j_iload_n dX12_fewest_56 rfl ?_
              refine j_goto (tgt := 61) dX12_fewest_57 rfl ?_
              refine j_istore_n dX12_fewest_61 (by decide) ?_
              refine j_iinc dX12_fewest_62 rfl (by decide) ?_
              refine j_goto (tgt := 14) dX12_fewest_65 rfl ?_
              rw [show z + -1 = z - 1 from rfl]
              first | exact ih _ _ (by omega) (by omega) (by have := hdn True ⟨fun _ => by refine ⟨⟨by omega, by omega⟩, by omega⟩, fun _ => trivial⟩; rwa [if_pos trivial] at this) (by omega) | exact ih _ _ (by omega) (by omega) (by have := hdn False ⟨fun q => q.elim, fun q => by obtain ⟨⟨q1, q2⟩, q4⟩ := q; omega⟩; rwa [if_neg not_false] at this) (by omega)
          · refine j_goto (tgt := 62) dX12_fewest_41 rfl ?_
            refine j_iinc dX12_fewest_62 rfl (by decide) ?_
            refine j_goto (tgt := 14) dX12_fewest_65 rfl ?_
            rw [show z + -1 = z - 1 from rfl]
            first | exact ih _ _ (by omega) (by omega) (by have := hdn True ⟨fun _ => by refine ⟨⟨by omega, by omega⟩, by omega⟩, fun _ => trivial⟩; rwa [if_pos trivial] at this) (by omega) | exact ih _ _ (by omega) (by omega) (by have := hdn False ⟨fun q => q.elim, fun q => by obtain ⟨⟨q1, q2⟩, q4⟩ := q; omega⟩; rwa [if_neg not_false] at this) (by omega)
  refine j_aload_n dX12_fewest_5 rfl ?_
  refine r_cv0I dX12_fewest_6 cvX12_393 (by decide) (by first | assumption | exact hsh _ _ rfl) (Nat.le_of_ble_eq_true rfl) (Nat.le_of_eq (Nat.zero_add _)) (Nat.le_of_eq (Nat.zero_add _)) (sm_alive hsh hfx hP) ?_
  refine j_istore_n dX12_fewest_9 (by decide) ?_
  refine j_iconst dX12_fewest_10 ?_
  refine j_istore_n dX12_fewest_11 (by decide) ?_
  refine j_iload_n dX12_fewest_12 rfl ?_
  refine j_istore_n dX12_fewest_13 (by decide) ?_
  exact loop (mAlive (I1 171) + 1).toNat _ _ (by omega) (by omega) (Or.inl ⟨rfl, fun x hx0 hx1 q => by have := (jan_sub ⟨hx0, hx1⟩ hal.1 q.2.1).1; have := q.1; omega⟩) (Or.inl rfl)
end
