/-! THE CLASS READS A CONDITION -/
/-- the steps that the class has laid -/
def LrC (I : Nat → Int → Int) (m : Int) (w : Int → Int) : Prop := I 156 3 = m ∧ ∀ i, 0 ≤ i → i < m → I 157 i = jCode (dStp w i) (dArg w i)
def FrL (I J : Nat → Int → Int) : Prop := (∀ a, a ≠ 154 → a ≠ 156 → a ≠ 157 → J a = I a) ∧ (∀ k, k ≠ 3 → J 156 k = I 156 k) ∧ (0 ≤ I 156 3 → 0 ≤ J 156 3)
theorem FrL_0 {I : Nat → Int → Int} : FrL I I := ⟨fun _ _ _ _ => rfl, fun _ _ => rfl, id⟩
theorem FrL_tr {I J K : Nat → Int → Int} (h : FrL I J) (h2 : FrL J K) : FrL I K := ⟨fun a a0 a1 a2 => (h2.1 a a0 a1 a2).trans (h.1 a a0 a1 a2), fun k k0 => (h2.2.1 k k0).trans (h.2.1 k k0), fun x => h2.2.2 (h.2.2 x)⟩
theorem FrL_154 {I J : Nat → Int → Int} (h : Fr1 154 I J) : FrL I J := ⟨fun a a0 _ _ => h a a0, fun k _ => by rw [h 156 (by decide)], fun x => by rw [h 156 (by decide)]; exact x⟩
theorem LrC_154 {I J : Nat → Int → Int} {m : Int} {w : Int → Int} (h : LrC I m w) (hf : Fr1 154 I J) : LrC J m w := ⟨by rw [hf 156 (by decide)]; exact h.1, fun i i0 i1 => by rw [hf 157 (by decide)]; exact h.2 i i0 i1⟩
/-- the class's state behind a piece of a condition -/
def pCl (I : Nat → Int → Int) (B : Int → Int) (n : Int) (R : pR) (J : Nat → Int → Int) : Prop := Tx J B n R.2.1 ∧ (R.1 = 1 → LrC J R.2.2.1 R.2.2.2) ∧ FrL I J
theorem pCl_0 {I J : Nat → Int → Int} {B : Int → Int} {n q m : Int} {w : Int → Int} (hT : Tx J B n q) (hf : FrL I J) : pCl I B n (0, q, m, w) J := ⟨hT, fun h => absurd h (show ¬ (0 : Int) = 1 by decide), hf⟩
theorem pCl_1 {I J : Nat → Int → Int} {B : Int → Int} {n q m : Int} {w : Int → Int} (hT : Tx J B n q) (hL : LrC J m w) (hf : FrL I J) : pCl I B n (1, q, m, w) J := ⟨hT, fun _ => hL, hf⟩
theorem pCl_fr {I J K : Nat → Int → Int} {B : Int → Int} {n : Int} {R : pR} (h : pCl J B n R K) (hf : FrL I J) : pCl I B n R K := ⟨h.1, h.2.1, FrL_tr hf h.2.2⟩
/-- what the class calls a part -/
def pCd (B : Int → Int) (n q : Int) : Int := if pSt B n q = -1 then -1 else jCode (pSt B n q) (pAr B n q)
theorem pThen_as {R : pR} {f g : Int → Int → (Int → Int) → pR} : pThen (pThen R f) g = pThen R (fun q m w => pThen (f q m w) g) := by
  by_cases h : R.1 = 0
  · rw [pThen_f h, pThen_f h, pThen_f h]
  · have e : ∀ k : Int → Int → (Int → Int) → pR, pThen R k = k R.2.1 R.2.2.1 R.2.2.2 := fun k => if_neg h
    rw [e, e]
theorem jCode_in {st a : Int} (ha : st = 7 → 0 ≤ a ∧ a ≤ 999) (hs : 0 ≤ st) : 0 ≤ jCode st a ∧ jCode st a ≤ 1012 := by
  unfold jCode
  split
  · have := ha (by assumption); omega
  · split
    · omega
    · repeat' split
      all_goals omega
section
variable {G : jzG} {d : Nat} {sh : List (Nat × Nat)} {I : Nat → Int → Int} {F : Nat → Int → Option Nat} {B : Int → Int} {n q m : Int} {w : Int → Int}
theorem pCd_in : pCd B n q = -1 ∧ pSt B n q = -1 ∨ (0 ≤ pCd B n q ∧ pCd B n q ≤ 1012) ∧ ¬ pSt B n q = -1 ∧ pCd B n q = jCode (pSt B n q) (pAr B n q) := by
  unfold pCd
  by_cases e : pSt B n q = -1
  · rw [if_pos e]; exact Or.inl ⟨rfl, e⟩
  · rw [if_neg e]
    refine Or.inr ⟨jCode_in pAr_in ?_, e, rfl⟩
    rcases pSt_c (B := B) (n := n) (q := q) with h | ⟨h, -⟩ | ⟨h, -⟩ <;> omega
theorem sl_part (hsh : ShOK sh) (hfx : FxOK F) (hT : Tx I B n q) {Q : jzO → jzH → Prop} {o2 o3 : Option jzV} (k : jW G mX6_readSum (d + 6) Q 104 [some (jR (some 156)), some (jR (some 154)), o2, o3] [jI (pCd B n q)] (sh, I, F) 0 0) : jW G mX6_readSum (d + 6) Q 9 [some (jR (some 156)), some (jR (some 154)), o2, o3] [] (sh, I, F) 0 0 := by
  have sN := st_isNumber (G := G) (d := d + 5) (F := F) hsh hT (f := 3) (lo := 0) (hi := 999) (by decide) (by decide) (by decide)
  have sW := fun (t : Nat) (ht : t < 33) => st_isWord (G := G) (d := d + 1) (F := F) hsh hfx hT (t := t) ht
  by_cases hv : vNm B n q 3 0 999
  · have v6 := Tx_v hT (by decide) hv
    rw [if_pos hv] at sN
    have es : pSt B n q = 7 := if_pos hv
    have e : pCd B n q = tV B n q := by unfold pCd pAr; rw [es, if_neg (by decide), if_pos rfl]; rfl
    rw [e] at k
    refine j_aload_n dX6_readSum_9 rfl ?_
    refine j_iconst dX6_readSum_10 ?_
    refine j_iconst dX6_readSum_11 ?_
    refine j_sipush dX6_readSum_12 (by decide) ?_
    refine r_cv3I dX6_readSum_15 cvX6_67 (by decide) (by first | assumption | exact hsh _ _ rfl) (Nat.le_of_ble_eq_true rfl) (Nat.le_of_eq (Nat.zero_add _)) (Nat.le_of_eq (Nat.zero_add _)) (sN) ?_
    refine j_if_eq (tgt := 28) dX6_readSum_18 rfl (by first | omega | (split <;> omega)) (fun c_18 => by exact absurd c_18 (by decide)) (fun c_18 => ?_)
    refine j_aload_n dX6_readSum_21 rfl ?_
    refine r_getIE dX6_readSum_22 flX6_71 (by first | assumption | exact hsh _ _ rfl) v6 (fun b_22 => ?_)
    refine j_goto (tgt := 104) dX6_readSum_25 rfl ?_
    exact k
  · rw [if_neg hv] at sN
    by_cases h1 : vWd B n q 21
    · have s1 := sW 21 (by decide)
      rw [if_pos h1] at s1
      have es : pSt B n q = 0 := by unfold pSt; rw [if_neg hv, if_pos h1]
      have e : pCd B n q = 1000 := by unfold pCd; rw [es]; rfl
      rw [e] at k
      refine j_aload_n dX6_readSum_9 rfl ?_
      refine j_iconst dX6_readSum_10 ?_
      refine j_iconst dX6_readSum_11 ?_
      refine j_sipush dX6_readSum_12 (by decide) ?_
      refine r_cv3I dX6_readSum_15 cvX6_67 (by decide) (by first | assumption | exact hsh _ _ rfl) (Nat.le_of_ble_eq_true rfl) (Nat.le_of_eq (Nat.zero_add _)) (Nat.le_of_eq (Nat.zero_add _)) (sN) ?_
      refine j_if_eq (tgt := 28) dX6_readSum_18 rfl (by first | omega | (split <;> omega)) (fun c_18 => ?_) (fun c_18 => by exact absurd c_18 (by decide))
      refine j_aload_n dX6_readSum_28 rfl ?_
      refine j_ldcS dX6_readSum_29 (t := 21) (by decide +kernel) ?_
      refine r_cv1I dX6_readSum_31 cvX6_58 (by decide) (by first | assumption | exact hsh _ _ rfl) (Nat.le_of_ble_eq_true rfl) (Nat.le_of_eq (Nat.zero_add _)) (Nat.le_of_eq (Nat.zero_add _)) (s1) ?_
      refine j_if_eq (tgt := 43) dX6_readSum_34 rfl (by first | omega | (split <;> omega)) (fun c_34 => by exact absurd c_34 (by decide)) (fun c_34 => ?_)
      refine j_sipush dX6_readSum_37 (by decide) ?_
      refine j_goto (tgt := 104) dX6_readSum_40 rfl ?_
      exact k
    · have s1 := sW 21 (by decide)
      rw [if_neg h1] at s1
      by_cases h2 : vWd B n q 2
      · have s2 := sW 2 (by decide)
        rw [if_pos h2] at s2
        have es : pSt B n q = 1 := by unfold pSt; rw [if_neg hv, if_neg h1, if_pos h2]
        have e : pCd B n q = 1001 := by unfold pCd; rw [es]; rfl
        rw [e] at k
        refine j_aload_n dX6_readSum_9 rfl ?_
        refine j_iconst dX6_readSum_10 ?_
        refine j_iconst dX6_readSum_11 ?_
        refine j_sipush dX6_readSum_12 (by decide) ?_
        refine r_cv3I dX6_readSum_15 cvX6_67 (by decide) (by first | assumption | exact hsh _ _ rfl) (Nat.le_of_ble_eq_true rfl) (Nat.le_of_eq (Nat.zero_add _)) (Nat.le_of_eq (Nat.zero_add _)) (sN) ?_
        refine j_if_eq (tgt := 28) dX6_readSum_18 rfl (by first | omega | (split <;> omega)) (fun c_18 => ?_) (fun c_18 => by exact absurd c_18 (by decide))
        refine j_aload_n dX6_readSum_28 rfl ?_
        refine j_ldcS dX6_readSum_29 (t := 21) (by decide +kernel) ?_
        refine r_cv1I dX6_readSum_31 cvX6_58 (by decide) (by first | assumption | exact hsh _ _ rfl) (Nat.le_of_ble_eq_true rfl) (Nat.le_of_eq (Nat.zero_add _)) (Nat.le_of_eq (Nat.zero_add _)) (s1) ?_
        refine j_if_eq (tgt := 43) dX6_readSum_34 rfl (by first | omega | (split <;> omega)) (fun c_34 => ?_) (fun c_34 => by exact absurd c_34 (by decide))
        refine j_aload_n dX6_readSum_43 rfl ?_
        refine j_ldcS dX6_readSum_44 (t := 2) (by decide +kernel) ?_
        refine r_cv1I dX6_readSum_46 cvX6_58 (by decide) (by first | assumption | exact hsh _ _ rfl) (Nat.le_of_ble_eq_true rfl) (Nat.le_of_eq (Nat.zero_add _)) (Nat.le_of_eq (Nat.zero_add _)) (s2) ?_
        refine j_if_eq (tgt := 58) dX6_readSum_49 rfl (by first | omega | (split <;> omega)) (fun c_49 => by exact absurd c_49 (by decide)) (fun c_49 => ?_)
        refine j_sipush dX6_readSum_52 (by decide) ?_
        refine j_goto (tgt := 104) dX6_readSum_55 rfl ?_
        exact k
      · have s2 := sW 2 (by decide)
        rw [if_neg h2] at s2
        by_cases h3 : vWd B n q 6
        · have s3 := sW 6 (by decide)
          rw [if_pos h3] at s3
          have es : pSt B n q = 2 := by unfold pSt; rw [if_neg hv, if_neg h1, if_neg h2, if_pos h3]
          have e : pCd B n q = 1002 := by unfold pCd; rw [es]; rfl
          rw [e] at k
          refine j_aload_n dX6_readSum_9 rfl ?_
          refine j_iconst dX6_readSum_10 ?_
          refine j_iconst dX6_readSum_11 ?_
          refine j_sipush dX6_readSum_12 (by decide) ?_
          refine r_cv3I dX6_readSum_15 cvX6_67 (by decide) (by first | assumption | exact hsh _ _ rfl) (Nat.le_of_ble_eq_true rfl) (Nat.le_of_eq (Nat.zero_add _)) (Nat.le_of_eq (Nat.zero_add _)) (sN) ?_
          refine j_if_eq (tgt := 28) dX6_readSum_18 rfl (by first | omega | (split <;> omega)) (fun c_18 => ?_) (fun c_18 => by exact absurd c_18 (by decide))
          refine j_aload_n dX6_readSum_28 rfl ?_
          refine j_ldcS dX6_readSum_29 (t := 21) (by decide +kernel) ?_
          refine r_cv1I dX6_readSum_31 cvX6_58 (by decide) (by first | assumption | exact hsh _ _ rfl) (Nat.le_of_ble_eq_true rfl) (Nat.le_of_eq (Nat.zero_add _)) (Nat.le_of_eq (Nat.zero_add _)) (s1) ?_
          refine j_if_eq (tgt := 43) dX6_readSum_34 rfl (by first | omega | (split <;> omega)) (fun c_34 => ?_) (fun c_34 => by exact absurd c_34 (by decide))
          refine j_aload_n dX6_readSum_43 rfl ?_
          refine j_ldcS dX6_readSum_44 (t := 2) (by decide +kernel) ?_
          refine r_cv1I dX6_readSum_46 cvX6_58 (by decide) (by first | assumption | exact hsh _ _ rfl) (Nat.le_of_ble_eq_true rfl) (Nat.le_of_eq (Nat.zero_add _)) (Nat.le_of_eq (Nat.zero_add _)) (s2) ?_
          refine j_if_eq (tgt := 58) dX6_readSum_49 rfl (by first | omega | (split <;> omega)) (fun c_49 => ?_) (fun c_49 => by exact absurd c_49 (by decide))
          refine j_aload_n dX6_readSum_58 rfl ?_
          refine j_ldcS dX6_readSum_59 (t := 6) (by decide +kernel) ?_
          refine r_cv1I dX6_readSum_61 cvX6_58 (by decide) (by first | assumption | exact hsh _ _ rfl) (Nat.le_of_ble_eq_true rfl) (Nat.le_of_eq (Nat.zero_add _)) (Nat.le_of_eq (Nat.zero_add _)) (s3) ?_
          refine j_if_eq (tgt := 73) dX6_readSum_64 rfl (by first | omega | (split <;> omega)) (fun c_64 => by exact absurd c_64 (by decide)) (fun c_64 => ?_)
          refine j_sipush dX6_readSum_67 (by decide) ?_
          refine j_goto (tgt := 104) dX6_readSum_70 rfl ?_
          exact k
        · have s3 := sW 6 (by decide)
          rw [if_neg h3] at s3
          by_cases h4 : vWd B n q 1
          · have s4 := sW 1 (by decide)
            rw [if_pos h4] at s4
            have es : pSt B n q = 3 := by unfold pSt; rw [if_neg hv, if_neg h1, if_neg h2, if_neg h3, if_pos h4]
            have e : pCd B n q = 1003 := by unfold pCd; rw [es]; rfl
            rw [e] at k
            refine j_aload_n dX6_readSum_9 rfl ?_
            refine j_iconst dX6_readSum_10 ?_
            refine j_iconst dX6_readSum_11 ?_
            refine j_sipush dX6_readSum_12 (by decide) ?_
            refine r_cv3I dX6_readSum_15 cvX6_67 (by decide) (by first | assumption | exact hsh _ _ rfl) (Nat.le_of_ble_eq_true rfl) (Nat.le_of_eq (Nat.zero_add _)) (Nat.le_of_eq (Nat.zero_add _)) (sN) ?_
            refine j_if_eq (tgt := 28) dX6_readSum_18 rfl (by first | omega | (split <;> omega)) (fun c_18 => ?_) (fun c_18 => by exact absurd c_18 (by decide))
            refine j_aload_n dX6_readSum_28 rfl ?_
            refine j_ldcS dX6_readSum_29 (t := 21) (by decide +kernel) ?_
            refine r_cv1I dX6_readSum_31 cvX6_58 (by decide) (by first | assumption | exact hsh _ _ rfl) (Nat.le_of_ble_eq_true rfl) (Nat.le_of_eq (Nat.zero_add _)) (Nat.le_of_eq (Nat.zero_add _)) (s1) ?_
            refine j_if_eq (tgt := 43) dX6_readSum_34 rfl (by first | omega | (split <;> omega)) (fun c_34 => ?_) (fun c_34 => by exact absurd c_34 (by decide))
            refine j_aload_n dX6_readSum_43 rfl ?_
            refine j_ldcS dX6_readSum_44 (t := 2) (by decide +kernel) ?_
            refine r_cv1I dX6_readSum_46 cvX6_58 (by decide) (by first | assumption | exact hsh _ _ rfl) (Nat.le_of_ble_eq_true rfl) (Nat.le_of_eq (Nat.zero_add _)) (Nat.le_of_eq (Nat.zero_add _)) (s2) ?_
            refine j_if_eq (tgt := 58) dX6_readSum_49 rfl (by first | omega | (split <;> omega)) (fun c_49 => ?_) (fun c_49 => by exact absurd c_49 (by decide))
            refine j_aload_n dX6_readSum_58 rfl ?_
            refine j_ldcS dX6_readSum_59 (t := 6) (by decide +kernel) ?_
            refine r_cv1I dX6_readSum_61 cvX6_58 (by decide) (by first | assumption | exact hsh _ _ rfl) (Nat.le_of_ble_eq_true rfl) (Nat.le_of_eq (Nat.zero_add _)) (Nat.le_of_eq (Nat.zero_add _)) (s3) ?_
            refine j_if_eq (tgt := 73) dX6_readSum_64 rfl (by first | omega | (split <;> omega)) (fun c_64 => ?_) (fun c_64 => by exact absurd c_64 (by decide))
            refine j_aload_n dX6_readSum_73 rfl ?_
            refine j_ldcS dX6_readSum_74 (t := 1) (by decide +kernel) ?_
            refine r_cv1I dX6_readSum_76 cvX6_58 (by decide) (by first | assumption | exact hsh _ _ rfl) (Nat.le_of_ble_eq_true rfl) (Nat.le_of_eq (Nat.zero_add _)) (Nat.le_of_eq (Nat.zero_add _)) (s4) ?_
            refine j_if_eq (tgt := 88) dX6_readSum_79 rfl (by first | omega | (split <;> omega)) (fun c_79 => by exact absurd c_79 (by decide)) (fun c_79 => ?_)
            refine j_sipush dX6_readSum_82 (by decide) ?_
            refine j_goto (tgt := 104) dX6_readSum_85 rfl ?_
            exact k
          · have s4 := sW 1 (by decide)
            rw [if_neg h4] at s4
            have s5 := sW 22 (by decide)
            by_cases h5 : vWd B n q 22
            · rw [if_pos h5] at s5
              have es : pSt B n q = 4 := by unfold pSt; rw [if_neg hv, if_neg h1, if_neg h2, if_neg h3, if_neg h4, if_pos h5]
              have e : pCd B n q = 1004 := by unfold pCd; rw [es]; rfl
              rw [e] at k
              refine j_aload_n dX6_readSum_9 rfl ?_
              refine j_iconst dX6_readSum_10 ?_
              refine j_iconst dX6_readSum_11 ?_
              refine j_sipush dX6_readSum_12 (by decide) ?_
              refine r_cv3I dX6_readSum_15 cvX6_67 (by decide) (by first | assumption | exact hsh _ _ rfl) (Nat.le_of_ble_eq_true rfl) (Nat.le_of_eq (Nat.zero_add _)) (Nat.le_of_eq (Nat.zero_add _)) (sN) ?_
              refine j_if_eq (tgt := 28) dX6_readSum_18 rfl (by first | omega | (split <;> omega)) (fun c_18 => ?_) (fun c_18 => by exact absurd c_18 (by decide))
              refine j_aload_n dX6_readSum_28 rfl ?_
              refine j_ldcS dX6_readSum_29 (t := 21) (by decide +kernel) ?_
              refine r_cv1I dX6_readSum_31 cvX6_58 (by decide) (by first | assumption | exact hsh _ _ rfl) (Nat.le_of_ble_eq_true rfl) (Nat.le_of_eq (Nat.zero_add _)) (Nat.le_of_eq (Nat.zero_add _)) (s1) ?_
              refine j_if_eq (tgt := 43) dX6_readSum_34 rfl (by first | omega | (split <;> omega)) (fun c_34 => ?_) (fun c_34 => by exact absurd c_34 (by decide))
              refine j_aload_n dX6_readSum_43 rfl ?_
              refine j_ldcS dX6_readSum_44 (t := 2) (by decide +kernel) ?_
              refine r_cv1I dX6_readSum_46 cvX6_58 (by decide) (by first | assumption | exact hsh _ _ rfl) (Nat.le_of_ble_eq_true rfl) (Nat.le_of_eq (Nat.zero_add _)) (Nat.le_of_eq (Nat.zero_add _)) (s2) ?_
              refine j_if_eq (tgt := 58) dX6_readSum_49 rfl (by first | omega | (split <;> omega)) (fun c_49 => ?_) (fun c_49 => by exact absurd c_49 (by decide))
              refine j_aload_n dX6_readSum_58 rfl ?_
              refine j_ldcS dX6_readSum_59 (t := 6) (by decide +kernel) ?_
              refine r_cv1I dX6_readSum_61 cvX6_58 (by decide) (by first | assumption | exact hsh _ _ rfl) (Nat.le_of_ble_eq_true rfl) (Nat.le_of_eq (Nat.zero_add _)) (Nat.le_of_eq (Nat.zero_add _)) (s3) ?_
              refine j_if_eq (tgt := 73) dX6_readSum_64 rfl (by first | omega | (split <;> omega)) (fun c_64 => ?_) (fun c_64 => by exact absurd c_64 (by decide))
              refine j_aload_n dX6_readSum_73 rfl ?_
              refine j_ldcS dX6_readSum_74 (t := 1) (by decide +kernel) ?_
              refine r_cv1I dX6_readSum_76 cvX6_58 (by decide) (by first | assumption | exact hsh _ _ rfl) (Nat.le_of_ble_eq_true rfl) (Nat.le_of_eq (Nat.zero_add _)) (Nat.le_of_eq (Nat.zero_add _)) (s4) ?_
              refine j_if_eq (tgt := 88) dX6_readSum_79 rfl (by first | omega | (split <;> omega)) (fun c_79 => ?_) (fun c_79 => by exact absurd c_79 (by decide))
              refine j_aload_n dX6_readSum_88 rfl ?_
              refine j_ldcS dX6_readSum_89 (t := 22) (by decide +kernel) ?_
              refine r_cv1I dX6_readSum_91 cvX6_58 (by decide) (by first | assumption | exact hsh _ _ rfl) (Nat.le_of_ble_eq_true rfl) (Nat.le_of_eq (Nat.zero_add _)) (Nat.le_of_eq (Nat.zero_add _)) (s5) ?_
              refine j_if_eq (tgt := 103) dX6_readSum_94 rfl (by first | omega | (split <;> omega)) (fun c_94 => by exact absurd c_94 (by decide)) (fun c_94 => ?_)
              refine j_sipush dX6_readSum_97 (by decide) ?_
              refine j_goto (tgt := 104) dX6_readSum_100 rfl ?_
              exact k
            · rw [if_neg h5] at s5
              have es : pSt B n q = -1 := by unfold pSt; rw [if_neg hv, if_neg h1, if_neg h2, if_neg h3, if_neg h4, if_neg h5]
              have e : pCd B n q = -1 := by unfold pCd; rw [es]; rfl
              rw [e] at k
              refine j_aload_n dX6_readSum_9 rfl ?_
              refine j_iconst dX6_readSum_10 ?_
              refine j_iconst dX6_readSum_11 ?_
              refine j_sipush dX6_readSum_12 (by decide) ?_
              refine r_cv3I dX6_readSum_15 cvX6_67 (by decide) (by first | assumption | exact hsh _ _ rfl) (Nat.le_of_ble_eq_true rfl) (Nat.le_of_eq (Nat.zero_add _)) (Nat.le_of_eq (Nat.zero_add _)) (sN) ?_
              refine j_if_eq (tgt := 28) dX6_readSum_18 rfl (by first | omega | (split <;> omega)) (fun c_18 => ?_) (fun c_18 => by exact absurd c_18 (by decide))
              refine j_aload_n dX6_readSum_28 rfl ?_
              refine j_ldcS dX6_readSum_29 (t := 21) (by decide +kernel) ?_
              refine r_cv1I dX6_readSum_31 cvX6_58 (by decide) (by first | assumption | exact hsh _ _ rfl) (Nat.le_of_ble_eq_true rfl) (Nat.le_of_eq (Nat.zero_add _)) (Nat.le_of_eq (Nat.zero_add _)) (s1) ?_
              refine j_if_eq (tgt := 43) dX6_readSum_34 rfl (by first | omega | (split <;> omega)) (fun c_34 => ?_) (fun c_34 => by exact absurd c_34 (by decide))
              refine j_aload_n dX6_readSum_43 rfl ?_
              refine j_ldcS dX6_readSum_44 (t := 2) (by decide +kernel) ?_
              refine r_cv1I dX6_readSum_46 cvX6_58 (by decide) (by first | assumption | exact hsh _ _ rfl) (Nat.le_of_ble_eq_true rfl) (Nat.le_of_eq (Nat.zero_add _)) (Nat.le_of_eq (Nat.zero_add _)) (s2) ?_
              refine j_if_eq (tgt := 58) dX6_readSum_49 rfl (by first | omega | (split <;> omega)) (fun c_49 => ?_) (fun c_49 => by exact absurd c_49 (by decide))
              refine j_aload_n dX6_readSum_58 rfl ?_
              refine j_ldcS dX6_readSum_59 (t := 6) (by decide +kernel) ?_
              refine r_cv1I dX6_readSum_61 cvX6_58 (by decide) (by first | assumption | exact hsh _ _ rfl) (Nat.le_of_ble_eq_true rfl) (Nat.le_of_eq (Nat.zero_add _)) (Nat.le_of_eq (Nat.zero_add _)) (s3) ?_
              refine j_if_eq (tgt := 73) dX6_readSum_64 rfl (by first | omega | (split <;> omega)) (fun c_64 => ?_) (fun c_64 => by exact absurd c_64 (by decide))
              refine j_aload_n dX6_readSum_73 rfl ?_
              refine j_ldcS dX6_readSum_74 (t := 1) (by decide +kernel) ?_
              refine r_cv1I dX6_readSum_76 cvX6_58 (by decide) (by first | assumption | exact hsh _ _ rfl) (Nat.le_of_ble_eq_true rfl) (Nat.le_of_eq (Nat.zero_add _)) (Nat.le_of_eq (Nat.zero_add _)) (s4) ?_
              refine j_if_eq (tgt := 88) dX6_readSum_79 rfl (by first | omega | (split <;> omega)) (fun c_79 => ?_) (fun c_79 => by exact absurd c_79 (by decide))
              refine j_aload_n dX6_readSum_88 rfl ?_
              refine j_ldcS dX6_readSum_89 (t := 22) (by decide +kernel) ?_
              refine r_cv1I dX6_readSum_91 cvX6_58 (by decide) (by first | assumption | exact hsh _ _ rfl) (Nat.le_of_ble_eq_true rfl) (Nat.le_of_eq (Nat.zero_add _)) (Nat.le_of_eq (Nat.zero_add _)) (s5) ?_
              refine j_if_eq (tgt := 103) dX6_readSum_94 rfl (by first | omega | (split <;> omega)) (fun c_94 => ?_) (fun c_94 => by exact absurd c_94 (by decide))
              refine j_iconst dX6_readSum_103 ?_
              exact k
/-- a step is laid -/
theorem sl_emit (hsh : ShOK sh) (hfx : FxOK F) (hL : LrC I m w) (hT : Tx I B n q) (hm : 0 ≤ m ∧ m < 400) {st a x : Int} (hx : x = jCode st a) (hj : jin x) : jS G d mX6_emit [jR (some 156), jI x] (sh, I, F) 0 0 (rEV sh F (fun J => Tx J B n q ∧ LrC J (m + 1) (pE w m st a) ∧ FrL I J)) := by
  obtain ⟨l1, l2⟩ := hL
  have q24 : jup I 157 m x 156 3 = m := by rw [jup_ne _ _ _ (by decide)]; exact l1
  refine jS_go [some (jR (some 156)), some (jI x)] (by decide +kernel) rfl (by simp [jone]) (Nat.le_of_ble_eq_true rfl) rfl (fun hok => ?_)
  refine j_aload_n dX6_emit_0 rfl ?_
  refine r_getIE dX6_emit_1 flX6_21 (by first | assumption | exact hsh _ _ rfl) l1 (fun b_1 => ?_)
  refine j_aload_n dX6_emit_4 rfl ?_
  refine r_getS dX6_emit_5 flX6_9 (by first | assumption | exact hsh _ _ rfl) (fx_156_0 hfx) ?_
  refine r_alen dX6_emit_8 (by first | assumption | exact hsh _ _ rfl) ?_
  refine j_icmp_ge (tgt := 32) dX6_emit_9 rfl (by first | omega | (split <;> omega)) (by first | omega | (split <;> omega)) (fun c_9 => by exact absurd c_9 (by omega)) (fun c_9 => ?_)
  refine j_aload_n dX6_emit_12 rfl ?_
  refine r_getS dX6_emit_13 flX6_9 (by first | assumption | exact hsh _ _ rfl) (fx_156_0 hfx) ?_
  refine j_aload_n dX6_emit_16 rfl ?_
  refine r_getIE dX6_emit_17 flX6_21 (by first | assumption | exact hsh _ _ rfl) l1 (fun b_17 => ?_)
  refine j_iload_n dX6_emit_20 rfl ?_
  refine r_iastore dX6_emit_21 (by first | assumption | exact hsh _ _ rfl) (by first | omega | (split <;> omega)) (by first | omega | (split <;> omega)) (by first | omega | (split <;> omega)) ?_
  refine j_aload_n dX6_emit_22 rfl ?_
  refine j_dup dX6_emit_23 trivial ?_
  refine r_getIE dX6_emit_24 flX6_21 (by first | assumption | exact hsh _ _ rfl) q24 (fun b_24 => ?_)
  refine j_iconst dX6_emit_27 ?_
  refine j_iadd dX6_emit_28 ?_
  refine r_putI dX6_emit_29 flX6_21 rfl (by first | assumption | exact hsh _ _ rfl) (by first | omega | (split <;> omega)) (fun q => by cases q) ?_
  refine j_vret dX6_emit_32 rfl ?_
  refine rEV_of ⟨Tx_fr hT (by rw [jup_ne _ _ _ (by decide), jup_ne _ _ _ (by decide)]) (by rw [jup_ne _ _ _ (by decide), jup_ne _ _ _ (by decide)]), ⟨jup_same _ _ _ _, fun i i0 i1 => ?_⟩, fun a _ h1 h2 => by rw [jup_ne _ _ _ h1, jup_ne _ _ _ h2], fun k hk => by rw [jup_row _ _ _ hk, jup_ne _ _ _ (by decide)], fun _ => by rw [jup_same]; omega⟩
  rw [jup_ne _ _ _ (by decide)]
  by_cases c : i = m
  · subst c
    rw [jup_same, hx]
    show jCode st a = jCode (pE w i st a (1318 + 2 * i)) (pE w i st a (1318 + 2 * i + 1))
    rw [pE_s, pE_a]
  · rw [jup_row _ _ _ c, l2 i i0 (by omega)]
    show jCode (w (1318 + 2 * i)) (w (1318 + 2 * i + 1)) = jCode (pE w m st a (1318 + 2 * i)) (pE w m st a (1318 + 2 * i + 1))
    rw [pE_o (by omega), pE_o (by omega)]
/-- a step is laid, whatever lies there -/
theorem sl_emit0 (hsh : ShOK sh) (hfx : FxOK F) (hT : Tx I B n q) (h0 : 0 ≤ I 156 3) {x : Int} (hj : jin x) : jS G d mX6_emit [jR (some 156), jI x] (sh, I, F) 0 0 (rEV sh F (fun J => Tx J B n q ∧ FrL I J)) := by
  have q24 : jup I 157 (I 156 3) x 156 3 = I 156 3 := by rw [jup_ne _ _ _ (by decide)]
  refine jS_go [some (jR (some 156)), some (jI x)] (by decide +kernel) rfl (by simp [jone]) (Nat.le_of_ble_eq_true rfl) rfl (fun hok => ?_)
  have b3 : jin (I 156 3) := hok.2.1 156 3
  refine j_aload_n dX6_emit_0 rfl ?_
  refine r_getI dX6_emit_1 flX6_21 (by first | assumption | exact hsh _ _ rfl) (fun b_1 => ?_)
  refine j_aload_n dX6_emit_4 rfl ?_
  refine r_getS dX6_emit_5 flX6_9 (by first | assumption | exact hsh _ _ rfl) (fx_156_0 hfx) ?_
  refine r_alen dX6_emit_8 (by first | assumption | exact hsh _ _ rfl) ?_
  refine j_icmp_ge (tgt := 32) dX6_emit_9 rfl (by first | omega | (split <;> omega)) (by first | omega | (split <;> omega)) (fun c_9 => ?_) (fun c_9 => ?_)
  · refine j_vret dX6_emit_32 rfl ?_
    first
    | exact rEV_of ⟨hT, FrL_0⟩
    | exact rEV_of ⟨Tx_fr hT (by rw [jup_ne _ _ _ (by decide), jup_ne _ _ _ (by decide)]) (by rw [jup_ne _ _ _ (by decide), jup_ne _ _ _ (by decide)]), fun a _ h1 h2 => by rw [jup_ne _ _ _ h1, jup_ne _ _ _ h2], fun k hk => by rw [jup_row _ _ _ hk, jup_ne _ _ _ (by decide)], fun _ => by rw [jup_same]; omega⟩
  · refine j_aload_n dX6_emit_12 rfl ?_
    refine r_getS dX6_emit_13 flX6_9 (by first | assumption | exact hsh _ _ rfl) (fx_156_0 hfx) ?_
    refine j_aload_n dX6_emit_16 rfl ?_
    refine r_getI dX6_emit_17 flX6_21 (by first | assumption | exact hsh _ _ rfl) (fun b_17 => ?_)
    refine j_iload_n dX6_emit_20 rfl ?_
    refine r_iastore dX6_emit_21 (by first | assumption | exact hsh _ _ rfl) (by first | omega | (split <;> omega)) (by first | omega | (split <;> omega)) (by first | omega | (split <;> omega)) ?_
    refine j_aload_n dX6_emit_22 rfl ?_
    refine j_dup dX6_emit_23 trivial ?_
    refine r_getIE dX6_emit_24 flX6_21 (by first | assumption | exact hsh _ _ rfl) q24 (fun b_24 => ?_)
    refine j_iconst dX6_emit_27 ?_
    refine j_iadd dX6_emit_28 ?_
    refine r_putI dX6_emit_29 flX6_21 rfl (by first | assumption | exact hsh _ _ rfl) (by first | omega | (split <;> omega)) (fun q => by cases q) ?_
    refine j_vret dX6_emit_32 rfl ?_
    first
    | exact rEV_of ⟨hT, FrL_0⟩
    | exact rEV_of ⟨Tx_fr hT (by rw [jup_ne _ _ _ (by decide), jup_ne _ _ _ (by decide)]) (by rw [jup_ne _ _ _ (by decide), jup_ne _ _ _ (by decide)]), fun a _ h1 h2 => by rw [jup_ne _ _ _ h1, jup_ne _ _ _ h2], fun k hk => by rw [jup_row _ _ _ hk, jup_ne _ _ _ (by decide)], fun _ => by rw [jup_same]; omega⟩
/-- what a sum of which z parts are read comes to -/
def pSz (B : Int → Int) (n z q m : Int) (w : Int → Int) : pR := pThen (pPart B n q m w) (fun q1 m1 w1 => if z = 0 then pSumR B n 401 q1 m1 w1 else pSumR B n 401 q1 (m1 + 1) (pE w1 m1 8 0))
theorem pSz_0 : pSz B n 0 q m w = pSum B n q m w := rfl
theorem pSz_s {z : Int} (hz : ¬ z = 0) : pSz B n z q m w = pThen (pPart B n q m w) (fun q1 m1 w1 => pSumR B n 401 q1 (m1 + 1) (pE w1 m1 8 0)) := by
  unfold pSz
  congr 1
  funext q1 m1 w1
  rw [if_neg hz]
theorem sl_sum (hsh : ShOK sh) (hfx : FxOK F) (hT : Tx I B n q) (hL : LrC I m w) (hm : 0 ≤ m ∧ m + 2 ≤ q) : jS G (d + 6) mX6_readSum [jR (some 156), jR (some 154)] (sh, I, F) 0 0 (rEI (pSum B n q m w).1 sh F (pCl I B n (pSum B n q m w))) := by
  refine jS_go [some (jR (some 156)), some (jR (some 154)), none, none] (by decide +kernel) rfl (by simp [jone]) (Nat.le_of_ble_eq_true rfl) rfl (fun hok => ?_)
  have key : ∀ (u : Nat) (z q m : Int) (w : Int → Int) (J : Nat → Int → Int) (o : Option jzV), n - q < u → 0 ≤ z → z + 1 ≤ q → 0 ≤ m → m + 2 ≤ q → (0 < z → m + 3 ≤ q) → Tx J B n q → LrC J m w → FrL I J → jW G mX6_readSum (d + 6) (rEI (pSz B n z q m w).1 sh F (pCl I B n (pSz B n z q m w))) 2 [some (jR (some 156)), some (jR (some 154)), some (jI z), o] [] (sh, J, F) 0 0 := by
    intro u
    induction u with
    | zero =>
      intro z q m w J o hu hz0 hzq hm0 hmq hmz hT hL hf
      have t8 := hT.2.2.2.2.2.2.2
      omega
    | succ u ih =>
      intro z q m w J o hu hz0 hzq hm0 hmq hmz hT hL hf
      have t8 := hT.2.2.2.2.2.2.2
      have hc := pCd_in (B := B) (n := n) (q := q)
      by_cases e : pSt B n q = -1
      · have hR : pSz B n z q m w = (0, q, m, w) := by
          have h1 : pPart B n q m w = (0, q, m, w) := if_pos e
          unfold pSz
          rw [h1]
          exact pThen_f rfl
        rw [hR]
        have hP : pCd B n q = -1 := by omega
        refine j_iload_n dX6_readSum_2 rfl ?_
        refine j_sipush dX6_readSum_3 (by decide) ?_
        refine j_icmp_ge (tgt := 153) dX6_readSum_6 rfl (by first | omega | (split <;> omega)) (by first | omega | (split <;> omega)) (fun c_6 => by exact absurd c_6 (by omega)) (fun c_6 => ?_)
        refine sl_part hsh hfx hT ?_
        rw [hP]
        refine j_istore_n dX6_readSum_104 (by decide) ?_
        refine j_iload_n dX6_readSum_105 rfl ?_
        refine j_iconst dX6_readSum_106 ?_
        refine j_icmp_ne (tgt := 112) dX6_readSum_107 rfl (by first | omega | (split <;> omega)) (by first | omega | (split <;> omega)) (fun c_107 => by exact absurd rfl c_107) (fun c_107 => ?_)
        refine j_iconst dX6_readSum_110 ?_
        refine j_zret dX6_readSum_111 rfl (by omega) ?_
        exact rEI_of rfl (pCl_0 hT hf)
      · obtain ⟨c0, c1, c2⟩ : (0 ≤ pCd B n q ∧ pCd B n q ≤ 1012) ∧ ¬ pSt B n q = -1 ∧ pCd B n q = jCode (pSt B n q) (pAr B n q) := by
          rcases hc with h | h
          · exact absurd h.2 e
          · exact h
        have hk : ¬ tkK B n q = 0 := by
          rcases pSt_c (B := B) (n := n) (q := q) with h | ⟨-, h⟩ | ⟨-, h⟩
          · omega
          · have := h.1; omega
          · omega
        have ht := tk_s t8.1.2 hk
        have hp : pPart B n q m w = (1, tkN B n q, m + 1, pE w m (pSt B n q) (pAr B n q)) := if_neg e
        obtain ⟨x, hx⟩ : ∃ x, pCd B n q = x := ⟨_, rfl⟩
        rw [hx] at c0 c2
        obtain ⟨w1, hw1⟩ : ∃ w1, pE w m (pSt B n q) (pAr B n q) = w1 := ⟨_, rfl⟩
        obtain ⟨q1, hq1⟩ : ∃ q1, tkN B n q = q1 := ⟨_, rfl⟩
        rw [hw1, hq1] at hp
        rw [hq1] at ht
        -- behind the part and the sign of the sum
        have fin : ∀ (m2 : Int) (w2 : Int → Int) (K : Nat → Int → Int), pSz B n z q m w = pSumR B n 401 q1 m2 w2 → 0 ≤ m2 → m2 + 2 ≤ q1 → Tx K B n q1 → LrC K m2 w2 → FrL I K → jW G mX6_readSum (d + 6) (rEI (pSz B n z q m w).1 sh F (pCl I B n (pSz B n z q m w))) 132 [some (jR (some 156)), some (jR (some 154)), some (jI z), some (jI x)] [] (sh, K, F) 0 0 := by
          intro m2 w2 K hR h20 h2q hTK hLK hfK
          rw [hR, pSumR_u (by omega) ht.2 t8.2]
          have sS := st_isSign (G := G) (d := d + 5) (F := F) hsh hfx hTK (c := 43) (by decide)
          by_cases e2 : vSg B n q1 43
          · have ht2 := sg_s ht.2 e2
            rw [if_pos e2] at sS
            rw [if_pos e2, ← pSz_s (z := z + 1) (by omega)]
            refine j_aload_n dX6_readSum_132 rfl ?_
            refine j_bipush dX6_readSum_133 (by decide) ?_
            refine r_cv1I dX6_readSum_135 cvX6_95 (by decide) (by first | assumption | exact hsh _ _ rfl) (Nat.le_of_ble_eq_true rfl) (Nat.le_of_eq (Nat.zero_add _)) (Nat.le_of_eq (Nat.zero_add _)) (sS) ?_
            refine j_if_ne (tgt := 143) dX6_readSum_138 rfl (by first | omega | (split <;> omega)) (fun c_138 => ?_) (fun c_138 => by exact absurd c_138 (by decide))
            refine j_aload_n dX6_readSum_143 rfl ?_
            refine r_cv0EV dX6_readSum_144 cvX6_64 (by decide) (by first | assumption | exact hsh _ _ rfl) (Nat.le_of_ble_eq_true rfl) (Nat.le_of_eq (Nat.zero_add _)) (Nat.le_of_eq (Nat.zero_add _)) (st_next hsh hfx hTK) (fun L hL => ?_)
            refine j_iinc dX6_readSum_147 rfl (by decide) ?_
            refine j_goto (tgt := 2) dX6_readSum_150 rfl ?_
            exact ih (z + 1) (tkN B n q1) m2 w2 L _ (by omega) (by omega) (by omega) h20 (by omega) (fun _ => by omega) hL.1 (LrC_154 hLK hL.2) (FrL_tr hfK (FrL_154 hL.2))
          · rw [if_neg e2] at sS
            rw [if_neg e2]
            refine j_aload_n dX6_readSum_132 rfl ?_
            refine j_bipush dX6_readSum_133 (by decide) ?_
            refine r_cv1I dX6_readSum_135 cvX6_95 (by decide) (by first | assumption | exact hsh _ _ rfl) (Nat.le_of_ble_eq_true rfl) (Nat.le_of_eq (Nat.zero_add _)) (Nat.le_of_eq (Nat.zero_add _)) (sS) ?_
            refine j_if_ne (tgt := 143) dX6_readSum_138 rfl (by first | omega | (split <;> omega)) (fun c_138 => by exact absurd c_138 (by decide)) (fun c_138 => ?_)
            refine j_iconst dX6_readSum_141 ?_
            refine j_zret dX6_readSum_142 rfl (by omega) ?_
            exact rEI_of rfl (pCl_1 hTK hLK hfK)
        have sE := sl_emit (G := G) (d := d + 5) (F := F) hsh hfx hL hT ⟨hm0, by omega⟩ (st := pSt B n q) (a := pAr B n q) c2 (by omega)
        rw [hw1] at sE
        by_cases ez : z = 0
        · have hR : pSz B n z q m w = pSumR B n 401 q1 (m + 1) w1 := by
            unfold pSz
            rw [hp, pThen_1, if_pos ez]
          refine j_iload_n dX6_readSum_2 rfl ?_
          refine j_sipush dX6_readSum_3 (by decide) ?_
          refine j_icmp_ge (tgt := 153) dX6_readSum_6 rfl (by first | omega | (split <;> omega)) (by first | omega | (split <;> omega)) (fun c_6 => by exact absurd c_6 (by omega)) (fun c_6 => ?_)
          refine sl_part hsh hfx hT ?_
          rw [hx]
          refine j_istore_n dX6_readSum_104 (by decide) ?_
          refine j_iload_n dX6_readSum_105 rfl ?_
          refine j_iconst dX6_readSum_106 ?_
          refine j_icmp_ne (tgt := 112) dX6_readSum_107 rfl (by first | omega | (split <;> omega)) (by first | omega | (split <;> omega)) (fun c_107 => ?_) (fun c_107 => by exact absurd (Classical.not_not.1 c_107) (by omega))
          refine j_aload_n dX6_readSum_112 rfl ?_
          refine j_iload_n dX6_readSum_113 rfl ?_
          refine r_cv1EV dX6_readSum_114 cvX6_85 (by decide) (by first | assumption | exact hsh _ _ rfl) (Nat.le_of_ble_eq_true rfl) (Nat.le_of_eq (Nat.zero_add _)) (Nat.le_of_eq (Nat.zero_add _)) (sE) (fun K hK => ?_)
          have sn := st_next (G := G) (d := d + 4) (F := F) hsh hfx hK.1
          rw [hq1] at sn
          refine j_aload_n dX6_readSum_117 rfl ?_
          refine r_cv0EV dX6_readSum_118 cvX6_64 (by decide) (by first | assumption | exact hsh _ _ rfl) (Nat.le_of_ble_eq_true rfl) (Nat.le_of_eq (Nat.zero_add _)) (Nat.le_of_eq (Nat.zero_add _)) (sn) (fun N hN => ?_)
          refine j_iload_n dX6_readSum_121 rfl ?_
          refine j_if_le (tgt := 132) dX6_readSum_122 rfl (by first | omega | (split <;> omega)) (fun c_122 => ?_) (fun c_122 => by exact absurd (by omega) c_122)
          exact fin (m + 1) w1 N hR (by omega) (by omega) hN.1 (LrC_154 hK.2.1 hN.2) (FrL_tr (FrL_tr hf hK.2.2) (FrL_154 hN.2))
        · have hR : pSz B n z q m w = pSumR B n 401 q1 (m + 1 + 1) (pE w1 (m + 1) 8 0) := by
            unfold pSz
            rw [hp, pThen_1, if_neg ez]
          refine j_iload_n dX6_readSum_2 rfl ?_
          refine j_sipush dX6_readSum_3 (by decide) ?_
          refine j_icmp_ge (tgt := 153) dX6_readSum_6 rfl (by first | omega | (split <;> omega)) (by first | omega | (split <;> omega)) (fun c_6 => by exact absurd c_6 (by omega)) (fun c_6 => ?_)
          refine sl_part hsh hfx hT ?_
          rw [hx]
          refine j_istore_n dX6_readSum_104 (by decide) ?_
          refine j_iload_n dX6_readSum_105 rfl ?_
          refine j_iconst dX6_readSum_106 ?_
          refine j_icmp_ne (tgt := 112) dX6_readSum_107 rfl (by first | omega | (split <;> omega)) (by first | omega | (split <;> omega)) (fun c_107 => ?_) (fun c_107 => by exact absurd (Classical.not_not.1 c_107) (by omega))
          refine j_aload_n dX6_readSum_112 rfl ?_
          refine j_iload_n dX6_readSum_113 rfl ?_
          refine r_cv1EV dX6_readSum_114 cvX6_85 (by decide) (by first | assumption | exact hsh _ _ rfl) (Nat.le_of_ble_eq_true rfl) (Nat.le_of_eq (Nat.zero_add _)) (Nat.le_of_eq (Nat.zero_add _)) (sE) (fun K hK => ?_)
          have sn := st_next (G := G) (d := d + 4) (F := F) hsh hfx hK.1
          rw [hq1] at sn
          refine j_aload_n dX6_readSum_117 rfl ?_
          refine r_cv0EV dX6_readSum_118 cvX6_64 (by decide) (by first | assumption | exact hsh _ _ rfl) (Nat.le_of_ble_eq_true rfl) (Nat.le_of_eq (Nat.zero_add _)) (Nat.le_of_eq (Nat.zero_add _)) (sn) (fun N hN => ?_)
          have sE2 := sl_emit (G := G) (d := d + 5) (F := F) hsh hfx (LrC_154 hK.2.1 hN.2) hN.1 ⟨by omega, by omega⟩ (st := 8) (a := 0) (x := 1007) rfl (by decide)
          refine j_iload_n dX6_readSum_121 rfl ?_
          refine j_if_le (tgt := 132) dX6_readSum_122 rfl (by first | omega | (split <;> omega)) (fun c_122 => by exact absurd c_122 (by omega)) (fun c_122 => ?_)
          refine j_aload_n dX6_readSum_125 rfl ?_
          refine j_sipush dX6_readSum_126 (by decide) ?_
          refine r_cv1EV dX6_readSum_129 cvX6_85 (by decide) (by first | assumption | exact hsh _ _ rfl) (Nat.le_of_ble_eq_true rfl) (Nat.le_of_eq (Nat.zero_add _)) (Nat.le_of_eq (Nat.zero_add _)) (sE2) (fun P hP => ?_)
          exact fin (m + 1 + 1) (pE w1 (m + 1) 8 0) P hR (by omega) (by omega) hP.1 hP.2.1 (FrL_tr (FrL_tr (FrL_tr hf hK.2.2) (FrL_154 hN.2)) hP.2.2)
  have t8 := hT.2.2.2.2.2.2.2
  have k0 := fun o => key 401 0 q m w I o (by omega) (by omega) (by omega) hm.1 hm.2 (fun h => by omega) hT hL FrL_0
  rw [pSz_0] at k0
  refine j_iconst dX6_readSum_0 ?_
  refine j_istore_n dX6_readSum_1 (by decide) ?_
  exact k0 none
theorem sl_cmp (hsh : ShOK sh) (hfx : FxOK F) (hT : Tx I B n q) (hL : LrC I m w) (hm : 0 ≤ m ∧ m + 2 ≤ q) {o1 o2 o3 o4 : Option jzV} : jW G mX6_readAtom (d + 8) (rEI (pCmp B n q m w).1 sh F (pCl I B n (pCmp B n q m w))) 109 [some (jR (some 156)), some (jR (some 154)), o1, o2, o3, o4] [] (sh, I, F) 0 0 := by
  have t8 := hT.2.2.2.2.2.2.2
  have sU := sl_sum (G := G) (d := d + 1) (F := F) hsh hfx hT hL hm
  have hg := pSum_g (B := B) (m := m) (w := w) t8.1.2
  have hR : pCmp B n q m w = pThen (pSum B n q m w) (fun q1 m1 w1 => if vSg B n q1 60 ∨ vSg B n q1 62 then pThen (pSum B n (tkN B n q1) m1 w1) (fun q2 m2 w2 => (1, q2, m2 + 1, pE w2 m2 (if vSg B n q1 60 then 9 else 10) 0)) else (0, q1, m1, w1)) := rfl
  rw [hR]
  generalize pSum B n q m w = S at *
  rcases hg with g | ⟨g1, g2, g3, g4, g5, -⟩
  · rw [pThen_f g.1]
    rw [g.1] at sU ⊢
    refine j_aload_n dX6_readAtom_109 rfl ?_
    refine j_aload_n dX6_readAtom_110 rfl ?_
    refine r_cv1EI dX6_readAtom_111 cvX6_105 (by decide) (by first | assumption | exact hsh _ _ rfl) (Nat.le_of_ble_eq_true rfl) (Nat.le_of_eq (Nat.zero_add _)) (Nat.le_of_eq (Nat.zero_add _)) (sU) (fun J hJ => ?_)
    refine j_if_ne (tgt := 119) dX6_readAtom_114 rfl (by first | omega | (split <;> omega)) (fun c_114 => by exact absurd c_114 (by decide)) (fun c_114 => ?_)
    refine j_iconst dX6_readAtom_117 ?_
    refine j_zret dX6_readAtom_118 rfl (by omega) ?_
    exact rEI_of rfl hJ
  · rw [pThen_t g1]
    rw [g1] at sU
    obtain ⟨q1, hq1⟩ : ∃ x, S.2.1 = x := ⟨_, rfl⟩
    obtain ⟨m1, hm1⟩ : ∃ x, S.2.2.1 = x := ⟨_, rfl⟩
    obtain ⟨w1, hw1⟩ : ∃ x, S.2.2.2 = x := ⟨_, rfl⟩
    rw [hq1, hm1, hw1]
    rw [hq1] at g2 g3 g5
    rw [hm1] at g4 g5
    have hS : ∀ J, pCl I B n S J → Tx J B n q1 ∧ LrC J m1 w1 ∧ FrL I J := fun J h => ⟨by rw [← hq1]; exact h.1, by rw [← hm1, ← hw1]; exact h.2.1 g1, h.2.2⟩
    have sS := fun (J : Nat → Int → Int) (h : Tx J B n q1) (c : Int) (hc : jin c) => st_isSign (G := G) (d := d + 7) (F := F) hsh hfx h (c := c) hc
    -- behind the sign
    have fin : ∀ (y : Int) (J : Nat → Int → Int), (y = 1 ∧ vSg B n q1 60) ∨ (y = 0 ∧ ¬ vSg B n q1 60) → (vSg B n q1 60 ∨ vSg B n q1 62) → Tx J B n q1 → LrC J m1 w1 → FrL I J → jW G mX6_readAtom (d + 8) (rEI (pThen (pSum B n (tkN B n q1) m1 w1) (fun q2 m2 w2 => ((1, q2, m2 + 1, pE w2 m2 (if vSg B n q1 60 then 9 else 10) 0) : pR))).1 sh F (pCl I B n (pThen (pSum B n (tkN B n q1) m1 w1) (fun q2 m2 w2 => (1, q2, m2 + 1, pE w2 m2 (if vSg B n q1 60 then 9 else 10) 0))))) 143 [some (jR (some 156)), some (jR (some 154)), o1, o2, some (jI y), o4] [] (sh, J, F) 0 0 := by
      intro y J hy hs hTJ hLJ hfJ
      have ht : q1 + 1 ≤ tkN B n q1 ∧ tkN B n q1 ≤ n := by
        rcases hs with h | h <;> exact sg_s g3 h
      have hg2 := pSum_g (B := B) (m := m1) (w := w1) ht.2
      have sU2 := fun (K : Nat → Int → Int) (h1 : Tx K B n (tkN B n q1)) (h2 : LrC K m1 w1) => sl_sum (G := G) (d := d + 1) (F := F) hsh hfx h1 h2 (by omega)
      generalize pSum B n (tkN B n q1) m1 w1 = T at *
      rcases hg2 with f | ⟨f1, f2, f3, f4, f5, -⟩
      · rw [pThen_f f.1]
        rw [f.1] at sU2 ⊢
        have h3 : ∀ K N : Nat → Int → Int, LrC K m1 w1 → pCl K B n T N → 0 ≤ N 156 3 := fun K N h1 h2 => h2.2.2.2.2 (by rw [h1.1]; omega)
        have sE0 := fun (N : Nat → Int → Int) (h1 : Tx N B n T.2.1) (h2 : 0 ≤ N 156 3) (x : Int) (hx : jin x) => sl_emit0 (G := G) (d := d + 7) (F := F) hsh hfx h1 h2 hx
        rcases hy with ⟨rfl, hy⟩ | ⟨rfl, hy⟩
        · refine j_aload_n dX6_readAtom_143 rfl ?_
          refine r_cv0EV dX6_readAtom_144 cvX6_64 (by decide) (by first | assumption | exact hsh _ _ rfl) (Nat.le_of_ble_eq_true rfl) (Nat.le_of_eq (Nat.zero_add _)) (Nat.le_of_eq (Nat.zero_add _)) (st_next hsh hfx hTJ) (fun K hK => ?_)
          refine j_aload_n dX6_readAtom_147 rfl ?_
          refine j_aload_n dX6_readAtom_148 rfl ?_
          refine r_cv1EI dX6_readAtom_149 cvX6_105 (by decide) (by first | assumption | exact hsh _ _ rfl) (Nat.le_of_ble_eq_true rfl) (Nat.le_of_eq (Nat.zero_add _)) (Nat.le_of_eq (Nat.zero_add _)) (sU2 K hK.1 (LrC_154 hLJ hK.2)) (fun N hN => ?_)
          refine j_istore dX6_readAtom_152 (by decide) ?_
          refine j_aload_n dX6_readAtom_154 rfl ?_
          refine j_iload dX6_readAtom_155 rfl ?_
          refine j_if_eq (tgt := 166) dX6_readAtom_157 rfl (by first | omega | (split <;> omega)) (fun c_157 => by exact absurd c_157 (by decide)) (fun c_157 => ?_)
          refine j_sipush dX6_readAtom_160 (by decide) ?_
          refine j_goto (tgt := 169) dX6_readAtom_163 rfl ?_
          refine r_cv1EV dX6_readAtom_169 cvX6_85 (by decide) (by first | assumption | exact hsh _ _ rfl) (Nat.le_of_ble_eq_true rfl) (Nat.le_of_eq (Nat.zero_add _)) (Nat.le_of_eq (Nat.zero_add _)) (sE0 N hN.1 (h3 K N (LrC_154 hLJ hK.2) hN) 1008 (by decide)) (fun P hP => ?_)
          refine j_iload dX6_readAtom_172 rfl ?_
          refine j_zret dX6_readAtom_174 rfl (by omega) ?_
          exact rEI_of rfl ⟨hP.1, fun h => absurd (f.1.symm.trans h) (by decide), FrL_tr (FrL_tr (FrL_tr hfJ (FrL_154 hK.2)) hN.2.2) hP.2⟩
        · refine j_aload_n dX6_readAtom_143 rfl ?_
          refine r_cv0EV dX6_readAtom_144 cvX6_64 (by decide) (by first | assumption | exact hsh _ _ rfl) (Nat.le_of_ble_eq_true rfl) (Nat.le_of_eq (Nat.zero_add _)) (Nat.le_of_eq (Nat.zero_add _)) (st_next hsh hfx hTJ) (fun K hK => ?_)
          refine j_aload_n dX6_readAtom_147 rfl ?_
          refine j_aload_n dX6_readAtom_148 rfl ?_
          refine r_cv1EI dX6_readAtom_149 cvX6_105 (by decide) (by first | assumption | exact hsh _ _ rfl) (Nat.le_of_ble_eq_true rfl) (Nat.le_of_eq (Nat.zero_add _)) (Nat.le_of_eq (Nat.zero_add _)) (sU2 K hK.1 (LrC_154 hLJ hK.2)) (fun N hN => ?_)
          refine j_istore dX6_readAtom_152 (by decide) ?_
          refine j_aload_n dX6_readAtom_154 rfl ?_
          refine j_iload dX6_readAtom_155 rfl ?_
          refine j_if_eq (tgt := 166) dX6_readAtom_157 rfl (by first | omega | (split <;> omega)) (fun c_157 => ?_) (fun c_157 => by exact absurd rfl c_157)
          refine j_sipush dX6_readAtom_166 (by decide) ?_
          refine r_cv1EV dX6_readAtom_169 cvX6_85 (by decide) (by first | assumption | exact hsh _ _ rfl) (Nat.le_of_ble_eq_true rfl) (Nat.le_of_eq (Nat.zero_add _)) (Nat.le_of_eq (Nat.zero_add _)) (sE0 N hN.1 (h3 K N (LrC_154 hLJ hK.2) hN) 1009 (by decide)) (fun P hP => ?_)
          refine j_iload dX6_readAtom_172 rfl ?_
          refine j_zret dX6_readAtom_174 rfl (by omega) ?_
          exact rEI_of rfl ⟨hP.1, fun h => absurd (f.1.symm.trans h) (by decide), FrL_tr (FrL_tr (FrL_tr hfJ (FrL_154 hK.2)) hN.2.2) hP.2⟩
      · rw [pThen_t f1]
        rw [f1] at sU2
        rcases hy with ⟨rfl, hy⟩ | ⟨rfl, hy⟩
        · rw [if_pos hy]
          have sE := fun (N : Nat → Int → Int) (h1 : Tx N B n T.2.1) (h2 : LrC N T.2.2.1 T.2.2.2) => sl_emit (G := G) (d := d + 7) (F := F) hsh hfx h2 h1 ⟨by omega, by omega⟩ (st := 9) (a := 0) (x := 1008) rfl (by decide)
          refine j_aload_n dX6_readAtom_143 rfl ?_
          refine r_cv0EV dX6_readAtom_144 cvX6_64 (by decide) (by first | assumption | exact hsh _ _ rfl) (Nat.le_of_ble_eq_true rfl) (Nat.le_of_eq (Nat.zero_add _)) (Nat.le_of_eq (Nat.zero_add _)) (st_next hsh hfx hTJ) (fun K hK => ?_)
          refine j_aload_n dX6_readAtom_147 rfl ?_
          refine j_aload_n dX6_readAtom_148 rfl ?_
          refine r_cv1EI dX6_readAtom_149 cvX6_105 (by decide) (by first | assumption | exact hsh _ _ rfl) (Nat.le_of_ble_eq_true rfl) (Nat.le_of_eq (Nat.zero_add _)) (Nat.le_of_eq (Nat.zero_add _)) (sU2 K hK.1 (LrC_154 hLJ hK.2)) (fun N hN => ?_)
          refine j_istore dX6_readAtom_152 (by decide) ?_
          refine j_aload_n dX6_readAtom_154 rfl ?_
          refine j_iload dX6_readAtom_155 rfl ?_
          refine j_if_eq (tgt := 166) dX6_readAtom_157 rfl (by first | omega | (split <;> omega)) (fun c_157 => by exact absurd c_157 (by decide)) (fun c_157 => ?_)
          refine j_sipush dX6_readAtom_160 (by decide) ?_
          refine j_goto (tgt := 169) dX6_readAtom_163 rfl ?_
          refine r_cv1EV dX6_readAtom_169 cvX6_85 (by decide) (by first | assumption | exact hsh _ _ rfl) (Nat.le_of_ble_eq_true rfl) (Nat.le_of_eq (Nat.zero_add _)) (Nat.le_of_eq (Nat.zero_add _)) (sE N hN.1 (hN.2.1 f1)) (fun P hP => ?_)
          refine j_iload dX6_readAtom_172 rfl ?_
          refine j_zret dX6_readAtom_174 rfl (by omega) ?_
          exact rEI_of rfl (pCl_1 hP.1 hP.2.1 (FrL_tr (FrL_tr (FrL_tr hfJ (FrL_154 hK.2)) hN.2.2) hP.2.2))
        · rw [if_neg hy]
          have sE := fun (N : Nat → Int → Int) (h1 : Tx N B n T.2.1) (h2 : LrC N T.2.2.1 T.2.2.2) => sl_emit (G := G) (d := d + 7) (F := F) hsh hfx h2 h1 ⟨by omega, by omega⟩ (st := 10) (a := 0) (x := 1009) rfl (by decide)
          refine j_aload_n dX6_readAtom_143 rfl ?_
          refine r_cv0EV dX6_readAtom_144 cvX6_64 (by decide) (by first | assumption | exact hsh _ _ rfl) (Nat.le_of_ble_eq_true rfl) (Nat.le_of_eq (Nat.zero_add _)) (Nat.le_of_eq (Nat.zero_add _)) (st_next hsh hfx hTJ) (fun K hK => ?_)
          refine j_aload_n dX6_readAtom_147 rfl ?_
          refine j_aload_n dX6_readAtom_148 rfl ?_
          refine r_cv1EI dX6_readAtom_149 cvX6_105 (by decide) (by first | assumption | exact hsh _ _ rfl) (Nat.le_of_ble_eq_true rfl) (Nat.le_of_eq (Nat.zero_add _)) (Nat.le_of_eq (Nat.zero_add _)) (sU2 K hK.1 (LrC_154 hLJ hK.2)) (fun N hN => ?_)
          refine j_istore dX6_readAtom_152 (by decide) ?_
          refine j_aload_n dX6_readAtom_154 rfl ?_
          refine j_iload dX6_readAtom_155 rfl ?_
          refine j_if_eq (tgt := 166) dX6_readAtom_157 rfl (by first | omega | (split <;> omega)) (fun c_157 => ?_) (fun c_157 => by exact absurd rfl c_157)
          refine j_sipush dX6_readAtom_166 (by decide) ?_
          refine r_cv1EV dX6_readAtom_169 cvX6_85 (by decide) (by first | assumption | exact hsh _ _ rfl) (Nat.le_of_ble_eq_true rfl) (Nat.le_of_eq (Nat.zero_add _)) (Nat.le_of_eq (Nat.zero_add _)) (sE N hN.1 (hN.2.1 f1)) (fun P hP => ?_)
          refine j_iload dX6_readAtom_172 rfl ?_
          refine j_zret dX6_readAtom_174 rfl (by omega) ?_
          exact rEI_of rfl (pCl_1 hP.1 hP.2.1 (FrL_tr (FrL_tr (FrL_tr hfJ (FrL_154 hK.2)) hN.2.2) hP.2.2))
    by_cases e1 : vSg B n q1 60
    · rw [if_pos (Or.inl e1)]
      have s1 := fun J h => sS J h 60 (by decide)
      rw [if_pos e1] at s1
      refine j_aload_n dX6_readAtom_109 rfl ?_
      refine j_aload_n dX6_readAtom_110 rfl ?_
      refine r_cv1EI dX6_readAtom_111 cvX6_105 (by decide) (by first | assumption | exact hsh _ _ rfl) (Nat.le_of_ble_eq_true rfl) (Nat.le_of_eq (Nat.zero_add _)) (Nat.le_of_eq (Nat.zero_add _)) (sU) (fun J hJ => ?_)
      have hJ2 := hS J hJ
      refine j_if_ne (tgt := 119) dX6_readAtom_114 rfl (by first | omega | (split <;> omega)) (fun c_114 => ?_) (fun c_114 => by exact absurd c_114 (by decide))
      refine j_aload_n dX6_readAtom_119 rfl ?_
      refine j_bipush dX6_readAtom_120 (by decide) ?_
      refine r_cv1I dX6_readAtom_122 cvX6_95 (by decide) (by first | assumption | exact hsh _ _ rfl) (Nat.le_of_ble_eq_true rfl) (Nat.le_of_eq (Nat.zero_add _)) (Nat.le_of_eq (Nat.zero_add _)) (s1 J hJ2.1) ?_
      refine j_istore dX6_readAtom_125 (by decide) ?_
      refine j_iload dX6_readAtom_127 rfl ?_
      refine j_if_ne (tgt := 143) dX6_readAtom_129 rfl (by first | omega | (split <;> omega)) (fun c_129 => ?_) (fun c_129 => by exact absurd (by decide) c_129)
      exact fin 1 J (Or.inl ⟨rfl, e1⟩) (Or.inl e1) hJ2.1 hJ2.2.1 hJ2.2.2
    · have s1 := fun J h => sS J h 60 (by decide)
      rw [if_neg e1] at s1
      have s2 := fun J h => sS J h 62 (by decide)
      by_cases e2 : vSg B n q1 62
      · rw [if_pos (Or.inr e2)]
        rw [if_pos e2] at s2
        refine j_aload_n dX6_readAtom_109 rfl ?_
        refine j_aload_n dX6_readAtom_110 rfl ?_
        refine r_cv1EI dX6_readAtom_111 cvX6_105 (by decide) (by first | assumption | exact hsh _ _ rfl) (Nat.le_of_ble_eq_true rfl) (Nat.le_of_eq (Nat.zero_add _)) (Nat.le_of_eq (Nat.zero_add _)) (sU) (fun J hJ => ?_)
        have hJ2 := hS J hJ
        refine j_if_ne (tgt := 119) dX6_readAtom_114 rfl (by first | omega | (split <;> omega)) (fun c_114 => ?_) (fun c_114 => by exact absurd c_114 (by decide))
        refine j_aload_n dX6_readAtom_119 rfl ?_
        refine j_bipush dX6_readAtom_120 (by decide) ?_
        refine r_cv1I dX6_readAtom_122 cvX6_95 (by decide) (by first | assumption | exact hsh _ _ rfl) (Nat.le_of_ble_eq_true rfl) (Nat.le_of_eq (Nat.zero_add _)) (Nat.le_of_eq (Nat.zero_add _)) (s1 J hJ2.1) ?_
        refine j_istore dX6_readAtom_125 (by decide) ?_
        refine j_iload dX6_readAtom_127 rfl ?_
        refine j_if_ne (tgt := 143) dX6_readAtom_129 rfl (by first | omega | (split <;> omega)) (fun c_129 => by exact absurd rfl c_129) (fun c_129 => ?_)
        refine j_aload_n dX6_readAtom_132 rfl ?_
        refine j_bipush dX6_readAtom_133 (by decide) ?_
        refine r_cv1I dX6_readAtom_135 cvX6_95 (by decide) (by first | assumption | exact hsh _ _ rfl) (Nat.le_of_ble_eq_true rfl) (Nat.le_of_eq (Nat.zero_add _)) (Nat.le_of_eq (Nat.zero_add _)) (s2 J hJ2.1) ?_
        refine j_if_ne (tgt := 143) dX6_readAtom_138 rfl (by first | omega | (split <;> omega)) (fun c_138 => ?_) (fun c_138 => by exact absurd c_138 (by decide))
        exact fin 0 J (Or.inr ⟨rfl, e1⟩) (Or.inr e2) hJ2.1 hJ2.2.1 hJ2.2.2
      · rw [if_neg (fun h => h.elim e1 e2)]
        rw [if_neg e2] at s2
        refine j_aload_n dX6_readAtom_109 rfl ?_
        refine j_aload_n dX6_readAtom_110 rfl ?_
        refine r_cv1EI dX6_readAtom_111 cvX6_105 (by decide) (by first | assumption | exact hsh _ _ rfl) (Nat.le_of_ble_eq_true rfl) (Nat.le_of_eq (Nat.zero_add _)) (Nat.le_of_eq (Nat.zero_add _)) (sU) (fun J hJ => ?_)
        have hJ2 := hS J hJ
        refine j_if_ne (tgt := 119) dX6_readAtom_114 rfl (by first | omega | (split <;> omega)) (fun c_114 => ?_) (fun c_114 => by exact absurd c_114 (by decide))
        refine j_aload_n dX6_readAtom_119 rfl ?_
        refine j_bipush dX6_readAtom_120 (by decide) ?_
        refine r_cv1I dX6_readAtom_122 cvX6_95 (by decide) (by first | assumption | exact hsh _ _ rfl) (Nat.le_of_ble_eq_true rfl) (Nat.le_of_eq (Nat.zero_add _)) (Nat.le_of_eq (Nat.zero_add _)) (s1 J hJ2.1) ?_
        refine j_istore dX6_readAtom_125 (by decide) ?_
        refine j_iload dX6_readAtom_127 rfl ?_
        refine j_if_ne (tgt := 143) dX6_readAtom_129 rfl (by first | omega | (split <;> omega)) (fun c_129 => by exact absurd rfl c_129) (fun c_129 => ?_)
        refine j_aload_n dX6_readAtom_132 rfl ?_
        refine j_bipush dX6_readAtom_133 (by decide) ?_
        refine r_cv1I dX6_readAtom_135 cvX6_95 (by decide) (by first | assumption | exact hsh _ _ rfl) (Nat.le_of_ble_eq_true rfl) (Nat.le_of_eq (Nat.zero_add _)) (Nat.le_of_eq (Nat.zero_add _)) (s2 J hJ2.1) ?_
        refine j_if_ne (tgt := 143) dX6_readAtom_138 rfl (by first | omega | (split <;> omega)) (fun c_138 => by exact absurd c_138 (by decide)) (fun c_138 => ?_)
        refine j_iconst dX6_readAtom_141 ?_
        refine j_zret dX6_readAtom_142 rfl (by omega) ?_
        exact rEI_of rfl (pCl_0 hJ2.1 hJ2.2.2)
end
