/-! THE CLASS READS CONDITIONS AND ATOMS -/
section
variable (B : Int → Int) (n : Int) (A : Int → Int → (Int → Int) → pR)
/-- behind what is joined by "and"; behind an atom; ahead of one: a, o say what waits -/
def cOr (o q m : Int) (w : Int → Int) : pR := if o = 1 then pOrR B n A 401 q (m + 1) (pE w m 13 0) else pOrR B n A 401 q m w
def cJn (o q m : Int) (w : Int → Int) : pR := pThen (pAllR B n A 401 q m w) (cOr B n A o)
def cHd (a o q m : Int) (w : Int → Int) : pR := pThen (A q m w) (fun q1 m1 w1 => if a = 1 then cJn B n A o q1 (m1 + 1) (pE w1 m1 12 0) else cJn B n A o q1 m1 w1)
end
section
variable {G : jzG} {d : Nat} {sh : List (Nat × Nat)} {I : Nat → Int → Int} {F : Nat → Int → Option Nat} {B : Int → Int} {n q m : Int} {w : Int → Int} {A : Int → Int → (Int → Int) → pR}
theorem cHd_00 : cHd B n A 0 0 q m w = pCond B n A q m w := by
  unfold cHd pCond pAll
  rw [pThen_as]
  rfl
theorem cHd_01 : cHd B n A 0 1 q m w = pThen (pAll B n A q m w) (fun q1 m1 w1 => pOrR B n A 401 q1 (m1 + 1) (pE w1 m1 13 0)) := by
  unfold cHd pAll
  rw [pThen_as]
  rfl
theorem cHd_1 {o : Int} : cHd B n A 1 o q m w = pThen (pThen (A q m w) (fun q1 m1 w1 => pAllR B n A 401 q1 (m1 + 1) (pE w1 m1 12 0))) (cOr B n A o) := by
  unfold cHd
  rw [pThen_as]
  rfl
theorem sl_cond {c : Nat} {deep : Int} (hsh : ShOK sh) (hfx : FxOK F) (hA : aGd n c A) (hS : ∀ (J : Nat → Int → Int) (q m : Int) (w : Int → Int), Tx J B n q → LrC J m w → 0 ≤ m → m + 2 ≤ q → jS G (d + 8) mX6_readAtom [jR (some 156), jR (some 154), jI deep] (sh, J, F) 0 0 (rEI (A q m w).1 sh F (pCl J B n (A q m w)))) (hT : Tx I B n q) (hL : LrC I m w) (hm : 0 ≤ m ∧ m + 2 ≤ q) : jS G (d + 9) mX6_readCondition [jR (some 156), jR (some 154), jI deep] (sh, I, F) 0 0 (rEI (pCond B n A q m w).1 sh F (pCl I B n (pCond B n A q m w))) := by
  refine jS_go [some (jR (some 156)), some (jR (some 154)), some (jI deep), none, none, none] (by decide +kernel) rfl (by simp [jone]) (Nat.le_of_ble_eq_true rfl) rfl (fun hok => ?_)
  have key : ∀ (u : Nat) (z a o q m : Int) (w : Int → Int) (J : Nat → Int → Int), n - q < u → (a = 0 ∨ a = 1) → (o = 0 ∨ o = 1) → 0 ≤ z → z + 1 ≤ q → 0 ≤ m → m + 2 + a + o ≤ q → Tx J B n q → LrC J m w → FrL I J → jW G mX6_readCondition (d + 9) (rEI (cHd B n A a o q m w).1 sh F (pCl I B n (cHd B n A a o q m w))) 8 [some (jR (some 156)), some (jR (some 154)), some (jI deep), some (jI a), some (jI o), some (jI z)] [] (sh, J, F) 0 0 := by
    intro u
    induction u with
    | zero =>
      intro z a o q m w J hu ha ho hz0 hzq hm0 hmq hT hL hf
      have t8 := hT.2.2.2.2.2.2.2
      omega
    | succ u ih =>
      intro z a o q m w J hu ha ho hz0 hzq hm0 hmq hT hL hf
      have t8 := hT.2.2.2.2.2.2.2
      have hg := hA q m w t8.1.2
      have sA := hS J q m w hT hL hm0 (by omega)
      have hR : cHd B n A a o q m w = pThen (A q m w) (fun q1 m1 w1 => if a = 1 then cJn B n A o q1 (m1 + 1) (pE w1 m1 12 0) else cJn B n A o q1 m1 w1) := rfl
      rw [hR]
      generalize A q m w = S at *
      rcases hg with g | ⟨g1, g2, g3, g4, g5, -⟩
      · rw [pThen_f g.1]
        rw [g.1] at sA ⊢
        refine j_iload dX6_readCondition_8 rfl ?_
        refine j_sipush dX6_readCondition_10 (by decide) ?_
        refine j_icmp_ge (tgt := 90) dX6_readCondition_13 rfl (by first | omega | (split <;> omega)) (by first | omega | (split <;> omega)) (fun c_13 => by exact absurd c_13 (by omega)) (fun c_13 => ?_)
        refine j_aload_n dX6_readCondition_16 rfl ?_
        refine j_aload_n dX6_readCondition_17 rfl ?_
        refine j_iload_n dX6_readCondition_18 rfl ?_
        refine r_cv2EI dX6_readCondition_19 cvX6_82 (by decide) (by first | assumption | exact hsh _ _ rfl) (Nat.le_of_ble_eq_true rfl) (Nat.le_of_eq (Nat.zero_add _)) (Nat.le_of_eq (Nat.zero_add _)) (sA) (fun K hK => ?_)
        refine j_if_ne (tgt := 27) dX6_readCondition_22 rfl (by first | omega | (split <;> omega)) (fun c_22 => by exact absurd c_22 (by decide)) (fun c_22 => ?_)
        refine j_iconst dX6_readCondition_25 ?_
        refine j_zret dX6_readCondition_26 rfl (by omega) ?_
        exact rEI_of rfl (pCl_fr hK hf)
      · rw [pThen_t g1]
        rw [g1] at sA
        obtain ⟨q1, hq1⟩ : ∃ x, S.2.1 = x := ⟨_, rfl⟩
        obtain ⟨m1, hm1⟩ : ∃ x, S.2.2.1 = x := ⟨_, rfl⟩
        obtain ⟨w1, hw1⟩ : ∃ x, S.2.2.2 = x := ⟨_, rfl⟩
        rw [hq1, hm1, hw1]
        rw [hq1] at g2 g3 g5
        rw [hm1] at g4 g5
        have hS2 : ∀ K, pCl J B n S K → Tx K B n q1 ∧ LrC K m1 w1 ∧ FrL I K := fun K h => ⟨by rw [← hq1]; exact h.1, by rw [← hm1, ← hw1]; exact h.2.1 g1, FrL_tr hf h.2.2⟩
        clear hS
        -- behind "or"
        have ors : ∀ (o m3 : Int) (w3 : Int → Int) (N : Nat → Int → Int), 0 ≤ m3 → m3 + 2 ≤ q1 → Tx N B n q1 → LrC N m3 w3 → FrL I N → jW G mX6_readCondition (d + 9) (rEI (pOrR B n A 401 q1 m3 w3).1 sh F (pCl I B n (pOrR B n A 401 q1 m3 w3))) 61 [some (jR (some 156)), some (jR (some 154)), some (jI deep), some (jI 0), some (jI o), some (jI z)] [] (sh, N, F) 0 0 := by
          intro o m3 w3 N h30 h3q hTN hLN hfN
          rw [pOrR_u hA (by omega) g3 t8.2]
          have sW := st_isWord (G := G) (d := d + 4) (F := F) hsh hfx hTN (t := 24) (by decide)
          by_cases e : vWd B n q1 24
          · have ht := wd_s g3 e
            rw [if_pos e] at sW
            rw [if_pos e, ← cHd_01]
            refine j_aload_n dX6_readCondition_61 rfl ?_
            refine j_ldcS dX6_readCondition_62 (t := 24) (by decide +kernel) ?_
            refine r_cv1I dX6_readCondition_64 cvX6_58 (by decide) (by first | assumption | exact hsh _ _ rfl) (Nat.le_of_ble_eq_true rfl) (Nat.le_of_eq (Nat.zero_add _)) (Nat.le_of_eq (Nat.zero_add _)) (sW) ?_
            refine j_istore dX6_readCondition_67 (by decide) ?_
            refine j_iload_n dX6_readCondition_69 rfl ?_
            refine j_if_ne (tgt := 80) dX6_readCondition_70 rfl (by first | omega | (split <;> omega)) (fun c_70 => by exact absurd rfl c_70) (fun c_70 => ?_)
            refine j_iload dX6_readCondition_73 rfl ?_
            refine j_if_ne (tgt := 80) dX6_readCondition_75 rfl (by first | omega | (split <;> omega)) (fun c_75 => ?_) (fun c_75 => by exact absurd (by decide) c_75)
            refine j_aload_n dX6_readCondition_80 rfl ?_
            refine r_cv0EV dX6_readCondition_81 cvX6_64 (by decide) (by first | assumption | exact hsh _ _ rfl) (Nat.le_of_ble_eq_true rfl) (Nat.le_of_eq (Nat.zero_add _)) (Nat.le_of_eq (Nat.zero_add _)) (st_next hsh hfx hTN) (fun P hP => ?_)
            refine j_iinc dX6_readCondition_84 rfl (by decide) ?_
            refine j_goto (tgt := 8) dX6_readCondition_87 rfl ?_
            exact ih (z + 1) 0 1 (tkN B n q1) m3 w3 P (by omega) (Or.inl rfl) (Or.inr rfl) (by omega) (by omega) h30 (by omega) hP.1 (LrC_154 hLN hP.2) (FrL_tr hfN (FrL_154 hP.2))
          · rw [if_neg e] at sW
            rw [if_neg e]
            refine j_aload_n dX6_readCondition_61 rfl ?_
            refine j_ldcS dX6_readCondition_62 (t := 24) (by decide +kernel) ?_
            refine r_cv1I dX6_readCondition_64 cvX6_58 (by decide) (by first | assumption | exact hsh _ _ rfl) (Nat.le_of_ble_eq_true rfl) (Nat.le_of_eq (Nat.zero_add _)) (Nat.le_of_eq (Nat.zero_add _)) (sW) ?_
            refine j_istore dX6_readCondition_67 (by decide) ?_
            refine j_iload_n dX6_readCondition_69 rfl ?_
            refine j_if_ne (tgt := 80) dX6_readCondition_70 rfl (by first | omega | (split <;> omega)) (fun c_70 => by exact absurd rfl c_70) (fun c_70 => ?_)
            refine j_iload dX6_readCondition_73 rfl ?_
            refine j_if_ne (tgt := 80) dX6_readCondition_75 rfl (by first | omega | (split <;> omega)) (fun c_75 => by exact absurd rfl c_75) (fun c_75 => ?_)
            refine j_iconst dX6_readCondition_78 ?_
            refine j_zret dX6_readCondition_79 rfl (by omega) ?_
            exact rEI_of rfl (pCl_1 hTN hLN hfN)
        -- behind "and"
        have mid : ∀ (m2 : Int) (w2 : Int → Int) (K : Nat → Int → Int), 0 ≤ m2 → m2 + 2 + o ≤ q1 → Tx K B n q1 → LrC K m2 w2 → FrL I K → jW G mX6_readCondition (d + 9) (rEI (cJn B n A o q1 m2 w2).1 sh F (pCl I B n (cJn B n A o q1 m2 w2))) 38 [some (jR (some 156)), some (jR (some 154)), some (jI deep), some (jI a), some (jI o), some (jI z)] [] (sh, K, F) 0 0 := by
          intro m2 w2 K h20 h2q hTK hLK hfK
          have hC : cJn B n A o q1 m2 w2 = pThen (pAllR B n A 401 q1 m2 w2) (cOr B n A o) := rfl
          rw [hC, pAllR_u hA (by omega) g3 t8.2]
          have sW := st_isWord (G := G) (d := d + 4) (F := F) hsh hfx hTK (t := 23) (by decide)
          by_cases e : vWd B n q1 23
          · have ht := wd_s g3 e
            rw [if_pos e] at sW
            rw [if_pos e, ← cHd_1]
            refine j_aload_n dX6_readCondition_38 rfl ?_
            refine j_ldcS dX6_readCondition_39 (t := 23) (by decide +kernel) ?_
            refine r_cv1I dX6_readCondition_41 cvX6_58 (by decide) (by first | assumption | exact hsh _ _ rfl) (Nat.le_of_ble_eq_true rfl) (Nat.le_of_eq (Nat.zero_add _)) (Nat.le_of_eq (Nat.zero_add _)) (sW) ?_
            refine j_istore_n dX6_readCondition_44 (by decide) ?_
            refine j_iload_n dX6_readCondition_45 rfl ?_
            refine j_if_ne (tgt := 69) dX6_readCondition_46 rfl (by first | omega | (split <;> omega)) (fun c_46 => ?_) (fun c_46 => by exact absurd (by decide) c_46)
            refine j_iload_n dX6_readCondition_69 rfl ?_
            refine j_if_ne (tgt := 80) dX6_readCondition_70 rfl (by first | omega | (split <;> omega)) (fun c_70 => ?_) (fun c_70 => by exact absurd (by decide) c_70)
            refine j_aload_n dX6_readCondition_80 rfl ?_
            refine r_cv0EV dX6_readCondition_81 cvX6_64 (by decide) (by first | assumption | exact hsh _ _ rfl) (Nat.le_of_ble_eq_true rfl) (Nat.le_of_eq (Nat.zero_add _)) (Nat.le_of_eq (Nat.zero_add _)) (st_next hsh hfx hTK) (fun P hP => ?_)
            refine j_iinc dX6_readCondition_84 rfl (by decide) ?_
            refine j_goto (tgt := 8) dX6_readCondition_87 rfl ?_
            exact ih (z + 1) 1 o (tkN B n q1) m2 w2 P (by omega) (Or.inr rfl) ho (by omega) (by omega) h20 (by omega) hP.1 (LrC_154 hLK hP.2) (FrL_tr hfK (FrL_154 hP.2))
          · rw [if_neg e] at sW
            rw [if_neg e, pThen_1]
            rcases ho with rfl | rfl
            · have hO : cOr B n A 0 q1 m2 w2 = pOrR B n A 401 q1 m2 w2 := rfl
              rw [hO]
              refine j_aload_n dX6_readCondition_38 rfl ?_
              refine j_ldcS dX6_readCondition_39 (t := 23) (by decide +kernel) ?_
              refine r_cv1I dX6_readCondition_41 cvX6_58 (by decide) (by first | assumption | exact hsh _ _ rfl) (Nat.le_of_ble_eq_true rfl) (Nat.le_of_eq (Nat.zero_add _)) (Nat.le_of_eq (Nat.zero_add _)) (sW) ?_
              refine j_istore_n dX6_readCondition_44 (by decide) ?_
              refine j_iload_n dX6_readCondition_45 rfl ?_
              refine j_if_ne (tgt := 69) dX6_readCondition_46 rfl (by first | omega | (split <;> omega)) (fun c_46 => by exact absurd rfl c_46) (fun c_46 => ?_)
              refine j_iload dX6_readCondition_49 rfl ?_
              refine j_if_eq (tgt := 61) dX6_readCondition_51 rfl (by first | omega | (split <;> omega)) (fun c_51 => ?_) (fun c_51 => by exact absurd rfl c_51)
              exact ors 0 m2 w2 K h20 (by omega) hTK hLK hfK
            · have hO : cOr B n A 1 q1 m2 w2 = pOrR B n A 401 q1 (m2 + 1) (pE w2 m2 13 0) := rfl
              rw [hO]
              have sE := sl_emit (G := G) (d := d + 8) (F := F) hsh hfx hLK hTK ⟨h20, by omega⟩ (st := 13) (a := 0) (x := 1011) rfl (by decide)
              refine j_aload_n dX6_readCondition_38 rfl ?_
              refine j_ldcS dX6_readCondition_39 (t := 23) (by decide +kernel) ?_
              refine r_cv1I dX6_readCondition_41 cvX6_58 (by decide) (by first | assumption | exact hsh _ _ rfl) (Nat.le_of_ble_eq_true rfl) (Nat.le_of_eq (Nat.zero_add _)) (Nat.le_of_eq (Nat.zero_add _)) (sW) ?_
              refine j_istore_n dX6_readCondition_44 (by decide) ?_
              refine j_iload_n dX6_readCondition_45 rfl ?_
              refine j_if_ne (tgt := 69) dX6_readCondition_46 rfl (by first | omega | (split <;> omega)) (fun c_46 => by exact absurd rfl c_46) (fun c_46 => ?_)
              refine j_iload dX6_readCondition_49 rfl ?_
              refine j_if_eq (tgt := 61) dX6_readCondition_51 rfl (by first | omega | (split <;> omega)) (fun c_51 => by exact absurd c_51 (by decide)) (fun c_51 => ?_)
              refine j_aload_n dX6_readCondition_54 rfl ?_
              refine j_sipush dX6_readCondition_55 (by decide) ?_
              refine r_cv1EV dX6_readCondition_58 cvX6_85 (by decide) (by first | assumption | exact hsh _ _ rfl) (Nat.le_of_ble_eq_true rfl) (Nat.le_of_eq (Nat.zero_add _)) (Nat.le_of_eq (Nat.zero_add _)) (sE) (fun P hP => ?_)
              exact ors 1 (m2 + 1) (pE w2 m2 13 0) P (by omega) (by omega) hP.1 hP.2.1 (FrL_tr hfK hP.2.2)
        rcases ha with rfl | rfl
        · rw [if_neg (by decide)]
          refine j_iload dX6_readCondition_8 rfl ?_
          refine j_sipush dX6_readCondition_10 (by decide) ?_
          refine j_icmp_ge (tgt := 90) dX6_readCondition_13 rfl (by first | omega | (split <;> omega)) (by first | omega | (split <;> omega)) (fun c_13 => by exact absurd c_13 (by omega)) (fun c_13 => ?_)
          refine j_aload_n dX6_readCondition_16 rfl ?_
          refine j_aload_n dX6_readCondition_17 rfl ?_
          refine j_iload_n dX6_readCondition_18 rfl ?_
          refine r_cv2EI dX6_readCondition_19 cvX6_82 (by decide) (by first | assumption | exact hsh _ _ rfl) (Nat.le_of_ble_eq_true rfl) (Nat.le_of_eq (Nat.zero_add _)) (Nat.le_of_eq (Nat.zero_add _)) (sA) (fun K hK => ?_)
          have hK2 := hS2 K hK
          refine j_if_ne (tgt := 27) dX6_readCondition_22 rfl (by first | omega | (split <;> omega)) (fun c_22 => ?_) (fun c_22 => by exact absurd c_22 (by decide))
          refine j_iload_n dX6_readCondition_27 rfl ?_
          refine j_if_eq (tgt := 38) dX6_readCondition_28 rfl (by first | omega | (split <;> omega)) (fun c_28 => ?_) (fun c_28 => by exact absurd rfl c_28)
          exact mid m1 w1 K (by omega) (by omega) hK2.1 hK2.2.1 hK2.2.2
        · rw [if_pos rfl]
          refine j_iload dX6_readCondition_8 rfl ?_
          refine j_sipush dX6_readCondition_10 (by decide) ?_
          refine j_icmp_ge (tgt := 90) dX6_readCondition_13 rfl (by first | omega | (split <;> omega)) (by first | omega | (split <;> omega)) (fun c_13 => by exact absurd c_13 (by omega)) (fun c_13 => ?_)
          refine j_aload_n dX6_readCondition_16 rfl ?_
          refine j_aload_n dX6_readCondition_17 rfl ?_
          refine j_iload_n dX6_readCondition_18 rfl ?_
          refine r_cv2EI dX6_readCondition_19 cvX6_82 (by decide) (by first | assumption | exact hsh _ _ rfl) (Nat.le_of_ble_eq_true rfl) (Nat.le_of_eq (Nat.zero_add _)) (Nat.le_of_eq (Nat.zero_add _)) (sA) (fun K hK => ?_)
          have hK2 := hS2 K hK
          have sE := sl_emit (G := G) (d := d + 8) (F := F) hsh hfx hK2.2.1 hK2.1 ⟨by omega, by omega⟩ (st := 12) (a := 0) (x := 1010) rfl (by decide)
          refine j_if_ne (tgt := 27) dX6_readCondition_22 rfl (by first | omega | (split <;> omega)) (fun c_22 => ?_) (fun c_22 => by exact absurd c_22 (by decide))
          refine j_iload_n dX6_readCondition_27 rfl ?_
          refine j_if_eq (tgt := 38) dX6_readCondition_28 rfl (by first | omega | (split <;> omega)) (fun c_28 => by exact absurd c_28 (by decide)) (fun c_28 => ?_)
          refine j_aload_n dX6_readCondition_31 rfl ?_
          refine j_sipush dX6_readCondition_32 (by decide) ?_
          refine r_cv1EV dX6_readCondition_35 cvX6_85 (by decide) (by first | assumption | exact hsh _ _ rfl) (Nat.le_of_ble_eq_true rfl) (Nat.le_of_eq (Nat.zero_add _)) (Nat.le_of_eq (Nat.zero_add _)) (sE) (fun P hP => ?_)
          exact mid (m1 + 1) (pE w1 m1 12 0) P (by omega) (by omega) hP.1 hP.2.1 (FrL_tr hK2.2.2 hP.2.2)
  have t8 := hT.2.2.2.2.2.2.2
  have k0 := key 401 0 0 0 q m w I (by omega) (Or.inl rfl) (Or.inl rfl) (by omega) (by omega) hm.1 (by omega) hT hL FrL_0
  rw [cHd_00] at k0
  refine j_iconst dX6_readCondition_0 ?_
  refine j_istore_n dX6_readCondition_1 (by decide) ?_
  refine j_iconst dX6_readCondition_2 ?_
  refine j_istore dX6_readCondition_3 (by decide) ?_
  refine j_iconst dX6_readCondition_5 ?_
  refine j_istore dX6_readCondition_6 (by decide) ?_
  exact k0
theorem sl_denied {c : Nat} {deep : Int} (hsh : ShOK sh) (hfx : FxOK F) (hA : aGd n c A) (hS : ∀ (J : Nat → Int → Int) (q m : Int) (w : Int → Int), Tx J B n q → LrC J m w → 0 ≤ m → m + 2 ≤ q → jS G (d + 8) mX6_readAtom [jR (some 156), jR (some 154), jI deep] (sh, J, F) 0 0 (rEI (A q m w).1 sh F (pCl J B n (A q m w)))) (hT : Tx I B n q) (hL : LrC I m w) (hm : 0 ≤ m ∧ m + 2 ≤ q) : jS G (d + 9) mX6_readDenied [jR (some 156), jR (some 154), jI deep] (sh, I, F) 0 0 (rEI (pThen (A q m w) (fun q1 m1 w1 => ((1, q1, m1 + 1, pE w1 m1 11 0) : pR))).1 sh F (pCl I B n (pThen (A q m w) (fun q1 m1 w1 => (1, q1, m1 + 1, pE w1 m1 11 0))))) := by
  have t8 := hT.2.2.2.2.2.2.2
  have hg := hA q m w t8.1.2
  have sA := hS I q m w hT hL hm.1 hm.2
  refine jS_go [some (jR (some 156)), some (jR (some 154)), some (jI deep)] (by decide +kernel) rfl (by simp [jone]) (Nat.le_of_ble_eq_true rfl) rfl (fun hok => ?_)
  generalize A q m w = S at *
  rcases hg with g | ⟨g1, g2, g3, g4, g5, -⟩
  · rw [pThen_f g.1]
    rw [g.1] at sA ⊢
    refine j_aload_n dX6_readDenied_0 rfl ?_
    refine j_aload_n dX6_readDenied_1 rfl ?_
    refine j_iload_n dX6_readDenied_2 rfl ?_
    refine r_cv2EI dX6_readDenied_3 cvX6_82 (by decide) (by first | assumption | exact hsh _ _ rfl) (Nat.le_of_ble_eq_true rfl) (Nat.le_of_eq (Nat.zero_add _)) (Nat.le_of_eq (Nat.zero_add _)) (sA) (fun K hK => ?_)
    refine j_if_ne (tgt := 11) dX6_readDenied_6 rfl (by first | omega | (split <;> omega)) (fun c_6 => by exact absurd c_6 (by decide)) (fun c_6 => ?_)
    refine j_iconst dX6_readDenied_9 ?_
    refine j_zret dX6_readDenied_10 rfl (by omega) ?_
    exact rEI_of rfl hK
  · rw [pThen_t g1]
    rw [g1] at sA
    have sE := fun (K : Nat → Int → Int) (h : pCl I B n S K) => sl_emit (G := G) (d := d + 8) (F := F) hsh hfx (h.2.1 g1) h.1 ⟨by omega, by omega⟩ (st := 11) (a := 0) (x := 1012) rfl (by decide)
    refine j_aload_n dX6_readDenied_0 rfl ?_
    refine j_aload_n dX6_readDenied_1 rfl ?_
    refine j_iload_n dX6_readDenied_2 rfl ?_
    refine r_cv2EI dX6_readDenied_3 cvX6_82 (by decide) (by first | assumption | exact hsh _ _ rfl) (Nat.le_of_ble_eq_true rfl) (Nat.le_of_eq (Nat.zero_add _)) (Nat.le_of_eq (Nat.zero_add _)) (sA) (fun K hK => ?_)
    refine j_if_ne (tgt := 11) dX6_readDenied_6 rfl (by first | omega | (split <;> omega)) (fun c_6 => ?_) (fun c_6 => by exact absurd c_6 (by decide))
    refine j_aload_n dX6_readDenied_11 rfl ?_
    refine j_sipush dX6_readDenied_12 (by decide) ?_
    refine r_cv1EV dX6_readDenied_15 cvX6_85 (by decide) (by first | assumption | exact hsh _ _ rfl) (Nat.le_of_ble_eq_true rfl) (Nat.le_of_eq (Nat.zero_add _)) (Nat.le_of_eq (Nat.zero_add _)) (sE K hK) (fun P hP => ?_)
    refine j_iconst dX6_readDenied_18 ?_
    refine j_zret dX6_readDenied_19 rfl (by omega) ?_
    exact rEI_of rfl (pCl_1 hP.1 hP.2.1 (FrL_tr hK.2.2 hP.2.2))
/-- what is no "not" and no "(" -/
theorem sl_tag (hsh : ShOK sh) (hfx : FxOK F) (hT : Tx I B n q) (hL : LrC I m w) (hm : 0 ≤ m ∧ m + 2 ≤ q) {o1 o2 o3 o4 : Option jzV} : jW G mX6_readAtom (d + 8) (rEI (pTag B n q m w).1 sh F (pCl I B n (pTag B n q m w))) 73 [some (jR (some 156)), some (jR (some 154)), o1, o2, o3, o4] [] (sh, I, F) 0 0 := by
  have t8 := hT.2.2.2.2.2.2.2
  have hR : pTag B n q m w = if vWd B n q 19 then (1, tkN B n q, m + 1, pE w m 5 0) else if vWd B n q 20 then (1, tkN B n q, m + 1, pE w m 6 0) else pCmp B n q m w := rfl
  rw [hR]
  by_cases e : vWd B n q 19
  · rw [if_pos e]
    have ht := wd_s t8.1.2 e
    have s1 := st_takesWord1 (G := G) (d := d + 2) (F := F) hsh hfx hT (t := 19) (by decide) e
    have sE := fun (K : Nat → Int → Int) (h : Tx K B n (tkN B n q)) (h2 : LrC K m w) => sl_emit (G := G) (d := d + 7) (F := F) hsh hfx h2 h ⟨hm.1, by omega⟩ (st := 5) (a := 0) (x := 1005) rfl (by decide)
    refine j_aload_n dX6_readAtom_73 rfl ?_
    refine j_ldcS dX6_readAtom_74 (t := 19) (by decide +kernel) ?_
    refine r_cv1EI dX6_readAtom_76 cvX6_76 (by decide) (by first | assumption | exact hsh _ _ rfl) (Nat.le_of_ble_eq_true rfl) (Nat.le_of_eq (Nat.zero_add _)) (Nat.le_of_eq (Nat.zero_add _)) (s1) (fun K hK => ?_)
    refine j_if_eq (tgt := 91) dX6_readAtom_79 rfl (by first | omega | (split <;> omega)) (fun c_79 => by exact absurd c_79 (by decide)) (fun c_79 => ?_)
    refine j_aload_n dX6_readAtom_82 rfl ?_
    refine j_sipush dX6_readAtom_83 (by decide) ?_
    refine r_cv1EV dX6_readAtom_86 cvX6_85 (by decide) (by first | assumption | exact hsh _ _ rfl) (Nat.le_of_ble_eq_true rfl) (Nat.le_of_eq (Nat.zero_add _)) (Nat.le_of_eq (Nat.zero_add _)) (sE K hK.1 (LrC_154 hL hK.2)) (fun P hP => ?_)
    refine j_iconst dX6_readAtom_89 ?_
    refine j_zret dX6_readAtom_90 rfl (by omega) ?_
    exact rEI_of rfl (pCl_1 hP.1 hP.2.1 (FrL_tr (FrL_154 hK.2) hP.2.2))
  · rw [if_neg e]
    have s1 := st_takesWord0 (G := G) (d := d + 2) (F := F) hsh hfx hT (t := 19) (by decide) e
    by_cases e2 : vWd B n q 20
    · rw [if_pos e2]
      have ht := wd_s t8.1.2 e2
      have s2 := st_takesWord1 (G := G) (d := d + 2) (F := F) hsh hfx hT (t := 20) (by decide) e2
      have sE := fun (K : Nat → Int → Int) (h : Tx K B n (tkN B n q)) (h2 : LrC K m w) => sl_emit (G := G) (d := d + 7) (F := F) hsh hfx h2 h ⟨hm.1, by omega⟩ (st := 6) (a := 0) (x := 1006) rfl (by decide)
      refine j_aload_n dX6_readAtom_73 rfl ?_
      refine j_ldcS dX6_readAtom_74 (t := 19) (by decide +kernel) ?_
      refine r_cv1I dX6_readAtom_76 cvX6_76 (by decide) (by first | assumption | exact hsh _ _ rfl) (Nat.le_of_ble_eq_true rfl) (Nat.le_of_eq (Nat.zero_add _)) (Nat.le_of_eq (Nat.zero_add _)) (s1) ?_
      refine j_if_eq (tgt := 91) dX6_readAtom_79 rfl (by first | omega | (split <;> omega)) (fun c_79 => ?_) (fun c_79 => by exact absurd c_79 (by decide))
      refine j_aload_n dX6_readAtom_91 rfl ?_
      refine j_ldcS dX6_readAtom_92 (t := 20) (by decide +kernel) ?_
      refine r_cv1EI dX6_readAtom_94 cvX6_76 (by decide) (by first | assumption | exact hsh _ _ rfl) (Nat.le_of_ble_eq_true rfl) (Nat.le_of_eq (Nat.zero_add _)) (Nat.le_of_eq (Nat.zero_add _)) (s2) (fun K hK => ?_)
      refine j_if_eq (tgt := 109) dX6_readAtom_97 rfl (by first | omega | (split <;> omega)) (fun c_97 => by exact absurd c_97 (by decide)) (fun c_97 => ?_)
      refine j_aload_n dX6_readAtom_100 rfl ?_
      refine j_sipush dX6_readAtom_101 (by decide) ?_
      refine r_cv1EV dX6_readAtom_104 cvX6_85 (by decide) (by first | assumption | exact hsh _ _ rfl) (Nat.le_of_ble_eq_true rfl) (Nat.le_of_eq (Nat.zero_add _)) (Nat.le_of_eq (Nat.zero_add _)) (sE K hK.1 (LrC_154 hL hK.2)) (fun P hP => ?_)
      refine j_iconst dX6_readAtom_107 ?_
      refine j_zret dX6_readAtom_108 rfl (by omega) ?_
      exact rEI_of rfl (pCl_1 hP.1 hP.2.1 (FrL_tr (FrL_154 hK.2) hP.2.2))
    · rw [if_neg e2]
      have s2 := st_takesWord0 (G := G) (d := d + 2) (F := F) hsh hfx hT (t := 20) (by decide) e2
      refine j_aload_n dX6_readAtom_73 rfl ?_
      refine j_ldcS dX6_readAtom_74 (t := 19) (by decide +kernel) ?_
      refine r_cv1I dX6_readAtom_76 cvX6_76 (by decide) (by first | assumption | exact hsh _ _ rfl) (Nat.le_of_ble_eq_true rfl) (Nat.le_of_eq (Nat.zero_add _)) (Nat.le_of_eq (Nat.zero_add _)) (s1) ?_
      refine j_if_eq (tgt := 91) dX6_readAtom_79 rfl (by first | omega | (split <;> omega)) (fun c_79 => ?_) (fun c_79 => by exact absurd c_79 (by decide))
      refine j_aload_n dX6_readAtom_91 rfl ?_
      refine j_ldcS dX6_readAtom_92 (t := 20) (by decide +kernel) ?_
      refine r_cv1I dX6_readAtom_94 cvX6_76 (by decide) (by first | assumption | exact hsh _ _ rfl) (Nat.le_of_ble_eq_true rfl) (Nat.le_of_eq (Nat.zero_add _)) (Nat.le_of_eq (Nat.zero_add _)) (s2) ?_
      refine j_if_eq (tgt := 109) dX6_readAtom_97 rfl (by first | omega | (split <;> omega)) (fun c_97 => ?_) (fun c_97 => by exact absurd c_97 (by decide))
      exact sl_cmp hsh hfx hT hL hm
theorem sg_wd {t : Nat} {x : Int} (h : vSg B n q x) : ¬ vWd B n q t := fun h2 => by have h3 := h.1; have h4 := h2.1; omega
theorem sl_atom (hsh : ShOK sh) (hfx : FxOK F) : ∀ (g D : Nat), 2 * g + 8 ≤ D → g ≤ 6 → ∀ (I : Nat → Int → Int) (q m : Int) (w : Int → Int), Tx I B n q → LrC I m w → 0 ≤ m → m + 2 ≤ q → jS G D mX6_readAtom [jR (some 156), jR (some 154), jI (6 - (g : Int))] (sh, I, F) 0 0 (rEI (pAtom B n g q m w).1 sh F (pCl I B n (pAtom B n g q m w))) := by
  intro g
  induction g with
  | zero =>
    intro D hD _ I q m w hT hL hm0 hmq
    obtain ⟨d, rfl⟩ : ∃ d, D = d + 8 := ⟨D - 8, by omega⟩
    have e6 : (6 - ((0 : Nat) : Int)) = 6 := rfl
    rw [e6]
    have hR : pAtom B n 0 q m w = if vSg B n q 40 ∨ vWd B n q 18 then (0, q, m, w) else pTag B n q m w := rfl
    rw [hR]
    have sW := st_isWord (G := G) (d := d + 3) (F := F) hsh hfx hT (t := 18) (by decide)
    have sS := st_isSign (G := G) (d := d + 7) (F := F) hsh hfx hT (c := 40) (by decide)
    refine jS_go [some (jR (some 156)), some (jR (some 154)), some (jI 6), none, none, none] (by decide +kernel) rfl (by simp [jone]) (Nat.le_of_ble_eq_true rfl) rfl (fun hok => ?_)
    by_cases e : vWd B n q 18
    · rw [if_pos (Or.inr e)]
      rw [if_pos e] at sW
      refine j_aload_n dX6_readAtom_0 rfl ?_
      refine j_ldcS dX6_readAtom_1 (t := 18) (by decide +kernel) ?_
      refine r_cv1I dX6_readAtom_3 cvX6_58 (by decide) (by first | assumption | exact hsh _ _ rfl) (Nat.le_of_ble_eq_true rfl) (Nat.le_of_eq (Nat.zero_add _)) (Nat.le_of_eq (Nat.zero_add _)) (sW) ?_
      refine j_istore_n dX6_readAtom_6 (by decide) ?_
      refine j_iload_n dX6_readAtom_7 rfl ?_
      refine j_if_ne (tgt := 20) dX6_readAtom_8 rfl (by first | omega | (split <;> omega)) (fun c_8 => ?_) (fun c_8 => by exact absurd (by decide) c_8)
      refine j_iload_n dX6_readAtom_20 rfl ?_
      refine j_bipush dX6_readAtom_21 (by decide) ?_
      refine j_icmp_lt (tgt := 28) dX6_readAtom_23 rfl (by first | omega | (split <;> omega)) (by first | omega | (split <;> omega)) (fun c_23 => by exact absurd c_23 (by decide)) (fun c_23 => ?_)
      refine j_iconst dX6_readAtom_26 ?_
      refine j_zret dX6_readAtom_27 rfl (by omega) ?_
      exact rEI_of rfl (pCl_0 hT FrL_0)
    · rw [if_neg e] at sW
      by_cases e2 : vSg B n q 40
      · rw [if_pos (Or.inl e2)]
        rw [if_pos e2] at sS
        refine j_aload_n dX6_readAtom_0 rfl ?_
        refine j_ldcS dX6_readAtom_1 (t := 18) (by decide +kernel) ?_
        refine r_cv1I dX6_readAtom_3 cvX6_58 (by decide) (by first | assumption | exact hsh _ _ rfl) (Nat.le_of_ble_eq_true rfl) (Nat.le_of_eq (Nat.zero_add _)) (Nat.le_of_eq (Nat.zero_add _)) (sW) ?_
        refine j_istore_n dX6_readAtom_6 (by decide) ?_
        refine j_iload_n dX6_readAtom_7 rfl ?_
        refine j_if_ne (tgt := 20) dX6_readAtom_8 rfl (by first | omega | (split <;> omega)) (fun c_8 => by exact absurd rfl c_8) (fun c_8 => ?_)
        refine j_aload_n dX6_readAtom_11 rfl ?_
        refine j_bipush dX6_readAtom_12 (by decide) ?_
        refine r_cv1I dX6_readAtom_14 cvX6_95 (by decide) (by first | assumption | exact hsh _ _ rfl) (Nat.le_of_ble_eq_true rfl) (Nat.le_of_eq (Nat.zero_add _)) (Nat.le_of_eq (Nat.zero_add _)) (sS) ?_
        refine j_if_eq (tgt := 73) dX6_readAtom_17 rfl (by first | omega | (split <;> omega)) (fun c_17 => by exact absurd c_17 (by decide)) (fun c_17 => ?_)
        refine j_iload_n dX6_readAtom_20 rfl ?_
        refine j_bipush dX6_readAtom_21 (by decide) ?_
        refine j_icmp_lt (tgt := 28) dX6_readAtom_23 rfl (by first | omega | (split <;> omega)) (by first | omega | (split <;> omega)) (fun c_23 => by exact absurd c_23 (by decide)) (fun c_23 => ?_)
        refine j_iconst dX6_readAtom_26 ?_
        refine j_zret dX6_readAtom_27 rfl (by omega) ?_
        exact rEI_of rfl (pCl_0 hT FrL_0)
      · rw [if_neg (fun h => h.elim e2 e)]
        rw [if_neg e2] at sS
        refine j_aload_n dX6_readAtom_0 rfl ?_
        refine j_ldcS dX6_readAtom_1 (t := 18) (by decide +kernel) ?_
        refine r_cv1I dX6_readAtom_3 cvX6_58 (by decide) (by first | assumption | exact hsh _ _ rfl) (Nat.le_of_ble_eq_true rfl) (Nat.le_of_eq (Nat.zero_add _)) (Nat.le_of_eq (Nat.zero_add _)) (sW) ?_
        refine j_istore_n dX6_readAtom_6 (by decide) ?_
        refine j_iload_n dX6_readAtom_7 rfl ?_
        refine j_if_ne (tgt := 20) dX6_readAtom_8 rfl (by first | omega | (split <;> omega)) (fun c_8 => by exact absurd rfl c_8) (fun c_8 => ?_)
        refine j_aload_n dX6_readAtom_11 rfl ?_
        refine j_bipush dX6_readAtom_12 (by decide) ?_
        refine r_cv1I dX6_readAtom_14 cvX6_95 (by decide) (by first | assumption | exact hsh _ _ rfl) (Nat.le_of_ble_eq_true rfl) (Nat.le_of_eq (Nat.zero_add _)) (Nat.le_of_eq (Nat.zero_add _)) (sS) ?_
        refine j_if_eq (tgt := 73) dX6_readAtom_17 rfl (by first | omega | (split <;> omega)) (fun c_17 => ?_) (fun c_17 => by exact absurd c_17 (by decide))
        exact sl_tag hsh hfx hT hL ⟨hm0, hmq⟩
  | succ g ih =>
    intro D hD hg I q m w hT hL hm0 hmq
    obtain ⟨d, rfl⟩ : ∃ d, D = d + 10 := ⟨D - 10, by omega⟩
    obtain ⟨deep, hd⟩ : ∃ x, (6 - ((g + 1 : Nat) : Int)) = x := ⟨_, rfl⟩
    have hd1 : deep + 1 = 6 - (g : Int) := by omega
    rw [hd]
    have t8 := hT.2.2.2.2.2.2.2
    have ihA := ih (d + 8) (by omega) (by omega)
    have hR : pAtom B n (g + 1) q m w = if vSg B n q 40 then pThen (pCond B n (pAtom B n g) (tkN B n q) m w) (fun q1 m1 w1 => if vSg B n q1 41 then (1, tkN B n q1, m1, w1) else (0, q1, m1, w1)) else if vWd B n q 18 then pThen (pAtom B n g (tkN B n q) m w) (fun q1 m1 w1 => (1, q1, m1 + 1, pE w1 m1 11 0)) else pTag B n q m w := rfl
    rw [hR]
    have hAg := pAtom_g (B := B) (n := n) g
    have sW := st_isWord (G := G) (d := d + 5) (F := F) hsh hfx hT (t := 18) (by decide)
    have sS := st_isSign (G := G) (d := d + 9) (F := F) hsh hfx hT (c := 40) (by decide)
    refine jS_go [some (jR (some 156)), some (jR (some 154)), some (jI deep), none, none, none] (by decide +kernel) rfl (by simp [jone]) (Nat.le_of_ble_eq_true rfl) rfl (fun hok => ?_)
    by_cases e2 : vSg B n q 40
    · rw [if_pos e2]
      have ht := sg_s t8.1.2 e2
      rw [if_neg (sg_wd e2)] at sW
      rw [if_pos e2] at sS
      have sC := fun (J : Nat → Int → Int) (h1 : Tx J B n (tkN B n q)) (h2 : LrC J m w) => sl_cond (G := G) (d := d) (F := F) (deep := 6 - (g : Int)) hsh hfx hAg ihA h1 h2 ⟨hm0, by omega⟩
      have hcg := pCond_g (B := B) hAg (m := m) (w := w) ht.2
      generalize pCond B n (pAtom B n g) (tkN B n q) m w = S at *
      rcases hcg with g0 | ⟨g1, g2, g3, g4, g5, -⟩
      · rw [pThen_f g0.1]
        rw [g0.1] at sC ⊢
        refine j_aload_n dX6_readAtom_0 rfl ?_
        refine j_ldcS dX6_readAtom_1 (t := 18) (by decide +kernel) ?_
        refine r_cv1I dX6_readAtom_3 cvX6_58 (by decide) (by first | assumption | exact hsh _ _ rfl) (Nat.le_of_ble_eq_true rfl) (Nat.le_of_eq (Nat.zero_add _)) (Nat.le_of_eq (Nat.zero_add _)) (sW) ?_
        refine j_istore_n dX6_readAtom_6 (by decide) ?_
        refine j_iload_n dX6_readAtom_7 rfl ?_
        refine j_if_ne (tgt := 20) dX6_readAtom_8 rfl (by first | omega | (split <;> omega)) (fun c_8 => by exact absurd rfl c_8) (fun c_8 => ?_)
        refine j_aload_n dX6_readAtom_11 rfl ?_
        refine j_bipush dX6_readAtom_12 (by decide) ?_
        refine r_cv1I dX6_readAtom_14 cvX6_95 (by decide) (by first | assumption | exact hsh _ _ rfl) (Nat.le_of_ble_eq_true rfl) (Nat.le_of_eq (Nat.zero_add _)) (Nat.le_of_eq (Nat.zero_add _)) (sS) ?_
        refine j_if_eq (tgt := 73) dX6_readAtom_17 rfl (by first | omega | (split <;> omega)) (fun c_17 => by exact absurd c_17 (by decide)) (fun c_17 => ?_)
        refine j_iload_n dX6_readAtom_20 rfl ?_
        refine j_bipush dX6_readAtom_21 (by decide) ?_
        refine j_icmp_lt (tgt := 28) dX6_readAtom_23 rfl (by first | omega | (split <;> omega)) (by first | omega | (split <;> omega)) (fun c_23 => ?_) (fun c_23 => by exact absurd (by omega) c_23)
        refine j_aload_n dX6_readAtom_28 rfl ?_
        refine r_cv0EV dX6_readAtom_29 cvX6_64 (by decide) (by first | assumption | exact hsh _ _ rfl) (Nat.le_of_ble_eq_true rfl) (Nat.le_of_eq (Nat.zero_add _)) (Nat.le_of_eq (Nat.zero_add _)) (st_next hsh hfx hT) (fun J hJ => ?_)
        refine j_iload_n dX6_readAtom_32 rfl ?_
        refine j_if_eq (tgt := 47) dX6_readAtom_33 rfl (by first | omega | (split <;> omega)) (fun c_33 => ?_) (fun c_33 => by exact absurd rfl c_33)
        refine j_aload_n dX6_readAtom_47 rfl ?_
        refine j_aload_n dX6_readAtom_48 rfl ?_
        refine j_iload_n dX6_readAtom_49 rfl ?_
        refine j_iconst dX6_readAtom_50 ?_
        refine j_iadd dX6_readAtom_51 ?_
        rw [hd1]
        refine r_cv2EI dX6_readAtom_52 cvX6_79 (by decide) (by first | assumption | exact hsh _ _ rfl) (Nat.le_of_ble_eq_true rfl) (Nat.le_of_eq (Nat.zero_add _)) (Nat.le_of_eq (Nat.zero_add _)) (sC J hJ.1 (LrC_154 hL hJ.2)) (fun K hK => ?_)
        refine j_if_eq (tgt := 71) dX6_readAtom_55 rfl (by first | omega | (split <;> omega)) (fun c_55 => ?_) (fun c_55 => by exact absurd c_55 (by decide))
        refine j_iconst dX6_readAtom_71 ?_
        refine j_zret dX6_readAtom_72 rfl (by omega) ?_
        exact rEI_of rfl (pCl_fr hK (FrL_154 hJ.2))
      · rw [pThen_t g1]
        rw [g1] at sC
        by_cases e3 : vSg B n S.2.1 41
        · rw [if_pos e3]
          have s3 := fun (K : Nat → Int → Int) (h : Tx K B n S.2.1) => st_takesSign1 (G := G) (d := d + 4) (F := F) hsh hfx h (c := 41) (by decide) e3
          refine j_aload_n dX6_readAtom_0 rfl ?_
          refine j_ldcS dX6_readAtom_1 (t := 18) (by decide +kernel) ?_
          refine r_cv1I dX6_readAtom_3 cvX6_58 (by decide) (by first | assumption | exact hsh _ _ rfl) (Nat.le_of_ble_eq_true rfl) (Nat.le_of_eq (Nat.zero_add _)) (Nat.le_of_eq (Nat.zero_add _)) (sW) ?_
          refine j_istore_n dX6_readAtom_6 (by decide) ?_
          refine j_iload_n dX6_readAtom_7 rfl ?_
          refine j_if_ne (tgt := 20) dX6_readAtom_8 rfl (by first | omega | (split <;> omega)) (fun c_8 => by exact absurd rfl c_8) (fun c_8 => ?_)
          refine j_aload_n dX6_readAtom_11 rfl ?_
          refine j_bipush dX6_readAtom_12 (by decide) ?_
          refine r_cv1I dX6_readAtom_14 cvX6_95 (by decide) (by first | assumption | exact hsh _ _ rfl) (Nat.le_of_ble_eq_true rfl) (Nat.le_of_eq (Nat.zero_add _)) (Nat.le_of_eq (Nat.zero_add _)) (sS) ?_
          refine j_if_eq (tgt := 73) dX6_readAtom_17 rfl (by first | omega | (split <;> omega)) (fun c_17 => by exact absurd c_17 (by decide)) (fun c_17 => ?_)
          refine j_iload_n dX6_readAtom_20 rfl ?_
          refine j_bipush dX6_readAtom_21 (by decide) ?_
          refine j_icmp_lt (tgt := 28) dX6_readAtom_23 rfl (by first | omega | (split <;> omega)) (by first | omega | (split <;> omega)) (fun c_23 => ?_) (fun c_23 => by exact absurd (by omega) c_23)
          refine j_aload_n dX6_readAtom_28 rfl ?_
          refine r_cv0EV dX6_readAtom_29 cvX6_64 (by decide) (by first | assumption | exact hsh _ _ rfl) (Nat.le_of_ble_eq_true rfl) (Nat.le_of_eq (Nat.zero_add _)) (Nat.le_of_eq (Nat.zero_add _)) (st_next hsh hfx hT) (fun J hJ => ?_)
          refine j_iload_n dX6_readAtom_32 rfl ?_
          refine j_if_eq (tgt := 47) dX6_readAtom_33 rfl (by first | omega | (split <;> omega)) (fun c_33 => ?_) (fun c_33 => by exact absurd rfl c_33)
          refine j_aload_n dX6_readAtom_47 rfl ?_
          refine j_aload_n dX6_readAtom_48 rfl ?_
          refine j_iload_n dX6_readAtom_49 rfl ?_
          refine j_iconst dX6_readAtom_50 ?_
          refine j_iadd dX6_readAtom_51 ?_
          rw [hd1]
          refine r_cv2EI dX6_readAtom_52 cvX6_79 (by decide) (by first | assumption | exact hsh _ _ rfl) (Nat.le_of_ble_eq_true rfl) (Nat.le_of_eq (Nat.zero_add _)) (Nat.le_of_eq (Nat.zero_add _)) (sC J hJ.1 (LrC_154 hL hJ.2)) (fun K hK => ?_)
          refine j_if_eq (tgt := 71) dX6_readAtom_55 rfl (by first | omega | (split <;> omega)) (fun c_55 => by exact absurd c_55 (by decide)) (fun c_55 => ?_)
          refine j_aload_n dX6_readAtom_58 rfl ?_
          refine j_bipush dX6_readAtom_59 (by decide) ?_
          refine r_cv1EI dX6_readAtom_61 cvX6_41 (by decide) (by first | assumption | exact hsh _ _ rfl) (Nat.le_of_ble_eq_true rfl) (Nat.le_of_eq (Nat.zero_add _)) (Nat.le_of_eq (Nat.zero_add _)) (s3 K hK.1) (fun P hP => ?_)
          refine j_if_eq (tgt := 71) dX6_readAtom_64 rfl (by first | omega | (split <;> omega)) (fun c_64 => by exact absurd c_64 (by decide)) (fun c_64 => ?_)
          refine j_iconst dX6_readAtom_67 ?_
          refine j_goto (tgt := 72) dX6_readAtom_68 rfl ?_
          refine j_zret dX6_readAtom_72 rfl (by omega) ?_
          exact rEI_of rfl (pCl_1 hP.1 (LrC_154 (hK.2.1 g1) hP.2) (FrL_tr (FrL_tr (FrL_154 hJ.2) hK.2.2) (FrL_154 hP.2)))
        · rw [if_neg e3]
          have s3 := fun (K : Nat → Int → Int) (h : Tx K B n S.2.1) => st_takesSign0 (G := G) (d := d + 4) (F := F) hsh hfx h (c := 41) (by decide) e3
          refine j_aload_n dX6_readAtom_0 rfl ?_
          refine j_ldcS dX6_readAtom_1 (t := 18) (by decide +kernel) ?_
          refine r_cv1I dX6_readAtom_3 cvX6_58 (by decide) (by first | assumption | exact hsh _ _ rfl) (Nat.le_of_ble_eq_true rfl) (Nat.le_of_eq (Nat.zero_add _)) (Nat.le_of_eq (Nat.zero_add _)) (sW) ?_
          refine j_istore_n dX6_readAtom_6 (by decide) ?_
          refine j_iload_n dX6_readAtom_7 rfl ?_
          refine j_if_ne (tgt := 20) dX6_readAtom_8 rfl (by first | omega | (split <;> omega)) (fun c_8 => by exact absurd rfl c_8) (fun c_8 => ?_)
          refine j_aload_n dX6_readAtom_11 rfl ?_
          refine j_bipush dX6_readAtom_12 (by decide) ?_
          refine r_cv1I dX6_readAtom_14 cvX6_95 (by decide) (by first | assumption | exact hsh _ _ rfl) (Nat.le_of_ble_eq_true rfl) (Nat.le_of_eq (Nat.zero_add _)) (Nat.le_of_eq (Nat.zero_add _)) (sS) ?_
          refine j_if_eq (tgt := 73) dX6_readAtom_17 rfl (by first | omega | (split <;> omega)) (fun c_17 => by exact absurd c_17 (by decide)) (fun c_17 => ?_)
          refine j_iload_n dX6_readAtom_20 rfl ?_
          refine j_bipush dX6_readAtom_21 (by decide) ?_
          refine j_icmp_lt (tgt := 28) dX6_readAtom_23 rfl (by first | omega | (split <;> omega)) (by first | omega | (split <;> omega)) (fun c_23 => ?_) (fun c_23 => by exact absurd (by omega) c_23)
          refine j_aload_n dX6_readAtom_28 rfl ?_
          refine r_cv0EV dX6_readAtom_29 cvX6_64 (by decide) (by first | assumption | exact hsh _ _ rfl) (Nat.le_of_ble_eq_true rfl) (Nat.le_of_eq (Nat.zero_add _)) (Nat.le_of_eq (Nat.zero_add _)) (st_next hsh hfx hT) (fun J hJ => ?_)
          refine j_iload_n dX6_readAtom_32 rfl ?_
          refine j_if_eq (tgt := 47) dX6_readAtom_33 rfl (by first | omega | (split <;> omega)) (fun c_33 => ?_) (fun c_33 => by exact absurd rfl c_33)
          refine j_aload_n dX6_readAtom_47 rfl ?_
          refine j_aload_n dX6_readAtom_48 rfl ?_
          refine j_iload_n dX6_readAtom_49 rfl ?_
          refine j_iconst dX6_readAtom_50 ?_
          refine j_iadd dX6_readAtom_51 ?_
          rw [hd1]
          refine r_cv2EI dX6_readAtom_52 cvX6_79 (by decide) (by first | assumption | exact hsh _ _ rfl) (Nat.le_of_ble_eq_true rfl) (Nat.le_of_eq (Nat.zero_add _)) (Nat.le_of_eq (Nat.zero_add _)) (sC J hJ.1 (LrC_154 hL hJ.2)) (fun K hK => ?_)
          refine j_if_eq (tgt := 71) dX6_readAtom_55 rfl (by first | omega | (split <;> omega)) (fun c_55 => by exact absurd c_55 (by decide)) (fun c_55 => ?_)
          refine j_aload_n dX6_readAtom_58 rfl ?_
          refine j_bipush dX6_readAtom_59 (by decide) ?_
          refine r_cv1I dX6_readAtom_61 cvX6_41 (by decide) (by first | assumption | exact hsh _ _ rfl) (Nat.le_of_ble_eq_true rfl) (Nat.le_of_eq (Nat.zero_add _)) (Nat.le_of_eq (Nat.zero_add _)) (s3 K hK.1) ?_
          refine j_if_eq (tgt := 71) dX6_readAtom_64 rfl (by first | omega | (split <;> omega)) (fun c_64 => ?_) (fun c_64 => by exact absurd c_64 (by decide))
          refine j_iconst dX6_readAtom_71 ?_
          refine j_zret dX6_readAtom_72 rfl (by omega) ?_
          exact rEI_of rfl (pCl_0 hK.1 (FrL_tr (FrL_154 hJ.2) hK.2.2))
    · rw [if_neg e2]
      rw [if_neg e2] at sS
      by_cases e : vWd B n q 18
      · rw [if_pos e]
        have ht := wd_s t8.1.2 e
        rw [if_pos e] at sW
        have sD := fun (J : Nat → Int → Int) (h1 : Tx J B n (tkN B n q)) (h2 : LrC J m w) => sl_denied (G := G) (d := d) (F := F) (deep := 6 - (g : Int)) hsh hfx hAg ihA h1 h2 ⟨hm0, by omega⟩
        have h01 : (pThen (pAtom B n g (tkN B n q) m w) (fun q1 m1 w1 => ((1, q1, m1 + 1, pE w1 m1 11 0) : pR))).1 = 0 ∨ (pThen (pAtom B n g (tkN B n q) m w) (fun q1 m1 w1 => ((1, q1, m1 + 1, pE w1 m1 11 0) : pR))).1 = 1 := by
          rcases pGd_01 (hAg (tkN B n q) m w ht.2) with h | h
          · rw [pThen_f h]; exact Or.inl h
          · rw [pThen_t h]; exact Or.inr rfl
        generalize pThen (pAtom B n g (tkN B n q) m w) (fun q1 m1 w1 => ((1, q1, m1 + 1, pE w1 m1 11 0) : pR)) = S at *
        refine j_aload_n dX6_readAtom_0 rfl ?_
        refine j_ldcS dX6_readAtom_1 (t := 18) (by decide +kernel) ?_
        refine r_cv1I dX6_readAtom_3 cvX6_58 (by decide) (by first | assumption | exact hsh _ _ rfl) (Nat.le_of_ble_eq_true rfl) (Nat.le_of_eq (Nat.zero_add _)) (Nat.le_of_eq (Nat.zero_add _)) (sW) ?_
        refine j_istore_n dX6_readAtom_6 (by decide) ?_
        refine j_iload_n dX6_readAtom_7 rfl ?_
        refine j_if_ne (tgt := 20) dX6_readAtom_8 rfl (by first | omega | (split <;> omega)) (fun c_8 => ?_) (fun c_8 => by exact absurd (by decide) c_8)
        refine j_iload_n dX6_readAtom_20 rfl ?_
        refine j_bipush dX6_readAtom_21 (by decide) ?_
        refine j_icmp_lt (tgt := 28) dX6_readAtom_23 rfl (by first | omega | (split <;> omega)) (by first | omega | (split <;> omega)) (fun c_23 => ?_) (fun c_23 => by exact absurd (by omega) c_23)
        refine j_aload_n dX6_readAtom_28 rfl ?_
        refine r_cv0EV dX6_readAtom_29 cvX6_64 (by decide) (by first | assumption | exact hsh _ _ rfl) (Nat.le_of_ble_eq_true rfl) (Nat.le_of_eq (Nat.zero_add _)) (Nat.le_of_eq (Nat.zero_add _)) (st_next hsh hfx hT) (fun J hJ => ?_)
        refine j_iload_n dX6_readAtom_32 rfl ?_
        refine j_if_eq (tgt := 47) dX6_readAtom_33 rfl (by first | omega | (split <;> omega)) (fun c_33 => by exact absurd c_33 (by decide)) (fun c_33 => ?_)
        refine j_aload_n dX6_readAtom_36 rfl ?_
        refine j_aload_n dX6_readAtom_37 rfl ?_
        refine j_iload_n dX6_readAtom_38 rfl ?_
        refine j_iconst dX6_readAtom_39 ?_
        refine j_iadd dX6_readAtom_40 ?_
        rw [hd1]
        refine r_cv2EI dX6_readAtom_41 cvX6_98 (by decide) (by first | assumption | exact hsh _ _ rfl) (Nat.le_of_ble_eq_true rfl) (Nat.le_of_eq (Nat.zero_add _)) (Nat.le_of_eq (Nat.zero_add _)) (sD J hJ.1 (LrC_154 hL hJ.2)) (fun K hK => ?_)
        refine j_goto (tgt := 72) dX6_readAtom_44 rfl ?_
        refine j_zret dX6_readAtom_72 rfl h01 ?_
        exact rEI_of rfl (pCl_fr hK (FrL_154 hJ.2))
      · rw [if_neg e]
        rw [if_neg e] at sW
        refine j_aload_n dX6_readAtom_0 rfl ?_
        refine j_ldcS dX6_readAtom_1 (t := 18) (by decide +kernel) ?_
        refine r_cv1I dX6_readAtom_3 cvX6_58 (by decide) (by first | assumption | exact hsh _ _ rfl) (Nat.le_of_ble_eq_true rfl) (Nat.le_of_eq (Nat.zero_add _)) (Nat.le_of_eq (Nat.zero_add _)) (sW) ?_
        refine j_istore_n dX6_readAtom_6 (by decide) ?_
        refine j_iload_n dX6_readAtom_7 rfl ?_
        refine j_if_ne (tgt := 20) dX6_readAtom_8 rfl (by first | omega | (split <;> omega)) (fun c_8 => by exact absurd rfl c_8) (fun c_8 => ?_)
        refine j_aload_n dX6_readAtom_11 rfl ?_
        refine j_bipush dX6_readAtom_12 (by decide) ?_
        refine r_cv1I dX6_readAtom_14 cvX6_95 (by decide) (by first | assumption | exact hsh _ _ rfl) (Nat.le_of_ble_eq_true rfl) (Nat.le_of_eq (Nat.zero_add _)) (Nat.le_of_eq (Nat.zero_add _)) (sS) ?_
        refine j_if_eq (tgt := 73) dX6_readAtom_17 rfl (by first | omega | (split <;> omega)) (fun c_17 => ?_) (fun c_17 => by exact absurd c_17 (by decide))
        exact sl_tag (d := d + 2) hsh hfx hT hL ⟨hm0, hmq⟩
end
