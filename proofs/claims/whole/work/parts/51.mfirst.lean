/-! THE FIRST WHO MUST BEAR TOO MUCH: THE MODEL; A VAULT THAT NEVER BREAKS -/
theorem mFO_cong {w v f : Int → Int} (h0 : aPe v = aPe w) (h : ∀ p, 0 ≤ p → p < aPe w → aOf v p 0 = aOf w p 0) (hp : 0 ≤ aPe w) : mFO v f = mFO w f := by
  by_cases e : ∃ k, (0 ≤ k ∧ k < aPe w) ∧ aOf w k 0 < f k ∧ ∀ j, 0 ≤ j → j < k → ¬ aOf w j 0 < f j
  · obtain ⟨k, hk, h1, h2⟩ := e
    have a1 : mFO w f = k := jfirst_hit hk.1 hk.2 h1 h2
    have a2 : mFO v f = k := jfirst_hit (P := fun p => aOf v p 0 < f p) hk.1 (by omega) (by show aOf v k 0 < f k; rw [h k hk.1 hk.2]; exact h1) (fun j j0 j1 => by show ¬ aOf v j 0 < f j; rw [h j j0 (by omega)]; exact h2 j j0 j1)
    rw [a1, a2]
  · have a0 : ∀ j, 0 ≤ j → j < aPe w → ¬ aOf w j 0 < f j := by
      have : ∀ n : Nat, ∀ j, 0 ≤ j → j < (n : Int) → j < aPe w → ¬ aOf w j 0 < f j := by
        intro n
        induction n with
        | zero => intro j h0 h1; omega
        | succ n ih =>
          intro j j0 j1 j2 hj
          exact e ⟨j, ⟨j0, j2⟩, hj, fun i i0 i1 => ih i i0 (by omega) (by omega)⟩
      intro j j0 j1
      exact this (aPe w).toNat j j0 (by omega) j1
    have a1 : mFO w f = -1 := jfirst_none a0
    have a2 : mFO v f = -1 := jfirst_none (P := fun p => aOf v p 0 < f p) (fun j j0 j1 => by show ¬ aOf v j 0 < f j; rw [h j j0 (by omega)]; exact a0 j j0 (by omega))
    rw [a1, a2]
theorem dFst_hit {X : dX} {k : Int} (h0 : 0 ≤ k) (h1 : k < 60) (h2 : vOv X k) (h3 : ∀ j, 0 ≤ j → j < k → ¬ vOv X j) : dFst X = k := jfirst_hit h0 h1 h2 h3
theorem dFst_none {X : dX} (h : ∀ j, 0 ≤ j → j < 60 → ¬ vOv X j) : dFst X = -1 := jfirst_none h
section
variable {G : jzG} {d : Nat} {sh : List (Nat × Nat)} {I : Nat → Int → Int} {F : Nat → Int → Option Nat} {w : Int → Int}
theorem sm_tooMuchE (hsh : ShOK sh) (hfx : FxOK F) {J : Nat → Int → Int} {X : dX} {p : Int} (hW : WF X.1) (hp : 0 ≤ p ∧ p < aPe X.1) (hD : DX I J (dStep 1 X)) : jS G (d + 3) mX12_isTooMuch [jR (some 170), jI p] (sh, J, F) 0 0 (rI (if aOf X.1 p 0 < (dStep 1 X).2.2.2 p then 1 else 0) (sh, J, F)) := by
  have h8 := hW.1
  have := sm_isTooMuch (G := G) (d := d) (I := J) hsh hfx (p := p) (by omega)
  rw [show aOf (J 171) p 3 = aOf X.1 p 3 by rw [hD.1]; exact mDay_o hW (Or.inr (Or.inr (Or.inr (Or.inr ⟨p, hp.1, Or.inr rfl, by omega⟩)))), show aOf (J 171) p 0 = aOf X.1 p 0 by rw [hD.1]; exact mDay_o hW (Or.inr (Or.inr (Or.inr (Or.inr ⟨p, hp.1, Or.inl (Int.add_zero _), by omega⟩)))), hD.2.2.2.1, show (if aOf X.1 p 3 = 0 ∧ aOf X.1 p 0 < (dStep 1 X).2.2.2 p then (1 : Int) else 0) = (if aOf X.1 p 0 < (dStep 1 X).2.2.2 p then 1 else 0) by simp only [dTooMuch hW hp.1 hp.2]] at this
  exact this
theorem mp_first (hsh : ShOK sh) (hfx : FxOK F) (hW : WF (I 171)) (h9 : 0 ≤ I 171 9 ∧ I 171 9 ≤ 900000000) (h10 : 0 ≤ I 171 10 ∧ I 171 10 ≤ 60) {b : Int} (hb : b = 0 ∨ b = 1) : jS G (d + 8) mX12_first [jR (some 170), jI b] (sh, I, F) 0 0 (rEI (vFst (mX I) b) sh F (FrT 0 I)) := by
  have g8 := hW.1
  refine jS_go [some (jR (some 170)), some (jI b), none, none, none] (by decide +kernel) rfl (by simp [jone]) (Nat.le_of_ble_eq_true rfl) rfl (fun hok => ?_)
  refine j_aload_n dX12_first_0 rfl ?_
  refine j_iconst dX12_first_1 ?_
  refine r_putI dX12_first_2 flX12_3 rfl (by first | assumption | exact hsh _ _ rfl) (by first | omega | (split <;> omega)) (fun q => by cases q) ?_
  skip
  have hok1 : jzok (sh, jup I 170 0 0, F) := jzok_I hok jin_lit0
  obtain ⟨I1, hI1⟩ : ∃ J, J = jup I 170 0 0 := ⟨_, rfl⟩
  rw [← hI1] at hok1 ⊢
  have hok0 := hok
  clear hok
  have hok := hok1
  have fr1 : ∀ a, a ≠ 170 → I1 a = I a := fun a ha => by rw [hI1, jup_ne _ _ _ ha]
  have fr1k : ∀ k, k ≠ 0 → I1 170 k = I 170 k := fun k hk => by rw [hI1, jup_row _ _ _ hk]
  have fr1c : I1 170 0 = 0 := by rw [hI1, jup_same]
  have hw0 : I1 171 = I 171 := fr1 171 (by decide)
  generalize hQ : rEI (vFst (mX I) b) sh F (FrT 0 I) = Q9
  refine j_aload_n dX12_first_5 rfl ?_
  refine r_cv0EV dX12_first_6 cvX12_350 (by decide) (by first | assumption | exact hsh _ _ rfl) (Nat.le_of_ble_eq_true rfl) (Nat.le_of_eq (Nat.zero_add _)) (Nat.le_of_eq (Nat.zero_add _)) (sm_keepsAll hsh hfx) (fun J0 hJ => ?_)
  refine j_iconst dX12_first_9 ?_
  refine j_istore_n dX12_first_10 (by decide) ?_
  refine j_iconst dX12_first_11 ?_
  refine j_istore_n dX12_first_12 (by decide) ?_
  skip
  have hm := mX_k fr1 hJ.2
  have key : ∀ (m : Nat) (z : Int) (J : Nat → Int → Int) (X : dX) (o : Option jzV), z + m = 60 → 0 ≤ z → X = mDays 1 (mX I) z.toNat → (∀ j, 0 ≤ j → j < z → ¬ vOv (mX I) j) → dOK (I 171) X z → DX J0 J X → jW G mX12_first (d + 8) Q9 13 [some (jR (some 170)), some (jI b), some (jI (-1)), some (jI z), o] [] (sh, J, F) 0 0 := by
    intro m
    induction m with
    | zero =>
      intro z J X o hz hz0 hX hno hO hD
      have hv : vFst (mX I) b = -1 := by unfold vFst; rw [if_pos (by rw [dFst_none (fun j j0 j1 => hno j j0 (by omega))]; decide)]
      refine j_iload_n dX12_first_13 rfl ?_
      refine j_bipush dX12_first_14 (by decide) ?_
      refine j_icmp_ge (tgt := 69) dX12_first_16 rfl (by first | omega | (split <;> omega)) (by first | omega | (split <;> omega)) (fun c_16 => ?_) (fun c_16 => by exact absurd (by omega) c_16)
      refine j_aload_n dX12_first_69 rfl ?_
      refine r_cv0EV dX12_first_70 cvX12_353 (by decide) (by first | assumption | exact hsh _ _ rfl) (Nat.le_of_ble_eq_true rfl) (Nat.le_of_eq (Nat.zero_add _)) (Nat.le_of_eq (Nat.zero_add _)) (sm_bringsBack hsh hfx) (fun L hL => ?_)
      have hT := FrT_of fr1 fr1k fr1c hJ.1 hJ.2 hD (dOK_x hO) hL.1 hL.2
      refine j_iload_n dX12_first_73 rfl ?_
      refine j_if_ge (tgt := 81) dX12_first_74 rfl (by first | omega | (split <;> omega)) (fun c_74 => by exact absurd c_74 (by decide)) (fun c_74 => ?_)
      refine j_iconst dX12_first_77 ?_
      refine j_goto (tgt := 90) dX12_first_78 rfl ?_
      refine j_iret dX12_first_90 rfl ?_
      rw [← hQ]
      exact ⟨L, by rw [hv], rfl, hT.1⟩
    | succ m ih =>
      intro z J X o hz hz0 hX hno hO hD
      have hO1 := dOK_s (calm := 1) hO h9.1
      have e0 : aPe X.1 = aPe (I 171) := hO.2.2.2 0 (by omega)
      have e1 : aPe (dStep 1 X).1 = aPe (I 171) := hO1.2.2.2 0 (by omega)
      have hXs : mDays 1 (mX I) (z + 1).toNat = dStep 1 X := by rw [hX]; exact mDays_s _ _ hz0
      have hvO : vOv (mX I) z ↔ 0 < mOver X.1 (dStep 1 X).2.2.2 := by unfold vOv; rw [hXs, ← hX]
      have inn : ∀ (m2 : Nat) (p r : Int) (K : Nat → Int → Int), p + 1 = m2 → p < aPe X.1 → vFd X.1 (dStep 1 X).2.2.2 p r → (-1 ≤ r ∧ r < 8) → DX J0 K (dStep 1 X) → jW G mX12_first (d + 8) Q9 39 [some (jR (some 170)), some (jI b), some (jI r), some (jI (z + 1)), some (jI p)] [] (sh, K, F) 0 0 := by
        intro m2
        induction m2 with
        | zero =>
          intro p r K hp hp1 hv hr hDK
          have ep : p = -1 := by omega
          subst ep
          rcases vFd_end (by omega) hv with ⟨a1, a2⟩ | ⟨a1, a2, a3, a4⟩
          · subst a1
            refine j_iload dX12_first_39 rfl ?_
            refine j_if_lt (tgt := 66) dX12_first_41 rfl (by first | omega | (split <;> omega)) (fun c_41 => ?_) (fun c_41 => by exact absurd (by decide) c_41)
            refine j_goto (tgt := 13) dX12_first_66 rfl ?_
            exact ih (z + 1) K _ _ (by omega) (by omega) hXs.symm (fun j j0 j1 => by
              by_cases e : j = z
              · subst e; rw [hvO]; exact a2
              · exact hno j j0 (by omega)) hO1 hDK
          · have hf : dFst (mX I) = z := dFst_hit hz0 (by omega) (hvO.2 a3) hno
            have hv : vFst (mX I) b = if b = 0 then z + 1 else r := by
              unfold vFst
              rw [hf, if_neg (by omega), hXs, ← hX, a4]
            refine j_iload dX12_first_39 rfl ?_
            refine j_if_lt (tgt := 66) dX12_first_41 rfl (by first | omega | (split <;> omega)) (fun c_41 => ?_) (fun c_41 => by exact absurd (by decide) c_41)
            refine j_goto (tgt := 13) dX12_first_66 rfl ?_
            refine j_iload_n dX12_first_13 rfl ?_
            refine j_bipush dX12_first_14 (by decide) ?_
            refine j_icmp_ge (tgt := 69) dX12_first_16 rfl (by first | omega | (split <;> omega)) (by first | omega | (split <;> omega)) (fun c_16 => ?_) (fun c_16 => ?_)
            · refine j_aload_n dX12_first_69 rfl ?_
              refine r_cv0EV dX12_first_70 cvX12_353 (by decide) (by first | assumption | exact hsh _ _ rfl) (Nat.le_of_ble_eq_true rfl) (Nat.le_of_eq (Nat.zero_add _)) (Nat.le_of_eq (Nat.zero_add _)) (sm_bringsBack hsh hfx) (fun L hL => ?_)
              have hT := FrT_of fr1 fr1k fr1c hJ.1 hJ.2 hDK (dOK_x hO1) hL.1 hL.2
              refine j_iload_n dX12_first_73 rfl ?_
              refine j_if_ge (tgt := 81) dX12_first_74 rfl (by first | omega | (split <;> omega)) (fun c_74 => ?_) (fun c_74 => by exact absurd (by omega) c_74)
              refine j_iload_n dX12_first_81 rfl ?_
              refine j_if_eq (tgt := 89) dX12_first_82 rfl (by first | omega | (split <;> omega)) (fun c_82 => ?_) (fun c_82 => ?_)
              · refine j_iload_n dX12_first_89 rfl ?_
                refine j_iret dX12_first_90 rfl ?_
                rw [← hQ]
                refine ⟨L, ?_, rfl, hT.1⟩
                rw [hv]
                first | rw [if_pos (by omega)] | rw [if_neg (by omega)]
              · refine j_iload_n dX12_first_85 rfl ?_
                refine j_goto (tgt := 90) dX12_first_86 rfl ?_
                refine j_iret dX12_first_90 rfl ?_
                rw [← hQ]
                refine ⟨L, ?_, rfl, hT.1⟩
                rw [hv]
                first | rw [if_pos (by omega)] | rw [if_neg (by omega)]
            · refine j_iload_n dX12_first_19 rfl ?_
              refine j_if_ge (tgt := 69) dX12_first_20 rfl (by first | omega | (split <;> omega)) (fun c_20 => ?_) (fun c_20 => by exact absurd (by omega) c_20)
              refine j_aload_n dX12_first_69 rfl ?_
              refine r_cv0EV dX12_first_70 cvX12_353 (by decide) (by first | assumption | exact hsh _ _ rfl) (Nat.le_of_ble_eq_true rfl) (Nat.le_of_eq (Nat.zero_add _)) (Nat.le_of_eq (Nat.zero_add _)) (sm_bringsBack hsh hfx) (fun L hL => ?_)
              have hT := FrT_of fr1 fr1k fr1c hJ.1 hJ.2 hDK (dOK_x hO1) hL.1 hL.2
              refine j_iload_n dX12_first_73 rfl ?_
              refine j_if_ge (tgt := 81) dX12_first_74 rfl (by first | omega | (split <;> omega)) (fun c_74 => ?_) (fun c_74 => by exact absurd (by omega) c_74)
              refine j_iload_n dX12_first_81 rfl ?_
              refine j_if_eq (tgt := 89) dX12_first_82 rfl (by first | omega | (split <;> omega)) (fun c_82 => ?_) (fun c_82 => ?_)
              · refine j_iload_n dX12_first_89 rfl ?_
                refine j_iret dX12_first_90 rfl ?_
                rw [← hQ]
                refine ⟨L, ?_, rfl, hT.1⟩
                rw [hv]
                first | rw [if_pos (by omega)] | rw [if_neg (by omega)]
              · refine j_iload_n dX12_first_85 rfl ?_
                refine j_goto (tgt := 90) dX12_first_86 rfl ?_
                refine j_iret dX12_first_90 rfl ?_
                rw [← hQ]
                refine ⟨L, ?_, rfl, hT.1⟩
                rw [hv]
                first | rw [if_pos (by omega)] | rw [if_neg (by omega)]
        | succ m2 ih2 =>
          intro p r K hp hp1 hv hr hDK
          have st := sm_tooMuchE (G := G) (d := d + 4) (F := F) hsh hfx hO.1 (p := p) (by omega) hDK
          refine j_iload dX12_first_39 rfl ?_
          refine j_if_lt (tgt := 66) dX12_first_41 rfl (by first | omega | (split <;> omega)) (fun c_41 => by exact absurd c_41 (by omega)) (fun c_41 => ?_)
          refine j_aload_n dX12_first_44 rfl ?_
          refine j_iload dX12_first_45 rfl ?_
          refine r_cv1I dX12_first_47 cvX12_318 (by decide) (by first | assumption | exact hsh _ _ rfl) (Nat.le_of_ble_eq_true rfl) (Nat.le_of_eq (Nat.zero_add _)) (Nat.le_of_eq (Nat.zero_add _)) (st) ?_
          refine j_if_eq (tgt := 58) dX12_first_50 rfl (by first | omega | (split <;> omega)) (fun c_50 => ?_) (fun c_50 => ?_)
          · rw [ite0] at c_50
            refine j_iload_n dX12_first_58 rfl ?_
            refine j_istore_n dX12_first_59 (by decide) ?_
            refine j_iinc dX12_first_60 rfl (by decide) ?_
            refine j_goto (tgt := 39) dX12_first_63 rfl ?_
            first | exact ih2 (p + -1) p K (by omega) (by omega) (vFd_s1 hp1 hv c_50) (by omega) hDK | exact ih2 (p + -1) r K (by omega) (by omega) (vFd_s0 hv c_50) hr hDK
          · rw [ite0, Classical.not_not] at c_50
            refine j_iload dX12_first_53 rfl ?_
            refine j_goto (tgt := 59) dX12_first_55 rfl ?_
            refine j_istore_n dX12_first_59 (by decide) ?_
            refine j_iinc dX12_first_60 rfl (by decide) ?_
            refine j_goto (tgt := 39) dX12_first_63 rfl ?_
            first | exact ih2 (p + -1) p K (by omega) (by omega) (vFd_s1 hp1 hv c_50) (by omega) hDK | exact ih2 (p + -1) r K (by omega) (by omega) (vFd_s0 hv c_50) hr hDK
      refine j_iload_n dX12_first_13 rfl ?_
      refine j_bipush dX12_first_14 (by decide) ?_
      refine j_icmp_ge (tgt := 69) dX12_first_16 rfl (by first | omega | (split <;> omega)) (by first | omega | (split <;> omega)) (fun c_16 => by exact absurd c_16 (by omega)) (fun c_16 => ?_)
      refine j_iload_n dX12_first_19 rfl ?_
      refine j_if_ge (tgt := 69) dX12_first_20 rfl (by first | omega | (split <;> omega)) (fun c_20 => by exact absurd c_20 (by decide)) (fun c_20 => ?_)
      refine j_aload_n dX12_first_23 rfl ?_
      refine j_iconst dX12_first_24 ?_
      refine r_cv1EV dX12_first_25 cvX12_325 (by decide) (by first | assumption | exact hsh _ _ rfl) (Nat.le_of_ble_eq_true rfl) (Nat.le_of_eq (Nat.zero_add _)) (Nat.le_of_eq (Nat.zero_add _)) (sm_day1 (w := I 171) hsh hfx (Or.inr rfl) (k := z) (by omega) h9 hO hD) (fun K hK => ?_)
      have eK : aPe (K 171) = aPe (I 171) := by rw [hK.1]; exact e1
      refine j_iinc dX12_first_28 rfl (by decide) ?_
      refine j_aload_n dX12_first_31 rfl ?_
      refine r_cv0I dX12_first_32 cvX12_74 (by decide) (by first | assumption | exact hsh _ _ rfl) (Nat.le_of_ble_eq_true rfl) (Nat.le_of_eq (Nat.zero_add _)) (Nat.le_of_eq (Nat.zero_add _)) (sm_people hsh hfx) ?_
      rw [eK]
      refine j_iconst dX12_first_35 ?_
      refine j_isub dX12_first_36 ?_
      refine j_istore dX12_first_37 (by decide) ?_
      exact inn (aPe (I 171)).toNat _ _ K (by omega) (by omega) (Or.inl ⟨rfl, fun q q0 q1 => by omega⟩) (by omega) hK
  exact key 60 0 J0 _ none (by decide) (by decide) rfl (fun j j0 j1 => by omega) (dOK_0 hW h10) (DX_0 hm)
end
/-! ### a vault that never breaks -/
abbrev dT (u : Int) (X : dX) : dX := (wup X.1 4 u, X.2)
theorem wup4_of {w : Int → Int} {u p k : Int} (hp : 0 ≤ p) (hk : 0 ≤ k) : aOf (wup w 4 u) p k = aOf w p k := wup_ne _ _ (by omega)
theorem dSeed_4 {calm u : Int} {w : Int → Int} : dSeed calm (wup w 4 u) = wup (dSeed calm w) 4 u := by
  unfold dSeed
  split
  · rw [wup_ne _ _ (by decide), wup_comm _ _ _ (by decide)]
  · rfl
theorem dFl_4 {calm u b : Int} {w : Int → Int} : dFl calm (wup w 4 u) b = dFl calm w b := by
  unfold dFl
  rw [wup_ne _ _ (by decide)]
theorem mPain_4 {u p fl : Int} {w : Int → Int} (hp : 0 ≤ p) (h3 : 0 ≤ w 3) : mPain (wup w 4 u) p fl = mPain w p fl := by
  unfold mPain aPaD
  rw [wup_ne w u (show (3 : Int) ≠ 4 by decide), wup4_of hp (by omega)]
theorem mSum_4 {u kind p pain wet : Int} {w : Int → Int} (hp : 0 ≤ p) (hL : ∀ n, 0 ≤ n → n < w 420 → WfLn w n) : mSum (wup w 4 u) kind p pain wet = mSum w kind p pain wet := by
  have e : ∀ k, 420 ≤ k → wup w 4 u k = w k := fun k hk => wup_ne _ _ (by omega)
  have ef : mFact (wup w 4 u) p pain wet = mFact w p pain wet := by
    funext st
    unfold mFact
    rw [wup_ne w u (show (3 : Int) ≠ 4 by decide), wup4_of hp (by decide), wup4_of hp (by decide)]
  unfold mSum
  rw [e 420 (by omega)]
  refine jfold_cong (fun n n0 n1 x => ?_)
  have hl := (hL n n0 (by omega)).1.1
  have el : mLine (wup w 4 u) n p pain wet = mLine w n p pain wet := by
    unfold mLine
    rw [ef, e _ (by omega), e (421 + 4 * n + 3) (by omega)]
    exact eRun_cong (fun k hk => ⟨e _ (by omega), e _ (by omega)⟩) (fun _ => rfl)
  unfold mHolds
  rw [el, e _ (by omega), e (421 + 4 * n + 1) (by omega)]
theorem mPut_4 {u p pain wet : Int} {w : Int → Int} (hW : WF w) (hp : 0 ≤ p) : mPut (wup w 4 u) p pain wet = mPut w p pain wet := by
  unfold mPut
  rw [wup_ne w u (show (8 : Int) ≠ 4 by decide), wup_ne w u (show (2 : Int) ≠ 4 by decide), wup4_of hp (by decide)]
  by_cases e : w 2 = 1
  · rw [if_pos e, if_pos e, mSum_4 hp (hW.2.2.1.2 e).2]
  · rw [if_neg e, if_neg e]
theorem mDrw_4 {u p pain wet : Int} {w : Int → Int} (hW : WF w) (hp : 0 ≤ p) : mDrw (wup w 4 u) p pain wet = mDrw w p pain wet := by
  unfold mDrw
  rw [wup_ne w u (show (8 : Int) ≠ 4 by decide), wup_ne w u (show (2 : Int) ≠ 4 by decide), wup4_of hp (by decide), wup4_of hp (by decide)]
  by_cases e : w 2 = 1
  · rw [if_pos e, if_pos e, mSum_4 hp (hW.2.2.1.2 e).2]
  · rw [if_neg e, if_neg e]
theorem wAF_4 {u p a f : Int} {w : Int → Int} (hp : 0 ≤ p) : wAF (wup w 4 u) p a f = wup (wAF w p a f) 4 u := by
  unfold wAF
  rw [wup_comm w u f (by omega), wup_comm _ u a (by omega)]
theorem mLive_4 {u p pain wet : Int} {w : Int → Int} (hW : WF w) (hp : 0 ≤ p) : mLive (wup w 4 u) p pain wet = wup (mLive w p pain wet) 4 u := by
  unfold mLive mRes mUnf
  rw [mPut_4 hW hp, mDrw_4 hW hp, wup4_of hp (by decide), wup4_of hp (by decide), wAF_4 hp]
theorem mFeltV_4 {u p pain wet : Int} {w : Int → Int} (hW : WF w) (hp : 0 ≤ p) : mFeltV (wup w 4 u) p pain wet = mFeltV w p pain wet := by
  unfold mFeltV mRes mUnf
  rw [mPut_4 hW hp, mDrw_4 hW hp, wup4_of hp (by decide), wup4_of hp (by decide)]
theorem dOne_4 {calm wet p u : Int} {X : dX} (hW : WF X.1) (hp : 0 ≤ p) : dOne calm wet p (dT u X) = dT u (dOne calm wet p X) := by
  have hS := WF_seed (calm := calm) hW
  have e3 : dPn calm (wup X.1 4 u) p = dPn calm X.1 p := by
    unfold dPn
    rw [dSeed_4, dFl_4, wup_ne X.1 u (show (7 : Int) ≠ 4 by decide), mPain_4 hp (by have := hS.2.1.1.1; exact this)]
  unfold dOne
  show (if aOf (wup X.1 4 u) p 3 = 0 then _ else _) = _
  rw [wup4_of hp (by decide)]
  by_cases e : aOf X.1 p 3 = 0
  · rw [if_pos e, if_pos e, e3]
    show (mLive (dSeed calm (wup X.1 4 u)) p _ wet, wup X.2.1 p (mPut (dSeed calm (wup X.1 4 u)) p _ wet), wup X.2.2.1 p (mDrw (dSeed calm (wup X.1 4 u)) p _ wet), wup X.2.2.2 p (mFeltV (dSeed calm (wup X.1 4 u)) p _ wet)) = (wup _ 4 u, _)
    rw [dSeed_4, mLive_4 hS hp, mPut_4 hS hp, mDrw_4 hS hp, mFeltV_4 hS hp]
  · rw [if_neg e, if_neg e]
theorem dCore_4 {calm u : Int} {w a b f : Int → Int} (hW : WF w) : dCore calm (wup w 4 u) a b f = dT u (dCore calm w a b f) := by
  have h8 := hW.1
  unfold dCore
  rw [dSeed_4, dFl_4, wup_ne w u (show (6 : Int) ≠ 4 by decide), show aPe (wup w 4 u) = aPe w from wup_ne _ _ (by decide)]
  have key : ∀ n : Nat, (n : Int) ≤ aPe w → jfold (dOne calm (dFl calm (dSeed calm w) (w 6))) (wup (dSeed calm w) 4 u, a, b, f) n = dT u (jfold (dOne calm (dFl calm (dSeed calm w) (w 6))) (dSeed calm w, a, b, f) n) ∧ WF (jfold (dOne calm (dFl calm (dSeed calm w) (w 6))) (dSeed calm w, a, b, f) n).1 ∧ aPe (jfold (dOne calm (dFl calm (dSeed calm w) (w 6))) (dSeed calm w, a, b, f) n).1 = aPe w ∧ vFe (jfold (dOne calm (dFl calm (dSeed calm w) (w 6))) (dSeed calm w, a, b, f) n).2.2.2 n := by
    intro n
    induction n with
    | zero => intro _; exact ⟨rfl, WF_seed hW, dSeed_o (by decide), fun p p0 p1 => by omega⟩
    | succ n ih =>
      intro hn
      obtain ⟨i1, i2, i3, i4⟩ := ih (by omega)
      have ho := dOne_ok (calm := calm) (wet := dFl calm (dSeed calm w) (w 6)) i2 (p := n) (by omega) i4
      refine ⟨?_, ho.1, (ho.2.2 0 (by omega)).trans i3, ho.2.1⟩
      show dOne _ _ _ (jfold _ _ n) = dT u (dOne _ _ _ (jfold _ _ n))
      rw [i1]
      exact dOne_4 i2 (by omega)
  exact (key _ (by omega)).1
theorem dInt_4 {p u : Int} {w : Int → Int} (hp : 0 ≤ p) : dInt p (wup w 4 u) = wup (dInt p w) 4 u := by
  unfold dInt aRate
  rw [wup4_of hp (by decide), wup4_of hp (by decide), wup_ne w u (show (3 : Int) ≠ 4 by decide), wup_ne w u (show (5 : Int) ≠ 4 by decide)]
  split
  · rw [wup_comm _ _ _ (by omega)]
  · rfl
theorem dRate_4 {calm u : Int} {w a b f : Int → Int} (hW : WF w) : dRate calm (wup w 4 u) a b f = wup (dRate calm w a b f) 4 u := by
  unfold dRate
  rw [dCore_4 hW, show aPe (wup w 4 u) = aPe w from wup_ne _ _ (by decide)]
  have key : ∀ n : Nat, jfold dInt (dT u (dCore calm w a b f)).1 n = wup (jfold dInt (dCore calm w a b f).1 n) 4 u := by
    intro n
    induction n with
    | zero => rfl
    | succ n ih =>
      show dInt n (jfold dInt _ n) = wup (dInt n (jfold dInt _ n)) 4 u
      rw [ih, dInt_4 (by omega)]
  exact key _
theorem mAll_8 {w : Int → Int} (hP : 0 ≤ aPe w ∧ aPe w ≤ 8) (hA : WfA w) : 0 ≤ mAll w 1 ∧ mAll w 1 ≤ 799992 := by
  have := jfold_ind (f := fun p a => a + aOf w p 1) (a := (0 : Int)) (fun k a => 0 ≤ a ∧ a ≤ 99999 * k) (by omega) (n := (aPe w).toNat) (fun k y h0 h1 q => by
    have := hA k h0 (by omega)
    omega)
  unfold mAll
  omega
theorem mAll_4 {w : Int → Int} {u : Int} : mAll (wup w 4 u) 1 = mAll w 1 := by
  unfold mAll
  rw [show aPe (wup w 4 u) = aPe w from wup_ne _ _ (by decide)]
  exact jfold_cong (fun k k0 k1 x => by rw [wup4_of k0 (by decide)])
theorem dEnd_4 {calm u : Int} {w a b f : Int → Int} (hW : WF w) (h4 : 799992 ≤ w 4) (hu : 799992 ≤ u) : dEnd calm (wup w 4 u) a b f = (wup (dEnd calm w a b f).1 4 u, (dEnd calm w a b f).2) := by
  have hr := dRate_ok (calm := calm) (a := a) (b := b) (f := f) hW
  have hm := mAll_8 hr.1.1 (WF_A hr.1)
  have e4 : dRate calm w a b f 4 = w 4 := hr.2 4 (by omega)
  unfold dEnd
  rw [dRate_4 hW, mAll_4, wup_same, if_neg (by omega), if_neg (by omega), dCore_4 hW]
theorem mTell_4 {w : Int → Int} {p v u : Int} (hp : 0 ≤ p) : mTell (wup w 4 u) p v = wup (mTell w p v) 4 u := by
  have e : mSh (wup w 4 u) 3 = wup (mSh w 3) 4 u := by
    funext j
    unfold mSh
    by_cases h : 180 + 3 < j ∧ j < 420
    · rw [if_pos h, wup_ne _ _ (by omega), wup_ne _ _ (by omega), if_pos h]
    · rw [if_neg h]
      by_cases h2 : j = 4
      · subst h2; rw [wup_same, wup_same]
      · rw [wup_ne _ _ h2, wup_ne _ _ h2, if_neg h]
  unfold mTell
  rw [e, wup4_of hp (by decide), wup_ne w u (show (3 : Int) ≠ 4 by decide), wup_ne w u (show (10 : Int) ≠ 4 by decide), wup_ne w u (show (9 : Int) ≠ 4 by decide), wup_comm _ u _ (by decide), wup_comm _ u _ (by decide), wup_comm _ u _ (by decide), wup_comm _ u _ (by decide), wup_comm _ u _ (by decide), wup_comm _ u _ (by decide)]
theorem mDay_4 {calm u : Int} {w a b f : Int → Int} (hW : WF w) (h4 : 799992 ≤ w 4) (hu : 799992 ≤ u) : mDay calm (wup w 4 u) a b f = wup (mDay calm w a b f) 4 u := by
  have e : dTold calm (wup w 4 u) a b f = wup (dTold calm w a b f) 4 u := by
    unfold dTold
    rw [dEnd_4 hW h4 hu, show aPe (wup w 4 u) = aPe w from wup_ne _ _ (by decide)]
    have key : ∀ n : Nat, jfold (dTell (dEnd calm w a b f).2) (wup (dEnd calm w a b f).1 4 u) n = wup (jfold (dTell (dEnd calm w a b f).2) (dEnd calm w a b f).1 n) 4 u := by
      intro n
      induction n with
      | zero => rfl
      | succ n ih =>
        show dTell _ n (jfold _ _ n) = wup (dTell _ n (jfold _ _ n)) 4 u
        rw [ih]
        generalize jfold (dTell (dEnd calm w a b f).2) (dEnd calm w a b f).1 n = V
        unfold dTell
        rw [wup4_of (by omega) (by decide), wup4_of (by omega) (by decide)]
        split
        · rw [mTell_4 (by omega)]
        · rfl
    exact key _
  unfold mDay
  rw [e, wup_ne _ u (show (3 : Int) ≠ 4 by decide), wup_comm _ _ _ (by decide)]
theorem dStep_4 {calm u : Int} {X : dX} (hW : WF X.1) (h4 : 799992 ≤ X.1 4) (hu : 799992 ≤ u) : dStep calm (dT u X) = dT u (dStep calm X) := by
  unfold dStep
  show (mDay calm (wup X.1 4 u) _ _ _, (dCore calm (wup X.1 4 u) _ _ _).2.1, (dCore calm (wup X.1 4 u) _ _ _).2.2.1, (dEnd calm (wup X.1 4 u) _ _ _).2) = _
  rw [mDay_4 hW h4 hu, dCore_4 hW, dEnd_4 hW h4 hu]
theorem mNd_4 {u : Int} {w a b f : Int → Int} (hW : WF w) (h9 : 0 ≤ w 9) (h10 : 0 ≤ w 10 ∧ w 10 ≤ 60) (h4 : 799992 ≤ w 4) (hu : 799992 ≤ u) (n : Nat) : mNd (wup w 4 u, a, b, f) n = (dT u (mNd (w, a, b, f) n).1, (mNd (w, a, b, f) n).2) := by
  have key : mNd (wup w 4 u, a, b, f) n = (dT u (mNd (w, a, b, f) n).1, (mNd (w, a, b, f) n).2) ∧ dOK w (mNd (w, a, b, f) n).1 n := by
    induction n with
    | zero => exact ⟨rfl, dOK_0 hW h10⟩
    | succ n ih =>
      obtain ⟨i1, i2⟩ := ih
      refine ⟨?_, dOK_s i2 h9⟩
      show mNdS (mNd _ n) = (dT u (mNdS (mNd _ n)).1, (mNdS (mNd _ n)).2)
      rw [i1]
      unfold mNdS
      show (dStep 1 (dT u _), max _ (mAll (dStep 1 (dT u _)).1 1)) = _
      rw [dStep_4 i2.1 (by rw [i2.2.2.2 4 (by omega)]; exact h4) hu, mAll_4]
  exact key.1
