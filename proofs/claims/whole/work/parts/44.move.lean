/-! A STATE OF THE CLASS MOVES WITH A ROW OF THE MODEL -/
theorem mAlive_cong {w v : Int → Int} (h0 : aPe v = aPe w) (h : ∀ p, 0 ≤ p → p < aPe w → aOf v p 3 = aOf w p 3) : mAlive v = mAlive w := by
  unfold mAlive
  rw [h0]
  refine jfold_cong (fun k k0 k1 x => ?_)
  rw [h k k0 (by omega)]
section
variable {I J : Nat → Int → Int} {s : Nat} {w v : Int → Int}
theorem Rp_fr (h : Rp I s w) (hf : ∀ a, s ≤ a → a ≤ s + 7 → J a = I a) : Rp J s w := by
  unfold Rp RpP RpZ
  rw [hf s (by omega) (by omega), hf (s + 1) (by omega) (by omega), hf (s + 2) (by omega) (by omega), hf (s + 3) (by omega) (by omega), hf (s + 4) (by omega) (by omega), hf (s + 5) (by omega) (by omega), hf (s + 6) (by omega) (by omega), hf (s + 7) (by omega) (by omega)]
  exact h
theorem Rp_cong (h : Rp I s w) (hv : ∀ k, (k < 9 ∨ (11 ≤ k ∧ k < 180)) → k ≠ 2 → v k = w k) : Rp I s v := by
  obtain ⟨r0, r1, rP, rO, rA, r9, r10, r11, r12, r13, r14, r15, r16, r17⟩ := h
  have e0 : aPe v = aPe w := hv 0 (by omega) (by omega)
  have eo : ∀ p k, 0 ≤ p → p < aPe w → 0 ≤ k → k < 13 → aOf v p k = aOf w p k := fun p k h0 h1 h2 h3 => hv _ (by omega) (by omega)
  refine ⟨by rw [e0]; exact r0, by rw [e0]; exact r1, fun p p0 p1 => ?_, fun p q p0 p1 q0 q1 => ?_, ?_, ?_, ?_, ?_, ?_, ?_, ?_, ?_, by rw [e0]; exact r16, ?_⟩
  · rw [e0] at p1
    obtain ⟨i0, i1, i2, i3, i4, i5, i6⟩ := rP p p0 p1
    unfold RpP
    rw [eo p 0 p0 p1 (by omega) (by omega), eo p 1 p0 p1 (by omega) (by omega), eo p 2 p0 p1 (by omega) (by omega), eo p 3 p0 p1 (by omega) (by omega), eo p 4 p0 p1 (by omega) (by omega), eo p 5 p0 p1 (by omega) (by omega)]
    exact ⟨i0, i1, i2, i3, i4, i5, fun k k0 k1 => by rw [eo p _ p0 p1 (by omega) (by omega)]; exact i6 k k0 k1⟩
  · rw [e0] at p1 q1
    rw [show aOw v p q = aOw w p q from hv _ (by omega) (by omega)]
    exact rO p q p0 p1 q0 q1
  · rw [rA, mAlive_cong e0 (fun p p0 p1 => eo p 3 p0 p1 (by omega) (by omega))]
  · rw [hv 4 (by omega) (by omega)]; exact r9
  · rw [hv 5 (by omega) (by omega)]; exact r10
  · rw [hv 6 (by omega) (by omega)]; exact r11
  · rw [hv 7 (by omega) (by omega)]; exact r12
  · rw [hv 3 (by omega) (by omega)]; exact r13
  · rw [hv 11 (by omega) (by omega)]; exact r14
  · rw [hv 1 (by omega) (by omega)]; exact r15
  · rw [hv 8 (by omega) (by omega)]; exact r17
theorem RpZ_fld {k x n : Int} (h : RpZ I s n) : RpZ (jup I s k x) s n := by
  unfold RpZ
  rw [jup_ne _ _ _ (show s + 3 ≠ s by omega), jup_ne _ _ _ (show s + 4 ≠ s by omega), jup_ne _ _ _ (show s + 6 ≠ s by omega), jup_ne _ _ _ (show s + 7 ≠ s by omega)]
  exact h
theorem RpZ_one {p x n : Int} {b : Nat} (h : RpZ I s n) (hp : p < n) (hb : b ≤ 6) : RpZ (jup I (s + b) p x) s n :=
  ⟨fun y y0 y1 => by rw [jup_row _ _ _ (show y ≠ p by omega), jup_row _ _ _ (show y ≠ p by omega), jup_row _ _ _ (show y ≠ p by omega)]; exact h.1 y y0 y1, fun q r q0 q1 r0 r1 h2 => by rw [jup_ne _ _ _ (by omega)]; exact h.2 q r q0 q1 r0 r1 h2⟩
/-- an int field of a state and its place in a row -/
theorem Rp_fld {k j x : Int} (h : Rp I s w) (hkj : (k = 9 ∧ j = 4) ∨ (k = 10 ∧ j = 5) ∨ (k = 11 ∧ j = 6) ∨ (k = 12 ∧ j = 7) ∨ (k = 13 ∧ j = 3) ∨ (k = 14 ∧ j = 11) ∨ (k = 15 ∧ j = 1) ∨ (k = 17 ∧ j = 8)) : Rp (jup I s k x) s (wup w j x) := by
  obtain ⟨r0, r1, rP, rO, rA, r9, r10, r11, r12, r13, r14, r15, r16, r17⟩ := h
  have e0 : aPe (wup w j x) = aPe w := wup_ne _ _ (by omega)
  have eo : ∀ p k, 0 ≤ p → 0 ≤ k → aOf (wup w j x) p k = aOf w p k := fun p k h0 h2 => wup_ne _ _ (by omega)
  have ec : ∀ a, s < a → jup I s k x a = I a := fun a ha => jup_ne _ _ _ (by omega)
  refine ⟨by rw [e0, jup_row _ _ _ (by omega)]; exact r0, by rw [e0]; exact r1, fun p p0 p1 => ?_, fun p q p0 p1 q0 q1 => ?_, ?_, ?_, ?_, ?_, ?_, ?_, ?_, ?_, RpZ_fld (by rw [e0]; exact r16), ?_⟩
  · rw [e0] at p1
    obtain ⟨i0, i1, i2, i3, i4, i5, i6⟩ := rP p p0 p1
    unfold RpP
    rw [eo p 0 p0 (by omega), eo p 1 p0 (by omega), eo p 2 p0 (by omega), eo p 3 p0 (by omega), eo p 4 p0 (by omega), eo p 5 p0 (by omega), ec (s + 1) (by omega), ec (s + 2) (by omega), ec (s + 3) (by omega), ec (s + 4) (by omega), ec (s + 5) (by omega), ec (s + 6) (by omega), jup_row _ _ _ (show (1 : Int) ≠ k by omega)]
    exact ⟨i0, i1, i2, i3, i4, i5, fun k k0 k1 => by rw [eo p _ p0 (by omega)]; exact i6 k k0 k1⟩
  · rw [e0] at p1 q1
    rw [show aOw (wup w j x) p q = aOw w p q from wup_ne _ _ (by omega), ec (s + 7) (by omega)]
    exact rO p q p0 p1 q0 q1
  · rw [jup_row _ _ _ (show (1 : Int) ≠ k by omega), rA, mAlive_cong e0 (fun p p0 p1 => eo p 3 p0 (by omega))]
  all_goals (rcases hkj with ⟨rfl, rfl⟩ | ⟨rfl, rfl⟩ | ⟨rfl, rfl⟩ | ⟨rfl, rfl⟩ | ⟨rfl, rfl⟩ | ⟨rfl, rfl⟩ | ⟨rfl, rfl⟩ | ⟨rfl, rfl⟩)
  all_goals first | (rw [jup_same, wup_same]; done) | (rw [jup_row _ _ _ (by decide), wup_ne _ _ (by decide)]; assumption)
/-- one's place in a row of a state and in a row of the model -/
theorem Rp_one {p x : Int} {b : Nat} {c : Int} (h : Rp I s w) (hp : 0 ≤ p ∧ p < aPe w) (hbc : (b = 3 ∧ c = 1) ∨ (b = 4 ∧ c = 2) ∨ (b = 6 ∧ c = 5) ∨ (b = 5 ∧ c = 4)) : Rp (jup I (s + b) p x) s (wup w (12 + 13 * p + c) x) := by
  obtain ⟨r0, r1, rP, rO, rA, r9, r10, r11, r12, r13, r14, r15, r16, r17⟩ := h
  have el : ∀ k, k < 12 → wup w (12 + 13 * p + c) x k = w k := fun k hk => wup_ne _ _ (by omega)
  have e0 : aPe (wup w (12 + 13 * p + c) x) = aPe w := el 0 (by omega)
  have eo : ∀ q k, 0 ≤ k → k < 13 → ¬ (q = p ∧ k = c) → aOf (wup w (12 + 13 * p + c) x) q k = aOf w q k := fun q k h2 h3 h4 => wup_ne _ _ (by omega)
  have es : aOf (wup w (12 + 13 * p + c) x) p c = x := wup_same _ _ _
  have ec : ∀ a, a ≠ s + b → jup I (s + b) p x a = I a := fun a ha => jup_ne _ _ _ ha
  refine ⟨by rw [e0, ec s (by omega)]; exact r0, by rw [e0]; exact r1, fun q q0 q1 => ?_, fun q r q0 q1 k0 k1 => ?_, ?_, ?_, ?_, ?_, ?_, ?_, ?_, ?_, by rw [e0]; exact RpZ_one r16 hp.2 (by omega), ?_⟩
  · rw [e0] at q1
    obtain ⟨i0, i1, i2, i3, i4, i5, i6⟩ := rP q q0 q1
    have i6' : ∀ k, 0 ≤ k → k < 7 → jup I (s + b) p x (s + 2) (q * 7 + k) = aOf (wup w (12 + 13 * p + c) x) q (6 + k) := fun k k0 k1 => by rw [ec (s + 2) (by omega), eo q _ (by omega) (by omega) (by omega)]; exact i6 k k0 k1
    unfold RpP
    refine ⟨?_, ?_, ?_, ?_, ?_, ?_, i6'⟩
    · rw [ec (s + 1) (by omega), eo q 0 (by omega) (by omega) (by omega)]; exact i0
    · by_cases e : q = p ∧ c = 1
      · obtain ⟨rfl, rfl⟩ := e
        rw [show b = 3 by omega, jup_same, es]
      · rw [eo q 1 (by omega) (by omega) (by omega)]
        by_cases e2 : b = 3
        · subst e2; rw [jup_row _ _ _ (by omega)]; exact i1
        · rw [ec (s + 3) (by omega)]; exact i1
    · by_cases e : q = p ∧ c = 2
      · obtain ⟨rfl, rfl⟩ := e
        rw [show b = 4 by omega, jup_same, es]
      · rw [eo q 2 (by omega) (by omega) (by omega)]
        by_cases e2 : b = 4
        · subst e2; rw [jup_row _ _ _ (by omega)]; exact i2
        · rw [ec (s + 4) (by omega)]; exact i2
    · rw [ec s (by omega), eo q 3 (by omega) (by omega) (by omega)]; exact i3
    · by_cases e : q = p ∧ c = 4
      · obtain ⟨rfl, rfl⟩ := e
        rw [show b = 5 by omega, jup_same, es]
      · rw [eo q 4 (by omega) (by omega) (by omega)]
        by_cases e2 : b = 5
        · subst e2; rw [jup_row _ _ _ (by omega)]; exact i4
        · rw [ec (s + 5) (by omega)]; exact i4
    · by_cases e : q = p ∧ c = 5
      · obtain ⟨rfl, rfl⟩ := e
        rw [show b = 6 by omega, jup_same, es]
      · rw [eo q 5 (by omega) (by omega) (by omega)]
        by_cases e2 : b = 6
        · subst e2; rw [jup_row _ _ _ (by omega)]; exact i5
        · rw [ec (s + 6) (by omega)]; exact i5
  · rw [e0] at q1 k1
    rw [show aOw (wup w (12 + 13 * p + c) x) q r = aOw w q r from wup_ne _ _ (by omega), ec (s + 7) (by omega)]
    exact rO q r q0 q1 k0 k1
  · rw [ec s (by omega), rA, mAlive_cong e0 (fun q q0 q1 => eo q 3 (by omega) (by omega) (by omega))]
  all_goals (rw [ec s (by omega), el _ (by decide)]; assumption)
end
/-- the law of a state and of a row -/
def LwR (sh : List (Nat × Nat)) (I : Nat → Int → Int) (F : Nat → Int → Option Nat) (s : Nat) (w : Int → Int) : Prop := (w 2 = 0 ∧ F s 18 = none) ∨ (w 2 = 1 ∧ ∃ l, F s 18 = some l ∧ LawAt sh I F l w)
theorem LawAt_w {sh : List (Nat × Nat)} {I : Nat → Int → Int} {F : Nat → Int → Option Nat} {l : Nat} {w v : Int → Int} (h : LawAt sh I F l w) (hv : ∀ k, 420 ≤ k → v k = w k) : LawAt sh I F l v := by
  obtain ⟨a1, a0, la, ls, lc, nc, f, p, s, a2, a3⟩ := h
  refine ⟨a1, a0, la, ls, lc, nc, f, p, s, by rw [hv 420 (by omega)]; exact a2, ?_⟩
  rw [hv 420 (by omega)]
  intro k k0 k1
  rw [hv (421 + 4 * k) (by omega), hv (421 + 4 * k + 1) (by omega), hv (421 + 4 * k + 2) (by omega), hv (421 + 4 * k + 3) (by omega)]
  obtain ⟨b0, b1, b2, b3, b4, b5⟩ := a3 k k0 k1
  exact ⟨b0, b1, b2, b3, b4, fun i ip i0 i1 => by rw [show aStp v i = aStp w i from hv _ (by omega), show aArg v i = aArg w i from hv _ (by omega)]; exact b5 i ip i0 i1⟩
theorem LwR_w {sh : List (Nat × Nat)} {I : Nat → Int → Int} {F : Nat → Int → Option Nat} {s : Nat} {w v : Int → Int} (h : LwR sh I F s w) (h2 : v 2 = w 2) (hv : ∀ k, 420 ≤ k → v k = w k) : LwR sh I F s v := by
  unfold LwR
  rw [h2]
  rcases h with h | ⟨a, l, b, c⟩
  · exact Or.inl h
  · exact Or.inr ⟨a, l, b, LawAt_w c hv⟩
theorem LwR_fr {sh : List (Nat × Nat)} {I J : Nat → Int → Int} {F : Nat → Int → Option Nat} {s : Nat} {w : Int → Int} (h : LwR sh I F s w) (hv : ∀ a, 185 ≤ a → J a = I a) : LwR sh J F s w := by
  rcases h with h | ⟨a, l, b, c⟩
  · exact Or.inl h
  · exact Or.inr ⟨a, l, b, LawAt_fr c hv⟩
section
variable {G : jzG} {d : Nat} {sh : List (Nat × Nat)} {I : Nat → Int → Int} {F : Nat → Int → Option Nat} {s : Nat} {w : Int → Int}
theorem sc_drawsBelow (hs : StAt sh F s) (hR : Rp I s w) {b : Int} (hb : 0 ≤ b ∧ b ≤ 100) : jS G d mX2_drawsBelow [jR (some s), jI b] (sh, I, F) 0 0 (rI (if sDraw (sNext (w 11)) < b then 1 else 0) (sh, jup I s 14 (sNext (w 11)), F)) := by
  obtain ⟨g0, g1, g2, g3, g4, g5, g6, g7, g8, g9, e1, e2, e3, e4, e5, e6, e7, e8, e9⟩ := id hs
  obtain ⟨r0, r1, rP, rO, rA, r9, r10, r11, r12, r13, r14, r15, r16, r17⟩ := id hR
  refine jS_go [some (jR (some s)), some (jI b)] (by decide +kernel) rfl (by simp [jone]) (Nat.le_of_ble_eq_true rfl) rfl (fun hok => ?_)
  have hm := jAnd_mask (jShr (jwr (1103515245 * w 11 + 12345)) 16)
  have hu := jshr_ushr (jwr (1103515245 * w 11 + 12345))
  have hsd : sDraw (sNext (w 11)) = jAnd (jShr (jwr (1103515245 * w 11 + 12345)) 16) 32767 % 100 := rfl
  refine j_aload_n dX2_drawsBelow_0 rfl ?_
  refine j_ldc (n := 1103515245) dX2_drawsBelow_1 kcX2_112 ?_
  refine j_aload_n dX2_drawsBelow_3 rfl ?_
  refine r_getIE dX2_drawsBelow_4 flX2_113 (by first | assumption | exact hsh _ _ rfl) r14 (fun b_4 => ?_)
  refine j_imul dX2_drawsBelow_7 ?_
  refine j_sipush dX2_drawsBelow_8 (by decide) ?_
  refine j_iadd dX2_drawsBelow_11 ?_
  refine j_wrap ?_
  refine r_putI dX2_drawsBelow_12 flX2_113 rfl (by first | assumption | exact hsh _ _ rfl) (jwr_in _) (fun q => by cases q) ?_
  refine j_aload_n dX2_drawsBelow_15 rfl ?_
  refine r_getIE dX2_drawsBelow_16 flX2_113 (by first | assumption | exact hsh _ _ rfl) (jup_same _ _ _ _) (fun b_16 => ?_)
  refine j_bipush dX2_drawsBelow_19 (by decide) ?_
  refine r_iushr dX2_drawsBelow_21 (fun b_21 => ?_)
  refine j_sipush dX2_drawsBelow_22 (by decide) ?_
  refine r_iand dX2_drawsBelow_25 (fun b_25 => ?_)
  rw [hu]
  refine j_bipush dX2_drawsBelow_26 (by decide) ?_
  refine r_iremN dX2_drawsBelow_28 (by first | omega | (split <;> omega)) (by first | omega | (split <;> omega)) ?_
  refine j_iload_n dX2_drawsBelow_29 rfl ?_
  refine j_icmp_ge (tgt := 37) dX2_drawsBelow_30 rfl (by first | omega | (split <;> omega)) (by first | omega | (split <;> omega)) (fun c_30 => ?_) (fun c_30 => ?_)
  · refine j_iconst dX2_drawsBelow_37 ?_
    refine j_zret dX2_drawsBelow_38 rfl (by omega) ?_
    exact rI_of (by first | rw [if_pos (by omega)] | rw [if_neg (by omega)]) rfl
  · refine j_iconst dX2_drawsBelow_33 ?_
    refine j_goto (tgt := 38) dX2_drawsBelow_34 rfl ?_
    refine j_zret dX2_drawsBelow_38 rfl (by omega) ?_
    exact rI_of (by first | rw [if_pos (by omega)] | rw [if_neg (by omega)]) rfl
/-- only the course's rows, and of them these -/
abbrev FrK (I J : Nat → Int → Int) : Prop := (∀ a, (a < 160 ∨ 165 < a) → J a = I a) ∧ J 161 = I 161 ∧ J 164 = I 164 ∧ J 160 9 = I 160 9 ∧ J 160 5 = I 160 5
theorem sc_decide (hsh : ShOK sh) (hfx : FxOK F) (hs : StAt sh F s) (hs9 : s + 9 < 154) (hR : Rp I s w) (hL : LwR sh I F s w) (hW : WF w) {p pain wet : Int} (hp : 0 ≤ p ∧ p < aPe w) (h1 : I 161 p = pain) (h2 : 0 ≤ pain ∧ pain ≤ 100) (h3 : I 160 9 = w 3) (h4 : I 160 5 = wet) (h5 : wet = 0 ∨ wet = 1) : jS G (d + 4) mX2_decide [jR (some 160), jR (some s), jI p] (sh, I, F) 0 0 (rEV sh F (fun J => J 162 = wup (I 162) p (mPut w p pain wet) ∧ J 163 = wup (I 163) p (mDrw w p pain wet) ∧ FrK I J)) := by
  obtain ⟨g0, g1, g2, g3, g4, g5, g6, g7, g8, g9, e1, e2, e3, e4, e5, e6, e7, e8, e9⟩ := id hs
  obtain ⟨r0, r1, rP, rO, rA, r9, r10, r11, r12, r13, r14, r15, r16, r17⟩ := id hR
  have u := rP p hp.1 hp.2
  have hq := hW.2.1.2.2 p hp.1 hp.2
  have hv := WF_fact hW hp h2 h5
  have hLw := hW.2.2.1
  refine jS_go [some (jR (some 160)), some (jR (some s)), some (jI p), none, none] (by decide +kernel) rfl (by simp [jone]) (Nat.le_of_ble_eq_true rfl) rfl (fun hok => ?_)
  obtain ⟨I1, hI1⟩ : ∃ K, K = jup (jup (jup I 160 6 p) 160 7 (aOf w p 0)) 160 8 (aOf w p 1) := ⟨_, rfl⟩
  have f1 : ∀ a, a ≠ 160 → I1 a = I a := fun a ha => by rw [hI1, jup_ne _ _ _ ha, jup_ne _ _ _ ha, jup_ne _ _ _ ha]
  have f2 : ∀ k, k ≠ 6 → k ≠ 7 → k ≠ 8 → I1 160 k = I 160 k := fun k k6 k7 k8 => by rw [hI1, jup_row _ _ _ k8, jup_row _ _ _ k7, jup_row _ _ _ k6]
  have q6 : I1 160 6 = p := by rw [hI1, jup_row _ _ _ (by decide), jup_row _ _ _ (by decide), jup_same]
  have q7 : I1 160 7 = aOf w p 0 := by rw [hI1, jup_row _ _ _ (by decide), jup_same]
  have q8 : I1 160 8 = aOf w p 1 := by rw [hI1, jup_same]
  have q161 : I1 161 p = pain := by rw [f1 161 (by decide)]; exact h1
  have hC : CtxC I1 w p pain wet := ⟨q6, q161, q8, q7, by rw [f2 9 (by decide) (by decide) (by decide)]; exact h3, by rw [f2 5 (by decide) (by decide) (by decide)]; exact h4⟩
  -- the end: what is given and taken
  have fin : ∀ (J : Nat → Int → Int) (x y : Int), Fr1 165 I1 J → max 0 (min x pain) = mPut w p pain wet → max 0 (min y (aOf w p 1)) = mDrw w p pain wet → jin x → jin y → jW G mX2_decide (d + 4) (rEV sh F (fun J => J 162 = wup (I 162) p (mPut w p pain wet) ∧ J 163 = wup (I 163) p (mDrw w p pain wet) ∧ FrK I J)) 93 [some (jR (some 160)), some (jR (some s)), some (jI p), some (jI x), some (jI y)] [] (sh, J, F) 0 0 := by
    intro J x y hJ hx hy jx jy
    have k161 : J 161 p = pain := by rw [hJ 161 (by decide)]; exact q161
    have k8 : (jup J 162 p (max 0 (min x pain))) 160 8 = aOf w p 1 := by rw [jup_ne _ _ _ (by decide), hJ 160 (by decide)]; exact q8
    refine j_aload_n dX2_decide_93 rfl ?_
    refine r_getS dX2_decide_94 flX2_15 (by first | assumption | exact hsh _ _ rfl) (fx_160_1 hfx) ?_
    refine j_iload_n dX2_decide_97 rfl ?_
    refine j_iconst dX2_decide_98 ?_
    refine j_iload_n dX2_decide_99 rfl ?_
    refine j_aload_n dX2_decide_100 rfl ?_
    refine r_getS dX2_decide_101 flX2_9 (by first | assumption | exact hsh _ _ rfl) (fx_160_0 hfx) ?_
    refine j_iload_n dX2_decide_104 rfl ?_
    refine r_ialoadE dX2_decide_105 (by first | assumption | exact hsh _ _ rfl) (by first | omega | (split <;> omega)) (by first | omega | (split <;> omega)) k161 (fun b_105 => ?_)
    refine r_min dX2_decide_106 lmX2_131 (Nat.le_of_ble_eq_true rfl) (by first | omega | (split <;> omega)) (by first | omega | (split <;> omega)) ?_
    refine r_max dX2_decide_109 lmX2_136 (Nat.le_of_ble_eq_true rfl) (by first | omega | (split <;> omega)) (by first | omega | (split <;> omega)) ?_
    refine r_iastore dX2_decide_112 (by first | assumption | exact hsh _ _ rfl) (by first | omega | (split <;> omega)) (by first | omega | (split <;> omega)) (by first | omega | (split <;> omega)) ?_
    refine j_aload_n dX2_decide_113 rfl ?_
    refine r_getS dX2_decide_114 flX2_18 (by first | assumption | exact hsh _ _ rfl) (fx_160_2 hfx) ?_
    refine j_iload_n dX2_decide_117 rfl ?_
    refine j_iconst dX2_decide_118 ?_
    refine j_iload dX2_decide_119 rfl ?_
    refine j_aload_n dX2_decide_121 rfl ?_
    refine r_getIE dX2_decide_122 flX2_107 (by first | assumption | exact hsh _ _ rfl) k8 (fun b_122 => ?_)
    refine r_min dX2_decide_125 lmX2_131 (Nat.le_of_ble_eq_true rfl) (by first | omega | (split <;> omega)) (by first | omega | (split <;> omega)) ?_
    refine r_max dX2_decide_128 lmX2_136 (Nat.le_of_ble_eq_true rfl) (by first | omega | (split <;> omega)) (by first | omega | (split <;> omega)) ?_
    refine r_iastore dX2_decide_131 (by first | assumption | exact hsh _ _ rfl) (by first | omega | (split <;> omega)) (by first | omega | (split <;> omega)) (by first | omega | (split <;> omega)) ?_
    refine j_vret dX2_decide_132 rfl ?_
    refine rEV_of ⟨?_, ?_, ⟨fun a ha => ?_, ?_, ?_, ?_, ?_⟩⟩
    · rw [jup_ne _ _ _ (by decide), jup_at, hJ 162 (by decide), f1 162 (by decide), hx]
    · rw [jup_at, jup_ne _ _ _ (by decide), hJ 163 (by decide), f1 163 (by decide), hy]
    · rw [jup_ne _ _ _ (by omega), jup_ne _ _ _ (by omega), hJ a (by omega), f1 a (by omega)]
    · rw [jup_ne _ _ _ (by decide), jup_ne _ _ _ (by decide), hJ _ (by decide), f1 _ (by decide)]
    · rw [jup_ne _ _ _ (by decide), jup_ne _ _ _ (by decide), hJ _ (by decide), f1 _ (by decide)]
    · rw [jup_ne _ _ _ (by decide), jup_ne _ _ _ (by decide), hJ _ (by decide), f2 _ (by decide) (by decide) (by decide)]
    · rw [jup_ne _ _ _ (by decide), jup_ne _ _ _ (by decide), hJ _ (by decide), f2 _ (by decide) (by decide) (by decide)]
  have a21 : (jup (jup I 160 6 p) 160 7 (aOf w p 0)) (s + 3) p = aOf w p 1 := by rw [jup_ne _ _ _ (by omega), jup_ne _ _ _ (by omega)]; exact u.2.1
  have a11 : (jup I 160 6 p) (s + 1) p = aOf w p 0 := by rw [jup_ne _ _ _ (by omega)]; exact u.1
  have q17 : I1 s 17 = w 8 := by rw [f1 s (by omega)]; exact r17
  have g8 := hW.2.2.2.1
  by_cases h6 : w 8 = 1
  · have hx : max 0 (min 0 pain) = mPut w p pain wet := by
      rw [show mPut w p pain wet = 0 from if_pos h6]; omega
    have hy : max 0 (min 0 (aOf w p 1)) = mDrw w p pain wet := by
      rw [show mDrw w p pain wet = 0 from if_pos h6]; omega
    refine j_aload_n dX2_decide_0 rfl ?_
    refine j_iload_n dX2_decide_1 rfl ?_
    refine r_putI dX2_decide_2 flX2_104 rfl (by first | assumption | exact hsh _ _ rfl) (by first | omega | (split <;> omega)) (fun q => by cases q) ?_
    refine j_aload_n dX2_decide_5 rfl ?_
    refine j_aload_n dX2_decide_6 rfl ?_
    refine r_getS dX2_decide_7 flX2_91 (by first | assumption | exact hsh _ _ rfl) (by assumption) ?_
    refine j_iload_n dX2_decide_10 rfl ?_
    refine r_ialoadE dX2_decide_11 (by first | assumption | exact hsh _ _ rfl) (by first | omega | (split <;> omega)) (by first | omega | (split <;> omega)) a11 (fun b_11 => ?_)
    refine r_putI dX2_decide_12 flX2_110 rfl (by first | assumption | exact hsh _ _ rfl) (by first | omega | (split <;> omega)) (fun q => by cases q) ?_
    refine j_aload_n dX2_decide_15 rfl ?_
    refine j_aload_n dX2_decide_16 rfl ?_
    refine r_getS dX2_decide_17 flX2_116 (by first | assumption | exact hsh _ _ rfl) (by assumption) ?_
    refine j_iload_n dX2_decide_20 rfl ?_
    refine r_ialoadE dX2_decide_21 (by first | assumption | exact hsh _ _ rfl) (by first | omega | (split <;> omega)) (by first | omega | (split <;> omega)) a21 (fun b_21 => ?_)
    refine r_putI dX2_decide_22 flX2_107 rfl (by first | assumption | exact hsh _ _ rfl) (by first | omega | (split <;> omega)) (fun q => by cases q) ?_
    rw [← hI1]
    refine j_aload_n dX2_decide_25 rfl ?_
    refine r_getS dX2_decide_26 flX2_9 (by first | assumption | exact hsh _ _ rfl) (fx_160_0 hfx) ?_
    refine j_iload_n dX2_decide_29 rfl ?_
    refine r_ialoadE dX2_decide_30 (by first | assumption | exact hsh _ _ rfl) (by first | omega | (split <;> omega)) (by first | omega | (split <;> omega)) q161 (fun b_30 => ?_)
    refine j_aload_n dX2_decide_31 rfl ?_
    refine r_getIE dX2_decide_32 flX2_110 (by first | assumption | exact hsh _ _ rfl) q7 (fun b_32 => ?_)
    refine j_isub dX2_decide_35 ?_
    refine j_istore_n dX2_decide_36 (by decide) ?_
    refine j_aload_n dX2_decide_37 rfl ?_
    refine r_getIE dX2_decide_38 flX2_110 (by first | assumption | exact hsh _ _ rfl) q7 (fun b_38 => ?_)
    refine j_aload_n dX2_decide_41 rfl ?_
    refine r_getS dX2_decide_42 flX2_9 (by first | assumption | exact hsh _ _ rfl) (fx_160_0 hfx) ?_
    refine j_iload_n dX2_decide_45 rfl ?_
    refine r_ialoadE dX2_decide_46 (by first | assumption | exact hsh _ _ rfl) (by first | omega | (split <;> omega)) (by first | omega | (split <;> omega)) q161 (fun b_46 => ?_)
    refine j_isub dX2_decide_47 ?_
    refine j_istore dX2_decide_48 (by decide) ?_
    refine j_aload_n dX2_decide_50 rfl ?_
    refine r_getIE dX2_decide_51 flX2_118 (by first | assumption | exact hsh _ _ rfl) q17 (fun b_51 => ?_)
    refine j_if_eq (tgt := 65) dX2_decide_54 rfl (by first | omega | (split <;> omega)) (fun c_54 => by exact absurd c_54 (by omega)) (fun c_54 => ?_)
    refine j_iconst dX2_decide_57 ?_
    refine j_istore_n dX2_decide_58 (by decide) ?_
    refine j_iconst dX2_decide_59 ?_
    refine j_istore dX2_decide_60 (by decide) ?_
    refine j_goto (tgt := 93) dX2_decide_62 rfl ?_
    exact fin _ _ _ (fun _ _ => rfl) hx hy (by omega) (by omega)
  rcases hL with ⟨e2, eL⟩ | ⟨e2, l, eL, hl⟩
  · have hx : max 0 (min (pain - aOf w p 0) pain) = mPut w p pain wet := by
      unfold mPut
      rw [if_neg h6, if_neg (by omega)]; omega
    have hy : max 0 (min (aOf w p 0 - pain) (aOf w p 1)) = mDrw w p pain wet := by
      unfold mDrw
      rw [if_neg h6, if_neg (by omega)]; omega
    refine j_aload_n dX2_decide_0 rfl ?_
    refine j_iload_n dX2_decide_1 rfl ?_
    refine r_putI dX2_decide_2 flX2_104 rfl (by first | assumption | exact hsh _ _ rfl) (by first | omega | (split <;> omega)) (fun q => by cases q) ?_
    refine j_aload_n dX2_decide_5 rfl ?_
    refine j_aload_n dX2_decide_6 rfl ?_
    refine r_getS dX2_decide_7 flX2_91 (by first | assumption | exact hsh _ _ rfl) (by assumption) ?_
    refine j_iload_n dX2_decide_10 rfl ?_
    refine r_ialoadE dX2_decide_11 (by first | assumption | exact hsh _ _ rfl) (by first | omega | (split <;> omega)) (by first | omega | (split <;> omega)) a11 (fun b_11 => ?_)
    refine r_putI dX2_decide_12 flX2_110 rfl (by first | assumption | exact hsh _ _ rfl) (by first | omega | (split <;> omega)) (fun q => by cases q) ?_
    refine j_aload_n dX2_decide_15 rfl ?_
    refine j_aload_n dX2_decide_16 rfl ?_
    refine r_getS dX2_decide_17 flX2_116 (by first | assumption | exact hsh _ _ rfl) (by assumption) ?_
    refine j_iload_n dX2_decide_20 rfl ?_
    refine r_ialoadE dX2_decide_21 (by first | assumption | exact hsh _ _ rfl) (by first | omega | (split <;> omega)) (by first | omega | (split <;> omega)) a21 (fun b_21 => ?_)
    refine r_putI dX2_decide_22 flX2_107 rfl (by first | assumption | exact hsh _ _ rfl) (by first | omega | (split <;> omega)) (fun q => by cases q) ?_
    rw [← hI1]
    refine j_aload_n dX2_decide_25 rfl ?_
    refine r_getS dX2_decide_26 flX2_9 (by first | assumption | exact hsh _ _ rfl) (fx_160_0 hfx) ?_
    refine j_iload_n dX2_decide_29 rfl ?_
    refine r_ialoadE dX2_decide_30 (by first | assumption | exact hsh _ _ rfl) (by first | omega | (split <;> omega)) (by first | omega | (split <;> omega)) q161 (fun b_30 => ?_)
    refine j_aload_n dX2_decide_31 rfl ?_
    refine r_getIE dX2_decide_32 flX2_110 (by first | assumption | exact hsh _ _ rfl) q7 (fun b_32 => ?_)
    refine j_isub dX2_decide_35 ?_
    refine j_istore_n dX2_decide_36 (by decide) ?_
    refine j_aload_n dX2_decide_37 rfl ?_
    refine r_getIE dX2_decide_38 flX2_110 (by first | assumption | exact hsh _ _ rfl) q7 (fun b_38 => ?_)
    refine j_aload_n dX2_decide_41 rfl ?_
    refine r_getS dX2_decide_42 flX2_9 (by first | assumption | exact hsh _ _ rfl) (fx_160_0 hfx) ?_
    refine j_iload_n dX2_decide_45 rfl ?_
    refine r_ialoadE dX2_decide_46 (by first | assumption | exact hsh _ _ rfl) (by first | omega | (split <;> omega)) (by first | omega | (split <;> omega)) q161 (fun b_46 => ?_)
    refine j_isub dX2_decide_47 ?_
    refine j_istore dX2_decide_48 (by decide) ?_
    refine j_aload_n dX2_decide_50 rfl ?_
    refine r_getIE dX2_decide_51 flX2_118 (by first | assumption | exact hsh _ _ rfl) q17 (fun b_51 => ?_)
    refine j_if_eq (tgt := 65) dX2_decide_54 rfl (by first | omega | (split <;> omega)) (fun c_54 => ?_) (fun c_54 => by exact absurd (by omega) c_54)
    refine j_aload_n dX2_decide_65 rfl ?_
    refine r_getR dX2_decide_66 flX2_121 (by first | assumption | exact hsh _ _ rfl) ?_
    refine j_ifnull (tgt := 93) dX2_decide_69 rfl (fun c_69 => ?_) (fun a_69 c_69 => by exact absurd (c_69.symm.trans eL) (by simp))
    exact fin _ _ _ (fun _ _ => rfl) hx hy (by omega) (by omega)
  · have hl1 := LawAt_fr hl (I' := I1) (fun a ha => f1 a (by omega))
    have hs1 := mSum_in (kind := 1) (p := p) (pain := pain) (wet := wet) (hLw.2 e2)
    have hs0 := mSum_in (kind := 0) (p := p) (pain := pain) (wet := wet) (hLw.2 e2)
    have g2 : sh[l]? = some (2, 0) := hl.1
    have hx : max 0 (min (mSum w 1 p pain wet) pain) = mPut w p pain wet := by
      unfold mPut
      rw [if_neg h6, if_pos e2]; omega
    have hy : max 0 (min (mSum w 0 p pain wet) (aOf w p 1)) = mDrw w p pain wet := by
      unfold mDrw
      rw [if_neg h6, if_pos e2]; omega
    refine j_aload_n dX2_decide_0 rfl ?_
    refine j_iload_n dX2_decide_1 rfl ?_
    refine r_putI dX2_decide_2 flX2_104 rfl (by first | assumption | exact hsh _ _ rfl) (by first | omega | (split <;> omega)) (fun q => by cases q) ?_
    refine j_aload_n dX2_decide_5 rfl ?_
    refine j_aload_n dX2_decide_6 rfl ?_
    refine r_getS dX2_decide_7 flX2_91 (by first | assumption | exact hsh _ _ rfl) (by assumption) ?_
    refine j_iload_n dX2_decide_10 rfl ?_
    refine r_ialoadE dX2_decide_11 (by first | assumption | exact hsh _ _ rfl) (by first | omega | (split <;> omega)) (by first | omega | (split <;> omega)) a11 (fun b_11 => ?_)
    refine r_putI dX2_decide_12 flX2_110 rfl (by first | assumption | exact hsh _ _ rfl) (by first | omega | (split <;> omega)) (fun q => by cases q) ?_
    refine j_aload_n dX2_decide_15 rfl ?_
    refine j_aload_n dX2_decide_16 rfl ?_
    refine r_getS dX2_decide_17 flX2_116 (by first | assumption | exact hsh _ _ rfl) (by assumption) ?_
    refine j_iload_n dX2_decide_20 rfl ?_
    refine r_ialoadE dX2_decide_21 (by first | assumption | exact hsh _ _ rfl) (by first | omega | (split <;> omega)) (by first | omega | (split <;> omega)) a21 (fun b_21 => ?_)
    refine r_putI dX2_decide_22 flX2_107 rfl (by first | assumption | exact hsh _ _ rfl) (by first | omega | (split <;> omega)) (fun q => by cases q) ?_
    rw [← hI1]
    refine j_aload_n dX2_decide_25 rfl ?_
    refine r_getS dX2_decide_26 flX2_9 (by first | assumption | exact hsh _ _ rfl) (fx_160_0 hfx) ?_
    refine j_iload_n dX2_decide_29 rfl ?_
    refine r_ialoadE dX2_decide_30 (by first | assumption | exact hsh _ _ rfl) (by first | omega | (split <;> omega)) (by first | omega | (split <;> omega)) q161 (fun b_30 => ?_)
    refine j_aload_n dX2_decide_31 rfl ?_
    refine r_getIE dX2_decide_32 flX2_110 (by first | assumption | exact hsh _ _ rfl) q7 (fun b_32 => ?_)
    refine j_isub dX2_decide_35 ?_
    refine j_istore_n dX2_decide_36 (by decide) ?_
    refine j_aload_n dX2_decide_37 rfl ?_
    refine r_getIE dX2_decide_38 flX2_110 (by first | assumption | exact hsh _ _ rfl) q7 (fun b_38 => ?_)
    refine j_aload_n dX2_decide_41 rfl ?_
    refine r_getS dX2_decide_42 flX2_9 (by first | assumption | exact hsh _ _ rfl) (fx_160_0 hfx) ?_
    refine j_iload_n dX2_decide_45 rfl ?_
    refine r_ialoadE dX2_decide_46 (by first | assumption | exact hsh _ _ rfl) (by first | omega | (split <;> omega)) (by first | omega | (split <;> omega)) q161 (fun b_46 => ?_)
    refine j_isub dX2_decide_47 ?_
    refine j_istore dX2_decide_48 (by decide) ?_
    refine j_aload_n dX2_decide_50 rfl ?_
    refine r_getIE dX2_decide_51 flX2_118 (by first | assumption | exact hsh _ _ rfl) q17 (fun b_51 => ?_)
    refine j_if_eq (tgt := 65) dX2_decide_54 rfl (by first | omega | (split <;> omega)) (fun c_54 => ?_) (fun c_54 => by exact absurd (by omega) c_54)
    refine j_aload_n dX2_decide_65 rfl ?_
    refine r_getR dX2_decide_66 flX2_121 (by first | assumption | exact hsh _ _ rfl) ?_
    refine j_ifnull (tgt := 93) dX2_decide_69 rfl (fun c_69 => by exact absurd (c_69.symm.trans eL) (by simp)) (fun a_69 c_69 => ?_)
    refine j_aload_n dX2_decide_72 rfl ?_
    refine r_getS dX2_decide_73 flX2_121 (by first | assumption | exact hsh _ _ rfl) eL ?_
    refine j_iconst dX2_decide_76 ?_
    refine j_aload_n dX2_decide_77 rfl ?_
    refine r_cv2EI dX2_decide_78 cvX2_125 (by decide) (by first | assumption | exact hsh _ _ rfl) (Nat.le_of_ble_eq_true rfl) (Nat.le_of_eq (Nat.zero_add _)) (Nat.le_of_eq (Nat.zero_add _)) (sc_sumOf hsh hfx (b := 0) (Or.inl rfl) hl1 (hLw.2 e2) hv hC) (fun I2 hI2 => ?_)
    have hl2 := LawAt_fr hl1 (I' := I2) (fun a ha => hI2 a (by omega))
    have hC2 := CtxC_fr hC hI2
    refine j_istore_n dX2_decide_81 (by decide) ?_
    refine j_aload_n dX2_decide_82 rfl ?_
    refine r_getS dX2_decide_83 flX2_121 (by first | assumption | exact hsh _ _ rfl) eL ?_
    refine j_iconst dX2_decide_86 ?_
    refine j_aload_n dX2_decide_87 rfl ?_
    refine r_cv2EI dX2_decide_88 cvX2_125 (by decide) (by first | assumption | exact hsh _ _ rfl) (Nat.le_of_ble_eq_true rfl) (Nat.le_of_eq (Nat.zero_add _)) (Nat.le_of_eq (Nat.zero_add _)) (sc_sumOf hsh hfx (b := 1) (Or.inr rfl) hl2 (hLw.2 e2) hv hC2) (fun I3 hI3 => ?_)
    refine j_istore dX2_decide_91 (by decide) ?_
    exact fin I3 (mSum w 1 p pain wet) (mSum w 0 p pain wet) (fun a ha => (hI3 a ha).trans (hI2 a ha)) hx hy (by omega) (by omega)
end
