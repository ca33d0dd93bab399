/-! STATES ARE KEPT AND BROUGHT BACK -/
theorem tRun_congB {f g : Int → Int} {b : Int} : ∀ {n : Nat} {i : Int} {T T' : List Bool}, i + n ≤ b → (∀ k, i ≤ k → k < b → f k = g k) → tRun f i n T T' → tRun g i n T T'
  | 0, _, _, _, _, _, h => h
  | n + 1, i, T, T', hb, he, ⟨T1, h1, h2⟩ => ⟨T1, by rw [← he i (Int.le_refl _) (by omega)]; exact h1, tRun_congB (b := b) (by omega) (fun k hk h3 => he k (by omega) h3) h2⟩
theorem WfLn_congB {w v : Int → Int} {n : Int} (hn : 0 ≤ n ∧ n < 12) (h : ∀ k, 420 ≤ k → k < 1269 → v k = w k) (hL : WfLn w n) : WfLn v n := by
  obtain ⟨a, b, c, ⟨T, e, f⟩, g⟩ := hL
  unfold WfLn
  rw [h _ (by omega) (by omega), h _ (by omega) (by omega), h _ (by omega) (by omega), h _ (by omega) (by omega)]
  refine ⟨a, b, c, ⟨T, tRun_congB (b := 400) (by omega) (fun k hk h3 => (h _ (by omega) (by omega)).symm) e, f⟩, fun i h1 h2 h3 => ?_⟩
  have e1 : aStp v i = aStp w i := h _ (by omega) (by omega)
  have e2 : aArg v i = aArg w i := h _ (by omega) (by omega)
  rw [e2]
  exact g i h1 h2 (by rw [← e1]; exact h3)
theorem WfLw_congB {w v : Int → Int} (h2 : v 2 = w 2) (h : ∀ k, 420 ≤ k → k < 1269 → v k = w k) (hL : WfLw w) : WfLw v := by
  unfold WfLw
  rw [h2, h 420 (by omega) (by omega)]
  exact ⟨hL.1, fun q => ⟨(hL.2 q).1, fun n h0 h1 => WfLn_congB ⟨h0, by have := (hL.2 q).1; omega⟩ h ((hL.2 q).2 n h0 h1)⟩⟩
theorem WF_congB {w v : Int → Int} (h : ∀ k, 0 ≤ k → k < 1269 → v k = w k) (hW : WF w) : WF v := by
  obtain ⟨h1, ⟨o1, o2, o3⟩, h3, h4, h5, h6⟩ := hW
  have e0 : aPe v = aPe w := h 0 (by omega) (by omega)
  refine ⟨by rw [e0]; exact h1, ⟨by rw [h 3 (by omega) (by omega)]; exact o1, by rw [h 5 (by omega) (by omega)]; exact o2, fun q hq0 hq1 => ?_⟩, WfLw_congB (h 2 (by omega) (by omega)) (fun k hk hk2 => h k (by omega) hk2) h3, by rw [h 8 (by omega) (by omega)]; exact h4, by rw [h 6 (by omega) (by omega)]; exact h5, by rw [h 7 (by omega) (by omega)]; exact h6⟩
  rw [e0] at hq1
  have e : ∀ k, 0 ≤ k → k < 13 → aOf v q k = aOf w q k := fun k k0 k1 => h _ (by omega) (by omega)
  obtain ⟨i0, i1, i2, i3, i4, i5, i6⟩ := o3 q hq0 hq1
  rw [e 0 (by omega) (by omega), e 1 (by omega) (by omega), e 2 (by omega) (by omega), e 3 (by omega) (by omega), e 4 (by omega) (by omega), e 5 (by omega) (by omega), e0]
  exact ⟨i0, i1, i2, i3, i4, i5, fun k k0 k1 => by rw [e _ (by omega) (by omega)]; exact i6 k k0 k1⟩
theorem LawAt_wB {sh : List (Nat × Nat)} {I : Nat → Int → Int} {F : Nat → Int → Option Nat} {l : Nat} {w v : Int → Int} (h : LawAt sh I F l w) (hw : (0 ≤ w 420 ∧ w 420 ≤ 12) ∧ ∀ n, 0 ≤ n → n < w 420 → WfLn w n) (hv : ∀ k, 420 ≤ k → k < 1269 → v k = w k) : LawAt sh I F l v := by
  obtain ⟨a1, a0, la, ls, lc, nc, f, p, s, a2, a3⟩ := h
  refine ⟨a1, a0, la, ls, lc, nc, f, p, s, by rw [hv 420 (by omega) (by omega)]; exact a2, ?_⟩
  rw [hv 420 (by omega) (by omega)]
  intro k k0 k1
  have hk := (hw.2 k k0 k1).1
  rw [hv (421 + 4 * k) (by omega) (by omega), hv (421 + 4 * k + 1) (by omega) (by omega), hv (421 + 4 * k + 2) (by omega) (by omega), hv (421 + 4 * k + 3) (by omega) (by omega)]
  obtain ⟨b0, b1, b2, b3, b4, b5⟩ := a3 k k0 k1
  exact ⟨b0, b1, b2, b3, b4, fun i ip i0 i1 => by rw [show aStp v i = aStp w i from hv _ (by omega) (by omega), show aArg v i = aArg w i from hv _ (by omega) (by omega)]; exact b5 i ip i0 i1⟩
theorem LwR_wB {sh : List (Nat × Nat)} {I : Nat → Int → Int} {F : Nat → Int → Option Nat} {s : Nat} {w v : Int → Int} (h : LwR sh I F s w) (hW : WF w) (h2 : v 2 = w 2) (hv : ∀ k, 420 ≤ k → k < 1269 → v k = w k) : LwR sh I F s v := by
  unfold LwR
  rw [h2]
  rcases h with h | ⟨a, l, b, c⟩
  · exact Or.inl h
  · exact Or.inr ⟨a, l, b, LawAt_wB c (hW.2.2.1.2 a) hv⟩
/-- a state of the class stands for a row, all of it -/
def Sr (sh : List (Nat × Nat)) (I : Nat → Int → Int) (F : Nat → Int → Option Nat) (s : Nat) (w : Int → Int) : Prop := Rp I s w ∧ Lg I s w ∧ I s 16 = w 9 ∧ LwR sh I F s w
theorem Sr_fr {sh : List (Nat × Nat)} {I J : Nat → Int → Int} {F : Nat → Int → Option Nat} {s : Nat} {w : Int → Int} (h : Sr sh I F s w) (h1 : ∀ a, s ≤ a → a ≤ s + 9 → J a = I a) (h2 : ∀ a, 185 ≤ a → J a = I a) : Sr sh J F s w :=
  ⟨Rp_fr h.1 (fun a a0 a1 => h1 a a0 (by omega)), Lg_fr h.2.1 (h1 _ (by omega) (by omega)) (h1 _ (by omega) (by omega)), by rw [h1 s (by omega) (by omega)]; exact h.2.2.1, LwR_fr h.2.2.2 h2⟩
theorem Sr_F {sh : List (Nat × Nat)} {I : Nat → Int → Int} {F : Nat → Int → Option Nat} {s e : Nat} {r : Option Nat} {w : Int → Int} (hne : s ≠ e) (h : Sr sh I F s w) : Sr sh I (jup F e 18 r) s w := ⟨h.1, h.2.1, h.2.2.1, LwR_F hne h.2.2.2⟩
theorem Sr_w {sh : List (Nat × Nat)} {I : Nat → Int → Int} {F : Nat → Int → Option Nat} {s : Nat} {w v : Int → Int} (h : Sr sh I F s w) (hW : WF w) (hv : ∀ k, 0 ≤ k → k < 1269 → v k = w k) : Sr sh I F s v := by
  have h0 : ∀ k, 0 ≤ k → k < 420 → v k = w k := fun k k0 k1 => hv k k0 (by omega)
  refine ⟨?_, Lg_w h.2.1 (fun k hk => h0 k (by omega) (by omega)), by rw [h0 9 (by omega) (by omega)]; exact h.2.2.1, LwR_wB h.2.2.2 hW (h0 2 (by omega) (by omega)) (fun k k0 k1 => hv k (by omega) k1)⟩
  -- the rows below 0 are read by nobody
  have hR : Rp I s (fun k => if k < 0 then w k else v k) := Rp_cong h.1 (fun k hk _ => by
    by_cases e : k < 0
    · rw [if_pos e]
    · rw [if_neg e]; exact h0 k (by omega) (by omega))
  obtain ⟨r0, r1, rP, rO, rA, r9, r10, r11, r12, r13, r14, r15, r16, r17⟩ := hR
  have f : ∀ k, 0 ≤ k → (if k < 0 then w k else v k) = v k := fun k hk => if_neg (by omega)
  have e0 : aPe (fun k => if k < 0 then w k else v k) = aPe v := f 0 (by omega)
  rw [e0] at r0 r1 r16
  refine ⟨r0, r1, fun p p0 p1 => ?_, fun p q p0 p1 q0 q1 => ?_, ?_, r9, r10, r11, r12, r13, r14, r15, r16, r17⟩
  · obtain ⟨i0, i1, i2, i3, i4, i5, i6⟩ := rP p p0 (by rw [e0]; exact p1)
    exact ⟨i0.trans (f _ (by omega)), i1.trans (f _ (by omega)), i2.trans (f _ (by omega)), i3.trans (by rw [show aOf (fun k => if k < 0 then w k else v k) p 3 = aOf v p 3 from f _ (by omega)]), i4.trans (f _ (by omega)), i5.trans (f _ (by omega)), fun k k0 k1 => (i6 k k0 k1).trans (f _ (by omega))⟩
  · exact (rO p q p0 (by rw [e0]; exact p1) q0 (by rw [e0]; exact q1)).trans (f _ (by omega))
  · rw [rA]
    exact (mAlive_cong (w := v) e0 (fun p p0 p1 => f _ (by omega)))
/-- one state has taken all of another's -/
def TkA (I : Nat → Int → Int) (e t : Nat) (J : Nat → Int → Int) : Prop := ∃ J1, TkO I e t J1 ∧ J (e + 8) 1 = I (t + 8) 1 ∧ J (e + 8) 2 = I (t + 8) 2 ∧ (∀ x, 0 ≤ x → x < 240 → J (e + 9) x = I (t + 9) x) ∧ ∀ a, a ≠ e + 8 → a ≠ e + 9 → J a = J1 a
theorem TkA_fr {I J : Nat → Int → Int} {e t : Nat} (h : TkA I e t J) : ∀ a, a < e ∨ e + 9 < a → J a = I a := by
  obtain ⟨J1, h1, -, -, -, h5⟩ := h
  exact fun a ha => (h5 a (by omega) (by omega)).trans (h1.2.2.2.2 a (by omega))
theorem TkA_Sr {sh : List (Nat × Nat)} {I J : Nat → Int → Int} {F : Nat → Int → Option Nat} {e t : Nat} {w : Int → Int} (he : e + 9 < 154) (h : TkA I e t J) (hs : Sr sh I F t w) : Sr sh J (jup F e 18 (F t 18)) e w := by
  have hf := TkA_fr h
  obtain ⟨J1, h1, h2, h3, h4, h5⟩ := h
  obtain ⟨s1, s2, s3, s4⟩ := hs
  refine ⟨Rp_fr (TkO_Rp h1 s1) (fun a a0 a1 => h5 a (by omega) (by omega)), ?_, ?_, LwR_fr (LwR_tk s4) (fun a ha => hf a (by omega))⟩
  · obtain ⟨g1, g2, g3, g4⟩ := s2
    unfold Lg
    rw [h2, h3]
    exact ⟨g1, g2, g3, fun ago c a0 a1 c0 c1 => by rw [h4 _ (by omega) (by omega)]; exact g4 ago c a0 a1 c0 c1⟩
  · rw [h5 e (by omega) (by omega), h1.1 16 (by decide) (by decide) (by decide)]; exact s3
theorem TkA_oth {sh : List (Nat × Nat)} {I J : Nat → Int → Int} {F : Nat → Int → Option Nat} {e t s : Nat} {r : Option Nat} {w : Int → Int} (he : e + 9 < 154) (h : TkA I e t J) (hd : s + 9 < e ∨ e + 9 < s) (hs : Sr sh I F s w) : Sr sh J (jup F e 18 r) s w := by
  have hf := TkA_fr h
  exact Sr_F (by omega) (Sr_fr hs (fun a a0 a1 => hf a (by omega)) (fun a ha => hf a (by omega)))
abbrev mPl (x : Int) : Nat := 34 + 10 * x.toNat
/-- the states that are remembered lie where they lie -/
def MmF (sh : List (Nat × Nat)) (F : Nat → Int → Option Nat) : Prop := ∀ x : Int, 0 ≤ x → x < 12 → F 33 x = some (mPl x) ∧ StAt sh F (mPl x)
theorem MmF_F {sh : List (Nat × Nat)} {F : Nat → Int → Option Nat} {e : Nat} {r : Option Nat} (h : MmF sh F) : MmF sh (jup F e 18 r) := fun x h0 h1 => ⟨by rw [jup_row _ _ _ (by omega)]; exact (h x h0 h1).1, StAt_F (h x h0 h1).2⟩
section
variable {G : jzG} {d : Nat} {sh : List (Nat × Nat)} {I : Nat → Int → Int} {F : Nat → Int → Option Nat} {e t : Nat} {w : Int → Int}
theorem sc_logTake (he : StAt sh F e) (ht : StAt sh F t) (hd : e + 9 < t ∨ t + 9 < e) : jS G d mX7_takeFrom [jR (some (e + 8)), jR (some (t + 8))] (sh, I, F) 0 0 (rV (sh, jup (jup (jcp I (t + 9) 0 (e + 9) 0 240) (e + 8) 1 (I (t + 8) 1)) (e + 8) 2 (I (t + 8) 2), F)) := by
  obtain ⟨g0, g1, g2, g3, g4, g5, g6, g7, g8, g9, e1, e2, e3, e4, e5, e6, e7, e8, e9⟩ := id he
  obtain ⟨k0, k1, k2, k3, k4, k5, k6, k7, k8, k9, l1, l2, l3, l4, l5, l6, l7, l8, l9⟩ := id ht
  have q18 : jcp I (t + 9) 0 (e + 9) 0 240 (t + 8) 1 = I (t + 8) 1 := by rw [jcp_ne (by omega)]
  have q26 : jup (jcp I (t + 9) 0 (e + 9) 0 240) (e + 8) 1 (I (t + 8) 1) (t + 8) 2 = I (t + 8) 2 := by rw [jup_ne _ _ _ (by omega), jcp_ne (by omega)]
  refine jS_go [some (jR (some (e + 8))), some (jR (some (t + 8)))] (by decide +kernel) rfl (by simp [jone]) (Nat.le_of_ble_eq_true rfl) rfl (fun hok => ?_)
  refine j_aload_n dX7_takeFrom_0 rfl ?_
  refine r_getS dX7_takeFrom_1 flX7_9 (by first | assumption | exact hsh _ _ rfl) (by assumption) ?_
  refine j_iconst dX7_takeFrom_4 ?_
  refine j_aload_n dX7_takeFrom_5 rfl ?_
  refine r_getS dX7_takeFrom_6 flX7_9 (by first | assumption | exact hsh _ _ rfl) (by assumption) ?_
  refine j_iconst dX7_takeFrom_9 ?_
  refine j_sipush dX7_takeFrom_10 (by decide) ?_
  refine r_copy dX7_takeFrom_13 lmX7_15 (by first | assumption | exact hsh _ _ rfl) (by first | assumption | exact hsh _ _ rfl) (by first | omega | (split <;> omega)) (by first | omega | (split <;> omega)) (by first | omega | (split <;> omega)) (by first | omega | (split <;> omega)) (by first | omega | (split <;> omega)) (Nat.le_of_ble_eq_true rfl) ?_
  refine j_aload_n dX7_takeFrom_16 rfl ?_
  refine j_aload_n dX7_takeFrom_17 rfl ?_
  refine r_getIE dX7_takeFrom_18 flX7_21 (by first | assumption | exact hsh _ _ rfl) q18 (fun b_18 => ?_)
  refine r_putI dX7_takeFrom_21 flX7_21 rfl (by first | assumption | exact hsh _ _ rfl) (by first | omega | (split <;> omega)) (fun q => by cases q) ?_
  refine j_aload_n dX7_takeFrom_24 rfl ?_
  refine j_aload_n dX7_takeFrom_25 rfl ?_
  refine r_getIE dX7_takeFrom_26 flX7_25 (by first | assumption | exact hsh _ _ rfl) q26 (fun b_26 => ?_)
  refine r_putI dX7_takeFrom_29 flX7_25 rfl (by first | assumption | exact hsh _ _ rfl) (by first | omega | (split <;> omega)) (fun q => by cases q) ?_
  refine j_vret dX7_takeFrom_32 rfl ?_
  exact rV_of rfl
theorem sc_takeAll (he : StAt sh F e) (ht : StAt sh F t) (hd : e + 9 < t ∨ t + 9 < e) (h17 : I t 17 = 0 ∨ I t 17 = 1) : jS G (d + 1) mX9_takeAllFrom [jR (some e), jR (some t)] (sh, I, F) 0 0 (rEV sh (jup F e 18 (F t 18)) (TkA I e t)) := by
  have he2 := StAt_F (e := e) (r := F t 18) he
  have ht2 := StAt_F (e := e) (r := F t 18) ht
  obtain ⟨g0, g1, g2, g3, g4, g5, g6, g7, g8, g9, e1, e2, e3, e4, e5, e6, e7, e8, e9⟩ := id he2
  obtain ⟨k0, k1, k2, k3, k4, k5, k6, k7, k8, k9, l1, l2, l3, l4, l5, l6, l7, l8, l9⟩ := id ht2
  refine jS_go [some (jR (some e)), some (jR (some t))] (by decide +kernel) rfl (by simp [jone]) (Nat.le_of_ble_eq_true rfl) rfl (fun hok => ?_)
  refine j_aload_n dX9_takeAllFrom_0 rfl ?_
  refine j_aload_n dX9_takeAllFrom_1 rfl ?_
  refine r_cv1GV dX9_takeAllFrom_2 cvX9_50 (by decide) (by first | assumption | exact hsh _ _ rfl) (Nat.le_of_ble_eq_true rfl) (Nat.le_of_eq (Nat.zero_add _)) (Nat.le_of_eq (Nat.zero_add _)) (sc_takeFrom he ht hd h17) (fun J1 hJ => ?_)
  refine j_aload_n dX9_takeAllFrom_5 rfl ?_
  refine r_getS dX9_takeAllFrom_6 flX9_46 (by first | assumption | exact hsh _ _ rfl) (by assumption) ?_
  refine j_aload_n dX9_takeAllFrom_9 rfl ?_
  refine r_getS dX9_takeAllFrom_10 flX9_46 (by first | assumption | exact hsh _ _ rfl) (by assumption) ?_
  refine r_cv1V dX9_takeAllFrom_13 cvX9_54 (by decide) (by first | assumption | exact hsh _ _ rfl) (Nat.le_of_ble_eq_true rfl) (Nat.le_of_eq (Nat.zero_add _)) (Nat.le_of_eq (Nat.zero_add _)) (sc_logTake he2 ht2 hd) ?_
  refine j_vret dX9_takeAllFrom_16 rfl ?_
  refine rEV_of ⟨J1, hJ, ?_, ?_, fun x x0 x1 => ?_, fun a a0 a1 => ?_⟩
  · rw [jup_row _ _ _ (by decide), jup_same, hJ.2.2.2.2 (t + 8) (by omega)]
  · rw [jup_same, hJ.2.2.2.2 (t + 8) (by omega)]
  · rw [jup_ne _ _ _ (by omega), jup_ne _ _ _ (by omega), jcp_in x0 x1, hJ.2.2.2.2 (t + 9) (by omega)]
  · rw [jup_ne _ _ _ a0, jup_ne _ _ _ a0, jcp_ne a1]
/-! ### acts are remembered: the class -/
theorem cs_remember (hsh : ShOK sh) (hfx : FxOK F) (hM : MmF sh F) (h2 : StAt sh F 2) {x r : Int} (hx : I 32 2 = x) (hx1 : 0 ≤ x ∧ x < 12) (hr : I 32 1 = r) (hr1 : 0 ≤ r ∧ r ≤ 12) (h17 : I 2 17 = 0 ∨ I 2 17 = 1) : jS G (d + 2) mX8_remember [jR (some 32), jR (some 2)] (sh, I, F) 0 0 (rEV sh (jup F (mPl x) 18 (F 2 18)) (fun J => ∃ J1, TkA I (mPl x) 2 J1 ∧ J 32 1 = min 12 (r + 1) ∧ J 32 2 = (x + 1) % 12 ∧ ∀ a, a ≠ 32 → J a = J1 a)) := by
  obtain ⟨m1, m2⟩ := hM x hx1.1 hx1.2
  have hpl : mPl x = 34 + 10 * x.toNat := rfl
  have hfx2 := FxOK_F (e := mPl x) (r := F 2 18) hfx
  have m0 := m2.1
  refine jS_go [some (jR (some 32)), some (jR (some 2))] (by decide +kernel) rfl (by simp [jone]) (Nat.le_of_ble_eq_true rfl) rfl (fun hok => ?_)
  refine j_aload_n dX8_remember_0 rfl ?_
  refine r_getS dX8_remember_1 flX8_11 (by first | assumption | exact hsh _ _ rfl) (fx_32_0 hfx) ?_
  refine j_aload_n dX8_remember_4 rfl ?_
  refine r_getIE dX8_remember_5 flX8_18 (by first | assumption | exact hsh _ _ rfl) hx (fun b_5 => ?_)
  refine r_aaload dX8_remember_8 (by first | assumption | exact hsh _ _ rfl) (by first | omega | (split <;> omega)) (by first | omega | (split <;> omega)) m1 ?_
  refine j_aload_n dX8_remember_9 rfl ?_
  refine r_cv1GV dX8_remember_10 cvX8_22 (by decide) (by first | assumption | exact hsh _ _ rfl) (Nat.le_of_ble_eq_true rfl) (Nat.le_of_eq (Nat.zero_add _)) (Nat.le_of_eq (Nat.zero_add _)) (sc_takeAll m2 h2 (Or.inr (by omega)) h17) (fun J1 hJ => ?_)
  have hfx := hfx2
  have x2 : J1 32 2 = x := by rw [TkA_fr hJ 32 (by omega)]; exact hx
  have x3 : jup J1 32 2 ((x + 1) % 12) 32 1 = r := by rw [jup_row _ _ _ (by decide), TkA_fr hJ 32 (by omega)]; exact hr
  refine j_aload_n dX8_remember_13 rfl ?_
  refine j_aload_n dX8_remember_14 rfl ?_
  refine r_getIE dX8_remember_15 flX8_18 (by first | assumption | exact hsh _ _ rfl) x2 (fun b_15 => ?_)
  refine j_iconst dX8_remember_18 ?_
  refine j_iadd dX8_remember_19 ?_
  refine j_bipush dX8_remember_20 (by decide) ?_
  refine r_iremN dX8_remember_22 (by first | omega | (split <;> omega)) (by first | omega | (split <;> omega)) ?_
  refine r_putI dX8_remember_23 flX8_18 rfl (by first | assumption | exact hsh _ _ rfl) (by first | omega | (split <;> omega)) (fun q => by cases q) ?_
  refine j_aload_n dX8_remember_26 rfl ?_
  refine j_bipush dX8_remember_27 (by decide) ?_
  refine j_aload_n dX8_remember_29 rfl ?_
  refine r_getIE dX8_remember_30 flX8_26 (by first | assumption | exact hsh _ _ rfl) x3 (fun b_30 => ?_)
  refine j_iconst dX8_remember_33 ?_
  refine j_iadd dX8_remember_34 ?_
  refine r_min dX8_remember_35 lmX8_29 (Nat.le_of_ble_eq_true rfl) (by first | omega | (split <;> omega)) (by first | omega | (split <;> omega)) ?_
  refine r_putI dX8_remember_38 flX8_26 rfl (by first | assumption | exact hsh _ _ rfl) (by first | omega | (split <;> omega)) (fun q => by cases q) ?_
  refine j_vret dX8_remember_41 rfl ?_
  exact rEV_of ⟨J1, hJ, jup_same _ _ _ _, by rw [jup_row _ _ _ (by decide), jup_same], fun a ha => by rw [jup_ne _ _ _ ha, jup_ne _ _ _ ha]⟩
theorem cs_forget (hsh : ShOK sh) : jS G d mX8_forget [jR (some 32)] (sh, I, F) 0 0 (rV (sh, jup I 32 1 0, F)) := by
  refine jS_go [some (jR (some 32))] (by decide +kernel) rfl (by simp [jone]) (Nat.le_of_ble_eq_true rfl) rfl (fun hok => ?_)
  refine j_aload_n dX8_forget_0 rfl ?_
  refine j_iconst dX8_forget_1 ?_
  refine r_putI dX8_forget_2 flX8_26 rfl (by first | assumption | exact hsh _ _ rfl) (by first | omega | (split <;> omega)) (fun q => by cases q) ?_
  refine j_vret dX8_forget_5 rfl ?_
  exact rV_of rfl
theorem cp_undo_f (hsh : ShOK sh) (hfx : FxOK F) (hr : I 32 1 = 0) : jS G (d + 4) mX11_undo [jR (some 0)] (sh, I, F) 0 0 (rI 0 (sh, I, F)) := by
  have sr : jS G (d + 3) mX8_recall [jR (some 32), jR (some 2)] (sh, I, F) 0 0 (rI 0 (sh, I, F)) := by
    refine jS_go [some (jR (some 32)), some (jR (some 2))] (by decide +kernel) rfl (by simp [jone]) (Nat.le_of_ble_eq_true rfl) rfl (fun hok => ?_)
    refine j_aload_n dX8_recall_0 rfl ?_
    refine r_getIE dX8_recall_1 flX8_26 (by first | assumption | exact hsh _ _ rfl) hr (fun b_1 => ?_)
    refine j_if_ne (tgt := 9) dX8_recall_4 rfl (by first | omega | (split <;> omega)) (fun c_4 => by exact absurd rfl c_4) (fun c_4 => ?_)
    refine j_iconst dX8_recall_7 ?_
    refine j_zret dX8_recall_8 rfl (by omega) ?_
    exact rI_of rfl rfl
  refine jS_go [some (jR (some 0))] (by decide +kernel) rfl (by simp [jone]) (Nat.le_of_ble_eq_true rfl) rfl (fun hok => ?_)
  refine j_aload_n dX11_undo_0 rfl ?_
  refine r_getS dX11_undo_1 flX11_33 (by first | assumption | exact hsh _ _ rfl) (fx_0_7 hfx) ?_
  refine j_aload_n dX11_undo_4 rfl ?_
  refine r_getS dX11_undo_5 flX11_20 (by first | assumption | exact hsh _ _ rfl) (fx_0_3 hfx) ?_
  refine r_cv1I dX11_undo_8 cvX11_339 (by decide) (by first | assumption | exact hsh _ _ rfl) (Nat.le_of_ble_eq_true rfl) (Nat.le_of_eq (Nat.zero_add _)) (Nat.le_of_eq (Nat.zero_add _)) (sr) ?_
  refine j_zret dX11_undo_11 rfl (by omega) ?_
  exact rI_of rfl rfl
theorem cp_undo_t (hsh : ShOK sh) (hfx : FxOK F) (hM : MmF sh F) (h2 : StAt sh F 2) {x r : Int} (hx : I 32 2 = x) (hx1 : 0 ≤ x ∧ x < 12) (hr : I 32 1 = r) (hr1 : 1 ≤ r ∧ r ≤ 12) (h17 : I (mPl ((x + 12 - 1) % 12)) 17 = 0 ∨ I (mPl ((x + 12 - 1) % 12)) 17 = 1) : jS G (d + 4) mX11_undo [jR (some 0)] (sh, I, F) 0 0 (rEI 1 sh (jup F 2 18 (F (mPl ((x + 12 - 1) % 12)) 18)) (fun J => ∃ J1, (∀ a, a ≠ 32 → J1 a = I a) ∧ J1 32 1 = r - 1 ∧ J1 32 2 = (x + 12 - 1) % 12 ∧ TkA J1 2 (mPl ((x + 12 - 1) % 12)) J)) := by
  obtain ⟨y, hy⟩ : ∃ y, (x + 12 - 1) % 12 = y := ⟨_, rfl⟩
  have hy1 : 0 ≤ y ∧ y < 12 := by omega
  rw [hy] at h17 ⊢
  obtain ⟨m1, m2⟩ := hM y hy1.1 hy1.2
  have hpl : mPl y = 34 + 10 * y.toNat := rfl
  have m0 := m2.1
  have sr : jS G (d + 3) mX8_recall [jR (some 32), jR (some 2)] (sh, I, F) 0 0 (rEI 1 sh (jup F 2 18 (F (mPl y) 18)) (fun J => ∃ J1, (∀ a, a ≠ 32 → J1 a = I a) ∧ J1 32 1 = r - 1 ∧ J1 32 2 = y ∧ TkA J1 2 (mPl y) J)) := by
    obtain ⟨J1, hJ1⟩ : ∃ J1, J1 = jup (jup I 32 2 y) 32 1 (r - 1) := ⟨_, rfl⟩
    have x1 : jup I 32 2 y 32 1 = r := by rw [jup_row _ _ _ (by decide)]; exact hr
    have x2 : J1 32 2 = y := by rw [hJ1, jup_row _ _ _ (by decide), jup_same]
    have x3 : J1 32 1 = r - 1 := by rw [hJ1, jup_same]
    have x4 : ∀ a, a ≠ 32 → J1 a = I a := fun a ha => by rw [hJ1, jup_ne _ _ _ ha, jup_ne _ _ _ ha]
    refine jS_go [some (jR (some 32)), some (jR (some 2))] (by decide +kernel) rfl (by simp [jone]) (Nat.le_of_ble_eq_true rfl) rfl (fun hok => ?_)
    refine j_aload_n dX8_recall_0 rfl ?_
    refine r_getIE dX8_recall_1 flX8_26 (by first | assumption | exact hsh _ _ rfl) hr (fun b_1 => ?_)
    refine j_if_ne (tgt := 9) dX8_recall_4 rfl (by first | omega | (split <;> omega)) (fun c_4 => ?_) (fun c_4 => by exact absurd c_4 (by omega))
    refine j_aload_n dX8_recall_9 rfl ?_
    refine j_aload_n dX8_recall_10 rfl ?_
    refine r_getIE dX8_recall_11 flX8_18 (by first | assumption | exact hsh _ _ rfl) hx (fun b_11 => ?_)
    refine j_bipush dX8_recall_14 (by decide) ?_
    refine j_iadd dX8_recall_16 ?_
    refine j_iconst dX8_recall_17 ?_
    refine j_isub dX8_recall_18 ?_
    refine j_bipush dX8_recall_19 (by decide) ?_
    refine r_iremN dX8_recall_21 (by first | omega | (split <;> omega)) (by first | omega | (split <;> omega)) ?_
    rw [hy]
    refine r_putI dX8_recall_22 flX8_18 rfl (by first | assumption | exact hsh _ _ rfl) (by first | omega | (split <;> omega)) (fun q => by cases q) ?_
    refine j_aload_n dX8_recall_25 rfl ?_
    refine j_dup dX8_recall_26 trivial ?_
    refine r_getIE dX8_recall_27 flX8_26 (by first | assumption | exact hsh _ _ rfl) x1 (fun b_27 => ?_)
    refine j_iconst dX8_recall_30 ?_
    refine j_isub dX8_recall_31 ?_
    refine r_putI dX8_recall_32 flX8_26 rfl (by first | assumption | exact hsh _ _ rfl) (by first | omega | (split <;> omega)) (fun q => by cases q) ?_
    rw [← hJ1]
    refine j_aload_n dX8_recall_35 rfl ?_
    refine j_aload_n dX8_recall_36 rfl ?_
    refine r_getS dX8_recall_37 flX8_11 (by first | assumption | exact hsh _ _ rfl) (fx_32_0 hfx) ?_
    refine j_aload_n dX8_recall_40 rfl ?_
    refine r_getIE dX8_recall_41 flX8_18 (by first | assumption | exact hsh _ _ rfl) x2 (fun b_41 => ?_)
    refine r_aaload dX8_recall_44 (by first | assumption | exact hsh _ _ rfl) (by first | omega | (split <;> omega)) (by first | omega | (split <;> omega)) m1 ?_
    refine r_cv1GV dX8_recall_45 cvX8_22 (by decide) (by first | assumption | exact hsh _ _ rfl) (Nat.le_of_ble_eq_true rfl) (Nat.le_of_eq (Nat.zero_add _)) (Nat.le_of_eq (Nat.zero_add _)) (sc_takeAll h2 m2 (Or.inl (by omega)) (by rw [x4 _ (by omega)]; exact h17)) (fun J hJ => ?_)
    refine j_iconst dX8_recall_48 ?_
    refine j_zret dX8_recall_49 rfl (by omega) ?_
    exact rEI_of rfl ⟨J1, x4, x3, x2, hJ⟩
  refine jS_go [some (jR (some 0))] (by decide +kernel) rfl (by simp [jone]) (Nat.le_of_ble_eq_true rfl) rfl (fun hok => ?_)
  refine j_aload_n dX11_undo_0 rfl ?_
  refine r_getS dX11_undo_1 flX11_33 (by first | assumption | exact hsh _ _ rfl) (fx_0_7 hfx) ?_
  refine j_aload_n dX11_undo_4 rfl ?_
  refine r_getS dX11_undo_5 flX11_20 (by first | assumption | exact hsh _ _ rfl) (fx_0_3 hfx) ?_
  refine r_cv1GI dX11_undo_8 cvX11_339 (by decide) (by first | assumption | exact hsh _ _ rfl) (Nat.le_of_ble_eq_true rfl) (Nat.le_of_eq (Nat.zero_add _)) (Nat.le_of_eq (Nat.zero_add _)) (sr) (fun J hJ => ?_)
  refine j_zret dX11_undo_11 rfl (by omega) ?_
  exact rEI_of rfl hJ
theorem cp_image (hsh : ShOK sh) (hfx : FxOK F) (h2 : StAt sh F 2) (h22 : StAt sh F 22) (h17 : I 2 17 = 0 ∨ I 2 17 = 1) : jS G (d + 4) mX11_image [jR (some 0)] (sh, I, F) 0 0 (rEV sh (jup F 22 18 (F 2 18)) (fun J => ∃ J1, TkA I 22 2 J1 ∧ J 0 6 = 1 ∧ (∀ k, k ≠ 6 → J 0 k = I 0 k) ∧ ∀ a, a ≠ 0 → J a = J1 a)) := by
  have hfx2 := FxOK_F (e := 22) (r := F 2 18) hfx
  obtain ⟨g0, -⟩ := id h2
  obtain ⟨k0, -⟩ := id h22
  refine jS_go [some (jR (some 0))] (by decide +kernel) rfl (by simp [jone]) (Nat.le_of_ble_eq_true rfl) rfl (fun hok => ?_)
  refine j_aload_n dX11_image_0 rfl ?_
  refine r_getS dX11_image_1 flX11_27 (by first | assumption | exact hsh _ _ rfl) (fx_0_5 hfx) ?_
  refine j_aload_n dX11_image_4 rfl ?_
  refine r_getS dX11_image_5 flX11_20 (by first | assumption | exact hsh _ _ rfl) (fx_0_3 hfx) ?_
  refine r_cv1GV dX11_image_8 cvX11_343 (by decide) (by first | assumption | exact hsh _ _ rfl) (Nat.le_of_ble_eq_true rfl) (Nat.le_of_eq (Nat.zero_add _)) (Nat.le_of_eq (Nat.zero_add _)) (sc_takeAll h22 h2 (Or.inr (by omega)) h17) (fun J1 hJ => ?_)
  have hfx := hfx2
  refine j_aload_n dX11_image_11 rfl ?_
  refine j_iconst dX11_image_12 ?_
  refine r_putI dX11_image_13 flX11_346 rfl (by first | assumption | exact hsh _ _ rfl) (by first | omega | (split <;> omega)) (fun _ => Or.inr rfl) ?_
  refine j_vret dX11_image_16 rfl ?_
  exact rEV_of ⟨J1, hJ, jup_same _ _ _ _, fun k hk => by rw [jup_row _ _ _ hk, TkA_fr hJ 0 (by omega)], fun a ha => jup_ne _ _ _ ha⟩
theorem cp_back_f (hsh : ShOK sh) (hfx : FxOK F) (hr : I 0 6 = 0) : jS G (d + 4) mX11_back [jR (some 0)] (sh, I, F) 0 0 (rI 0 (sh, I, F)) := by
  refine jS_go [some (jR (some 0))] (by decide +kernel) rfl (by simp [jone]) (Nat.le_of_ble_eq_true rfl) rfl (fun hok => ?_)
  refine j_aload_n dX11_back_0 rfl ?_
  refine r_getIE dX11_back_1 flX11_346 (by first | assumption | exact hsh _ _ rfl) hr (fun b_1 => ?_)
  refine j_if_ne (tgt := 9) dX11_back_4 rfl (by first | omega | (split <;> omega)) (fun c_4 => by exact absurd rfl c_4) (fun c_4 => ?_)
  refine j_iconst dX11_back_7 ?_
  refine j_zret dX11_back_8 rfl (by omega) ?_
  exact rI_of rfl rfl
theorem cp_back_t (hsh : ShOK sh) (hfx : FxOK F) (h2 : StAt sh F 2) (h22 : StAt sh F 22) (hr : I 0 6 = 1) (h17 : I 22 17 = 0 ∨ I 22 17 = 1) : jS G (d + 4) mX11_back [jR (some 0)] (sh, I, F) 0 0 (rEI 1 sh (jup F 2 18 (F 22 18)) (fun J => ∃ J1, TkA I 2 22 J1 ∧ J 32 1 = 0 ∧ (∀ k, k ≠ 1 → J 32 k = I 32 k) ∧ ∀ a, a ≠ 32 → J a = J1 a)) := by
  have hfx2 := FxOK_F (e := 2) (r := F 22 18) hfx
  obtain ⟨g0, -⟩ := id h2
  obtain ⟨k0, -⟩ := id h22
  refine jS_go [some (jR (some 0))] (by decide +kernel) rfl (by simp [jone]) (Nat.le_of_ble_eq_true rfl) rfl (fun hok => ?_)
  refine j_aload_n dX11_back_0 rfl ?_
  refine r_getIE dX11_back_1 flX11_346 (by first | assumption | exact hsh _ _ rfl) hr (fun b_1 => ?_)
  refine j_if_ne (tgt := 9) dX11_back_4 rfl (by first | omega | (split <;> omega)) (fun c_4 => ?_) (fun c_4 => by exact absurd c_4 (by decide))
  refine j_aload_n dX11_back_9 rfl ?_
  refine r_getS dX11_back_10 flX11_20 (by first | assumption | exact hsh _ _ rfl) (fx_0_3 hfx) ?_
  refine j_aload_n dX11_back_13 rfl ?_
  refine r_getS dX11_back_14 flX11_27 (by first | assumption | exact hsh _ _ rfl) (fx_0_5 hfx) ?_
  refine r_cv1GV dX11_back_17 cvX11_343 (by decide) (by first | assumption | exact hsh _ _ rfl) (Nat.le_of_ble_eq_true rfl) (Nat.le_of_eq (Nat.zero_add _)) (Nat.le_of_eq (Nat.zero_add _)) (sc_takeAll h2 h22 (Or.inl (by omega)) h17) (fun J1 hJ => ?_)
  have hfx := hfx2
  refine j_aload_n dX11_back_20 rfl ?_
  refine r_getS dX11_back_21 flX11_33 (by first | assumption | exact hsh _ _ rfl) (fx_0_7 hfx) ?_
  refine r_cv0V dX11_back_24 cvX11_104 (by decide) (by first | assumption | exact hsh _ _ rfl) (Nat.le_of_ble_eq_true rfl) (Nat.le_of_eq (Nat.zero_add _)) (Nat.le_of_eq (Nat.zero_add _)) (cs_forget hsh) ?_
  refine j_iconst dX11_back_27 ?_
  refine j_zret dX11_back_28 rfl (by omega) ?_
  exact rEI_of rfl ⟨J1, hJ, jup_same _ _ _ _, fun k hk => by rw [jup_row _ _ _ hk, TkA_fr hJ 32 (by omega)], fun a ha => jup_ne _ _ _ ha⟩
/-! ### acts are remembered: the model -/
def mSft (a : Int → Int) (z : Int) : Int → Int := fun k => if 0 ≤ k ∧ k < z then a (k + 420) else a k
def mPst (a w : Int → Int) (b z : Int) : Int → Int := fun k => if b ≤ k ∧ k < b + z then w (k - b) else a k
def mRem (a w : Int → Int) (r : Int) : Int → Int := if r = 12 then mPst (mSft a 4620) w 4620 420 else mPst a w (420 * r) 420
theorem mSft_s {a : Int → Int} {z : Int} (h : 0 ≤ z) : wup (mSft a z) z (a (z + 420)) = mSft a (z + 1) := by
  funext k
  unfold wup mSft
  by_cases e : k = z
  · subst e; rw [if_pos rfl, if_pos (by omega)]
  · rw [if_neg e]
    by_cases e2 : 0 ≤ k ∧ k < z
    · rw [if_pos e2, if_pos (by omega)]
    · rw [if_neg e2, if_neg (by omega)]
theorem mPst_s {a w : Int → Int} {b z : Int} (h : 0 ≤ z) : wup (mPst a w b z) (b + z) (w z) = mPst a w b (z + 1) := by
  funext k
  unfold wup mPst
  by_cases e : k = b + z
  · subst e; rw [if_pos rfl, if_pos (by omega)]; congr 1; omega
  · rw [if_neg e]
    by_cases e2 : b ≤ k ∧ k < b + z
    · rw [if_pos e2, if_pos (by omega)]
    · rw [if_neg e2, if_neg (by omega)]
theorem mPst_0 {a w : Int → Int} {b : Int} : mPst a w b 0 = a := by
  funext k
  unfold mPst
  rw [if_neg (by omega)]
theorem mSft_0 {a : Int → Int} : mSft a 0 = a := by
  funext k
  unfold mSft
  rw [if_neg (by omega)]
def ReO (I J : Nat → Int → Int) (r : Int) : Prop := J 170 7 = min 12 (r + 1) ∧ J 175 = mRem (I 175) (I 171) r ∧ (∀ a, a ≠ 170 → a ≠ 175 → J a = I a) ∧ ∀ k, k ≠ 7 → J 170 k = I 170 k
theorem sm_remembers (hsh : ShOK sh) (hfx : FxOK F) {r : Int} (hr : I 170 7 = r) (hr1 : 0 ≤ r ∧ r ≤ 12) : jS G d mX12_remembers [jR (some 170)] (sh, I, F) 0 0 (rEV sh F (fun J => ReO I J r)) := by
  refine jS_go [some (jR (some 170)), none] (by decide +kernel) rfl (by simp [jone]) (Nat.le_of_ble_eq_true rfl) rfl (fun hok => ?_)
  generalize hQ : rEV sh F (fun J => ReO I J r) = Q9
  have put : ∀ (m : Nat) (z : Int) (J : Nat → Int → Int) (a : Int → Int), z + m = 420 → 0 ≤ z → J 170 7 = min 12 (r + 1) → J 175 = mPst a (I 171) (420 * (min 12 (r + 1) - 1)) z → mPst a (I 171) (420 * (min 12 (r + 1) - 1)) 420 = mRem (I 175) (I 171) r → (∀ a, a ≠ 170 → a ≠ 175 → J a = I a) → (∀ k, k ≠ 7 → J 170 k = I 170 k) → jW G mX12_remembers d Q9 55 [some (jR (some 170)), some (jI z)] [] (sh, J, F) 0 0 := by
    intro m
    induction m with
    | zero =>
      intro z J a hz hz0 h7 h175 ha hfr hk
      refine j_iload_n dX12_remembers_55 rfl ?_
      refine j_sipush dX12_remembers_56 (by decide) ?_
      refine j_icmp_ge (tgt := 91) dX12_remembers_59 rfl (by first | omega | (split <;> omega)) (by first | omega | (split <;> omega)) (fun c_59 => ?_) (fun c_59 => by exact absurd (by omega) c_59)
      refine j_vret dX12_remembers_91 rfl ?_
      rw [← hQ]
      exact rEV_of ⟨h7, by rw [h175, show z = 420 by omega, ha], hfr, hk⟩
    | succ m ih =>
      intro z J a hz hz0 h7 h175 ha hfr hk
      have q : J 171 z = I 171 z := by rw [hfr 171 (by decide) (by decide)]
      have bq : jin (I 171 z) := hok.2.1 171 z
      refine j_iload_n dX12_remembers_55 rfl ?_
      refine j_sipush dX12_remembers_56 (by decide) ?_
      refine j_icmp_ge (tgt := 91) dX12_remembers_59 rfl (by first | omega | (split <;> omega)) (by first | omega | (split <;> omega)) (fun c_59 => by exact absurd c_59 (by omega)) (fun c_59 => ?_)
      refine j_aload_n dX12_remembers_62 rfl ?_
      refine r_getS dX12_remembers_63 flX12_26 (by first | assumption | exact hsh _ _ rfl) (fx_170_5 hfx) ?_
      refine j_sipush dX12_remembers_66 (by decide) ?_
      refine j_aload_n dX12_remembers_69 rfl ?_
      refine r_getIE dX12_remembers_70 flX12_61 (by first | assumption | exact hsh _ _ rfl) h7 (fun b_70 => ?_)
      refine j_iconst dX12_remembers_73 ?_
      refine j_isub dX12_remembers_74 ?_
      refine j_imul dX12_remembers_75 ?_
      refine j_iload_n dX12_remembers_76 rfl ?_
      refine j_iadd dX12_remembers_77 ?_
      refine j_aload_n dX12_remembers_78 rfl ?_
      refine r_getS dX12_remembers_79 flX12_13 (by first | assumption | exact hsh _ _ rfl) (fx_170_1 hfx) ?_
      refine j_iload_n dX12_remembers_82 rfl ?_
      refine r_ialoadE dX12_remembers_83 (by first | assumption | exact hsh _ _ rfl) (by first | omega | (split <;> omega)) (by first | omega | (split <;> omega)) q (fun b_83 => ?_)
      refine r_iastore dX12_remembers_84 (by first | assumption | exact hsh _ _ rfl) (by first | omega | (split <;> omega)) (by first | omega | (split <;> omega)) (by first | omega | (split <;> omega)) ?_
      refine j_iinc dX12_remembers_85 rfl (by decide) ?_
      refine j_goto (tgt := 55) dX12_remembers_88 rfl ?_
      exact ih (z + 1) _ a (by omega) (by omega) (by rw [jup_ne _ _ _ (by decide)]; exact h7) (by rw [jup_at, h175, mPst_s hz0]) ha (fun a x0 x1 => by rw [jup_ne _ _ _ x1]; exact hfr a x0 x1) (fun k hk2 => by rw [jup_ne _ _ _ (by decide)]; exact hk k hk2)
  by_cases e : r = 12
  · subst e
    have sft : ∀ (m : Nat) (z : Int) (J : Nat → Int → Int), z + m = 4620 → 0 ≤ z → J 175 = mSft (I 175) z → (∀ a, a ≠ 175 → J a = I a) → jW G mX12_remembers d Q9 11 [some (jR (some 170)), some (jI z)] [] (sh, J, F) 0 0 := by
      intro m
      induction m with
      | zero =>
        intro z J hz hz0 h175 hfr
        refine j_iload_n dX12_remembers_11 rfl ?_
        refine j_sipush dX12_remembers_12 (by decide) ?_
        refine j_icmp_ge (tgt := 40) dX12_remembers_15 rfl (by first | omega | (split <;> omega)) (by first | omega | (split <;> omega)) (fun c_15 => ?_) (fun c_15 => by exact absurd (by omega) c_15)
        refine j_goto (tgt := 53) dX12_remembers_40 rfl ?_
        refine j_iconst dX12_remembers_53 ?_
        refine j_istore_n dX12_remembers_54 (by decide) ?_
        exact put 420 0 J (mSft (I 175) 4620) (by decide) (by decide) (by rw [hfr 170 (by decide)]; exact hr) (by rw [mPst_0, h175, show z = 4620 by omega]) (by unfold mRem; rw [if_pos rfl]; rfl) (fun a x0 x1 => hfr a x1) (fun k _ => by rw [hfr 170 (by decide)])
      | succ m ih =>
        intro z J hz hz0 h175 hfr
        have q : J 175 (z + 420) = I 175 (z + 420) := by rw [h175]; unfold mSft; rw [if_neg (by omega)]
        have bq : jin (I 175 (z + 420)) := hok.2.1 175 _
        refine j_iload_n dX12_remembers_11 rfl ?_
        refine j_sipush dX12_remembers_12 (by decide) ?_
        refine j_icmp_ge (tgt := 40) dX12_remembers_15 rfl (by first | omega | (split <;> omega)) (by first | omega | (split <;> omega)) (fun c_15 => by exact absurd c_15 (by omega)) (fun c_15 => ?_)
        refine j_aload_n dX12_remembers_18 rfl ?_
        refine r_getS dX12_remembers_19 flX12_26 (by first | assumption | exact hsh _ _ rfl) (fx_170_5 hfx) ?_
        refine j_iload_n dX12_remembers_22 rfl ?_
        refine j_aload_n dX12_remembers_23 rfl ?_
        refine r_getS dX12_remembers_24 flX12_26 (by first | assumption | exact hsh _ _ rfl) (fx_170_5 hfx) ?_
        refine j_iload_n dX12_remembers_27 rfl ?_
        refine j_sipush dX12_remembers_28 (by decide) ?_
        refine j_iadd dX12_remembers_31 ?_
        refine r_ialoadE dX12_remembers_32 (by first | assumption | exact hsh _ _ rfl) (by first | omega | (split <;> omega)) (by first | omega | (split <;> omega)) q (fun b_32 => ?_)
        refine r_iastore dX12_remembers_33 (by first | assumption | exact hsh _ _ rfl) (by first | omega | (split <;> omega)) (by first | omega | (split <;> omega)) (by first | omega | (split <;> omega)) ?_
        refine j_iinc dX12_remembers_34 rfl (by decide) ?_
        refine j_goto (tgt := 11) dX12_remembers_37 rfl ?_
        exact ih (z + 1) _ (by omega) (by omega) (by rw [jup_at, h175, mSft_s hz0]) (fun a x1 => by rw [jup_ne _ _ _ x1]; exact hfr a x1)
    refine j_aload_n dX12_remembers_0 rfl ?_
    refine r_getIE dX12_remembers_1 flX12_61 (by first | assumption | exact hsh _ _ rfl) hr (fun b_1 => ?_)
    refine j_bipush dX12_remembers_4 (by decide) ?_
    refine j_icmp_ne (tgt := 43) dX12_remembers_6 rfl (by first | omega | (split <;> omega)) (by first | omega | (split <;> omega)) (fun c_6 => by exact absurd rfl c_6) (fun c_6 => ?_)
    refine j_iconst dX12_remembers_9 ?_
    refine j_istore_n dX12_remembers_10 (by decide) ?_
    exact sft 4620 0 I (by decide) (by decide) mSft_0.symm (fun _ _ => rfl)
  · refine j_aload_n dX12_remembers_0 rfl ?_
    refine r_getIE dX12_remembers_1 flX12_61 (by first | assumption | exact hsh _ _ rfl) hr (fun b_1 => ?_)
    refine j_bipush dX12_remembers_4 (by decide) ?_
    refine j_icmp_ne (tgt := 43) dX12_remembers_6 rfl (by first | omega | (split <;> omega)) (by first | omega | (split <;> omega)) (fun c_6 => ?_) (fun c_6 => by exact absurd (Classical.not_not.1 c_6) e)
    refine j_aload_n dX12_remembers_43 rfl ?_
    refine j_dup dX12_remembers_44 trivial ?_
    refine r_getIE dX12_remembers_45 flX12_61 (by first | assumption | exact hsh _ _ rfl) hr (fun b_45 => ?_)
    refine j_iconst dX12_remembers_48 ?_
    refine j_iadd dX12_remembers_49 ?_
    refine r_putI dX12_remembers_50 flX12_61 rfl (by first | assumption | exact hsh _ _ rfl) (by first | omega | (split <;> omega)) (fun q => by cases q) ?_
    refine j_iconst dX12_remembers_53 ?_
    refine j_istore_n dX12_remembers_54 (by decide) ?_
    exact put 420 0 _ (I 175) (by decide) (by decide) (by rw [jup_same]; omega) (by rw [mPst_0, jup_ne _ _ _ (by decide)]) (by unfold mRem; rw [if_neg e, show 420 * (min 12 (r + 1) - 1) = 420 * r by omega]) (fun a x0 x1 => jup_ne _ _ _ x0) (fun k hk => jup_row _ _ _ hk)
theorem mp_undo_f (hsh : ShOK sh) (hfx : FxOK F) (hr : I 170 7 = 0) : jS G d mX12_undo [jR (some 170)] (sh, I, F) 0 0 (rI 0 (sh, jup I 170 0 0, F)) := by
  have q : jup I 170 0 0 170 7 = 0 := by rw [jup_row _ _ _ (by decide)]; exact hr
  refine jS_go [some (jR (some 170)), none] (by decide +kernel) rfl (by simp [jone]) (Nat.le_of_ble_eq_true rfl) rfl (fun hok => ?_)
  refine j_aload_n dX12_undo_0 rfl ?_
  refine j_iconst dX12_undo_1 ?_
  refine r_putI dX12_undo_2 flX12_3 rfl (by first | assumption | exact hsh _ _ rfl) (by first | omega | (split <;> omega)) (fun q => by cases q) ?_
  refine j_aload_n dX12_undo_5 rfl ?_
  refine r_getIE dX12_undo_6 flX12_61 (by first | assumption | exact hsh _ _ rfl) q (fun b_6 => ?_)
  refine j_if_ne (tgt := 14) dX12_undo_9 rfl (by first | omega | (split <;> omega)) (fun c_9 => by exact absurd rfl c_9) (fun c_9 => ?_)
  refine j_iconst dX12_undo_12 ?_
  refine j_zret dX12_undo_13 rfl (by omega) ?_
  exact rI_of rfl rfl
def UnO (I J : Nat → Int → Int) (r : Int) : Prop := J 170 0 = 0 ∧ J 170 7 = r - 1 ∧ J 171 = mCpy (I 171) (fun k => I 175 (420 * (r - 1) + k)) 420 ∧ (∀ a, a ≠ 170 → a ≠ 171 → J a = I a) ∧ ∀ k, k ≠ 0 → k ≠ 7 → J 170 k = I 170 k
theorem mp_undo_t (hsh : ShOK sh) (hfx : FxOK F) {r : Int} (hr : I 170 7 = r) (hr1 : 1 ≤ r ∧ r ≤ 12) : jS G d mX12_undo [jR (some 170)] (sh, I, F) 0 0 (rEI 1 sh F (fun J => UnO I J r)) := by
  have q : jup I 170 0 0 170 7 = r := by rw [jup_row _ _ _ (by decide)]; exact hr
  refine jS_go [some (jR (some 170)), none] (by decide +kernel) rfl (by simp [jone]) (Nat.le_of_ble_eq_true rfl) rfl (fun hok => ?_)
  generalize hQ : rEI 1 sh F (fun J => UnO I J r) = Q9
  have key : ∀ (m : Nat) (z : Int) (J : Nat → Int → Int), z + m = 420 → 0 ≤ z → J 170 0 = 0 → J 170 7 = r - 1 → J 171 = mCpy (I 171) (fun k => I 175 (420 * (r - 1) + k)) z → (∀ a, a ≠ 170 → a ≠ 171 → J a = I a) → (∀ k, k ≠ 0 → k ≠ 7 → J 170 k = I 170 k) → jW G mX12_undo d Q9 26 [some (jR (some 170)), some (jI z)] [] (sh, J, F) 0 0 := by
    intro m
    induction m with
    | zero =>
      intro z J hz hz0 h0 h7 h171 hfr hk
      refine j_iload_n dX12_undo_26 rfl ?_
      refine j_sipush dX12_undo_27 (by decide) ?_
      refine j_icmp_ge (tgt := 60) dX12_undo_30 rfl (by first | omega | (split <;> omega)) (by first | omega | (split <;> omega)) (fun c_30 => ?_) (fun c_30 => by exact absurd (by omega) c_30)
      refine j_iconst dX12_undo_60 ?_
      refine j_zret dX12_undo_61 rfl (by omega) ?_
      rw [← hQ]
      exact rEI_of rfl ⟨h0, h7, by rw [h171, show z = 420 by omega], hfr, hk⟩
    | succ m ih =>
      intro z J hz hz0 h0 h7 h171 hfr hk
      have q : J 175 (420 * (r - 1) + z) = I 175 (420 * (r - 1) + z) := by rw [hfr 175 (by decide) (by decide)]
      have bq : jin (I 175 (420 * (r - 1) + z)) := hok.2.1 175 _
      refine j_iload_n dX12_undo_26 rfl ?_
      refine j_sipush dX12_undo_27 (by decide) ?_
      refine j_icmp_ge (tgt := 60) dX12_undo_30 rfl (by first | omega | (split <;> omega)) (by first | omega | (split <;> omega)) (fun c_30 => by exact absurd c_30 (by omega)) (fun c_30 => ?_)
      refine j_aload_n dX12_undo_33 rfl ?_
      refine r_getS dX12_undo_34 flX12_13 (by first | assumption | exact hsh _ _ rfl) (fx_170_1 hfx) ?_
      refine j_iload_n dX12_undo_37 rfl ?_
      refine j_aload_n dX12_undo_38 rfl ?_
      refine r_getS dX12_undo_39 flX12_26 (by first | assumption | exact hsh _ _ rfl) (fx_170_5 hfx) ?_
      refine j_sipush dX12_undo_42 (by decide) ?_
      refine j_aload_n dX12_undo_45 rfl ?_
      refine r_getIE dX12_undo_46 flX12_61 (by first | assumption | exact hsh _ _ rfl) h7 (fun b_46 => ?_)
      refine j_imul dX12_undo_49 ?_
      refine j_iload_n dX12_undo_50 rfl ?_
      refine j_iadd dX12_undo_51 ?_
      refine r_ialoadE dX12_undo_52 (by first | assumption | exact hsh _ _ rfl) (by first | omega | (split <;> omega)) (by first | omega | (split <;> omega)) q (fun b_52 => ?_)
      refine r_iastore dX12_undo_53 (by first | assumption | exact hsh _ _ rfl) (by first | omega | (split <;> omega)) (by first | omega | (split <;> omega)) (by first | omega | (split <;> omega)) ?_
      refine j_iinc dX12_undo_54 rfl (by decide) ?_
      refine j_goto (tgt := 26) dX12_undo_57 rfl ?_
      exact ih (z + 1) _ (by omega) (by omega) (by rw [jup_ne _ _ _ (by decide)]; exact h0) (by rw [jup_ne _ _ _ (by decide)]; exact h7) (by rw [jup_at, h171]; exact mCpy_s (g := fun k => I 175 (420 * (r - 1) + k)) hz0) (fun a x0 x1 => by rw [jup_ne _ _ _ x1]; exact hfr a x0 x1) (fun k x0 x1 => by rw [jup_ne _ _ _ (by decide)]; exact hk k x0 x1)
  refine j_aload_n dX12_undo_0 rfl ?_
  refine j_iconst dX12_undo_1 ?_
  refine r_putI dX12_undo_2 flX12_3 rfl (by first | assumption | exact hsh _ _ rfl) (by first | omega | (split <;> omega)) (fun q => by cases q) ?_
  refine j_aload_n dX12_undo_5 rfl ?_
  refine r_getIE dX12_undo_6 flX12_61 (by first | assumption | exact hsh _ _ rfl) q (fun b_6 => ?_)
  refine j_if_ne (tgt := 14) dX12_undo_9 rfl (by first | omega | (split <;> omega)) (fun c_9 => ?_) (fun c_9 => by exact absurd c_9 (by omega))
  refine j_aload_n dX12_undo_14 rfl ?_
  refine j_dup dX12_undo_15 trivial ?_
  refine r_getIE dX12_undo_16 flX12_61 (by first | assumption | exact hsh _ _ rfl) q (fun b_16 => ?_)
  refine j_iconst dX12_undo_19 ?_
  refine j_isub dX12_undo_20 ?_
  refine r_putI dX12_undo_21 flX12_61 rfl (by first | assumption | exact hsh _ _ rfl) (by first | omega | (split <;> omega)) (fun q => by cases q) ?_
  refine j_iconst dX12_undo_24 ?_
  refine j_istore_n dX12_undo_25 (by decide) ?_
  exact key 420 0 _ (by decide) (by decide) (by rw [jup_row _ _ _ (by decide), jup_same]) (by rw [jup_same]) (by rw [jup_ne _ _ _ (by decide), jup_ne _ _ _ (by decide), mCpy_0]) (fun a x0 x1 => by rw [jup_ne _ _ _ x0, jup_ne _ _ _ x0]) (fun k x0 x1 => by rw [jup_row _ _ _ x1, jup_row _ _ _ x0])
def ImO (I J : Nat → Int → Int) : Prop := J 170 0 = 0 ∧ J 170 6 = 1 ∧ J 172 = mCpy (I 172) (I 171) 1269 ∧ (∀ a, a ≠ 170 → a ≠ 172 → J a = I a) ∧ ∀ k, k ≠ 0 → k ≠ 6 → J 170 k = I 170 k
theorem mp_image (hsh : ShOK sh) (hfx : FxOK F) : jS G d mX12_image [jR (some 170)] (sh, I, F) 0 0 (rEV sh F (fun J => ImO I J)) := by
  refine jS_go [some (jR (some 170)), none] (by decide +kernel) rfl (by simp [jone]) (Nat.le_of_ble_eq_true rfl) rfl (fun hok => ?_)
  generalize hQ : rEV sh F (fun J => ImO I J) = Q9
  have key : ∀ (m : Nat) (z : Int) (J : Nat → Int → Int), z + m = 1269 → 0 ≤ z → J 170 0 = 0 → J 172 = mCpy (I 172) (I 171) z → (∀ a, a ≠ 170 → a ≠ 172 → J a = I a) → (∀ k, k ≠ 0 → J 170 k = I 170 k) → jW G mX12_image d Q9 7 [some (jR (some 170)), some (jI z)] [] (sh, J, F) 0 0 := by
    intro m
    induction m with
    | zero =>
      intro z J hz hz0 h0 h172 hfr hk
      refine j_iload_n dX12_image_7 rfl ?_
      refine j_sipush dX12_image_8 (by decide) ?_
      refine j_icmp_ge (tgt := 32) dX12_image_11 rfl (by first | omega | (split <;> omega)) (by first | omega | (split <;> omega)) (fun c_11 => ?_) (fun c_11 => by exact absurd (by omega) c_11)
      refine j_aload_n dX12_image_32 rfl ?_
      refine j_iconst dX12_image_33 ?_
      refine r_putI dX12_image_34 flX12_57 rfl (by first | assumption | exact hsh _ _ rfl) (by first | omega | (split <;> omega)) (fun _ => Or.inr rfl) ?_
      refine j_vret dX12_image_37 rfl ?_
      rw [← hQ]
      exact rEV_of ⟨by rw [jup_row _ _ _ (by decide)]; exact h0, jup_same _ _ _ _, by rw [jup_ne _ _ _ (by decide), h172, show z = 1269 by omega], fun a x0 x1 => by rw [jup_ne _ _ _ x0]; exact hfr a x0 x1, fun k x0 x1 => by rw [jup_row _ _ _ x1]; exact hk k x0⟩
    | succ m ih =>
      intro z J hz hz0 h0 h172 hfr hk
      have q : J 171 z = I 171 z := by rw [hfr 171 (by decide) (by decide)]
      have bq : jin (I 171 z) := hok.2.1 171 _
      refine j_iload_n dX12_image_7 rfl ?_
      refine j_sipush dX12_image_8 (by decide) ?_
      refine j_icmp_ge (tgt := 32) dX12_image_11 rfl (by first | omega | (split <;> omega)) (by first | omega | (split <;> omega)) (fun c_11 => by exact absurd c_11 (by omega)) (fun c_11 => ?_)
      refine j_aload_n dX12_image_14 rfl ?_
      refine r_getS dX12_image_15 flX12_17 (by first | assumption | exact hsh _ _ rfl) (fx_170_2 hfx) ?_
      refine j_iload_n dX12_image_18 rfl ?_
      refine j_aload_n dX12_image_19 rfl ?_
      refine r_getS dX12_image_20 flX12_13 (by first | assumption | exact hsh _ _ rfl) (fx_170_1 hfx) ?_
      refine j_iload_n dX12_image_23 rfl ?_
      refine r_ialoadE dX12_image_24 (by first | assumption | exact hsh _ _ rfl) (by first | omega | (split <;> omega)) (by first | omega | (split <;> omega)) q (fun b_24 => ?_)
      refine r_iastore dX12_image_25 (by first | assumption | exact hsh _ _ rfl) (by first | omega | (split <;> omega)) (by first | omega | (split <;> omega)) (by first | omega | (split <;> omega)) ?_
      refine j_iinc dX12_image_26 rfl (by decide) ?_
      refine j_goto (tgt := 7) dX12_image_29 rfl ?_
      exact ih (z + 1) _ (by omega) (by omega) (by rw [jup_ne _ _ _ (by decide)]; exact h0) (by rw [jup_at, h172, mCpy_s hz0]) (fun a x0 x1 => by rw [jup_ne _ _ _ x1]; exact hfr a x0 x1) (fun k x0 => by rw [jup_ne _ _ _ (by decide)]; exact hk k x0)
  refine j_aload_n dX12_image_0 rfl ?_
  refine j_iconst dX12_image_1 ?_
  refine r_putI dX12_image_2 flX12_3 rfl (by first | assumption | exact hsh _ _ rfl) (by first | omega | (split <;> omega)) (fun q => by cases q) ?_
  refine j_iconst dX12_image_5 ?_
  refine j_istore_n dX12_image_6 (by decide) ?_
  exact key 1269 0 _ (by decide) (by decide) (by rw [jup_same]) (by rw [jup_ne _ _ _ (by decide), mCpy_0]) (fun a x0 x1 => by rw [jup_ne _ _ _ x0]) (fun k x0 => by rw [jup_row _ _ _ x0])
theorem mp_back_f (hsh : ShOK sh) (hfx : FxOK F) (hr : I 170 6 = 0) : jS G d mX12_back [jR (some 170)] (sh, I, F) 0 0 (rI 0 (sh, jup I 170 0 0, F)) := by
  have q : jup I 170 0 0 170 6 = 0 := by rw [jup_row _ _ _ (by decide)]; exact hr
  refine jS_go [some (jR (some 170)), none] (by decide +kernel) rfl (by simp [jone]) (Nat.le_of_ble_eq_true rfl) rfl (fun hok => ?_)
  refine j_aload_n dX12_back_0 rfl ?_
  refine j_iconst dX12_back_1 ?_
  refine r_putI dX12_back_2 flX12_3 rfl (by first | assumption | exact hsh _ _ rfl) (by first | omega | (split <;> omega)) (fun q => by cases q) ?_
  refine j_aload_n dX12_back_5 rfl ?_
  refine r_getIE dX12_back_6 flX12_57 (by first | assumption | exact hsh _ _ rfl) q (fun b_6 => ?_)
  refine j_if_ne (tgt := 14) dX12_back_9 rfl (by first | omega | (split <;> omega)) (fun c_9 => by exact absurd rfl c_9) (fun c_9 => ?_)
  refine j_iconst dX12_back_12 ?_
  refine j_zret dX12_back_13 rfl (by omega) ?_
  exact rI_of rfl rfl
def BkO (I J : Nat → Int → Int) : Prop := J 170 0 = 0 ∧ J 170 7 = 0 ∧ J 171 = mCpy (I 171) (I 172) 1269 ∧ (∀ a, a ≠ 170 → a ≠ 171 → J a = I a) ∧ ∀ k, k ≠ 0 → k ≠ 7 → J 170 k = I 170 k
theorem mp_back_t (hsh : ShOK sh) (hfx : FxOK F) (hr : I 170 6 = 1) : jS G d mX12_back [jR (some 170)] (sh, I, F) 0 0 (rEI 1 sh F (fun J => BkO I J)) := by
  have q : jup I 170 0 0 170 6 = 1 := by rw [jup_row _ _ _ (by decide)]; exact hr
  refine jS_go [some (jR (some 170)), none] (by decide +kernel) rfl (by simp [jone]) (Nat.le_of_ble_eq_true rfl) rfl (fun hok => ?_)
  generalize hQ : rEI 1 sh F (fun J => BkO I J) = Q9
  have key : ∀ (m : Nat) (z : Int) (J : Nat → Int → Int), z + m = 1269 → 0 ≤ z → J 170 0 = 0 → J 171 = mCpy (I 171) (I 172) z → (∀ a, a ≠ 170 → a ≠ 171 → J a = I a) → (∀ k, k ≠ 0 → J 170 k = I 170 k) → jW G mX12_back d Q9 16 [some (jR (some 170)), some (jI z)] [] (sh, J, F) 0 0 := by
    intro m
    induction m with
    | zero =>
      intro z J hz hz0 h0 h171 hfr hk
      refine j_iload_n dX12_back_16 rfl ?_
      refine j_sipush dX12_back_17 (by decide) ?_
      refine j_icmp_ge (tgt := 41) dX12_back_20 rfl (by first | omega | (split <;> omega)) (by first | omega | (split <;> omega)) (fun c_20 => ?_) (fun c_20 => by exact absurd (by omega) c_20)
      refine j_aload_n dX12_back_41 rfl ?_
      refine j_iconst dX12_back_42 ?_
      refine r_putI dX12_back_43 flX12_61 rfl (by first | assumption | exact hsh _ _ rfl) (by first | omega | (split <;> omega)) (fun q => by cases q) ?_
      refine j_iconst dX12_back_46 ?_
      refine j_zret dX12_back_47 rfl (by omega) ?_
      rw [← hQ]
      exact rEI_of rfl ⟨by rw [jup_row _ _ _ (by decide)]; exact h0, jup_same _ _ _ _, by rw [jup_ne _ _ _ (by decide), h171, show z = 1269 by omega], fun a x0 x1 => by rw [jup_ne _ _ _ x0]; exact hfr a x0 x1, fun k x0 x1 => by rw [jup_row _ _ _ x1]; exact hk k x0⟩
    | succ m ih =>
      intro z J hz hz0 h0 h171 hfr hk
      have q : J 172 z = I 172 z := by rw [hfr 172 (by decide) (by decide)]
      have bq : jin (I 172 z) := hok.2.1 172 _
      refine j_iload_n dX12_back_16 rfl ?_
      refine j_sipush dX12_back_17 (by decide) ?_
      refine j_icmp_ge (tgt := 41) dX12_back_20 rfl (by first | omega | (split <;> omega)) (by first | omega | (split <;> omega)) (fun c_20 => by exact absurd c_20 (by omega)) (fun c_20 => ?_)
      refine j_aload_n dX12_back_23 rfl ?_
      refine r_getS dX12_back_24 flX12_13 (by first | assumption | exact hsh _ _ rfl) (fx_170_1 hfx) ?_
      refine j_iload_n dX12_back_27 rfl ?_
      refine j_aload_n dX12_back_28 rfl ?_
      refine r_getS dX12_back_29 flX12_17 (by first | assumption | exact hsh _ _ rfl) (fx_170_2 hfx) ?_
      refine j_iload_n dX12_back_32 rfl ?_
      refine r_ialoadE dX12_back_33 (by first | assumption | exact hsh _ _ rfl) (by first | omega | (split <;> omega)) (by first | omega | (split <;> omega)) q (fun b_33 => ?_)
      refine r_iastore dX12_back_34 (by first | assumption | exact hsh _ _ rfl) (by first | omega | (split <;> omega)) (by first | omega | (split <;> omega)) (by first | omega | (split <;> omega)) ?_
      refine j_iinc dX12_back_35 rfl (by decide) ?_
      refine j_goto (tgt := 16) dX12_back_38 rfl ?_
      exact ih (z + 1) _ (by omega) (by omega) (by rw [jup_ne _ _ _ (by decide)]; exact h0) (by rw [jup_at, h171, mCpy_s hz0]) (fun a x0 x1 => by rw [jup_ne _ _ _ x1]; exact hfr a x0 x1) (fun k x0 => by rw [jup_ne _ _ _ (by decide)]; exact hk k x0)
  refine j_aload_n dX12_back_0 rfl ?_
  refine j_iconst dX12_back_1 ?_
  refine r_putI dX12_back_2 flX12_3 rfl (by first | assumption | exact hsh _ _ rfl) (by first | omega | (split <;> omega)) (fun q => by cases q) ?_
  refine j_aload_n dX12_back_5 rfl ?_
  refine r_getIE dX12_back_6 flX12_57 (by first | assumption | exact hsh _ _ rfl) q (fun b_6 => ?_)
  refine j_if_ne (tgt := 14) dX12_back_9 rfl (by first | omega | (split <;> omega)) (fun c_9 => ?_) (fun c_9 => by exact absurd c_9 (by decide))
  refine j_iconst dX12_back_14 ?_
  refine j_istore_n dX12_back_15 (by decide) ?_
  exact key 1269 0 _ (by decide) (by decide) (by rw [jup_same]) (by rw [jup_ne _ _ _ (by decide), mCpy_0]) (fun a x0 x1 => by rw [jup_ne _ _ _ x0]) (fun k x0 => by rw [jup_row _ _ _ x0])
end
