/-! A DAY PASSES, BOTH SIDES -/
theorem dTold_o {calm : Int} {w a b f : Int → Int} {k : Int} (hk : k < 9 ∨ (11 ≤ k ∧ k < 180) ∨ 420 ≤ k) : dTold calm w a b f k = (dEnd calm w a b f).1 k := by
  have := jfold_ind (f := dTell (dEnd calm w a b f).2) (a := (dEnd calm w a b f).1) (fun _ v => v k = (dEnd calm w a b f).1 k) rfl (n := (aPe w).toNat) (fun z v h0 h1 ih => by
    unfold dTell
    split
    · rw [mTell_o hk]; exact ih
    · exact ih)
  exact this
section
variable {G : jzG} {d : Nat} {sh : List (Nat × Nat)} {I : Nat → Int → Int} {F : Nat → Int → Option Nat} {s : Nat} {w a0 b0 f0 : Int → Int}
/-- what a day of the class leaves -/
def PsO (I : Nat → Int → Int) (s : Nat) (calm : Int) (w a0 b0 f0 : Int → Int) (J : Nat → Int → Int) : Prop := Rp J s (mDay calm w a0 b0 f0) ∧ (∀ q, 0 ≤ q → q < aPe w → J 164 q = (dEnd calm w a0 b0 f0).2 q ∧ (aOf w q 3 = 0 → J 162 q = (dCore calm w a0 b0 f0).2.1 q ∧ J 163 q = (dCore calm w a0 b0 f0).2.2.1 q)) ∧ J s 16 = I s 16 ∧ ∀ a, a ≠ s → a ≠ s + 3 → a ≠ s + 4 → (a < 160 ∨ 165 < a) → J a = I a
theorem sc_pass (hsh : ShOK sh) (hfx : FxOK F) (hs : StAt sh F s) (hs9 : s + 9 < 154) (hR : Rp I s w) (hL : LwR sh I F s w) (hW : WF w) {calm dr : Int} (hc : calm = 0 ∧ dr = 1 ∨ calm = 1 ∧ dr = 0) : jS G (d + 6) mX2_pass [jR (some 160), jR (some s), jI dr] (sh, I, F) 0 0 (rEI (mOver w (dEnd calm w a0 b0 f0).2) sh F (PsO I s calm w a0 b0 f0)) := by
  obtain ⟨g0, g1, g2, g3, g4, g5, g6, g7, g8, g9, e1, e2, e3, e4, e5, e6, e7, e8, e9⟩ := id hs
  obtain ⟨r0, r1, rP, rO, rA, r9, r10, r11, r12, r13, r14, r15, r16, r17⟩ := id hR
  have h8 := hW.1
  have hday := hW.2.1.1
  refine jS_go [some (jR (some 160)), some (jR (some s)), some (jI dr), none, none] (by decide +kernel) rfl (by simp [jone]) (Nat.le_of_ble_eq_true rfl) rfl (fun hok => ?_)
  have hCo := dCore_ok (calm := calm) (a := a0) (b := b0) (f := f0) hW
  have hRt := dRate_ok (calm := calm) (a := a0) (b := b0) (f := f0) hW
  have hEn := dEnd_ok (calm := calm) (a := a0) (b := b0) (f := f0) hW
  have e3 := hEn.2.2 3 (by omega)
  have e0E : aPe (dEnd calm w a0 b0 f0).1 = aPe w := hEn.2.2 0 (by omega)
  have hmd : ∀ k, (k < 9 ∨ (11 ≤ k ∧ k < 180)) → mDay calm w a0 b0 f0 k = wup (dEnd calm w a0 b0 f0).1 3 (min 9999 (w 3 + 1)) k := fun k hk => by
    unfold mDay
    rw [dTold_o (k := 3) (by omega), e3]
    by_cases e : k = 3
    · subst e; rw [wup_same, wup_same]
    · rw [wup_ne _ _ e, wup_ne _ _ e, dTold_o (by omega)]
  have hov : mOver w (dEnd calm w a0 b0 f0).2 = mOver (wup (dEnd calm w a0 b0 f0).1 3 (min 9999 (w 3 + 1))) (dEnd calm w a0 b0 f0).2 := by
    unfold mOver
    rw [show aPe (wup (dEnd calm w a0 b0 f0).1 3 (min 9999 (w 3 + 1))) = aPe w by rw [← e0E]; exact wup_ne _ _ (by decide)]
    refine jfold_cong (fun k k0 k1 x => ?_)
    rw [show aOf (wup (dEnd calm w a0 b0 f0).1 3 (min 9999 (w 3 + 1))) k 0 = aOf w k 0 from (wup_ne _ _ (by omega)).trans (hEn.2.2 _ (Or.inr (Or.inr ⟨k, k0, by omega⟩)))]
  generalize hQ : rEI (mOver w (dEnd calm w a0 b0 f0).2) sh F (PsO I s calm w a0 b0 f0) = QQ
  -- the end of the day
  have keyE : ∀ (J : Nat → Int → Int) (o3 o4 : Option jzV), Rp J s (dEnd calm w a0 b0 f0).1 → (∀ q, 0 ≤ q → q < aPe w → J 164 q = (dEnd calm w a0 b0 f0).2 q ∧ (aOf w q 3 = 0 → J 162 q = (dCore calm w a0 b0 f0).2.1 q ∧ J 163 q = (dCore calm w a0 b0 f0).2.2.1 q)) → J s 16 = I s 16 → (∀ a, a ≠ s → a ≠ s + 3 → a ≠ s + 4 → (a < 160 ∨ 165 < a) → J a = I a) → jW G mX2_pass (d + 6) QQ 159 [some (jR (some 160)), some (jR (some s)), some (jI dr), o3, o4] [] (sh, J, F) 0 0 := by
    intro J o3 o4 hRJ hJf h16 hfr
    have sdi := sc_dayIn (G := G) (d := d + 5) (I := J) hs hRJ (n := 1) (by omega) (by rw [e3]; exact hday)
    rw [e3] at sdi
    have hR2 : Rp (jup J s 13 (min 9999 (w 3 + 1))) s (wup (dEnd calm w a0 b0 f0).1 3 (min 9999 (w 3 + 1))) := Rp_fld hRJ (by omega)
    have hR3 : Rp (jup J s 13 (min 9999 (w 3 + 1))) s (mDay calm w a0 b0 f0) := Rp_cong hR2 (fun k hk _ => hmd k hk)
    have sh2 := sc_howManyOver (G := G) (d := d + 5) (I := jup J s 13 (min 9999 (w 3 + 1))) hsh hfx hs hR2 (f := (dEnd calm w a0 b0 f0).2) (fun q q0 q1 => by
      rw [show aPe (wup (dEnd calm w a0 b0 f0).1 3 (min 9999 (w 3 + 1))) = aPe w by rw [← e0E]; exact wup_ne _ _ (by decide)] at q1
      rw [jup_ne _ _ _ (by omega)]; exact (hJf q q0 q1).1)
    rw [← hov] at sh2
    refine j_aload_n dX2_pass_159 rfl ?_
    refine j_aload_n dX2_pass_160 rfl ?_
    refine j_iconst dX2_pass_161 ?_
    refine r_cv1I dX2_pass_162 cvX2_84 (by decide) (by first | assumption | exact hsh _ _ rfl) (Nat.le_of_ble_eq_true rfl) (Nat.le_of_eq (Nat.zero_add _)) (Nat.le_of_eq (Nat.zero_add _)) (sdi) ?_
    refine r_putI dX2_pass_165 flX2_27 rfl (by first | assumption | exact hsh _ _ rfl) (by first | omega | (split <;> omega)) (fun q => by cases q) ?_
    refine j_aload_n dX2_pass_168 rfl ?_
    refine j_aload_n dX2_pass_169 rfl ?_
    refine r_cv1I dX2_pass_170 cvX2_87 (by decide) (by first | assumption | exact hsh _ _ rfl) (Nat.le_of_ble_eq_true rfl) (Nat.le_of_eq (Nat.zero_add _)) (Nat.le_of_eq (Nat.zero_add _)) (sh2) ?_
    refine j_iret dX2_pass_173 rfl ?_
    subst hQ
    exact rEI_of rfl ⟨hR3, fun q q0 q1 => by rw [jup_ne _ _ _ (by omega), jup_ne _ _ _ (by omega), jup_ne _ _ _ (by omega)]; exact hJf q q0 q1, by rw [jup_row _ _ _ (by decide)]; exact h16, fun a a0 a1 a2 a3 => by rw [jup_ne _ _ _ a0]; exact hfr a a0 a1 a2 a3⟩
  -- the vault
  have keyV : ∀ (J : Nat → Int → Int) (o3 o4 : Option jzV), Rp J s (dRate calm w a0 b0 f0) → (∀ q, 0 ≤ q → q < aPe w → J 164 q = (dCore calm w a0 b0 f0).2.2.2 q ∧ (aOf w q 3 = 0 → J 162 q = (dCore calm w a0 b0 f0).2.1 q ∧ J 163 q = (dCore calm w a0 b0 f0).2.2.1 q)) → J s 16 = I s 16 → (∀ a, a ≠ s → a ≠ s + 3 → a ≠ s + 4 → (a < 160 ∨ 165 < a) → J a = I a) → jW G mX2_pass (d + 6) QQ 139 [some (jR (some 160)), some (jR (some s)), some (jI dr), o3, o4] [] (sh, J, F) 0 0 := by
    intro J o3 o4 hRJ hJf h16 hfr
    have e0R : aPe (dRate calm w a0 b0 f0) = aPe w := hRt.2 0 (by omega)
    have hall := mAll_in (w := dRate calm w a0 b0 f0) (by omega) (WF_A hRt.1)
    have sA := sc_accountsOf (G := G) (d := d + 5) (I := J) hs hRJ (set := jShl 1 (aPe (dRate calm w a0 b0 f0)) - 1)
    rw [show mAcc (dRate calm w a0 b0 f0) (jShl 1 (aPe (dRate calm w a0 b0 f0)) - 1) = mAll (dRate calm w a0 b0 f0) 1 from mAcc_all (by omega)] at sA
    have q9 := hRJ.2.2.2.2.2.1
    by_cases e : dRate calm w a0 b0 f0 4 < mAll (dRate calm w a0 b0 f0) 1
    · have hE : dEnd calm w a0 b0 f0 = dBreak (dRate calm w a0 b0 f0) (dCore calm w a0 b0 f0).2.2.2 := if_pos e
      have sB := sc_breakBank (G := G) (d := d + 4) (I := J) hsh hfx hs hs9 hRJ hRt.1 (f := (dCore calm w a0 b0 f0).2.2.2) (by rw [e0R]; exact hCo.2.1) (by rw [e0R]; exact fun q q0 q1 => (hJf q q0 q1).1)
      rw [← hE, e0R] at sB
      refine j_aload_n dX2_pass_139 rfl ?_
      refine j_aload_n dX2_pass_140 rfl ?_
      refine r_cv0I dX2_pass_141 cvX2_70 (by decide) (by first | assumption | exact hsh _ _ rfl) (Nat.le_of_ble_eq_true rfl) (Nat.le_of_eq (Nat.zero_add _)) (Nat.le_of_eq (Nat.zero_add _)) (sc_everybody hs hRJ) ?_
      refine r_cv1I dX2_pass_144 cvX2_74 (by decide) (by first | assumption | exact hsh _ _ rfl) (Nat.le_of_ble_eq_true rfl) (Nat.le_of_eq (Nat.zero_add _)) (Nat.le_of_eq (Nat.zero_add _)) (sA) ?_
      refine j_aload_n dX2_pass_147 rfl ?_
      refine r_getIE dX2_pass_148 flX2_78 (by first | assumption | exact hsh _ _ rfl) q9 (fun b_148 => ?_)
      refine j_icmp_le (tgt := 159) dX2_pass_151 rfl (by first | omega | (split <;> omega)) (by first | omega | (split <;> omega)) (fun c_151 => by exact absurd c_151 (by omega)) (fun c_151 => ?_)
      refine j_aload_n dX2_pass_154 rfl ?_
      refine j_aload_n dX2_pass_155 rfl ?_
      refine r_cv1EV dX2_pass_156 cvX2_81 (by decide) (by first | assumption | exact hsh _ _ rfl) (Nat.le_of_ble_eq_true rfl) (Nat.le_of_eq (Nat.zero_add _)) (Nat.le_of_eq (Nat.zero_add _)) (sB) (fun K hK => ?_)
      obtain ⟨m1, m2, m3, m4⟩ := hK
      exact keyE K _ _ m1 (fun q q0 q1 => ⟨m2 q q0 q1, fun ha => by rw [m4 162 (by omega) (by omega) (by omega) (by decide), m4 163 (by omega) (by omega) (by omega) (by decide)]; exact (hJf q q0 q1).2 ha⟩) (m3.trans h16) (fun a x0 x1 x2 x3 => (m4 a x0 x1 x2 (by omega)).trans (hfr a x0 x1 x2 x3))
    · have hE : dEnd calm w a0 b0 f0 = (dRate calm w a0 b0 f0, (dCore calm w a0 b0 f0).2.2.2) := if_neg e
      refine j_aload_n dX2_pass_139 rfl ?_
      refine j_aload_n dX2_pass_140 rfl ?_
      refine r_cv0I dX2_pass_141 cvX2_70 (by decide) (by first | assumption | exact hsh _ _ rfl) (Nat.le_of_ble_eq_true rfl) (Nat.le_of_eq (Nat.zero_add _)) (Nat.le_of_eq (Nat.zero_add _)) (sc_everybody hs hRJ) ?_
      refine r_cv1I dX2_pass_144 cvX2_74 (by decide) (by first | assumption | exact hsh _ _ rfl) (Nat.le_of_ble_eq_true rfl) (Nat.le_of_eq (Nat.zero_add _)) (Nat.le_of_eq (Nat.zero_add _)) (sA) ?_
      refine j_aload_n dX2_pass_147 rfl ?_
      refine r_getIE dX2_pass_148 flX2_78 (by first | assumption | exact hsh _ _ rfl) q9 (fun b_148 => ?_)
      refine j_icmp_le (tgt := 159) dX2_pass_151 rfl (by first | omega | (split <;> omega)) (by first | omega | (split <;> omega)) (fun c_151 => ?_) (fun c_151 => by exact absurd (by omega) c_151)
      exact keyE J _ _ (by rw [hE]; exact hRJ) (by rw [hE]; exact hJf) h16 hfr
  -- interest
  have keyI : ∀ (J : Nat → Int → Int) (o3 o4 : Option jzV), Rp J s (dCore calm w a0 b0 f0).1 → J 160 9 = w 3 → (∀ q, 0 ≤ q → q < aPe w → J 164 q = (dCore calm w a0 b0 f0).2.2.2 q ∧ (aOf w q 3 = 0 → J 162 q = (dCore calm w a0 b0 f0).2.1 q ∧ J 163 q = (dCore calm w a0 b0 f0).2.2.1 q)) → J s 16 = I s 16 → (∀ a, a ≠ s → a ≠ s + 3 → a ≠ s + 4 → (a < 160 ∨ 165 < a) → J a = I a) → jW G mX2_pass (d + 6) QQ 123 [some (jR (some 160)), some (jR (some s)), some (jI dr), o3, o4] [] (sh, J, F) 0 0 := by
    intro J o3 o4 hRJ q9 hJf h16 hfr
    have e3C : (dCore calm w a0 b0 f0).1 3 = w 3 := hCo.2.2 3 (by omega)
    have e0C : aPe (dCore calm w a0 b0 f0).1 = aPe w := hCo.2.2 0 (by omega)
    by_cases e : (w 3 + 1) % 10 = 0
    · have sI := sc_addInterest (G := G) (d := d + 4) (I := J) hs hs9 hRJ hCo.1 (by rw [e3C]; exact e)
      rw [e0C, show jfold dInt (dCore calm w a0 b0 f0).1 (aPe w).toNat = dRate calm w a0 b0 f0 from rfl] at sI
      refine j_aload_n dX2_pass_123 rfl ?_
      refine r_getIE dX2_pass_124 flX2_33 (by first | assumption | exact hsh _ _ rfl) q9 (fun b_124 => ?_)
      refine j_iconst dX2_pass_127 ?_
      refine j_iadd dX2_pass_128 ?_
      refine j_bipush dX2_pass_129 (by decide) ?_
      refine r_iremN dX2_pass_131 (by first | omega | (split <;> omega)) (by first | omega | (split <;> omega)) ?_
      refine j_if_ne (tgt := 139) dX2_pass_132 rfl (by first | omega | (split <;> omega)) (fun c_132 => by exact absurd e c_132) (fun c_132 => ?_)
      refine j_aload_n dX2_pass_135 rfl ?_
      refine r_cs1EV dX2_pass_136 csX2_66 (Nat.le_of_ble_eq_true rfl) (Nat.le_of_eq (Nat.zero_add _)) (Nat.le_of_eq (Nat.zero_add _)) (sI) (fun K hK => ?_)
      obtain ⟨m1, m2⟩ := hK
      exact keyV K _ _ m1 (fun q q0 q1 => by rw [m2 162 (by omega), m2 163 (by omega), m2 164 (by omega)]; exact hJf q q0 q1) (by rw [m2 s (by omega)]; exact h16) (fun a x0 x1 x2 x3 => (m2 a x1).trans (hfr a x0 x1 x2 x3))
    · have hRr : dRate calm w a0 b0 f0 = (dCore calm w a0 b0 f0).1 := dInt_no (by rw [e3C]; exact e) _
      refine j_aload_n dX2_pass_123 rfl ?_
      refine r_getIE dX2_pass_124 flX2_33 (by first | assumption | exact hsh _ _ rfl) q9 (fun b_124 => ?_)
      refine j_iconst dX2_pass_127 ?_
      refine j_iadd dX2_pass_128 ?_
      refine j_bipush dX2_pass_129 (by decide) ?_
      refine r_iremN dX2_pass_131 (by first | omega | (split <;> omega)) (by first | omega | (split <;> omega)) ?_
      refine j_if_ne (tgt := 139) dX2_pass_132 rfl (by first | omega | (split <;> omega)) (fun c_132 => ?_) (fun c_132 => by exact absurd e (by omega))
      exact keyV J _ _ (by rw [hRr]; exact hRJ) hJf h16 hfr
  -- each one's day
  have hS := WF_seed (calm := calm) hW
  obtain ⟨wet, hwet⟩ : ∃ x, dFl calm (dSeed calm w) (w 6) = x := ⟨_, rfl⟩
  have hwet2 : wet = 0 ∨ wet = 1 := by rw [← hwet]; exact dFl_in
  have key1 : ∀ (m : Nat) (z : Int) (J : Nat → Int → Int) (Y : dX) (o4 : Option jzV), z + m = aPe w → 0 ≤ z → Y = jfold (dOne calm wet) (dSeed calm w, a0, b0, f0) z.toNat → WF Y.1 → aPe Y.1 = aPe w → vFe Y.2.2.2 z → (∀ k, (k < 11 ∨ 116 ≤ k ∨ (∃ q, k = 12 + 13 * q ∨ k = 12 + 13 * q + 3)) → Y.1 k = w k) → Rp J s Y.1 → J 160 9 = w 3 → J 160 5 = wet → (∀ q, 0 ≤ q → q < z → J 164 q = Y.2.2.2 q ∧ (aOf w q 3 = 0 → J 162 q = Y.2.1 q ∧ J 163 q = Y.2.2.1 q)) → J s 16 = I s 16 → (∀ a, a ≠ s → a ≠ s + 3 → a ≠ s + 4 → (a < 160 ∨ 165 < a) → J a = I a) → jW G mX2_pass (d + 6) QQ 34 [some (jR (some 160)), some (jR (some s)), some (jI dr), some (jI z), o4] [] (sh, J, F) 0 0 := by
    intro m
    induction m with
    | zero =>
      intro z J Y o4 hz hz0 hY hWY hn hfe hsm hRJ q9 q5 hJf h16 hfr
      have r0 := hRJ.1
      have ez : z = aPe w := by omega
      have hY2 : Y = dCore calm w a0 b0 f0 := by rw [hY, ez, ← hwet]; rfl
      subst hY2
      rw [ez] at hJf
      refine j_iload_n dX2_pass_34 rfl ?_
      refine j_aload_n dX2_pass_35 rfl ?_
      refine r_getIE dX2_pass_36 flX2_45 (by first | assumption | exact hsh _ _ rfl) r0 (fun b_36 => ?_)
      refine j_icmp_ge (tgt := 123) dX2_pass_39 rfl (by first | omega | (split <;> omega)) (by first | omega | (split <;> omega)) (fun c_39 => ?_) (fun c_39 => by exact absurd (by omega) c_39)
      exact keyI J _ _ hRJ q9 hJf h16 hfr
    | succ m ih =>
      intro z J Y o4 hz hz0 hY hWY hn hfe hsm hRJ q9 q5 hJf h16 hfr
      have r0 := hRJ.1
      have hst : jfold (dOne calm wet) (dSeed calm w, a0, b0, f0) (z + 1).toNat = dOne calm wet z Y := by rw [hY]; exact jfold_s _ _ hz0
      have ht := dOne_ok (calm := calm) (wet := wet) hWY (p := z) (by omega) hfe
      have ih2 := fun J' o => ih (z + 1) J' (dOne calm wet z Y) o (by omega) (by omega) hst.symm ht.1 (by rw [← hn]; exact ht.2.2 0 (by omega)) ht.2.1 (fun k hk => (ht.2.2 k hk).trans (hsm k hk))
      clear ih
      have ealv : aOf Y.1 z 3 = aOf w z 3 := hsm _ (Or.inr (Or.inr ⟨z, Or.inr rfl⟩))
      obtain ⟨K, hK⟩ : ∃ K, K = jup J 164 z 0 := ⟨_, rfl⟩
      have k1 : ∀ a, a ≠ 164 → K a = J a := fun a ha => by rw [hK, jup_ne _ _ _ ha]
      have k164 : K 164 = wup (J 164) z 0 := by rw [hK, jup_at]
      have hRK : Rp K s Y.1 := Rp_fr hRJ (fun a a0 a1 => k1 a (by omega))
      by_cases e : aOf Y.1 z 3 = 0
      · rw [show dOne calm wet z Y = _ from if_pos e] at ih2
        have hSY := WF_seed (calm := calm) hWY
        have e0Y : aPe (dSeed calm Y.1) = aPe Y.1 := dSeed_o (by decide)
        have e3Y : (dSeed calm Y.1) 3 = w 3 := (dSeed_o (by decide)).trans (hsm 3 (by omega))
        -- what follows the draw
        have fin : ∀ (K2 : Nat → Int → Int) (fl : Int), fl = dFl calm (dSeed calm Y.1) (Y.1 7) → Rp K2 s (dSeed calm Y.1) → (∀ a, a ≠ s → K2 a = K a) → K2 s 16 = K s 16 → jW G mX2_pass (d + 6) QQ 79 [some (jR (some 160)), some (jR (some s)), some (jI dr), some (jI z), some (jI fl)] [] (sh, K2, F) 0 0 := by
          intro K2 fl hfl hR2 hK2 hK16
          have hflin : fl = 0 ∨ fl = 1 := by rw [hfl]; exact dFl_in
          have hpn : 0 ≤ dPn calm Y.1 z ∧ dPn calm Y.1 z ≤ 14 := mPain_in hSY (by omega)
          have q87 : K2 160 9 = w 3 := by rw [hK2 160 (by omega), k1 160 (by decide)]; exact q9
          have sp := sc_painOn (G := G) (d := d + 5) (I := K2) hs hR2 (p := z) (day := w 3) (by omega) hday
          have hpe : aPaD (dSeed calm Y.1) z (w 3) + (if fl = 0 then 0 else 5) = dPn calm Y.1 z := by unfold dPn mPain; rw [e3Y, hfl]
          have hpa := aPaD_in (WF_B hSY) (p := z) (day := w 3) (by omega) hday.1
          obtain ⟨K3, hK3⟩ : ∃ M, M = jup K2 161 z (dPn calm Y.1 z) := ⟨_, rfl⟩
          have k3 : ∀ a, a ≠ 161 → K3 a = K2 a := fun a ha => by rw [hK3, jup_ne _ _ _ ha]
          have hR3 : Rp K3 s (dSeed calm Y.1) := Rp_fr hR2 (fun a a0 a1 => k3 a (by omega))
          have hL3 : LwR sh K3 F s (dSeed calm Y.1) := LwR_w (LwR_fr hL (fun a ha => by rw [k3 a (by omega), hK2 a (by omega), k1 a (by omega), hfr a (by omega) (by omega) (by omega) (by omega)])) ((dSeed_o (by decide)).trans (hsm 2 (by omega))) (fun k hk => (dSeed_o (by omega)).trans (hsm k (by omega)))
          have sd := sc_decide (G := G) (d := d + 1) (I := K3) hsh hfx hs hs9 hR3 hL3 hSY (p := z) (pain := dPn calm Y.1 z) (wet := wet) (by omega) (by rw [hK3, jup_same]) (by omega) (by rw [k3 160 (by decide), e3Y]; exact q87) (by rw [k3 160 (by decide), hK2 160 (by omega), k1 160 (by decide)]; exact q5) hwet2
          have ss : ∀ K4, (K4 162 = wup (K3 162) z (mPut (dSeed calm Y.1) z (dPn calm Y.1 z) wet) ∧ K4 163 = wup (K3 163) z (mDrw (dSeed calm Y.1) z (dPn calm Y.1 z) wet) ∧ FrK K3 K4) → jS G (d + 5) mX2_settle [jR (some 160), jR (some s), jI z] (sh, K4, F) 0 0 (rEV sh F (fun K5 => Rp K5 s (mLive (dSeed calm Y.1) z (dPn calm Y.1 z) wet) ∧ K5 162 = wup (K3 162) z (mPut (dSeed calm Y.1) z (dPn calm Y.1 z) wet) ∧ K5 163 = wup (K3 163) z (mDrw (dSeed calm Y.1) z (dPn calm Y.1 z) wet) ∧ K5 164 = wup (K3 164) z (mFeltV (dSeed calm Y.1) z (dPn calm Y.1 z) wet) ∧ K5 161 = K3 161 ∧ K5 160 9 = K3 160 9 ∧ K5 160 5 = K3 160 5 ∧ ∀ a, a ≠ s + 3 → a ≠ s + 4 → (a < 160 ∨ 165 < a) → K5 a = K3 a)) := by
            intro K4 ⟨m2, m3, mA, m1, m4, m9, m5⟩
            refine jS_mono (sc_settle (I := K4) hsh hfx hs hs9 (Rp_fr hR3 (fun a a0 a1 => mA a (by omega))) hSY (p := z) (pain := dPn calm Y.1 z) (wet := wet) (by omega) (by rw [m1, hK3, jup_same]) (by omega) (by rw [m2, wup_same]) (by rw [m3, wup_same])) (fun o h q => ?_)
            obtain ⟨K5, o1, o2, x1, x4, x⟩ := q
            exact ⟨K5, o1, o2, x1, (x 162 (by omega) (by omega) (by decide)).trans m2, (x 163 (by omega) (by omega) (by decide)).trans m3, by rw [x4, m4], (x 161 (by omega) (by omega) (by decide)).trans m1, by rw [x 160 (by omega) (by omega) (by decide)]; exact m9, by rw [x 160 (by omega) (by omega) (by decide)]; exact m5, fun a a0 a1 a2 => (x a a0 a1 (by omega)).trans (mA a a2)⟩
          refine j_aload_n dX2_pass_79 rfl ?_
          refine r_getS dX2_pass_80 flX2_9 (by first | assumption | exact hsh _ _ rfl) (fx_160_0 hfx) ?_
          refine j_iload_n dX2_pass_83 rfl ?_
          refine j_aload_n dX2_pass_84 rfl ?_
          refine j_iload_n dX2_pass_85 rfl ?_
          refine j_aload_n dX2_pass_86 rfl ?_
          refine r_getIE dX2_pass_87 flX2_33 (by first | assumption | exact hsh _ _ rfl) q87 (fun b_87 => ?_)
          refine r_cv2I dX2_pass_90 cvX2_55 (by decide) (by first | assumption | exact hsh _ _ rfl) (Nat.le_of_ble_eq_true rfl) (Nat.le_of_eq (Nat.zero_add _)) (Nat.le_of_eq (Nat.zero_add _)) (sp) ?_
          refine j_iload dX2_pass_93 rfl ?_
          refine j_if_eq (tgt := 102) dX2_pass_95 rfl (by first | omega | (split <;> omega)) (fun c_95 => ?_) (fun c_95 => ?_)
          · rw [if_pos c_95] at hpe
            refine j_iconst dX2_pass_102 ?_
            refine j_iadd dX2_pass_103 ?_
            rw [hpe]
            refine r_iastore dX2_pass_104 (by first | assumption | exact hsh _ _ rfl) (by first | omega | (split <;> omega)) (by first | omega | (split <;> omega)) (by first | omega | (split <;> omega)) ?_
            rw [← hK3]
            refine j_aload_n dX2_pass_105 rfl ?_
            refine j_aload_n dX2_pass_106 rfl ?_
            refine j_iload_n dX2_pass_107 rfl ?_
            refine r_cv2EV dX2_pass_108 cvX2_59 (by decide) (by first | assumption | exact hsh _ _ rfl) (Nat.le_of_ble_eq_true rfl) (Nat.le_of_eq (Nat.zero_add _)) (Nat.le_of_eq (Nat.zero_add _)) (sd) (fun K4 hK4 => ?_)
            refine j_aload_n dX2_pass_111 rfl ?_
            refine j_aload_n dX2_pass_112 rfl ?_
            refine j_iload_n dX2_pass_113 rfl ?_
            refine r_cv2EV dX2_pass_114 cvX2_63 (by decide) (by first | assumption | exact hsh _ _ rfl) (Nat.le_of_ble_eq_true rfl) (Nat.le_of_eq (Nat.zero_add _)) (Nat.le_of_eq (Nat.zero_add _)) (ss K4 hK4) (fun K5 hK5 => ?_)
            refine j_iinc dX2_pass_117 rfl (by decide) ?_
            refine j_goto (tgt := 34) dX2_pass_120 rfl ?_
            obtain ⟨n1, n2, n3, n4, n5, n6, n7, n8⟩ := hK5
            refine ih2 K5 _ n1 ?_ ?_ (fun q q0 q1 => ?_) ?_ (fun a x0 x1 x2 x3 => ?_)
            · rw [n6, k3 160 (by decide)]; exact q87
            · rw [n7, k3 160 (by decide), hK2 160 (by omega), k1 160 (by decide)]; exact q5
            · rw [n2, n3, n4, k3 162 (by decide), k3 163 (by decide), k3 164 (by decide), hK2 162 (by omega), hK2 163 (by omega), hK2 164 (by omega), k1 162 (by decide), k1 163 (by decide), k164, wup_wup]
              by_cases eq : q = z
              · subst eq
                exact ⟨by show _ = wup _ _ _ _; rw [wup_same, wup_same], fun _ => ⟨by show _ = wup _ _ _ _; rw [wup_same, wup_same], by show _ = wup _ _ _ _; rw [wup_same, wup_same]⟩⟩
              · have := hJf q q0 (by omega)
                exact ⟨by show _ = wup _ _ _ _; rw [wup_ne _ _ eq, wup_ne _ _ eq]; exact this.1, fun ha => ⟨by show _ = wup _ _ _ _; rw [wup_ne _ _ eq, wup_ne _ _ eq]; exact (this.2 ha).1, by show _ = wup _ _ _ _; rw [wup_ne _ _ eq, wup_ne _ _ eq]; exact (this.2 ha).2⟩⟩
            · rw [n8 s (by omega) (by omega) (by omega), k3 s (by omega), hK16, k1 s (by omega)]; exact h16
            · rw [n8 a x1 x2 x3, k3 a (by omega), hK2 a x0, k1 a (by omega)]; exact hfr a x0 x1 x2 x3
          · rw [if_neg c_95] at hpe
            refine j_iconst dX2_pass_98 ?_
            refine j_goto (tgt := 103) dX2_pass_99 rfl ?_
            refine j_iadd dX2_pass_103 ?_
            rw [hpe]
            refine r_iastore dX2_pass_104 (by first | assumption | exact hsh _ _ rfl) (by first | omega | (split <;> omega)) (by first | omega | (split <;> omega)) (by first | omega | (split <;> omega)) ?_
            rw [← hK3]
            refine j_aload_n dX2_pass_105 rfl ?_
            refine j_aload_n dX2_pass_106 rfl ?_
            refine j_iload_n dX2_pass_107 rfl ?_
            refine r_cv2EV dX2_pass_108 cvX2_59 (by decide) (by first | assumption | exact hsh _ _ rfl) (Nat.le_of_ble_eq_true rfl) (Nat.le_of_eq (Nat.zero_add _)) (Nat.le_of_eq (Nat.zero_add _)) (sd) (fun K4 hK4 => ?_)
            refine j_aload_n dX2_pass_111 rfl ?_
            refine j_aload_n dX2_pass_112 rfl ?_
            refine j_iload_n dX2_pass_113 rfl ?_
            refine r_cv2EV dX2_pass_114 cvX2_63 (by decide) (by first | assumption | exact hsh _ _ rfl) (Nat.le_of_ble_eq_true rfl) (Nat.le_of_eq (Nat.zero_add _)) (Nat.le_of_eq (Nat.zero_add _)) (ss K4 hK4) (fun K5 hK5 => ?_)
            refine j_iinc dX2_pass_117 rfl (by decide) ?_
            refine j_goto (tgt := 34) dX2_pass_120 rfl ?_
            obtain ⟨n1, n2, n3, n4, n5, n6, n7, n8⟩ := hK5
            refine ih2 K5 _ n1 ?_ ?_ (fun q q0 q1 => ?_) ?_ (fun a x0 x1 x2 x3 => ?_)
            · rw [n6, k3 160 (by decide)]; exact q87
            · rw [n7, k3 160 (by decide), hK2 160 (by omega), k1 160 (by decide)]; exact q5
            · rw [n2, n3, n4, k3 162 (by decide), k3 163 (by decide), k3 164 (by decide), hK2 162 (by omega), hK2 163 (by omega), hK2 164 (by omega), k1 162 (by decide), k1 163 (by decide), k164, wup_wup]
              by_cases eq : q = z
              · subst eq
                exact ⟨by show _ = wup _ _ _ _; rw [wup_same, wup_same], fun _ => ⟨by show _ = wup _ _ _ _; rw [wup_same, wup_same], by show _ = wup _ _ _ _; rw [wup_same, wup_same]⟩⟩
              · have := hJf q q0 (by omega)
                exact ⟨by show _ = wup _ _ _ _; rw [wup_ne _ _ eq, wup_ne _ _ eq]; exact this.1, fun ha => ⟨by show _ = wup _ _ _ _; rw [wup_ne _ _ eq, wup_ne _ _ eq]; exact (this.2 ha).1, by show _ = wup _ _ _ _; rw [wup_ne _ _ eq, wup_ne _ _ eq]; exact (this.2 ha).2⟩⟩
            · rw [n8 s (by omega) (by omega) (by omega), k3 s (by omega), hK16, k1 s (by omega)]; exact h16
            · rw [n8 a x1 x2 x3, k3 a (by omega), hK2 a x0, k1 a (by omega)]; exact hfr a x0 x1 x2 x3
        rcases hc with ⟨rfl, rfl⟩ | ⟨rfl, rfl⟩
        · have r12 := hRK.2.2.2.2.2.2.2.2.1
          have hfl := hWY.2.2.2.2.2
          have sd := sc_drawsBelow (G := G) (d := d + 5) (I := K) hs hRK (b := Y.1 7) hfl
          have eS : dSeed 0 Y.1 = wup Y.1 11 (sNext (Y.1 11)) := rfl
          have hR2 : Rp (jup K s 14 (sNext (Y.1 11))) s (dSeed 0 Y.1) := Rp_fld hRK (by omega)
          have hdf : dFl 0 (dSeed 0 Y.1) (Y.1 7) = if sDraw (sNext (Y.1 11)) < Y.1 7 then 1 else 0 := by
            unfold dFl
            rw [show (dSeed 0 Y.1) 11 = sNext (Y.1 11) by rw [eS, wup_same]]
            by_cases q : sDraw (sNext (Y.1 11)) < Y.1 7
            · rw [if_pos ⟨rfl, q⟩, if_pos q]
            · rw [if_neg (fun x => q x.2), if_neg q]
          have fin2 := fun fl h => fin (jup K s 14 (sNext (Y.1 11))) fl h hR2 (fun a ha => jup_ne _ _ _ ha) (jup_row _ _ _ (by decide))
          refine j_iload_n dX2_pass_34 rfl ?_
          refine j_aload_n dX2_pass_35 rfl ?_
          refine r_getIE dX2_pass_36 flX2_45 (by first | assumption | exact hsh _ _ rfl) r0 (fun b_36 => ?_)
          refine j_icmp_ge (tgt := 123) dX2_pass_39 rfl (by first | omega | (split <;> omega)) (by first | omega | (split <;> omega)) (fun c_39 => by exact absurd c_39 (by omega)) (fun c_39 => ?_)
          refine j_aload_n dX2_pass_42 rfl ?_
          refine r_getS dX2_pass_43 flX2_21 (by first | assumption | exact hsh _ _ rfl) (fx_160_3 hfx) ?_
          refine j_iload_n dX2_pass_46 rfl ?_
          refine j_iconst dX2_pass_47 ?_
          refine r_iastore dX2_pass_48 (by first | assumption | exact hsh _ _ rfl) (by first | omega | (split <;> omega)) (by first | omega | (split <;> omega)) (by first | omega | (split <;> omega)) ?_
          rw [← hK]
          refine j_aload_n dX2_pass_49 rfl ?_
          refine j_iload_n dX2_pass_50 rfl ?_
          refine r_cv1I dX2_pass_51 cvX2_48 (by decide) (by first | assumption | exact hsh _ _ rfl) (Nat.le_of_ble_eq_true rfl) (Nat.le_of_eq (Nat.zero_add _)) (Nat.le_of_eq (Nat.zero_add _)) (sc_al1 hs hRK (by omega) ⟨hz0, by omega⟩ e) ?_
          refine j_if_eq (tgt := 117) dX2_pass_54 rfl (by first | omega | (split <;> omega)) (fun c_54 => by exact absurd c_54 (by decide)) (fun c_54 => ?_)
          refine j_iload_n dX2_pass_57 rfl ?_
          refine j_if_eq (tgt := 76) dX2_pass_58 rfl (by first | omega | (split <;> omega)) (fun c_58 => by exact absurd c_58 (by decide)) (fun c_58 => ?_)
          refine j_aload_n dX2_pass_61 rfl ?_
          refine j_aload_n dX2_pass_62 rfl ?_
          refine r_getIE dX2_pass_63 flX2_52 (by first | assumption | exact hsh _ _ rfl) r12 (fun b_63 => ?_)
          refine r_cs2I dX2_pass_66 csX2_37 (Nat.le_of_ble_eq_true rfl) (Nat.le_of_eq (Nat.zero_add _)) (Nat.le_of_eq (Nat.zero_add _)) (sd) ?_
          refine j_if_eq (tgt := 76) dX2_pass_69 rfl (by first | omega | (split <;> omega)) (fun c_69 => ?_) (fun c_69 => ?_)
          · rw [ite0] at c_69
            rw [if_neg c_69] at hdf
            refine j_iconst dX2_pass_76 ?_
            refine j_istore dX2_pass_77 (by decide) ?_
            exact fin2 _ hdf.symm
          · rw [ite0, Classical.not_not] at c_69
            rw [if_pos c_69] at hdf
            refine j_iconst dX2_pass_72 ?_
            refine j_goto (tgt := 77) dX2_pass_73 rfl ?_
            refine j_istore dX2_pass_77 (by decide) ?_
            exact fin2 _ hdf.symm
        · have hdf : (0 : Int) = dFl 1 (dSeed 1 Y.1) (Y.1 7) := by
            unfold dFl
            rw [if_neg (fun q => by have := q.1; omega)]
          refine j_iload_n dX2_pass_34 rfl ?_
          refine j_aload_n dX2_pass_35 rfl ?_
          refine r_getIE dX2_pass_36 flX2_45 (by first | assumption | exact hsh _ _ rfl) r0 (fun b_36 => ?_)
          refine j_icmp_ge (tgt := 123) dX2_pass_39 rfl (by first | omega | (split <;> omega)) (by first | omega | (split <;> omega)) (fun c_39 => by exact absurd c_39 (by omega)) (fun c_39 => ?_)
          refine j_aload_n dX2_pass_42 rfl ?_
          refine r_getS dX2_pass_43 flX2_21 (by first | assumption | exact hsh _ _ rfl) (fx_160_3 hfx) ?_
          refine j_iload_n dX2_pass_46 rfl ?_
          refine j_iconst dX2_pass_47 ?_
          refine r_iastore dX2_pass_48 (by first | assumption | exact hsh _ _ rfl) (by first | omega | (split <;> omega)) (by first | omega | (split <;> omega)) (by first | omega | (split <;> omega)) ?_
          rw [← hK]
          refine j_aload_n dX2_pass_49 rfl ?_
          refine j_iload_n dX2_pass_50 rfl ?_
          refine r_cv1I dX2_pass_51 cvX2_48 (by decide) (by first | assumption | exact hsh _ _ rfl) (Nat.le_of_ble_eq_true rfl) (Nat.le_of_eq (Nat.zero_add _)) (Nat.le_of_eq (Nat.zero_add _)) (sc_al1 hs hRK (by omega) ⟨hz0, by omega⟩ e) ?_
          refine j_if_eq (tgt := 117) dX2_pass_54 rfl (by first | omega | (split <;> omega)) (fun c_54 => by exact absurd c_54 (by decide)) (fun c_54 => ?_)
          refine j_iload_n dX2_pass_57 rfl ?_
          refine j_if_eq (tgt := 76) dX2_pass_58 rfl (by first | omega | (split <;> omega)) (fun c_58 => ?_) (fun c_58 => by exact absurd rfl c_58)
          refine j_iconst dX2_pass_76 ?_
          refine j_istore dX2_pass_77 (by decide) ?_
          exact fin K 0 hdf hRK (fun _ _ => rfl) rfl
      · rw [show dOne calm wet z Y = _ from if_neg e] at ih2
        refine j_iload_n dX2_pass_34 rfl ?_
        refine j_aload_n dX2_pass_35 rfl ?_
        refine r_getIE dX2_pass_36 flX2_45 (by first | assumption | exact hsh _ _ rfl) r0 (fun b_36 => ?_)
        refine j_icmp_ge (tgt := 123) dX2_pass_39 rfl (by first | omega | (split <;> omega)) (by first | omega | (split <;> omega)) (fun c_39 => by exact absurd c_39 (by omega)) (fun c_39 => ?_)
        refine j_aload_n dX2_pass_42 rfl ?_
        refine r_getS dX2_pass_43 flX2_21 (by first | assumption | exact hsh _ _ rfl) (fx_160_3 hfx) ?_
        refine j_iload_n dX2_pass_46 rfl ?_
        refine j_iconst dX2_pass_47 ?_
        refine r_iastore dX2_pass_48 (by first | assumption | exact hsh _ _ rfl) (by first | omega | (split <;> omega)) (by first | omega | (split <;> omega)) (by first | omega | (split <;> omega)) ?_
        rw [← hK]
        refine j_aload_n dX2_pass_49 rfl ?_
        refine j_iload_n dX2_pass_50 rfl ?_
        refine r_cv1I dX2_pass_51 cvX2_48 (by decide) (by first | assumption | exact hsh _ _ rfl) (Nat.le_of_ble_eq_true rfl) (Nat.le_of_eq (Nat.zero_add _)) (Nat.le_of_eq (Nat.zero_add _)) (sc_al0 hs hRK (by omega) ⟨hz0, by omega⟩ e) ?_
        refine j_if_eq (tgt := 117) dX2_pass_54 rfl (by first | omega | (split <;> omega)) (fun c_54 => ?_) (fun c_54 => by exact absurd c_54 (by decide))
        refine j_iinc dX2_pass_117 rfl (by decide) ?_
        refine j_goto (tgt := 34) dX2_pass_120 rfl ?_
        refine ih2 K _ hRK ?_ ?_ (fun q q0 q1 => ?_) ?_ (fun a x0 x1 x2 x3 => ?_)
        · rw [k1 160 (by decide)]; exact q9
        · rw [k1 160 (by decide)]; exact q5
        · rw [k1 162 (by decide), k1 163 (by decide), k164]
          by_cases eq : q = z
          · subst eq
            exact ⟨by show _ = wup _ _ _ _; rw [wup_same, wup_same], fun ha => absurd (ealv.trans ha) e⟩
          · have := hJf q q0 (by omega)
            exact ⟨by show _ = wup _ _ _ _; rw [wup_ne _ _ eq, wup_ne _ _ eq]; exact this.1, this.2⟩
        · rw [k1 s (by omega)]; exact h16
        · rw [k1 a (by omega)]; exact hfr a x0 x1 x2 x3
  -- the day's weather
  have fin0 : ∀ (J : Nat → Int → Int), Rp J s (dSeed calm w) → J 160 9 = w 3 → J 160 5 = wet → J s 16 = I s 16 → (∀ a, a ≠ s → a ≠ 160 → J a = I a) → jW G mX2_pass (d + 6) QQ 34 [some (jR (some 160)), some (jR (some s)), some (jI dr), some (jI 0), none] [] (sh, J, F) 0 0 := fun J g1 g2 g3 g4 g5 => key1 (aPe w).toNat 0 J _ none (by omega) (by omega) rfl hS (dSeed_o (by decide)) (fun p h0 h1 => by omega) (fun k hk => dSeed_o (by omega)) g1 g2 g3 (fun q q0 q1 => by omega) g4 (fun a x0 x1 x2 x3 => g5 a x0 (by omega))
  obtain ⟨I1, hI1⟩ : ∃ K, K = jup I 160 9 (w 3) := ⟨_, rfl⟩
  have i1 : ∀ a, a ≠ 160 → I1 a = I a := fun a ha => by rw [hI1, jup_ne _ _ _ ha]
  have i9 : I1 160 9 = w 3 := by rw [hI1, jup_same]
  have hR1 : Rp I1 s w := Rp_fr hR (fun a a0 a1 => i1 a (by omega))
  rcases hc with ⟨rfl, rfl⟩ | ⟨rfl, rfl⟩
  · have q11 := hR1.2.2.2.2.2.2.2.1
    have hfl := hW.2.2.2.2.1
    have sd := sc_drawsBelow (G := G) (d := d + 5) (I := I1) hs hR1 (b := w 6) hfl
    have eS : dSeed 0 w = wup w 11 (sNext (w 11)) := rfl
    have hR2 : Rp (jup I1 s 14 (sNext (w 11))) s (dSeed 0 w) := Rp_fld hR1 (by omega)
    unfold dFl at hwet
    rw [show (dSeed 0 w) 11 = sNext (w 11) by rw [eS, wup_same]] at hwet
    have f9 := fun x (hx : x = wet) => fin0 (jup (jup I1 s 14 (sNext (w 11))) 160 5 x) (Rp_fr hR2 (fun a a0 a1 => jup_ne _ _ _ (by omega))) (by rw [jup_row _ _ _ (by decide), jup_ne _ _ _ (by omega)]; exact i9) (by rw [jup_same]; exact hx) (by rw [jup_ne _ _ _ (by omega), jup_row _ _ _ (by decide), i1 s (by omega)]) (fun a x0 x1 => by rw [jup_ne _ _ _ x1, jup_ne _ _ _ x0, i1 a x1])
    refine j_aload_n dX2_pass_0 rfl ?_
    refine j_aload_n dX2_pass_1 rfl ?_
    refine r_getIE dX2_pass_2 flX2_27 (by first | assumption | exact hsh _ _ rfl) r13 (fun b_2 => ?_)
    refine r_putI dX2_pass_5 flX2_33 rfl (by first | assumption | exact hsh _ _ rfl) (by first | omega | (split <;> omega)) (fun q => by cases q) ?_
    rw [← hI1]
    refine j_aload_n dX2_pass_8 rfl ?_
    refine j_iload_n dX2_pass_9 rfl ?_
    refine j_if_eq (tgt := 28) dX2_pass_10 rfl (by first | omega | (split <;> omega)) (fun c_10 => by exact absurd c_10 (by decide)) (fun c_10 => ?_)
    refine j_aload_n dX2_pass_13 rfl ?_
    refine j_aload_n dX2_pass_14 rfl ?_
    refine r_getIE dX2_pass_15 flX2_34 (by first | assumption | exact hsh _ _ rfl) q11 (fun b_15 => ?_)
    refine r_cs2I dX2_pass_18 csX2_37 (Nat.le_of_ble_eq_true rfl) (Nat.le_of_eq (Nat.zero_add _)) (Nat.le_of_eq (Nat.zero_add _)) (sd) ?_
    refine j_if_eq (tgt := 28) dX2_pass_21 rfl (by first | omega | (split <;> omega)) (fun c_21 => ?_) (fun c_21 => ?_)
    · rw [ite0] at c_21
      rw [if_neg (fun q => c_21 q.2)] at hwet
      refine j_iconst dX2_pass_28 ?_
      refine r_putI dX2_pass_29 flX2_41 rfl (by first | assumption | exact hsh _ _ rfl) (by first | omega | (split <;> omega)) (fun _ => by omega) ?_
      refine j_iconst dX2_pass_32 ?_
      refine j_istore_n dX2_pass_33 (by decide) ?_
      exact f9 _ hwet
    · rw [ite0, Classical.not_not] at c_21
      rw [if_pos ⟨rfl, c_21⟩] at hwet
      refine j_iconst dX2_pass_24 ?_
      refine j_goto (tgt := 29) dX2_pass_25 rfl ?_
      refine r_putI dX2_pass_29 flX2_41 rfl (by first | assumption | exact hsh _ _ rfl) (by first | omega | (split <;> omega)) (fun _ => by omega) ?_
      refine j_iconst dX2_pass_32 ?_
      refine j_istore_n dX2_pass_33 (by decide) ?_
      exact f9 _ hwet
  · unfold dFl at hwet
    rw [if_neg (fun q => by have := q.1; omega)] at hwet
    refine j_aload_n dX2_pass_0 rfl ?_
    refine j_aload_n dX2_pass_1 rfl ?_
    refine r_getIE dX2_pass_2 flX2_27 (by first | assumption | exact hsh _ _ rfl) r13 (fun b_2 => ?_)
    refine r_putI dX2_pass_5 flX2_33 rfl (by first | assumption | exact hsh _ _ rfl) (by first | omega | (split <;> omega)) (fun q => by cases q) ?_
    rw [← hI1]
    refine j_aload_n dX2_pass_8 rfl ?_
    refine j_iload_n dX2_pass_9 rfl ?_
    refine j_if_eq (tgt := 28) dX2_pass_10 rfl (by first | omega | (split <;> omega)) (fun c_10 => ?_) (fun c_10 => by exact absurd rfl c_10)
    refine j_iconst dX2_pass_28 ?_
    refine r_putI dX2_pass_29 flX2_41 rfl (by first | assumption | exact hsh _ _ rfl) (by first | omega | (split <;> omega)) (fun _ => Or.inl rfl) ?_
    refine j_iconst dX2_pass_32 ?_
    refine j_istore_n dX2_pass_33 (by decide) ?_
    exact fin0 _ (Rp_fr hR1 (fun a a0 a1 => jup_ne _ _ _ (by omega))) (by rw [jup_row _ _ _ (by decide)]; exact i9) (by rw [jup_same]; exact hwet) (by rw [jup_ne _ _ _ (by omega), i1 s (by omega)]) (fun a x0 x1 => by rw [jup_ne _ _ _ x1, i1 a x1])
end
