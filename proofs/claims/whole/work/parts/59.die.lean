/-! ONE DIES; DAYS PASS -/
abbrev mHeOk (w : Int → Int) (p : Int) : Prop := 0 ≤ aOf w p 4 ∧ aOf w (aOf w p 4) 3 = 0
def mHe (w : Int → Int) (p : Int) : Int := if mHeOk w p then aOf w p 4 else -1
abbrev mHa (w : Int → Int) (p h : Int) : Int := min 99999 (aOf w h 1 + aOf w p 1)
abbrev mHf (w : Int → Int) (p h : Int) : Int := min (mHa w p h) (aOf w h 2 + aOf w p 2)
def wDie1 (w : Int → Int) (p h : Int) : Int → Int := wup (wup w (12 + 13 * h + 1) (mHa w p h)) (12 + 13 * h + 2) (mHf w p h)
def wDie2 (v : Int → Int) (p : Int) : Int → Int := wup (wup (wup v (12 + 13 * p + 1) 0) (12 + 13 * p + 2) 0) (12 + 13 * p + 3) 1
def wDie (w : Int → Int) (p : Int) : Int → Int := wDie2 (if mHeOk w p then wDie1 w p (aOf w p 4) else w) p
theorem wDie1_o {w : Int → Int} {p h k : Int} (h1 : k ≠ 12 + 13 * h + 1) (h2 : k ≠ 12 + 13 * h + 2) : wDie1 w p h k = w k := (wup_ne _ _ h2).trans (wup_ne _ _ h1)
theorem wDie2_o {v : Int → Int} {p k : Int} (h1 : k ≠ 12 + 13 * p + 1) (h2 : k ≠ 12 + 13 * p + 2) (h3 : k ≠ 12 + 13 * p + 3) : wDie2 v p k = v k := (wup_ne _ _ h3).trans ((wup_ne _ _ h2).trans (wup_ne _ _ h1))
theorem wDie_o {w : Int → Int} {p k : Int} (hp : 0 ≤ p ∧ p < 8) (hh : aOf w p 4 < 8) (hk : k < 12 ∨ 116 ≤ k ∨ (∃ q, k = 12 + 13 * q + 4)) : wDie w p k = w k := by
  unfold wDie
  rw [wDie2_o (by omega) (by omega) (by omega)]
  split
  · rename_i c
    have := c.1
    exact wDie1_o (by omega) (by omega)
  · rfl
theorem mAlive_die {w : Int → Int} {p : Int} (hP : 0 ≤ aPe w ∧ aPe w ≤ 8) (hp : 0 ≤ p ∧ p < aPe w) : mAlive (wup w (12 + 13 * p + 3) 1) = jAnd (mAlive w) (jXor (jShl 1 p) (-1)) := by
  have e0 : aPe (wup w (12 + 13 * p + 3) 1) = aPe w := wup_ne _ _ (by omega)
  have h1 := mAlive_set (w := wup w (12 + 13 * p + 3) 1) (by omega)
  have h2 := mAlive_set hP
  have h3 := jShl_set (p := p) hp.1 (by omega)
  have h4 := jandn_set h2.1 (x := jShl 1 p) (by omega)
  refine jset_ext h1.1 (by omega) (fun q q0 q1 => ?_)
  rw [h1.2 q q0 (by omega), h4.2 q q0 (by omega), h2.2 q q0 (by omega), h3.2 q q0 (by omega), e0]
  by_cases e : q = p
  · subst e
    have : aOf (wup w (12 + 13 * q + 3) 1) q 3 = 1 := wup_same _ _ _
    rw [this]
    exact ⟨fun h => absurd h.2 (by decide), fun h => absurd rfl h.2⟩
  · rw [show aOf (wup w (12 + 13 * p + 3) 1) q 3 = aOf w q 3 from wup_ne _ _ (by omega)]
    exact ⟨fun h => ⟨h, e⟩, fun h => h.1⟩
theorem Rp_die {I : Nat → Int → Int} {s : Nat} {w : Int → Int} {p : Int} (h : Rp I s w) (hp : 0 ≤ p ∧ p < aPe w) : Rp (jup I s 1 (jAnd (mAlive w) (jXor (jShl 1 p) (-1)))) s (wup w (12 + 13 * p + 3) 1) := by
  obtain ⟨r0, r1, rP, rO, rA, r9, r10, r11, r12, r13, r14, r15, r16, r17⟩ := h
  have hA := mAlive_die r1 hp
  have e0 : aPe (wup w (12 + 13 * p + 3) 1) = aPe w := wup_ne _ _ (by omega)
  have hs := mAlive_set (w := wup w (12 + 13 * p + 3) 1) (by omega)
  rw [hA] at hs
  have el : ∀ k, k < 12 → wup w (12 + 13 * p + 3) 1 k = w k := fun k hk => wup_ne _ _ (by omega)
  have eo : ∀ q k, 0 ≤ k → k < 13 → k ≠ 3 → aOf (wup w (12 + 13 * p + 3) 1) q k = aOf w q k := fun q k h2 h3 h4 => wup_ne _ _ (by omega)
  have ec : ∀ a, a ≠ s → jup I s 1 (jAnd (mAlive w) (jXor (jShl 1 p) (-1))) a = I a := fun a ha => jup_ne _ _ _ ha
  have ek : ∀ k, k ≠ 1 → jup I s 1 (jAnd (mAlive w) (jXor (jShl 1 p) (-1))) s k = I s k := fun k hk => jup_row _ _ _ hk
  refine ⟨by rw [e0, ek 0 (by decide)]; exact r0, by rw [e0]; exact r1, fun q q0 q1 => ?_, fun a b a0 a1 b0 b1 => ?_, ?_, ?_, ?_, ?_, ?_, ?_, ?_, ?_, ?_, ?_⟩
  · rw [e0] at q1
    obtain ⟨i0, i1, i2, i3, i4, i5, i6⟩ := rP q q0 q1
    unfold RpP
    rw [eo q 0 (by omega) (by omega) (by omega), eo q 1 (by omega) (by omega) (by omega), eo q 2 (by omega) (by omega) (by omega), eo q 4 (by omega) (by omega) (by omega), eo q 5 (by omega) (by omega) (by omega), ec (s + 1) (by omega), ec (s + 2) (by omega), ec (s + 3) (by omega), ec (s + 4) (by omega), ec (s + 5) (by omega), ec (s + 6) (by omega), jup_same]
    refine ⟨i0, i1, i2, ?_, i4, i5, fun k k0 k1 => by rw [eo q _ (by omega) (by omega) (by omega)]; exact i6 k k0 k1⟩
    rw [hs.2 q q0 (by omega), e0]
    exact ⟨fun h => h.2, fun h => ⟨q1, h⟩⟩
  · rw [e0] at a1 b1
    rw [show aOw (wup w (12 + 13 * p + 3) 1) a b = aOw w a b from wup_ne _ _ (by omega), ec (s + 7) (by omega)]
    exact rO a b a0 a1 b0 b1
  · rw [jup_same, hA]
  · rw [ek 9 (by decide), el 4 (by omega)]; exact r9
  · rw [ek 10 (by decide), el 5 (by omega)]; exact r10
  · rw [ek 11 (by decide), el 6 (by omega)]; exact r11
  · rw [ek 12 (by decide), el 7 (by omega)]; exact r12
  · rw [ek 13 (by decide), el 3 (by omega)]; exact r13
  · rw [ek 14 (by decide), el 11 (by omega)]; exact r14
  · rw [ek 15 (by decide), el 1 (by omega)]; exact r15
  · rw [e0]; exact RpZ_fld r16
  · rw [ek 17 (by decide), el 8 (by omega)]; exact r17
section
variable {G : jzG} {d : Nat} {sh : List (Nat × Nat)} {I M : Nat → Int → Int} {F : Nat → Int → Option Nat} {w : Int → Int}
theorem mp_die_1 (hsh : ShOK sh) (hfx : FxOK F) (hP : WfP (I 171)) {p : Int} (h1 : jin p) (h2 : ¬ gP (I 171) p) : jS G (d + 6) mX12_die [jR (some 170), jI p] (sh, I, F) 0 0 (rI 0 (sh, jup I 170 0 1, F)) := by
  refine jS_go [some (jR (some 170)), some (jI p), none] (by decide +kernel) rfl (by simp [jone]) (Nat.le_of_ble_eq_true rfl) rfl (fun hok => ?_)
  refine j_aload_n dX12_die_0 rfl ?_
  refine j_iconst dX12_die_1 ?_
  refine r_putI dX12_die_2 flX12_3 rfl (by first | assumption | exact hsh _ _ rfl) (by first | omega | (split <;> omega)) (fun q => by cases q) ?_
  skip
  have hok1 : jzok (sh, jup I 170 0 0, F) := jzok_I hok jin_lit0
  have hw0 : (jup I 170 0 0) 171 = I 171 := jup_ne _ _ _ (by decide)
  clear hok
  rw [← jup_up I 170 0 0 1]
  rw [← hw0] at hP h2
  try rw [← hw0]
  obtain ⟨I1, hI1⟩ : ∃ J, J = jup I 170 0 0 := ⟨_, rfl⟩
  rw [← hI1] at hok1 hw0 hP h2 ⊢
  have hok := hok1
  refine j_aload_n dX12_die_5 rfl ?_
  refine j_aload_n dX12_die_6 rfl ?_
  refine j_iload_n dX12_die_7 rfl ?_
  refine r_cv1I dX12_die_8 cvX12_335 (by decide) (by first | assumption | exact hsh _ _ rfl) (Nat.le_of_ble_eq_true rfl) (Nat.le_of_eq (Nat.zero_add _)) (Nat.le_of_eq (Nat.zero_add _)) (sm_noP1 hsh hfx hok (by omega) hP h2) ?_
  refine j_iconst dX12_die_11 ?_
  refine r_cv2I dX12_die_12 cvX12_253 (by decide) (by first | assumption | exact hsh _ _ rfl) (Nat.le_of_ble_eq_true rfl) (Nat.le_of_eq (Nat.zero_add _)) (Nat.le_of_eq (Nat.zero_add _)) (sm_thr1 hsh (by omega)) ?_
  refine j_if_ne (tgt := 39) dX12_die_15 rfl (by first | omega | (split <;> omega)) (fun c_15 => ?_) (fun c_15 => by exact absurd c_15 (by decide))
  refine j_iconst dX12_die_39 ?_
  refine j_iret dX12_die_40 rfl ?_
  exact rI_of rfl rfl
theorem mp_die_2 (hsh : ShOK sh) (hfx : FxOK F) (hP : WfP (I 171)) {p : Int} (h1 : gP (I 171) p) (h2 : ¬ aOf (I 171) p 3 = 0) : jS G (d + 6) mX12_die [jR (some 170), jI p] (sh, I, F) 0 0 (rI 0 (sh, jup I 170 0 2, F)) := by
  have g8 : aPe (I 171) ≤ 8 := hP.2
  have gp : 0 ≤ p ∧ p < 8 := by have := h1.1; have := h1.2; omega
  refine jS_go [some (jR (some 170)), some (jI p), none] (by decide +kernel) rfl (by simp [jone]) (Nat.le_of_ble_eq_true rfl) rfl (fun hok => ?_)
  refine j_aload_n dX12_die_0 rfl ?_
  refine j_iconst dX12_die_1 ?_
  refine r_putI dX12_die_2 flX12_3 rfl (by first | assumption | exact hsh _ _ rfl) (by first | omega | (split <;> omega)) (fun q => by cases q) ?_
  skip
  have hok1 : jzok (sh, jup I 170 0 0, F) := jzok_I hok jin_lit0
  have hw0 : (jup I 170 0 0) 171 = I 171 := jup_ne _ _ _ (by decide)
  clear hok
  rw [← jup_up I 170 0 0 2]
  rw [← hw0] at hP h1 h2
  try rw [← hw0]
  obtain ⟨I1, hI1⟩ : ∃ J, J = jup I 170 0 0 := ⟨_, rfl⟩
  rw [← hI1] at hok1 hw0 hP h1 h2 ⊢
  have hok := hok1
  refine j_aload_n dX12_die_5 rfl ?_
  refine j_aload_n dX12_die_6 rfl ?_
  refine j_iload_n dX12_die_7 rfl ?_
  refine r_cv1I dX12_die_8 cvX12_335 (by decide) (by first | assumption | exact hsh _ _ rfl) (Nat.le_of_ble_eq_true rfl) (Nat.le_of_eq (Nat.zero_add _)) (Nat.le_of_eq (Nat.zero_add _)) (sm_noP0 hsh hfx hok (by omega) hP h1) ?_
  refine j_iconst dX12_die_11 ?_
  refine r_cv2I dX12_die_12 cvX12_253 (by decide) (by first | assumption | exact hsh _ _ rfl) (Nat.le_of_ble_eq_true rfl) (Nat.le_of_eq (Nat.zero_add _)) (Nat.le_of_eq (Nat.zero_add _)) (sm_thr0 hsh) ?_
  refine j_if_ne (tgt := 39) dX12_die_15 rfl (by first | omega | (split <;> omega)) (fun c_15 => by exact absurd c_15 (by decide)) (fun c_15 => ?_)
  refine j_aload_n dX12_die_18 rfl ?_
  refine j_aload_n dX12_die_19 rfl ?_
  refine j_iload_n dX12_die_20 rfl ?_
  refine r_cv1I dX12_die_21 cvX12_296 (by decide) (by first | assumption | exact hsh _ _ rfl) (Nat.le_of_ble_eq_true rfl) (Nat.le_of_eq (Nat.zero_add _)) (Nat.le_of_eq (Nat.zero_add _)) (sm_al0 hsh hfx (by omega) h2) ?_
  refine j_if_ne (tgt := 31) dX12_die_24 rfl (by first | omega | (split <;> omega)) (fun c_24 => by exact absurd c_24 (by decide)) (fun c_24 => ?_)
  refine j_iconst dX12_die_27 ?_
  refine j_goto (tgt := 32) dX12_die_28 rfl ?_
  refine j_iconst dX12_die_32 ?_
  refine r_cv2I dX12_die_33 cvX12_253 (by decide) (by first | assumption | exact hsh _ _ rfl) (Nat.le_of_ble_eq_true rfl) (Nat.le_of_eq (Nat.zero_add _)) (Nat.le_of_eq (Nat.zero_add _)) (sm_thr1 hsh (by omega)) ?_
  refine j_if_eq (tgt := 41) dX12_die_36 rfl (by first | omega | (split <;> omega)) (fun c_36 => by exact absurd c_36 (by decide)) (fun c_36 => ?_)
  refine j_iconst dX12_die_39 ?_
  refine j_iret dX12_die_40 rfl ?_
  exact rI_of rfl rfl
theorem mp_die_0 (hsh : ShOK sh) (hfx : FxOK F) (hW : WF (I 171)) (hr : 0 ≤ I 170 7 ∧ I 170 7 ≤ 12) {p : Int} (h1 : gP (I 171) p) (h2 : aOf (I 171) p 3 = 0) (hne : aOf (I 171) p 4 ≠ p) : jS G (d + 6) mX12_die [jR (some 170), jI p] (sh, I, F) 0 0 (rEI (mHe (I 171) p) sh F (AcO 0 I (mzW (mzR I) (wDie (I 171) p)))) := by
  have hP : WfP (I 171) := hW.1
  have g8 : aPe (I 171) ≤ 8 := hP.2
  have gp : 0 ≤ p ∧ p < 8 := by have := h1.1; have := h1.2; omega
  have gp2 : p < aPe (I 171) := by have := h1.2; omega
  have q1 := hW.2.1.2.2 p gp.1 gp2
  refine jS_go [some (jR (some 170)), some (jI p), none] (by decide +kernel) rfl (by simp [jone]) (Nat.le_of_ble_eq_true rfl) rfl (fun hok => ?_)
  refine j_aload_n dX12_die_0 rfl ?_
  refine j_iconst dX12_die_1 ?_
  refine r_putI dX12_die_2 flX12_3 rfl (by first | assumption | exact hsh _ _ rfl) (by first | omega | (split <;> omega)) (fun q => by cases q) ?_
  skip
  have hok1 : jzok (sh, jup I 170 0 0, F) := jzok_I hok jin_lit0
  obtain ⟨I1, hI1⟩ : ∃ J, J = jup I 170 0 0 := ⟨_, rfl⟩
  rw [← hI1] at hok1 ⊢
  have hok0 := hok
  clear hok
  have hok := hok1
  have fr1 : ∀ a, a ≠ 170 → I1 a = I a := fun a ha => by rw [hI1, jup_ne _ _ _ ha]
  have fr1k : ∀ k, k ≠ 0 → I1 170 k = I 170 k := fun k hk => by rw [hI1, jup_row _ _ _ hk]
  have fr1c : I1 170 0 = 0 := by rw [hI1, jup_same]
  have hw0 : I1 171 = I 171 := fr1 171 (by decide)
  rw [← hw0] at hP h1 h2
  have hr7 : I1 170 7 = I 170 7 := fr1k 7 (by decide)
  obtain ⟨W, hWd⟩ : ∃ W, I 171 = W := ⟨_, rfl⟩
  rw [hWd] at q1 hne g8 gp2 hW
  obtain ⟨x, hx⟩ : ∃ x, aOf W p 4 = x := ⟨_, rfl⟩
  rw [hx] at q1 hne
  have fin : ∀ (J K : Nat → Int → Int) (v : Int → Int), ReO I1 J (I 170 7) → K 171 = v → (∀ a, a ≠ 171 → K a = J a) → v = (if mHeOk W p then wDie1 W p x else W) → ∀ y, y = mHe W p → jW G mX12_die (d + 6) (rEI (mHe (I 171) p) sh F (AcO 0 I (mzW (mzR I) (wDie (I 171) p)))) 134 [some (jR (some 170)), some (jI p), some (jI y)] [] (sh, K, F) 0 0 := by
    intro J K v hJ hK hKJ hv y hy
    have e : wDie2 v p = wDie (I 171) p := by
      unfold wDie
      rw [hv, hWd]
      by_cases c : mHeOk W p
      · rw [if_pos c, if_pos c, hx]
      · rw [if_neg c, if_neg c]
    refine j_aload_n dX12_die_134 rfl ?_
    refine r_getS dX12_die_135 flX12_13 (by first | assumption | exact hsh _ _ rfl) (fx_170_1 hfx) ?_
    refine j_iload_n dX12_die_138 rfl ?_
    refine j_iconst dX12_die_139 ?_
    refine r_cs2I dX12_die_140 csX12_64 (Nat.le_of_ble_eq_true rfl) (Nat.le_of_eq (Nat.zero_add _)) (Nat.le_of_eq (Nat.zero_add _)) (sm_at) ?_
    refine j_iconst dX12_die_143 ?_
    refine r_iastore dX12_die_144 (by first | assumption | exact hsh _ _ rfl) (by first | omega | (split <;> omega)) (by first | omega | (split <;> omega)) (by first | omega | (split <;> omega)) ?_
    refine j_aload_n dX12_die_145 rfl ?_
    refine r_getS dX12_die_146 flX12_13 (by first | assumption | exact hsh _ _ rfl) (fx_170_1 hfx) ?_
    refine j_iload_n dX12_die_149 rfl ?_
    refine j_iconst dX12_die_150 ?_
    refine r_cs2I dX12_die_151 csX12_64 (Nat.le_of_ble_eq_true rfl) (Nat.le_of_eq (Nat.zero_add _)) (Nat.le_of_eq (Nat.zero_add _)) (sm_at) ?_
    refine j_iconst dX12_die_154 ?_
    refine r_iastore dX12_die_155 (by first | assumption | exact hsh _ _ rfl) (by first | omega | (split <;> omega)) (by first | omega | (split <;> omega)) (by first | omega | (split <;> omega)) ?_
    refine j_aload_n dX12_die_156 rfl ?_
    refine r_getS dX12_die_157 flX12_13 (by first | assumption | exact hsh _ _ rfl) (fx_170_1 hfx) ?_
    refine j_iload_n dX12_die_160 rfl ?_
    refine j_iconst dX12_die_161 ?_
    refine r_cs2I dX12_die_162 csX12_64 (Nat.le_of_ble_eq_true rfl) (Nat.le_of_eq (Nat.zero_add _)) (Nat.le_of_eq (Nat.zero_add _)) (sm_at) ?_
    refine j_iconst dX12_die_165 ?_
    refine r_iastore dX12_die_166 (by first | assumption | exact hsh _ _ rfl) (by first | omega | (split <;> omega)) (by first | omega | (split <;> omega)) (by first | omega | (split <;> omega)) ?_
    refine j_iload_n dX12_die_167 rfl ?_
    refine j_iret dX12_die_168 rfl ?_
    refine rEI_of (by rw [hy, hWd]) (Ac_of fr1 fr1k fr1c hJ (fun a ha => by rw [jup_ne _ _ _ ha, jup_ne _ _ _ ha, jup_ne _ _ _ ha, hKJ a ha]) ?_)
    rw [jup_at, jup_at, jup_at, hK, ← e]
    rfl
  by_cases e : mHeOk W p
  · have hh : mHe W p = x := by unfold mHe; rw [if_pos e, hx]
    have e1 : 0 ≤ x := by have := e.1; rw [hx] at this; exact this
    have e2 : aOf W x 3 = 0 := by have := e.2; rw [hx] at this; exact this
    have q2 := hW.2.1.2.2 x e1 (by omega)
    have hma : 0 ≤ mHa W p x ∧ mHa W p x ≤ 99999 := by show 0 ≤ min _ _ ∧ min _ _ ≤ _; omega
    have sA : ∀ J : Nat → Int → Int, J 171 = W → jS G (d + 5) mX12_isAlive [jR (some 170), jI x] (sh, J, F) 0 0 (rI 1 (sh, J, F)) := fun J hJ => sm_al1 hsh hfx (by omega) (by rw [hJ]; exact e2)
    refine j_aload_n dX12_die_5 rfl ?_
    refine j_aload_n dX12_die_6 rfl ?_
    refine j_iload_n dX12_die_7 rfl ?_
    refine r_cv1I dX12_die_8 cvX12_335 (by decide) (by first | assumption | exact hsh _ _ rfl) (Nat.le_of_ble_eq_true rfl) (Nat.le_of_eq (Nat.zero_add _)) (Nat.le_of_eq (Nat.zero_add _)) (sm_noP0 hsh hfx hok (by omega) hP h1) ?_
    refine j_iconst dX12_die_11 ?_
    refine r_cv2I dX12_die_12 cvX12_253 (by decide) (by first | assumption | exact hsh _ _ rfl) (Nat.le_of_ble_eq_true rfl) (Nat.le_of_eq (Nat.zero_add _)) (Nat.le_of_eq (Nat.zero_add _)) (sm_thr0 hsh) ?_
    refine j_if_ne (tgt := 39) dX12_die_15 rfl (by first | omega | (split <;> omega)) (fun c_15 => by exact absurd c_15 (by decide)) (fun c_15 => ?_)
    refine j_aload_n dX12_die_18 rfl ?_
    refine j_aload_n dX12_die_19 rfl ?_
    refine j_iload_n dX12_die_20 rfl ?_
    refine r_cv1I dX12_die_21 cvX12_296 (by decide) (by first | assumption | exact hsh _ _ rfl) (Nat.le_of_ble_eq_true rfl) (Nat.le_of_eq (Nat.zero_add _)) (Nat.le_of_eq (Nat.zero_add _)) (sm_al1 hsh hfx (by omega) h2) ?_
    refine j_if_ne (tgt := 31) dX12_die_24 rfl (by first | omega | (split <;> omega)) (fun c_24 => ?_) (fun c_24 => by exact absurd c_24 (by decide))
    refine j_iconst dX12_die_31 ?_
    refine j_iconst dX12_die_32 ?_
    refine r_cv2I dX12_die_33 cvX12_253 (by decide) (by first | assumption | exact hsh _ _ rfl) (Nat.le_of_ble_eq_true rfl) (Nat.le_of_eq (Nat.zero_add _)) (Nat.le_of_eq (Nat.zero_add _)) (sm_thr0 hsh) ?_
    refine j_if_eq (tgt := 41) dX12_die_36 rfl (by first | omega | (split <;> omega)) (fun c_36 => ?_) (fun c_36 => by exact absurd c_36 (by decide))
    refine j_aload_n dX12_die_41 rfl ?_
    refine r_cv0EV dX12_die_42 cvX12_356 (by decide) (by first | assumption | exact hsh _ _ rfl) (Nat.le_of_ble_eq_true rfl) (Nat.le_of_eq (Nat.zero_add _)) (Nat.le_of_eq (Nat.zero_add _)) (sm_remembers hsh hfx hr7 hr) (fun J hJ => ?_)
    have eJ : J 171 = W := (hJ.2.2.1 171 (by decide) (by decide)).trans ((fr1 171 (by decide)).trans hWd)
    refine j_aload_n dX12_die_45 rfl ?_
    refine j_iload_n dX12_die_46 rfl ?_
    refine j_iconst dX12_die_47 ?_
    refine r_cv2I dX12_die_48 cvX12_68 (by decide) (by first | assumption | exact hsh _ _ rfl) (Nat.le_of_ble_eq_true rfl) (Nat.le_of_eq (Nat.zero_add _)) (Nat.le_of_eq (Nat.zero_add _)) (sm_of hsh hfx (by omega)) ?_
    rw [show aOf (J 171) p 4 = x by rw [eJ]; exact hx]
    refine j_istore_n dX12_die_51 (by decide) ?_
    refine j_iload_n dX12_die_52 rfl ?_
    refine j_if_lt (tgt := 68) dX12_die_53 rfl (by first | omega | (split <;> omega)) (fun c_53 => by exact absurd c_53 (by omega)) (fun c_53 => ?_)
    refine j_aload_n dX12_die_56 rfl ?_
    refine j_iload_n dX12_die_57 rfl ?_
    refine r_cv1I dX12_die_58 cvX12_296 (by decide) (by first | assumption | exact hsh _ _ rfl) (Nat.le_of_ble_eq_true rfl) (Nat.le_of_eq (Nat.zero_add _)) (Nat.le_of_eq (Nat.zero_add _)) (sA J eJ) ?_
    refine j_if_eq (tgt := 68) dX12_die_61 rfl (by first | omega | (split <;> omega)) (fun c_61 => by exact absurd c_61 (by decide)) (fun c_61 => ?_)
    refine j_iload_n dX12_die_64 rfl ?_
    refine j_goto (tgt := 69) dX12_die_65 rfl ?_
    refine j_istore_n dX12_die_69 (by decide) ?_
    refine j_iload_n dX12_die_70 rfl ?_
    refine j_if_lt (tgt := 134) dX12_die_71 rfl (by first | omega | (split <;> omega)) (fun c_71 => by exact absurd c_71 (by omega)) (fun c_71 => ?_)
    refine j_aload_n dX12_die_74 rfl ?_
    refine r_getS dX12_die_75 flX12_13 (by first | assumption | exact hsh _ _ rfl) (fx_170_1 hfx) ?_
    refine j_iload_n dX12_die_78 rfl ?_
    refine j_iconst dX12_die_79 ?_
    refine r_cs2I dX12_die_80 csX12_64 (Nat.le_of_ble_eq_true rfl) (Nat.le_of_eq (Nat.zero_add _)) (Nat.le_of_eq (Nat.zero_add _)) (sm_at) ?_
    refine j_ldc (n := 99999) dX12_die_83 kcX12_140 ?_
    refine j_aload_n dX12_die_85 rfl ?_
    refine j_iload_n dX12_die_86 rfl ?_
    refine j_iconst dX12_die_87 ?_
    refine r_cv2I dX12_die_88 cvX12_68 (by decide) (by first | assumption | exact hsh _ _ rfl) (Nat.le_of_ble_eq_true rfl) (Nat.le_of_eq (Nat.zero_add _)) (Nat.le_of_eq (Nat.zero_add _)) (sm_of hsh hfx (by omega)) ?_
    rw [show aOf (J 171) x 1 = aOf W x 1 by rw [eJ]]
    refine j_aload_n dX12_die_91 rfl ?_
    refine j_iload_n dX12_die_92 rfl ?_
    refine j_iconst dX12_die_93 ?_
    refine r_cv2I dX12_die_94 cvX12_68 (by decide) (by first | assumption | exact hsh _ _ rfl) (Nat.le_of_ble_eq_true rfl) (Nat.le_of_eq (Nat.zero_add _)) (Nat.le_of_eq (Nat.zero_add _)) (sm_of hsh hfx (by omega)) ?_
    rw [show aOf (J 171) p 1 = aOf W p 1 by rw [eJ]]
    refine j_iadd dX12_die_97 ?_
    refine r_min dX12_die_98 lmX12_275 (Nat.le_of_ble_eq_true rfl) (by first | omega | (split <;> omega)) (by first | omega | (split <;> omega)) ?_
    refine r_iastore dX12_die_101 (by first | assumption | exact hsh _ _ rfl) (by first | omega | (split <;> omega)) (by first | omega | (split <;> omega)) (by first | omega | (split <;> omega)) ?_
    obtain ⟨K1, hK1⟩ : ∃ K, K = jup J 171 (12 + 13 * x + 1) (mHa W p x) := ⟨_, rfl⟩
    rw [show jup J 171 (12 + 13 * x + 1) _ = K1 from hK1.symm]
    have k1 : K1 171 = wup W (12 + 13 * x + 1) (mHa W p x) := by rw [hK1, jup_at, eJ]
    refine j_aload_n dX12_die_102 rfl ?_
    refine r_getS dX12_die_103 flX12_13 (by first | assumption | exact hsh _ _ rfl) (fx_170_1 hfx) ?_
    refine j_iload_n dX12_die_106 rfl ?_
    refine j_iconst dX12_die_107 ?_
    refine r_cs2I dX12_die_108 csX12_64 (Nat.le_of_ble_eq_true rfl) (Nat.le_of_eq (Nat.zero_add _)) (Nat.le_of_eq (Nat.zero_add _)) (sm_at) ?_
    refine j_aload_n dX12_die_111 rfl ?_
    refine j_iload_n dX12_die_112 rfl ?_
    refine j_iconst dX12_die_113 ?_
    refine r_cv2I dX12_die_114 cvX12_68 (by decide) (by first | assumption | exact hsh _ _ rfl) (Nat.le_of_ble_eq_true rfl) (Nat.le_of_eq (Nat.zero_add _)) (Nat.le_of_eq (Nat.zero_add _)) (sm_of hsh hfx (by omega)) ?_
    rw [show aOf (K1 171) x 1 = mHa W p x by rw [k1]; exact wup_same _ _ _]
    refine j_aload_n dX12_die_117 rfl ?_
    refine j_iload_n dX12_die_118 rfl ?_
    refine j_iconst dX12_die_119 ?_
    refine r_cv2I dX12_die_120 cvX12_68 (by decide) (by first | assumption | exact hsh _ _ rfl) (Nat.le_of_ble_eq_true rfl) (Nat.le_of_eq (Nat.zero_add _)) (Nat.le_of_eq (Nat.zero_add _)) (sm_of hsh hfx (by omega)) ?_
    rw [show aOf (K1 171) x 2 = aOf W x 2 by rw [k1]; exact wup_ne _ _ (by omega)]
    refine j_aload_n dX12_die_123 rfl ?_
    refine j_iload_n dX12_die_124 rfl ?_
    refine j_iconst dX12_die_125 ?_
    refine r_cv2I dX12_die_126 cvX12_68 (by decide) (by first | assumption | exact hsh _ _ rfl) (Nat.le_of_ble_eq_true rfl) (Nat.le_of_eq (Nat.zero_add _)) (Nat.le_of_eq (Nat.zero_add _)) (sm_of hsh hfx (by omega)) ?_
    rw [show aOf (K1 171) p 2 = aOf W p 2 by rw [k1]; exact wup_ne _ _ (by omega)]
    refine j_iadd dX12_die_129 ?_
    refine r_min dX12_die_130 lmX12_275 (Nat.le_of_ble_eq_true rfl) (by first | omega | (split <;> omega)) (by first | omega | (split <;> omega)) ?_
    refine r_iastore dX12_die_133 (by first | assumption | exact hsh _ _ rfl) (by first | omega | (split <;> omega)) (by first | omega | (split <;> omega)) (by first | omega | (split <;> omega)) ?_
    exact fin J _ _ hJ rfl (fun a ha => by rw [jup_ne _ _ _ ha, hK1, jup_ne _ _ _ ha]) (by rw [if_pos e, jup_at, k1]; rfl) x hh.symm
  · have hh : mHe W p = -1 := by unfold mHe; rw [if_neg e]
    have fin2 := fun J hJ (eJ : J 171 = W) => fin J J _ hJ rfl (fun _ _ => rfl) (by rw [if_neg e]; exact eJ) (-1) hh.symm
    by_cases e1 : x < 0
    · refine j_aload_n dX12_die_5 rfl ?_
      refine j_aload_n dX12_die_6 rfl ?_
      refine j_iload_n dX12_die_7 rfl ?_
      refine r_cv1I dX12_die_8 cvX12_335 (by decide) (by first | assumption | exact hsh _ _ rfl) (Nat.le_of_ble_eq_true rfl) (Nat.le_of_eq (Nat.zero_add _)) (Nat.le_of_eq (Nat.zero_add _)) (sm_noP0 hsh hfx hok (by omega) hP h1) ?_
      refine j_iconst dX12_die_11 ?_
      refine r_cv2I dX12_die_12 cvX12_253 (by decide) (by first | assumption | exact hsh _ _ rfl) (Nat.le_of_ble_eq_true rfl) (Nat.le_of_eq (Nat.zero_add _)) (Nat.le_of_eq (Nat.zero_add _)) (sm_thr0 hsh) ?_
      refine j_if_ne (tgt := 39) dX12_die_15 rfl (by first | omega | (split <;> omega)) (fun c_15 => by exact absurd c_15 (by decide)) (fun c_15 => ?_)
      refine j_aload_n dX12_die_18 rfl ?_
      refine j_aload_n dX12_die_19 rfl ?_
      refine j_iload_n dX12_die_20 rfl ?_
      refine r_cv1I dX12_die_21 cvX12_296 (by decide) (by first | assumption | exact hsh _ _ rfl) (Nat.le_of_ble_eq_true rfl) (Nat.le_of_eq (Nat.zero_add _)) (Nat.le_of_eq (Nat.zero_add _)) (sm_al1 hsh hfx (by omega) h2) ?_
      refine j_if_ne (tgt := 31) dX12_die_24 rfl (by first | omega | (split <;> omega)) (fun c_24 => ?_) (fun c_24 => by exact absurd c_24 (by decide))
      refine j_iconst dX12_die_31 ?_
      refine j_iconst dX12_die_32 ?_
      refine r_cv2I dX12_die_33 cvX12_253 (by decide) (by first | assumption | exact hsh _ _ rfl) (Nat.le_of_ble_eq_true rfl) (Nat.le_of_eq (Nat.zero_add _)) (Nat.le_of_eq (Nat.zero_add _)) (sm_thr0 hsh) ?_
      refine j_if_eq (tgt := 41) dX12_die_36 rfl (by first | omega | (split <;> omega)) (fun c_36 => ?_) (fun c_36 => by exact absurd c_36 (by decide))
      refine j_aload_n dX12_die_41 rfl ?_
      refine r_cv0EV dX12_die_42 cvX12_356 (by decide) (by first | assumption | exact hsh _ _ rfl) (Nat.le_of_ble_eq_true rfl) (Nat.le_of_eq (Nat.zero_add _)) (Nat.le_of_eq (Nat.zero_add _)) (sm_remembers hsh hfx hr7 hr) (fun J hJ => ?_)
      have eJ : J 171 = W := (hJ.2.2.1 171 (by decide) (by decide)).trans ((fr1 171 (by decide)).trans hWd)
      refine j_aload_n dX12_die_45 rfl ?_
      refine j_iload_n dX12_die_46 rfl ?_
      refine j_iconst dX12_die_47 ?_
      refine r_cv2I dX12_die_48 cvX12_68 (by decide) (by first | assumption | exact hsh _ _ rfl) (Nat.le_of_ble_eq_true rfl) (Nat.le_of_eq (Nat.zero_add _)) (Nat.le_of_eq (Nat.zero_add _)) (sm_of hsh hfx (by omega)) ?_
      rw [show aOf (J 171) p 4 = x by rw [eJ]; exact hx]
      refine j_istore_n dX12_die_51 (by decide) ?_
      refine j_iload_n dX12_die_52 rfl ?_
      refine j_if_lt (tgt := 68) dX12_die_53 rfl (by first | omega | (split <;> omega)) (fun c_53 => ?_) (fun c_53 => by exact absurd e1 (by omega))
      refine j_iconst dX12_die_68 ?_
      refine j_istore_n dX12_die_69 (by decide) ?_
      refine j_iload_n dX12_die_70 rfl ?_
      refine j_if_lt (tgt := 134) dX12_die_71 rfl (by first | omega | (split <;> omega)) (fun c_71 => ?_) (fun c_71 => by exact absurd (by decide) c_71)
      exact fin2 J hJ eJ
    · have e2 : ¬ aOf W x 3 = 0 := fun q => e ⟨by rw [hx]; omega, by rw [hx]; exact q⟩
      have sA : ∀ J : Nat → Int → Int, J 171 = W → jS G (d + 5) mX12_isAlive [jR (some 170), jI x] (sh, J, F) 0 0 (rI 0 (sh, J, F)) := fun J hJ => sm_al0 hsh hfx (by omega) (by rw [hJ]; exact e2)
      refine j_aload_n dX12_die_5 rfl ?_
      refine j_aload_n dX12_die_6 rfl ?_
      refine j_iload_n dX12_die_7 rfl ?_
      refine r_cv1I dX12_die_8 cvX12_335 (by decide) (by first | assumption | exact hsh _ _ rfl) (Nat.le_of_ble_eq_true rfl) (Nat.le_of_eq (Nat.zero_add _)) (Nat.le_of_eq (Nat.zero_add _)) (sm_noP0 hsh hfx hok (by omega) hP h1) ?_
      refine j_iconst dX12_die_11 ?_
      refine r_cv2I dX12_die_12 cvX12_253 (by decide) (by first | assumption | exact hsh _ _ rfl) (Nat.le_of_ble_eq_true rfl) (Nat.le_of_eq (Nat.zero_add _)) (Nat.le_of_eq (Nat.zero_add _)) (sm_thr0 hsh) ?_
      refine j_if_ne (tgt := 39) dX12_die_15 rfl (by first | omega | (split <;> omega)) (fun c_15 => by exact absurd c_15 (by decide)) (fun c_15 => ?_)
      refine j_aload_n dX12_die_18 rfl ?_
      refine j_aload_n dX12_die_19 rfl ?_
      refine j_iload_n dX12_die_20 rfl ?_
      refine r_cv1I dX12_die_21 cvX12_296 (by decide) (by first | assumption | exact hsh _ _ rfl) (Nat.le_of_ble_eq_true rfl) (Nat.le_of_eq (Nat.zero_add _)) (Nat.le_of_eq (Nat.zero_add _)) (sm_al1 hsh hfx (by omega) h2) ?_
      refine j_if_ne (tgt := 31) dX12_die_24 rfl (by first | omega | (split <;> omega)) (fun c_24 => ?_) (fun c_24 => by exact absurd c_24 (by decide))
      refine j_iconst dX12_die_31 ?_
      refine j_iconst dX12_die_32 ?_
      refine r_cv2I dX12_die_33 cvX12_253 (by decide) (by first | assumption | exact hsh _ _ rfl) (Nat.le_of_ble_eq_true rfl) (Nat.le_of_eq (Nat.zero_add _)) (Nat.le_of_eq (Nat.zero_add _)) (sm_thr0 hsh) ?_
      refine j_if_eq (tgt := 41) dX12_die_36 rfl (by first | omega | (split <;> omega)) (fun c_36 => ?_) (fun c_36 => by exact absurd c_36 (by decide))
      refine j_aload_n dX12_die_41 rfl ?_
      refine r_cv0EV dX12_die_42 cvX12_356 (by decide) (by first | assumption | exact hsh _ _ rfl) (Nat.le_of_ble_eq_true rfl) (Nat.le_of_eq (Nat.zero_add _)) (Nat.le_of_eq (Nat.zero_add _)) (sm_remembers hsh hfx hr7 hr) (fun J hJ => ?_)
      have eJ : J 171 = W := (hJ.2.2.1 171 (by decide) (by decide)).trans ((fr1 171 (by decide)).trans hWd)
      refine j_aload_n dX12_die_45 rfl ?_
      refine j_iload_n dX12_die_46 rfl ?_
      refine j_iconst dX12_die_47 ?_
      refine r_cv2I dX12_die_48 cvX12_68 (by decide) (by first | assumption | exact hsh _ _ rfl) (Nat.le_of_ble_eq_true rfl) (Nat.le_of_eq (Nat.zero_add _)) (Nat.le_of_eq (Nat.zero_add _)) (sm_of hsh hfx (by omega)) ?_
      rw [show aOf (J 171) p 4 = x by rw [eJ]; exact hx]
      refine j_istore_n dX12_die_51 (by decide) ?_
      refine j_iload_n dX12_die_52 rfl ?_
      refine j_if_lt (tgt := 68) dX12_die_53 rfl (by first | omega | (split <;> omega)) (fun c_53 => by exact absurd c_53 e1) (fun c_53 => ?_)
      refine j_aload_n dX12_die_56 rfl ?_
      refine j_iload_n dX12_die_57 rfl ?_
      refine r_cv1I dX12_die_58 cvX12_296 (by decide) (by first | assumption | exact hsh _ _ rfl) (Nat.le_of_ble_eq_true rfl) (Nat.le_of_eq (Nat.zero_add _)) (Nat.le_of_eq (Nat.zero_add _)) (sA J eJ) ?_
      refine j_if_eq (tgt := 68) dX12_die_61 rfl (by first | omega | (split <;> omega)) (fun c_61 => ?_) (fun c_61 => by exact absurd c_61 (by decide))
      refine j_iconst dX12_die_68 ?_
      refine j_istore_n dX12_die_69 (by decide) ?_
      refine j_iload_n dX12_die_70 rfl ?_
      refine j_if_lt (tgt := 134) dX12_die_71 rfl (by first | omega | (split <;> omega)) (fun c_71 => ?_) (fun c_71 => by exact absurd (by decide) c_71)
      exact fin2 J hJ eJ
theorem cp_die_1 (hP : Pl sh F) (hC : CR sh I F M) (hw : M 171 = w) {p : Int} (h1 : jin p) (h2 : ¬ gP w p) : jS G (d + 6) mX11_die [jR (some 0), jI p] (sh, I, F) 1 6 (rX xIob (sh, I, F)) := by
  obtain ⟨hsh, hfx, hmm, hst, h12, h22⟩ := id hP
  have hR : Rp I 2 w := by rw [← hw]; exact hC.1.1
  refine jS_go [some (jR (some 0)), some (jI p), none] (by decide +kernel) rfl (by simp [jone]) (Nat.le_of_ble_eq_true rfl) rfl (fun hok => ?_)
  refine j_aload_n dX11_die_0 rfl ?_
  refine j_iload_n dX11_die_1 rfl ?_
  exact r_cv1X dX11_die_2 cvX11_119 (by decide) (by first | assumption | exact hsh _ _ rfl) (Nat.le_of_ble_eq_true rfl) (Nat.le_refl _) (Nat.le_refl _) rfl (cg_person1 hsh hfx hR (by omega) h2) (⟨rfl, rfl⟩)
theorem cp_die_2 (hP : Pl sh F) (hC : CR sh I F M) (hw : M 171 = w) {p : Int} (h1 : gP w p) (h2 : ¬ aOf w p 3 = 0) : jS G (d + 6) mX11_die [jR (some 0), jI p] (sh, I, F) 1 6 (rX xIse (sh, I, F)) := by
  obtain ⟨hsh, hfx, hmm, hst, h12, h22⟩ := id hP
  have hR : Rp I 2 w := by rw [← hw]; exact hC.1.1
  have g8 := hR.2.1
  have gp : 0 ≤ p ∧ p < aPe w := by have := h1.1; have := h1.2; omega
  refine jS_go [some (jR (some 0)), some (jI p), none] (by decide +kernel) rfl (by simp [jone]) (Nat.le_of_ble_eq_true rfl) rfl (fun hok => ?_)
  refine j_aload_n dX11_die_0 rfl ?_
  refine j_iload_n dX11_die_1 rfl ?_
  refine r_cv1V dX11_die_2 cvX11_119 (by decide) (by first | assumption | exact hsh _ _ rfl) (Nat.le_of_ble_eq_true rfl) (Nat.le_of_eq (Nat.zero_add _)) (Nat.le_of_eq (Nat.zero_add _)) (cg_person0 hsh hfx hR (by omega) h1) ?_
  refine j_aload_n dX11_die_5 rfl ?_
  refine j_iload_n dX11_die_6 rfl ?_
  exact r_cv1X dX11_die_7 cvX11_176 (by decide) (by first | assumption | exact hsh _ _ rfl) (Nat.le_of_ble_eq_true rfl) (Nat.le_refl _) (Nat.le_refl _) rfl (cg_live0 hsh hfx hst hR (by omega) h1 h2) (⟨rfl, rfl⟩)
theorem cp_die_0 (hP : Pl sh F) (hC : CR sh I F M) (hw : M 171 = w) (hW : WF w) {p : Int} (h1 : gP w p) (h2 : aOf w p 3 = 0) (hne : aOf w p 4 ≠ p) : jS G (d + 6) mX11_die [jR (some 0), jI p] (sh, I, F) 0 0 (rHI (mHe w p) sh (CaO sh I (mzW (mzR M) (wDie w p)))) := by
  obtain ⟨hsh, hfx, hmm, hst, h12, h22⟩ := id hP
  have hR : Rp I 2 w := by rw [← hw]; exact hC.1.1
  have gw := hW.1
  have gp : 0 ≤ p ∧ p < aPe w := by have := h1.1; have := h1.2; omega
  have q1 := hW.2.1.2.2 p gp.1 gp.2
  obtain ⟨x, hx⟩ : ∃ x, aOf w p 4 = x := ⟨_, rfl⟩
  rw [hx] at q1 hne
  have dOth : ∀ k, (k < 12 ∨ 116 ≤ k) → wDie w p k = w k := fun k hk => wDie_o (by omega) (by omega) (by omega)
  refine jS_go [some (jR (some 0)), some (jI p), none] (by decide +kernel) rfl (by simp [jone]) (Nat.le_of_ble_eq_true rfl) rfl (fun hok => ?_)
  refine j_aload_n dX11_die_0 rfl ?_
  refine j_iload_n dX11_die_1 rfl ?_
  refine r_cv1V dX11_die_2 cvX11_119 (by decide) (by first | assumption | exact hsh _ _ rfl) (Nat.le_of_ble_eq_true rfl) (Nat.le_of_eq (Nat.zero_add _)) (Nat.le_of_eq (Nat.zero_add _)) (cg_person0 hsh hfx hR (by omega) h1) ?_
  refine j_aload_n dX11_die_5 rfl ?_
  refine j_iload_n dX11_die_6 rfl ?_
  refine r_cv1V dX11_die_7 cvX11_176 (by decide) (by first | assumption | exact hsh _ _ rfl) (Nat.le_of_ble_eq_true rfl) (Nat.le_of_eq (Nat.zero_add _)) (Nat.le_of_eq (Nat.zero_add _)) (cg_live1 hsh hfx hst hR (by omega) h1 h2) ?_
  refine j_aload_n dX11_die_10 rfl ?_
  refine r_getS dX11_die_11 flX11_33 (by first | assumption | exact hsh _ _ rfl) (fx_0_7 hfx) ?_
  refine j_aload_n dX11_die_14 rfl ?_
  refine r_getS dX11_die_15 flX11_20 (by first | assumption | exact hsh _ _ rfl) (fx_0_3 hfx) ?_
  refine r_cv1HV dX11_die_18 cvX11_199 (by decide) (by first | assumption | exact hsh _ _ rfl) (Nat.le_of_ble_eq_true rfl) (Nat.le_of_eq (Nat.zero_add _)) (Nat.le_of_eq (Nat.zero_add _)) (cr_remember hP hC (by rw [hw]; exact hW)) (fun J F1 hJ => ?_)
  skip
  obtain ⟨-, hfx, -, hst1, -, -⟩ := id hJ.1
  obtain ⟨g0, g1, g2, g3, g4, g5, g6, g7, g8, g9, e1, e2, e3, e4, e5, e6, e7, e8, e9⟩ := id hst1
  have hS1 : Sr sh J F1 2 w := by rw [← hw]; exact hJ.2.1.1
  have hR1 := hS1.1
  have rA := hR1.2.2.2.2.1
  obtain ⟨K, hK⟩ : ∃ K, K = jup J 2 1 (jAnd (mAlive w) (jXor (jShl 1 p) (-1))) := ⟨_, rfl⟩
  obtain ⟨v, hv⟩ : ∃ v, v = wup w (12 + 13 * p + 3) 1 := ⟨_, rfl⟩
  have hRK : Rp K 2 v := by rw [hK, hv]; exact Rp_die hR1 gp
  have e0 : aPe v = aPe w := by rw [hv]; exact wup_ne _ _ (by omega)
  have ev : ∀ q k, 0 ≤ k → k < 13 → k ≠ 3 → aOf v q k = aOf w q k := fun q k h2 h3 h4 => by rw [hv]; exact wup_ne _ _ (by omega)
  have uK := hRK.2.2.1 p gp.1 (by omega)
  have q46 : K (2 + 5) p = x := by rw [uK.2.2.2.2.1, ev p 4 (by omega) (by omega) (by omega)]; exact hx
  -- what is left of the dead one
  have fin : ∀ (L : Nat → Int → Int) (z : Int → Int), Rp L 2 z → aPe z = aPe w → (∀ a, a ≠ 5 → a ≠ 6 → L a = K a) → wup (wup z (12 + 13 * p + 1) 0) (12 + 13 * p + 2) 0 = wDie w p → ∀ y, y = mHe w p → jW G mX11_die (d + 6) (rHI (mHe w p) sh (CaO sh I (mzW (mzR M) (wDie w p)))) 137 [some (jR (some 0)), some (jI p), some (jI y)] [] (sh, L, F1) 0 0 := by
    intro L z hRL hz hfr hd y hy
    have R1 := Rp_one (x := 0) hRL (p := p) (by omega) (Or.inl ⟨rfl, rfl⟩)
    have R2 := Rp_one (x := 0) R1 (p := p) (by rw [show aPe (wup z (12 + 13 * p + 1) 0) = aPe z from wup_ne _ _ (by omega)]; omega) (Or.inr (Or.inl ⟨rfl, rfl⟩))
    rw [hd] at R2
    have f2 : ∀ a, a ≠ 2 → a ≠ 2 + 3 → a ≠ 2 + 4 → jup (jup L (2 + 3) p 0) (2 + 4) p 0 a = J a := fun a x0 x1 x2 => by rw [jup_ne _ _ _ x2, jup_ne _ _ _ x1, hfr a x1 x2, hK, jup_ne _ _ _ x0]
    have f16 : jup (jup L (2 + 3) p 0) (2 + 4) p 0 2 16 = J 2 16 := by rw [jup_ne _ _ _ (by omega), jup_ne _ _ _ (by omega), hfr 2 (by omega) (by omega), hK, jup_row _ _ _ (by decide)]
    refine j_aload_n dX11_die_137 rfl ?_
    refine r_getS dX11_die_138 flX11_20 (by first | assumption | exact hsh _ _ rfl) (fx_0_3 hfx) ?_
    refine r_getS dX11_die_141 flX11_125 (by first | assumption | exact hsh _ _ rfl) (by assumption) ?_
    refine j_iload_n dX11_die_144 rfl ?_
    refine j_iconst dX11_die_145 ?_
    refine r_iastore dX11_die_146 (by first | assumption | exact hsh _ _ rfl) (by first | omega | (split <;> omega)) (by first | omega | (split <;> omega)) (by first | omega | (split <;> omega)) ?_
    refine j_aload_n dX11_die_147 rfl ?_
    refine r_getS dX11_die_148 flX11_20 (by first | assumption | exact hsh _ _ rfl) (fx_0_3 hfx) ?_
    refine r_getS dX11_die_151 flX11_128 (by first | assumption | exact hsh _ _ rfl) (by assumption) ?_
    refine j_iload_n dX11_die_154 rfl ?_
    refine j_iconst dX11_die_155 ?_
    refine r_iastore dX11_die_156 (by first | assumption | exact hsh _ _ rfl) (by first | omega | (split <;> omega)) (by first | omega | (split <;> omega)) (by first | omega | (split <;> omega)) ?_
    refine j_iload_n dX11_die_157 rfl ?_
    refine j_iret dX11_die_158 rfl ?_
    subst hy
    exact ⟨_, F1, rfl, rfl, Ca_of hJ (Sr_now (by decide) hS1 R2 f16 (fun a x0 x1 => f2 a (by omega) (by omega) (by omega)) (fun k hk => dOth k (by omega))) (fun a x0 x1 => f2 a (by omega) (by omega) (by omega)) (fun k hk => (dOth k (by omega)).trans (by rw [hw]))⟩
  have hn1 : (12 + 13 * p + 3 : Int) ≠ 12 + 13 * p + 1 := by omega
  have hn2 : (12 + 13 * p + 3 : Int) ≠ 12 + 13 * p + 2 := by omega
  by_cases e : mHeOk w p
  · have hh : mHe w p = x := by unfold mHe; rw [if_pos e, hx]
    have x1 : 0 ≤ x := by have := e.1; rw [hx] at this; exact this
    have x2 : aOf w x 3 = 0 := by have := e.2; rw [hx] at this; exact this
    have q2 := hW.2.1.2.2 x x1 (by omega)
    have uX := hRK.2.2.1 x x1 (by omega)
    have x3 : aOf v x 3 = 0 := by rw [hv]; exact (wup_ne _ _ (by omega)).trans x2
    have sA := sc_al1 (G := G) (d := d + 5) hst1 hRK (p := x) (by omega) ⟨x1, by omega⟩ x3
    have q82 : K (2 + 3) x = aOf w x 1 := by rw [uX.2.1, ev x 1 (by omega) (by omega) (by omega)]
    have q91 : K (2 + 3) p = aOf w p 1 := by rw [uK.2.1, ev p 1 (by omega) (by omega) (by omega)]
    obtain ⟨L, hL⟩ : ∃ L, L = jup K (2 + 3) x (mHa w p x) := ⟨_, rfl⟩
    have R1 := Rp_one (x := mHa w p x) hRK (p := x) (by omega) (Or.inl ⟨rfl, rfl⟩)
    rw [← hL] at R1
    have q113 : L (2 + 3) x = mHa w p x := by rw [hL, jup_same]
    have q122 : L (2 + 4) x = aOf w x 2 := by rw [hL, jup_ne _ _ _ (by decide), uX.2.2.1, ev x 2 (by omega) (by omega) (by omega)]
    have q131 : L (2 + 4) p = aOf w p 2 := by rw [hL, jup_ne _ _ _ (by decide), uK.2.2.1, ev p 2 (by omega) (by omega) (by omega)]
    have R2 := Rp_one (x := mHf w p x) R1 (p := x) (by rw [show aPe (wup v (12 + 13 * x + 1) (mHa w p x)) = aPe v from wup_ne _ _ (by omega)]; omega) (Or.inr (Or.inl ⟨rfl, rfl⟩))
    have hd : wup (wup (wup (wup v (12 + 13 * x + 1) (mHa w p x)) (12 + 13 * x + 2) (mHf w p x)) (12 + 13 * p + 1) 0) (12 + 13 * p + 2) 0 = wDie w p := by
      unfold wDie wDie2 wDie1
      rw [if_pos e, hx, hv, wup_comm w 1 _ (by omega), wup_comm _ 1 _ (by omega), wup_comm _ 1 _ hn1, wup_comm _ 1 _ hn2]
    have fin2 := fin _ _ R2 (by rw [show aPe (wup (wup v (12 + 13 * x + 1) (mHa w p x)) (12 + 13 * x + 2) (mHf w p x)) = aPe v from (wup_ne _ _ (by omega)).trans (wup_ne _ _ (by omega))]; exact e0) (fun a x0 x1 => by rw [jup_ne _ _ _ (by omega), hL, jup_ne _ _ _ (by omega)]) hd x hh.symm
    refine j_aload_n dX11_die_21 rfl ?_
    refine r_getS dX11_die_22 flX11_20 (by first | assumption | exact hsh _ _ rfl) (fx_0_3 hfx) ?_
    refine j_dup dX11_die_25 trivial ?_
    refine r_getIE dX11_die_26 flX11_219 (by first | assumption | exact hsh _ _ rfl) rA (fun b_26 => ?_)
    refine j_iconst dX11_die_29 ?_
    refine j_iload_n dX11_die_30 rfl ?_
    refine r_ishl dX11_die_31 (fun b_31 => ?_)
    refine j_iconst dX11_die_32 ?_
    refine r_ixor dX11_die_33 (fun b_33 => ?_)
    refine r_iand dX11_die_34 (fun b_34 => ?_)
    refine r_putI dX11_die_35 flX11_219 rfl (by first | assumption | exact hsh _ _ rfl) (by first | omega | (split <;> omega)) (fun q => by cases q) ?_
    rw [← hK]
    refine j_aload_n dX11_die_38 rfl ?_
    refine r_getS dX11_die_39 flX11_20 (by first | assumption | exact hsh _ _ rfl) (fx_0_3 hfx) ?_
    refine r_getS dX11_die_42 flX11_135 (by first | assumption | exact hsh _ _ rfl) (by assumption) ?_
    refine j_iload_n dX11_die_45 rfl ?_
    refine r_ialoadE dX11_die_46 (by first | assumption | exact hsh _ _ rfl) (by first | omega | (split <;> omega)) (by first | omega | (split <;> omega)) q46 (fun b_46 => ?_)
    refine j_istore_n dX11_die_47 (by decide) ?_
    refine j_aload_n dX11_die_48 rfl ?_
    refine r_getS dX11_die_49 flX11_20 (by first | assumption | exact hsh _ _ rfl) (fx_0_3 hfx) ?_
    refine j_iload_n dX11_die_52 rfl ?_
    refine r_cv1I dX11_die_53 cvX11_131 (by decide) (by first | assumption | exact hsh _ _ rfl) (Nat.le_of_ble_eq_true rfl) (Nat.le_of_eq (Nat.zero_add _)) (Nat.le_of_eq (Nat.zero_add _)) (sA) ?_
    refine j_if_ne (tgt := 64) dX11_die_56 rfl (by first | omega | (split <;> omega)) (fun c_56 => ?_) (fun c_56 => by exact absurd c_56 (by decide))
    refine j_aload_n dX11_die_64 rfl ?_
    refine r_getS dX11_die_65 flX11_20 (by first | assumption | exact hsh _ _ rfl) (fx_0_3 hfx) ?_
    refine r_getS dX11_die_68 flX11_125 (by first | assumption | exact hsh _ _ rfl) (by assumption) ?_
    refine j_iload_n dX11_die_71 rfl ?_
    refine j_ldc (n := 99999) dX11_die_72 kcX11_195 ?_
    refine j_aload_n dX11_die_74 rfl ?_
    refine r_getS dX11_die_75 flX11_20 (by first | assumption | exact hsh _ _ rfl) (fx_0_3 hfx) ?_
    refine r_getS dX11_die_78 flX11_125 (by first | assumption | exact hsh _ _ rfl) (by assumption) ?_
    refine j_iload_n dX11_die_81 rfl ?_
    refine r_ialoadE dX11_die_82 (by first | assumption | exact hsh _ _ rfl) (by first | omega | (split <;> omega)) (by first | omega | (split <;> omega)) q82 (fun b_82 => ?_)
    refine j_aload_n dX11_die_83 rfl ?_
    refine r_getS dX11_die_84 flX11_20 (by first | assumption | exact hsh _ _ rfl) (fx_0_3 hfx) ?_
    refine r_getS dX11_die_87 flX11_125 (by first | assumption | exact hsh _ _ rfl) (by assumption) ?_
    refine j_iload_n dX11_die_90 rfl ?_
    refine r_ialoadE dX11_die_91 (by first | assumption | exact hsh _ _ rfl) (by first | omega | (split <;> omega)) (by first | omega | (split <;> omega)) q91 (fun b_91 => ?_)
    refine j_iadd dX11_die_92 ?_
    refine r_min dX11_die_93 lmX11_202 (Nat.le_of_ble_eq_true rfl) (by first | omega | (split <;> omega)) (by first | omega | (split <;> omega)) ?_
    refine r_iastore dX11_die_96 (by first | assumption | exact hsh _ _ rfl) (by first | omega | (split <;> omega)) (by first | omega | (split <;> omega)) (by first | omega | (split <;> omega)) ?_
    rw [show jup K (2 + 3) x _ = L from hL.symm]
    refine j_aload_n dX11_die_97 rfl ?_
    refine r_getS dX11_die_98 flX11_20 (by first | assumption | exact hsh _ _ rfl) (fx_0_3 hfx) ?_
    refine r_getS dX11_die_101 flX11_128 (by first | assumption | exact hsh _ _ rfl) (by assumption) ?_
    refine j_iload_n dX11_die_104 rfl ?_
    refine j_aload_n dX11_die_105 rfl ?_
    refine r_getS dX11_die_106 flX11_20 (by first | assumption | exact hsh _ _ rfl) (fx_0_3 hfx) ?_
    refine r_getS dX11_die_109 flX11_125 (by first | assumption | exact hsh _ _ rfl) (by assumption) ?_
    refine j_iload_n dX11_die_112 rfl ?_
    refine r_ialoadE dX11_die_113 (by first | assumption | exact hsh _ _ rfl) (by first | omega | (split <;> omega)) (by first | omega | (split <;> omega)) q113 (fun b_113 => ?_)
    refine j_aload_n dX11_die_114 rfl ?_
    refine r_getS dX11_die_115 flX11_20 (by first | assumption | exact hsh _ _ rfl) (fx_0_3 hfx) ?_
    refine r_getS dX11_die_118 flX11_128 (by first | assumption | exact hsh _ _ rfl) (by assumption) ?_
    refine j_iload_n dX11_die_121 rfl ?_
    refine r_ialoadE dX11_die_122 (by first | assumption | exact hsh _ _ rfl) (by first | omega | (split <;> omega)) (by first | omega | (split <;> omega)) q122 (fun b_122 => ?_)
    refine j_aload_n dX11_die_123 rfl ?_
    refine r_getS dX11_die_124 flX11_20 (by first | assumption | exact hsh _ _ rfl) (fx_0_3 hfx) ?_
    refine r_getS dX11_die_127 flX11_128 (by first | assumption | exact hsh _ _ rfl) (by assumption) ?_
    refine j_iload_n dX11_die_130 rfl ?_
    refine r_ialoadE dX11_die_131 (by first | assumption | exact hsh _ _ rfl) (by first | omega | (split <;> omega)) (by first | omega | (split <;> omega)) q131 (fun b_131 => ?_)
    refine j_iadd dX11_die_132 ?_
    refine r_min dX11_die_133 lmX11_202 (Nat.le_of_ble_eq_true rfl) (by first | omega | (split <;> omega)) (by first | omega | (split <;> omega)) ?_
    refine r_iastore dX11_die_136 (by first | assumption | exact hsh _ _ rfl) (by first | omega | (split <;> omega)) (by first | omega | (split <;> omega)) (by first | omega | (split <;> omega)) ?_
    exact fin2
  · have hh : mHe w p = -1 := by unfold mHe; rw [if_neg e]
    have sA := sc_isAlive (G := G) (d := d + 5) hst1 hRK (p := x) (by omega)
    rw [if_neg (fun q => e (by
      have x3 : aOf w x 3 = 0 := by rw [← q.2.2, hv]; exact (show aOf (wup w (12 + 13 * p + 3) 1) x 3 = aOf w x 3 from wup_ne _ _ (by omega)).symm
      exact ⟨by rw [hx]; exact q.1, by rw [hx]; exact x3⟩))] at sA
    have hd : wup (wup v (12 + 13 * p + 1) 0) (12 + 13 * p + 2) 0 = wDie w p := by
      unfold wDie wDie2
      rw [if_neg e, hv, wup_comm _ 1 _ hn1, wup_comm _ 1 _ hn2]
    refine j_aload_n dX11_die_21 rfl ?_
    refine r_getS dX11_die_22 flX11_20 (by first | assumption | exact hsh _ _ rfl) (fx_0_3 hfx) ?_
    refine j_dup dX11_die_25 trivial ?_
    refine r_getIE dX11_die_26 flX11_219 (by first | assumption | exact hsh _ _ rfl) rA (fun b_26 => ?_)
    refine j_iconst dX11_die_29 ?_
    refine j_iload_n dX11_die_30 rfl ?_
    refine r_ishl dX11_die_31 (fun b_31 => ?_)
    refine j_iconst dX11_die_32 ?_
    refine r_ixor dX11_die_33 (fun b_33 => ?_)
    refine r_iand dX11_die_34 (fun b_34 => ?_)
    refine r_putI dX11_die_35 flX11_219 rfl (by first | assumption | exact hsh _ _ rfl) (by first | omega | (split <;> omega)) (fun q => by cases q) ?_
    rw [← hK]
    refine j_aload_n dX11_die_38 rfl ?_
    refine r_getS dX11_die_39 flX11_20 (by first | assumption | exact hsh _ _ rfl) (fx_0_3 hfx) ?_
    refine r_getS dX11_die_42 flX11_135 (by first | assumption | exact hsh _ _ rfl) (by assumption) ?_
    refine j_iload_n dX11_die_45 rfl ?_
    refine r_ialoadE dX11_die_46 (by first | assumption | exact hsh _ _ rfl) (by first | omega | (split <;> omega)) (by first | omega | (split <;> omega)) q46 (fun b_46 => ?_)
    refine j_istore_n dX11_die_47 (by decide) ?_
    refine j_aload_n dX11_die_48 rfl ?_
    refine r_getS dX11_die_49 flX11_20 (by first | assumption | exact hsh _ _ rfl) (fx_0_3 hfx) ?_
    refine j_iload_n dX11_die_52 rfl ?_
    refine r_cv1I dX11_die_53 cvX11_131 (by decide) (by first | assumption | exact hsh _ _ rfl) (Nat.le_of_ble_eq_true rfl) (Nat.le_of_eq (Nat.zero_add _)) (Nat.le_of_eq (Nat.zero_add _)) (sA) ?_
    refine j_if_ne (tgt := 64) dX11_die_56 rfl (by first | omega | (split <;> omega)) (fun c_56 => by exact absurd c_56 (by decide)) (fun c_56 => ?_)
    refine j_iconst dX11_die_59 ?_
    refine j_istore_n dX11_die_60 (by decide) ?_
    refine j_goto (tgt := 137) dX11_die_61 rfl ?_
    exact fin K v hRK e0 (fun _ _ _ => rfl) hd (-1) hh.symm
end
