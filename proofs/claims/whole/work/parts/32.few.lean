/-! THE FEWEST: sparks, bearers, parts -/
def jBc1 (x : Int) : Int := x - jAnd (jUshr x 1) 1431655765
def jBc2 (x : Int) : Int := jAnd (jBc1 x) 858993459 + jAnd (jUshr (jBc1 x) 2) 858993459
def jBc3 (x : Int) : Int := jAnd (jBc2 x + jUshr (jBc2 x) 4) 252645135
def jBc4 (x : Int) : Int := jBc3 x + jUshr (jBc3 x) 8
def jBc5 (x : Int) : Int := jBc4 x + jUshr (jBc4 x) 16
abbrev jBc (x : Int) : Int := jAnd (jBc5 x) 63
section
variable {G : jzG} {d : Nat} {sh : List (Nat × Nat)} {I : Nat → Int → Int} {F : Nat → Int → Option Nat} {s : Nat} {w : Int → Int}
theorem sj_bitCount {x : Int} : jS G d mJ6_bitCount_0f7a4 [jI x] (sh, I, F) 0 0 (rI (jBc x) (sh, I, F)) := by
  refine jS_go [some (jI x)] (by decide +kernel) rfl (by simp [jone]) (Nat.le_of_ble_eq_true rfl) rfl (fun hok => ?_)
  refine j_iload_n dJ6_bitCount_0f7a4_0 rfl ?_
  refine j_iload_n dJ6_bitCount_0f7a4_1 rfl ?_
  refine j_iconst dJ6_bitCount_0f7a4_2 ?_
  refine r_iushr dJ6_bitCount_0f7a4_3 (fun b_3 => ?_)
  refine j_ldcw (n := 1431655765) dJ6_bitCount_0f7a4_4 kcJ6_265 ?_
  refine r_iand dJ6_bitCount_0f7a4_7 (fun b_7 => ?_)
  refine j_isub dJ6_bitCount_0f7a4_8 ?_
  refine j_istore_n dJ6_bitCount_0f7a4_9 (by decide) ?_
  refine j_iload_n dJ6_bitCount_0f7a4_10 rfl ?_
  refine j_ldcw (n := 858993459) dJ6_bitCount_0f7a4_11 kcJ6_266 ?_
  refine r_iand dJ6_bitCount_0f7a4_14 (fun b_14 => ?_)
  refine j_iload_n dJ6_bitCount_0f7a4_15 rfl ?_
  refine j_iconst dJ6_bitCount_0f7a4_16 ?_
  refine r_iushr dJ6_bitCount_0f7a4_17 (fun b_17 => ?_)
  refine j_ldcw (n := 858993459) dJ6_bitCount_0f7a4_18 kcJ6_266 ?_
  refine r_iand dJ6_bitCount_0f7a4_21 (fun b_21 => ?_)
  refine j_iadd dJ6_bitCount_0f7a4_22 ?_
  refine j_istore_n dJ6_bitCount_0f7a4_23 (by decide) ?_
  refine j_iload_n dJ6_bitCount_0f7a4_24 rfl ?_
  refine j_iload_n dJ6_bitCount_0f7a4_25 rfl ?_
  refine j_iconst dJ6_bitCount_0f7a4_26 ?_
  refine r_iushr dJ6_bitCount_0f7a4_27 (fun b_27 => ?_)
  refine j_iadd dJ6_bitCount_0f7a4_28 ?_
  refine j_ldcw (n := 252645135) dJ6_bitCount_0f7a4_29 kcJ6_267 ?_
  refine r_iand dJ6_bitCount_0f7a4_32 (fun b_32 => ?_)
  refine j_istore_n dJ6_bitCount_0f7a4_33 (by decide) ?_
  refine j_iload_n dJ6_bitCount_0f7a4_34 rfl ?_
  refine j_iload_n dJ6_bitCount_0f7a4_35 rfl ?_
  refine j_bipush dJ6_bitCount_0f7a4_36 (by decide) ?_
  refine r_iushr dJ6_bitCount_0f7a4_38 (fun b_38 => ?_)
  refine j_iadd dJ6_bitCount_0f7a4_39 ?_
  refine j_istore_n dJ6_bitCount_0f7a4_40 (by decide) ?_
  refine j_iload_n dJ6_bitCount_0f7a4_41 rfl ?_
  refine j_iload_n dJ6_bitCount_0f7a4_42 rfl ?_
  refine j_bipush dJ6_bitCount_0f7a4_43 (by decide) ?_
  refine r_iushr dJ6_bitCount_0f7a4_45 (fun b_45 => ?_)
  refine j_iadd dJ6_bitCount_0f7a4_46 ?_
  refine j_istore_n dJ6_bitCount_0f7a4_47 (by decide) ?_
  refine j_iload_n dJ6_bitCount_0f7a4_48 rfl ?_
  refine j_bipush dJ6_bitCount_0f7a4_49 (by decide) ?_
  refine r_iand dJ6_bitCount_0f7a4_51 (fun b_51 => ?_)
  refine j_iret dJ6_bitCount_0f7a4_52 rfl ?_
  exact rI_of rfl rfl
theorem sc_isFewer {x b : Int} (hx : jin x) (hb : jin b) : jS G (d + 1) mX3_isFewer [jI x, jI b] (sh, I, F) 0 0 (rI (if b = -1 ∨ jBc x < jBc b then 1 else 0) (sh, I, F)) := by
  refine jS_go [some (jI x), some (jI b)] (by decide +kernel) rfl (by simp [jone]) (Nat.le_of_ble_eq_true rfl) rfl (fun hok => ?_)
  refine j_iload_n dX3_isFewer_0 rfl ?_
  refine j_iconst dX3_isFewer_1 ?_
  refine j_icmp_eq (tgt := 16) dX3_isFewer_2 rfl (by first | omega | (split <;> omega)) (by first | omega | (split <;> omega)) (fun c_2 => ?_) (fun c_2 => ?_)
  · refine j_iconst dX3_isFewer_16 ?_
    refine j_goto (tgt := 21) dX3_isFewer_17 rfl ?_
    refine j_zret dX3_isFewer_21 rfl (by omega) ?_
    exact rI_of (by split <;> omega) rfl
  · refine j_iload_n dX3_isFewer_5 rfl ?_
    refine r_cs1J dX3_isFewer_6 csX3_78 (Nat.le_of_ble_eq_true rfl) (Nat.le_of_eq (Nat.zero_add _)) (Nat.le_of_eq (Nat.zero_add _)) (sj_bitCount) (jAnd_in _ _) (fun b_6 => ?_)
    refine j_iload_n dX3_isFewer_9 rfl ?_
    refine r_cs1J dX3_isFewer_10 csX3_78 (Nat.le_of_ble_eq_true rfl) (Nat.le_of_eq (Nat.zero_add _)) (Nat.le_of_eq (Nat.zero_add _)) (sj_bitCount) (jAnd_in _ _) (fun b_10 => ?_)
    refine j_icmp_ge (tgt := 20) dX3_isFewer_13 rfl (by first | omega | (split <;> omega)) (by first | omega | (split <;> omega)) (fun c_13 => ?_) (fun c_13 => ?_)
    · refine j_iconst dX3_isFewer_20 ?_
      refine j_zret dX3_isFewer_21 rfl (by omega) ?_
      exact rI_of (by split <;> omega) rfl
    · refine j_iconst dX3_isFewer_16 ?_
      refine j_goto (tgt := 21) dX3_isFewer_17 rfl ?_
      refine j_zret dX3_isFewer_21 rfl (by omega) ?_
      exact rI_of (by split <;> omega) rfl
end
theorem jan_dec : ∀ x : Fin 256, ∀ a : Fin 256, jAnd (x.val : Int) (jXor (a.val : Int) (-1)) = 0 → jAnd (x.val : Int) (a.val : Int) = (x.val : Int) ∧ x.val ≤ a.val := by decide +kernel
theorem jan_sub {x a : Int} (hx : 0 ≤ x ∧ x < 256) (ha : 0 ≤ a ∧ a < 256) (h : jAnd x (jXor a (-1)) = 0) : x ≤ a ∧ ∀ p, 0 ≤ p → p < 8 → jbit x p → jbit a p := by
  obtain ⟨m, rfl⟩ := Int.eq_ofNat_of_zero_le hx.1
  obtain ⟨n, rfl⟩ := Int.eq_ofNat_of_zero_le ha.1
  have h2 := jan_dec ⟨m, by omega⟩ ⟨n, by omega⟩ h
  refine ⟨by have := h2.2; show (m : Int) ≤ n; exact Int.ofNat_le.mpr this, fun p hp0 hp1 hb => ?_⟩
  have h3 : jAnd (m : Int) (n : Int) = (m : Int) := h2.1
  have h4 := (jAnd_set hx (b := (n : Int)) (by omega)).2 p hp0 (by omega)
  rw [h3] at h4
  exact (h4.mp hb).2
/-- the best of some sets: the fewest, of several the least -/
def IsBest (V : Int → Prop) (r : Int) : Prop := (r = -1 ∧ ∀ x, 0 ≤ x → x < 256 → ¬ V x) ∨ ((0 ≤ r ∧ r < 256) ∧ V r ∧ ∀ x, 0 ≤ x → x < 256 → V x → jBc r < jBc x ∨ (jBc r = jBc x ∧ r ≤ x))
theorem IsBest_one {V : Int → Prop} {r r' : Int} (h : IsBest V r) (h' : IsBest V r') : r = r' := by
  rcases h with ⟨h1, h2⟩ | ⟨h1, h2, h3⟩ <;> rcases h' with ⟨k1, k2⟩ | ⟨k1, k2, k3⟩
  · omega
  · exact absurd k2 (h2 r' k1.1 k1.2)
  · exact absurd h2 (k2 r h1.1 h1.2)
  · have a := h3 r' k1.1 k1.2 k2
    have b := k3 r h1.1 h1.2 h2
    omega
noncomputable def mBest (V : Int → Prop) : Int := by
  classical
  exact if h : ∃ r, IsBest V r then Classical.choose h else 0
theorem mBest_of {V : Int → Prop} {r : Int} (h : IsBest V r) : mBest V = r := by
  have hx : ∃ r, IsBest V r := ⟨r, h⟩
  unfold mBest
  rw [dif_pos hx]
  exact IsBest_one (Classical.choose_spec hx) h
/-- going up: one more set -/
theorem IsBest_up {V : Int → Prop} {z b : Int} (hz : 0 ≤ z ∧ z < 256) (hb : IsBest (fun x => x < z ∧ V x) b) (t : Prop) [Decidable t] (ht : t ↔ V z ∧ (b = -1 ∨ jBc z < jBc b)) : IsBest (fun x => x < z + 1 ∧ V x) (if t then z else b) := by
  by_cases e : t
  · rw [if_pos e]
    obtain ⟨hv, hf⟩ := ht.mp e
    right
    refine ⟨hz, ⟨by omega, hv⟩, fun x hx0 hx1 hx2 => ?_⟩
    by_cases q : x = z
    · subst q; right; exact ⟨rfl, Int.le_refl _⟩
    · rcases hb with ⟨b1, b2⟩ | ⟨b1, b2, b3⟩
      · exact absurd ⟨by omega, hx2.2⟩ (b2 x hx0 hx1)
      · have := b3 x hx0 hx1 ⟨by omega, hx2.2⟩
        omega
  · rw [if_neg e]
    rcases hb with ⟨b1, b2⟩ | ⟨b1, b2, b3⟩
    · left
      refine ⟨b1, fun x hx0 hx1 hx2 => ?_⟩
      by_cases q : x = z
      · subst q; exact e (ht.mpr ⟨hx2.2, Or.inl b1⟩)
      · exact b2 x hx0 hx1 ⟨by omega, hx2.2⟩
    · right
      refine ⟨b1, ⟨by omega, b2.2⟩, fun x hx0 hx1 hx2 => ?_⟩
      by_cases q : x = z
      · subst q
        have : ¬ jBc x < jBc b := fun z9 => e (ht.mpr ⟨hx2.2, Or.inr z9⟩)
        omega
      · exact b3 x hx0 hx1 ⟨by omega, hx2.2⟩
/-- going down: one more set -/
theorem IsBest_down {V : Int → Prop} {z b : Int} (hz : 0 ≤ z ∧ z < 256) (hb : IsBest (fun x => z < x ∧ V x) b) (t : Prop) [Decidable t] (ht : t ↔ V z ∧ (b < 0 ∨ jBc z ≤ jBc b)) : IsBest (fun x => z - 1 < x ∧ V x) (if t then z else b) := by
  by_cases e : t
  · rw [if_pos e]
    obtain ⟨hv, hf⟩ := ht.mp e
    right
    refine ⟨hz, ⟨by omega, hv⟩, fun x hx0 hx1 hx2 => ?_⟩
    by_cases q : x = z
    · subst q; right; exact ⟨rfl, Int.le_refl _⟩
    · rcases hb with ⟨b1, b2⟩ | ⟨b1, b2, b3⟩
      · exact absurd ⟨by omega, hx2.2⟩ (b2 x hx0 hx1)
      · have := b3 x hx0 hx1 ⟨by omega, hx2.2⟩
        omega
  · rw [if_neg e]
    rcases hb with ⟨b1, b2⟩ | ⟨b1, b2, b3⟩
    · left
      refine ⟨b1, fun x hx0 hx1 hx2 => ?_⟩
      by_cases q : x = z
      · subst q; exact e (ht.mpr ⟨hx2.2, Or.inl (by omega)⟩)
      · exact b2 x hx0 hx1 ⟨by omega, hx2.2⟩
    · right
      refine ⟨b1, ⟨by omega, b2.2⟩, fun x hx0 hx1 hx2 => ?_⟩
      by_cases q : x = z
      · subst q
        have : ¬ jBc x ≤ jBc b := fun z9 => e (ht.mpr ⟨hx2.2, Or.inr z9⟩)
        omega
      · exact b3 x hx0 hx1 ⟨by omega, hx2.2⟩
theorem IsBest_cong {V V' : Int → Prop} {r : Int} (h : IsBest V r) (e : ∀ x, 0 ≤ x → x < 256 → (V x ↔ V' x)) : IsBest V' r := by
  rcases h with ⟨h1, h2⟩ | ⟨h1, h2, h3⟩
  · exact Or.inl ⟨h1, fun x a b c => h2 x a b ((e x a b).mpr c)⟩
  · exact Or.inr ⟨h1, (e r h1.1 h1.2).mp h2, fun x a b c => h3 x a b ((e x a b).mpr c)⟩
abbrev vSub (w : Int → Int) (x : Int) : Prop := jAnd x (jXor (mAlive w) (-1)) = 0
abbrev vSpark (w : Int → Int) (x : Int) : Prop := 1 ≤ x ∧ vSub w x ∧ w 4 < mAcc w (mRun w x)
abbrev vFew (w : Int → Int) (x : Int) : Prop := vSub w x ∧ mAll w 1 ≤ mRooms w x
theorem mCt_sub {w : Int → Int} (hP : 0 ≤ aPe w ∧ aPe w ≤ 8) {x : Int} (hx : 1 ≤ x ∧ x < 256) (h : vSub w x) : 1 ≤ mCt w x := by
  have ha := mAlive_set hP
  have hs := jan_sub (by omega) ha.1 h
  have : ∃ p : Int, (0 ≤ p ∧ p < 8) ∧ jbit x p := by
    refine Classical.byContradiction (fun hc => ?_)
    have := jset_ext (a := x) (b := 0) (by omega) (by omega) (fun p h0 h1 => ⟨fun q => absurd ⟨p, ⟨h0, h1⟩, q⟩ hc, fun q => absurd q (jbit_0 h0 (by omega))⟩)
    omega
  obtain ⟨p, ⟨h0, h1⟩, hb⟩ := this
  have hp := (ha.2 p h0 (by omega)).mp (hs.2 p h0 h1 hb)
  refine fb_ct_pos.mpr ⟨p.toNat, by omega, ?_⟩
  rw [show ((p.toNat : Nat) : Int) = p by omega]
  exact decide_eq_true hb
theorem mAlive_all {w : Int → Int} (hP : 0 ≤ aPe w ∧ aPe w ≤ 8) : mAlive w ≤ aAllS w := by
  have ha := mAlive_set hP
  obtain ⟨n, en⟩ := Int.eq_ofNat_of_zero_le hP.1
  obtain ⟨m, em⟩ := Int.eq_ofNat_of_zero_le ha.1.1
  have e3 : aAllS w = ((2 ^ n - 1 : Nat) : Int) := by
    unfold aAllS
    rw [en, jShl_nat (by omega)]
    have h0 : 0 < 2 ^ n := Nat.pow_pos (by decide)
    omega
  have hp : 0 < 2 ^ n := Nat.pow_pos (by decide)
  have : m < 2 ^ n := by
    refine Nat.lt_pow_two_of_testBit m (fun i hi => ?_)
    by_cases h8 : i < 31
    · have h1 := ha.2 (i : Int) (by omega) (by omega)
      rw [em, jbit_nat (by omega) h8] at h1
      cases hb : m.testBit i with
      | false => rfl
      | true => exact absurd (h1.mp hb).1 (by omega)
    · exact Nat.testBit_lt_two_pow (Nat.lt_of_lt_of_le (show m < 2 ^ 8 by omega) (Nat.pow_le_pow_right (by decide) (by omega)))
  omega
