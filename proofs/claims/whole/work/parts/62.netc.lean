/-! WHAT IS OWED IS NETTED: BOTH SIDES -/
theorem nFrom_s {N : Int → Int} {e : Int} (h : 0 ≤ e) : nFrom N (e + 1).toNat = if N (e + 1) < N (nFrom N e.toNat) then e + 1 else nFrom N e.toNat := jfold_s _ _ h
theorem nTo_s {N : Int → Int} {e : Int} (h : 0 ≤ e) : nTo N (e + 1).toNat = if N (nTo N e.toNat) < N (e + 1) then e + 1 else nTo N e.toNat := jfold_s _ _ h
theorem nK_eq {m : Nat} (hm : m ≤ 7) {c : Int} {S : nS} (h : nOK m c S.1) {z : Int} (h0 : 0 ≤ z) (h1 : ∀ j : Nat, (j : Int) < z → 0 < nPay (nIt m S j).1 m) (h2 : nPay (nIt m S z.toNat).1 m ≤ 0) : nK m S = z := by
  obtain ⟨k1, k2, k3⟩ := nK_ok hm h
  by_cases e : z < nK m S
  · have := k3 z.toNat (by omega)
    omega
  · by_cases e2 : nK m S < z
    · have := h1 (nK m S).toNat (by omega)
      omega
    · omega
theorem CR_now2 {sh : List (Nat × Nat)} {I J M : Nat → Int → Int} {F : Nat → Int → Option Nat} {w : Int → Int} (h : CR sh I F M) (hs : Sr sh J F 2 w) (hf : ∀ a, (a < 2 ∨ 11 < a) → (a < 154 ∨ 169 < a) → J a = I a) (hw : ∀ k, k < 0 ∨ 420 ≤ k → w k = M 171 k) : CR sh J F (mzW M w) := by
  have h2 := CR_now (J := fun a => if 2 ≤ a ∧ a ≤ 11 ∨ 185 ≤ a then J a else I a) h (w := w) ?_ (fun a x0 x1 => ?_) hw
  · refine CR_fr h2 (fun a ha => ?_)
    show J a = if _ then _ else _
    by_cases e : 2 ≤ a ∧ a ≤ 11 ∨ 185 ≤ a
    · rw [if_pos e]
    · rw [if_neg e]; exact hf a (by omega) (by omega)
  · exact Sr_fr hs (fun a a0 a1 => if_pos (by omega)) (fun a ha => if_pos (by omega))
  · show (if _ then _ else _) = _
    by_cases e : 2 ≤ a ∧ a ≤ 11 ∨ 185 ≤ a
    · rw [if_pos e]; exact hf a (by omega) (by omega)
    · rw [if_neg e]
section
variable {G : jzG} {d : Nat} {sh : List (Nat × Nat)} {I M : Nat → Int → Int} {F : Nat → Int → Option Nat} {s : Nat} {w : Int → Int}
theorem sj_fill {i len : Nat} (hi : sh[i]? = some (11, len)) (hl : len < 1000000) {v : Int} (hv : jin v) : jS G d mJ7_fill_53178 [jR (some i), jI v] (sh, I, F) 0 0 (rEV sh F (fun J => (∀ k : Int, 0 ≤ k → k < len → J i k = v) ∧ Fr1 i I J)) := by
  refine jS_go [some (jR (some i)), some (jI v), none, none] (by decide +kernel) rfl (by simp [jone]) (Nat.le_of_ble_eq_true rfl) rfl (fun hok => ?_)
  have key : ∀ (m : Nat) (z : Int) (J : Nat → Int → Int), z + m = len → 0 ≤ z → (∀ k, 0 ≤ k → k < z → J i k = v) → Fr1 i I J → jW G mJ7_fill_53178 d (rEV sh F (fun J => (∀ k : Int, 0 ≤ k → k < len → J i k = v) ∧ Fr1 i I J)) 5 [some (jR (some i)), some (jI v), some (jI z), some (jI len)] [] (sh, J, F) 0 0 := by
    intro m
    induction m with
    | zero =>
      intro z J hz hz0 h1 h2
      refine j_iload_n dJ7_fill_53178_5 rfl ?_
      refine j_iload_n dJ7_fill_53178_6 rfl ?_
      refine j_icmp_ge (tgt := 20) dJ7_fill_53178_7 rfl (by first | omega | (split <;> omega)) (by first | omega | (split <;> omega)) (fun c_7 => ?_) (fun c_7 => by exact absurd (by omega) c_7)
      refine j_vret dJ7_fill_53178_20 rfl ?_
      exact rEV_of ⟨fun k k0 k1 => h1 k k0 (by omega), h2⟩
    | succ m ih =>
      intro z J hz hz0 h1 h2
      refine j_iload_n dJ7_fill_53178_5 rfl ?_
      refine j_iload_n dJ7_fill_53178_6 rfl ?_
      refine j_icmp_ge (tgt := 20) dJ7_fill_53178_7 rfl (by first | omega | (split <;> omega)) (by first | omega | (split <;> omega)) (fun c_7 => by exact absurd c_7 (by omega)) (fun c_7 => ?_)
      refine j_aload_n dJ7_fill_53178_10 rfl ?_
      refine j_iload_n dJ7_fill_53178_11 rfl ?_
      refine j_iload_n dJ7_fill_53178_12 rfl ?_
      refine r_iastore dJ7_fill_53178_13 (by first | assumption | exact hsh _ _ rfl) (by first | omega | (split <;> omega)) (by first | omega | (split <;> omega)) (by first | omega | (split <;> omega)) ?_
      refine j_iinc dJ7_fill_53178_14 rfl (by decide) ?_
      refine j_goto (tgt := 5) dJ7_fill_53178_17 rfl ?_
      exact ih (z + 1) _ (by omega) (by omega) (fun k k0 k1 => by
        by_cases e : k = z
        · subst e; exact jup_same _ _ _ _
        · rw [jup_row _ _ _ e]; exact h1 k k0 (by omega)) (Fr1_up h2)
  refine j_iconst dJ7_fill_53178_0 ?_
  refine j_istore_n dJ7_fill_53178_1 (by decide) ?_
  refine j_aload_n dJ7_fill_53178_2 rfl ?_
  refine r_alen dJ7_fill_53178_3 (by first | assumption | exact hsh _ _ rfl) ?_
  refine j_istore_n dJ7_fill_53178_4 (by decide) ?_
  exact key len 0 I (by omega) (by omega) (fun k k0 k1 => by omega) (fun _ _ => rfl)
theorem sc_findNets (hsh : ShOK sh) (hfx : FxOK F) (hs : StAt sh F s) (hs9 : s + 9 < 154) (hR : Rp I s w) (hj : ∀ p, 0 ≤ p → p < aPe w → jin (mNet w p)) : jS G (d + 1) mX4_findNets [jR (some 166), jR (some s)] (sh, I, F) 0 0 (rEV sh F (fun J => (∀ p, 0 ≤ p → p < aPe w → J 167 p = mNet w p) ∧ Fr1 167 I J)) := by
  obtain ⟨g0, g1, g2, g3, g4, g5, g6, g7, g8, g9, e1, e2, e3, e4, e5, e6, e7, e8, e9⟩ := id hs
  have r1 := hR.2.1
  refine jS_go [some (jR (some 166)), some (jR (some s)), none] (by decide +kernel) rfl (by simp [jone]) (Nat.le_of_ble_eq_true rfl) rfl (fun hok => ?_)
  have key : ∀ (m : Nat) (z : Int) (J : Nat → Int → Int), z + m = aPe w → 0 ≤ z → (∀ k, 0 ≤ k → k < z → J 167 k = mNet w k) → Fr1 167 I J → jW G mX4_findNets (d + 1) (rEV sh F (fun J => (∀ p, 0 ≤ p → p < aPe w → J 167 p = mNet w p) ∧ Fr1 167 I J)) 2 [some (jR (some 166)), some (jR (some s)), some (jI z)] [] (sh, J, F) 0 0 := by
    intro m
    induction m with
    | zero =>
      intro z J hz hz0 h1 h2
      have hRJ : Rp J s w := Rp_fr hR (fun a a0 a1 => h2 a (by omega))
      have r0 := hRJ.1
      refine j_iload_n dX4_findNets_2 rfl ?_
      refine j_aload_n dX4_findNets_3 rfl ?_
      refine r_getIE dX4_findNets_4 flX4_31 (by first | assumption | exact hsh _ _ rfl) r0 (fun b_4 => ?_)
      refine j_icmp_ge (tgt := 27) dX4_findNets_7 rfl (by first | omega | (split <;> omega)) (by first | omega | (split <;> omega)) (fun c_7 => ?_) (fun c_7 => by exact absurd (by omega) c_7)
      refine j_vret dX4_findNets_27 rfl ?_
      exact rEV_of ⟨fun k k0 k1 => h1 k k0 (by omega), h2⟩
    | succ m ih =>
      intro z J hz hz0 h1 h2
      have hRJ : Rp J s w := Rp_fr hR (fun a a0 a1 => h2 a (by omega))
      have r0 := hRJ.1
      have hjz := hj z hz0 (by omega)
      refine j_iload_n dX4_findNets_2 rfl ?_
      refine j_aload_n dX4_findNets_3 rfl ?_
      refine r_getIE dX4_findNets_4 flX4_31 (by first | assumption | exact hsh _ _ rfl) r0 (fun b_4 => ?_)
      refine j_icmp_ge (tgt := 27) dX4_findNets_7 rfl (by first | omega | (split <;> omega)) (by first | omega | (split <;> omega)) (fun c_7 => by exact absurd c_7 (by omega)) (fun c_7 => ?_)
      refine j_aload_n dX4_findNets_10 rfl ?_
      refine r_getS dX4_findNets_11 flX4_9 (by first | assumption | exact hsh _ _ rfl) (fx_166_0 hfx) ?_
      refine j_iload_n dX4_findNets_14 rfl ?_
      refine j_aload_n dX4_findNets_15 rfl ?_
      refine j_iload_n dX4_findNets_16 rfl ?_
      refine r_cv1I dX4_findNets_17 cvX4_57 (by decide) (by first | assumption | exact hsh _ _ rfl) (Nat.le_of_ble_eq_true rfl) (Nat.le_of_eq (Nat.zero_add _)) (Nat.le_of_eq (Nat.zero_add _)) (sc_netOf hs hRJ (by omega)) ?_
      refine r_iastore dX4_findNets_20 (by first | assumption | exact hsh _ _ rfl) (by first | omega | (split <;> omega)) (by first | omega | (split <;> omega)) (by first | omega | (split <;> omega)) ?_
      refine j_iinc dX4_findNets_21 rfl (by decide) ?_
      refine j_goto (tgt := 2) dX4_findNets_24 rfl ?_
      exact ih (z + 1) _ (by omega) (by omega) (fun k k0 k1 => by
        by_cases e : k = z
        · subst e; exact jup_same _ _ _ _
        · rw [jup_row _ _ _ e]; exact h1 k k0 (by omega)) (Fr1_up h2)
  refine j_iconst dX4_findNets_0 ?_
  refine j_istore_n dX4_findNets_1 (by decide) ?_
  exact key (aPe w).toNat 0 I (by omega) (by omega) (fun k k0 k1 => by omega) (fun _ _ => rfl)
theorem sm_laysNets (hsh : ShOK sh) (hfx : FxOK F) (hP : WfP (I 171)) (hj : ∀ p, 0 ≤ p → p < aPe (I 171) → jin (mNet (I 171) p)) : jS G (d + 3) mX12_laysNets [jR (some 170)] (sh, I, F) 0 0 (rEV sh F (fun J => (∀ p, 0 ≤ p → p < aPe (I 171) → J 182 p = mNet (I 171) p) ∧ Fr1 182 I J)) := by
  have g0 := hP.1
  have g8 := hP.2
  refine jS_go [some (jR (some 170)), none] (by decide +kernel) rfl (by simp [jone]) (Nat.le_of_ble_eq_true rfl) rfl (fun hok => ?_)
  obtain ⟨W, hW⟩ : ∃ W, I 171 = W := ⟨_, rfl⟩
  rw [hW] at hP hj g0 g8 ⊢
  have key : ∀ (m : Nat) (z : Int) (J : Nat → Int → Int), z + m = aPe W → 0 ≤ z → (∀ k, 0 ≤ k → k < z → J 182 k = mNet W k) → Fr1 182 I J → jW G mX12_laysNets (d + 3) (rEV sh F (fun J => (∀ p, 0 ≤ p → p < aPe W → J 182 p = mNet W p) ∧ Fr1 182 I J)) 2 [some (jR (some 170)), some (jI z)] [] (sh, J, F) 0 0 := by
    intro m
    induction m with
    | zero =>
      intro z J hz hz0 h1 h2
      have e : J 171 = W := (h2 171 (by decide)).trans hW
      refine j_iload_n dX12_laysNets_2 rfl ?_
      refine j_aload_n dX12_laysNets_3 rfl ?_
      refine r_cv0I dX12_laysNets_4 cvX12_74 (by decide) (by first | assumption | exact hsh _ _ rfl) (Nat.le_of_ble_eq_true rfl) (Nat.le_of_eq (Nat.zero_add _)) (Nat.le_of_eq (Nat.zero_add _)) (sm_people hsh hfx) ?_
      rw [show aPe (J 171) = aPe W by rw [e]]
      refine j_icmp_ge (tgt := 27) dX12_laysNets_7 rfl (by first | omega | (split <;> omega)) (by first | omega | (split <;> omega)) (fun c_7 => ?_) (fun c_7 => by exact absurd (by omega) c_7)
      refine j_vret dX12_laysNets_27 rfl ?_
      exact rEV_of ⟨fun k k0 k1 => h1 k k0 (by omega), h2⟩
    | succ m ih =>
      intro z J hz hz0 h1 h2
      have e : J 171 = W := (h2 171 (by decide)).trans hW
      have hjz := hj z hz0 (by omega)
      have sn := sm_netOf (G := G) (d := d) (F := F) (I := J) hsh hfx (by rw [e]; exact hP) (p := z) (by omega)
      rw [e] at sn
      refine j_iload_n dX12_laysNets_2 rfl ?_
      refine j_aload_n dX12_laysNets_3 rfl ?_
      refine r_cv0I dX12_laysNets_4 cvX12_74 (by decide) (by first | assumption | exact hsh _ _ rfl) (Nat.le_of_ble_eq_true rfl) (Nat.le_of_eq (Nat.zero_add _)) (Nat.le_of_eq (Nat.zero_add _)) (sm_people hsh hfx) ?_
      rw [show aPe (J 171) = aPe W by rw [e]]
      refine j_icmp_ge (tgt := 27) dX12_laysNets_7 rfl (by first | omega | (split <;> omega)) (by first | omega | (split <;> omega)) (fun c_7 => by exact absurd c_7 (by omega)) (fun c_7 => ?_)
      refine j_aload_n dX12_laysNets_10 rfl ?_
      refine r_getS dX12_laysNets_11 flX12_51 (by first | assumption | exact hsh _ _ rfl) (fx_170_23 hfx) ?_
      refine j_iload_n dX12_laysNets_14 rfl ?_
      refine j_aload_n dX12_laysNets_15 rfl ?_
      refine j_iload_n dX12_laysNets_16 rfl ?_
      refine r_cv1I dX12_laysNets_17 cvX12_338 (by decide) (by first | assumption | exact hsh _ _ rfl) (Nat.le_of_ble_eq_true rfl) (Nat.le_of_eq (Nat.zero_add _)) (Nat.le_of_eq (Nat.zero_add _)) (sn) ?_
      refine r_iastore dX12_laysNets_20 (by first | assumption | exact hsh _ _ rfl) (by first | omega | (split <;> omega)) (by first | omega | (split <;> omega)) (by first | omega | (split <;> omega)) ?_
      refine j_iinc dX12_laysNets_21 rfl (by decide) ?_
      refine j_goto (tgt := 2) dX12_laysNets_24 rfl ?_
      exact ih (z + 1) _ (by omega) (by omega) (fun k k0 k1 => by
        by_cases e : k = z
        · subst e; exact jup_same _ _ _ _
        · rw [jup_row _ _ _ e]; exact h1 k k0 (by omega)) (Fr1_up h2)
  refine j_iconst dX12_laysNets_0 ?_
  refine j_istore_n dX12_laysNets_1 (by decide) ?_
  exact key (aPe W).toNat 0 I (by omega) (by omega) (fun k k0 k1 => by omega) (fun _ _ => rfl)
/-! ### the class -/
theorem Rp_zer {J : Nat → Int → Int} (h : Rp I s w) (h1 : ∀ k, 0 ≤ k → k < 64 → J (s + 7) k = 0) (h2 : ∀ a, s ≤ a → a ≤ s + 6 → J a = I a) : Rp J s (mZer w 64) := by
  obtain ⟨r0, r1, rP, rO, rA, r9, r10, r11, r12, r13, r14, r15, r16, r17⟩ := h
  have el : ∀ k, k < 116 → mZer w 64 k = w k := fun k hk => mZer_o (by omega)
  have e0 : aPe (mZer w 64) = aPe w := el 0 (by omega)
  have eo : ∀ r k, r < 8 → k < 13 → aOf (mZer w 64) r k = aOf w r k := fun r k h1 h2 => el _ (by omega)
  have es := h2 s (by omega) (by omega)
  refine ⟨by rw [e0, es]; exact r0, by rw [e0]; exact r1, fun r r0 r1 => ?_, fun a b a0 a1 b0 b1 => ?_, ?_, by rw [es, el 4 (by omega)]; exact r9, by rw [es, el 5 (by omega)]; exact r10, by rw [es, el 6 (by omega)]; exact r11, by rw [es, el 7 (by omega)]; exact r12, by rw [es, el 3 (by omega)]; exact r13, by rw [es, el 11 (by omega)]; exact r14, by rw [es, el 1 (by omega)]; exact r15, ?_, by rw [es, el 8 (by omega)]; exact r17⟩
  · rw [e0] at r1
    obtain ⟨i0, i1, i2, i3, i4, i5, i6⟩ := rP r r0 r1
    unfold RpP
    rw [eo r 0 (by omega) (by omega), eo r 1 (by omega) (by omega), eo r 2 (by omega) (by omega), eo r 3 (by omega) (by omega), eo r 4 (by omega) (by omega), eo r 5 (by omega) (by omega), h2 (s + 1) (by omega) (by omega), h2 (s + 2) (by omega) (by omega), h2 (s + 3) (by omega) (by omega), h2 (s + 4) (by omega) (by omega), h2 (s + 5) (by omega) (by omega), h2 (s + 6) (by omega) (by omega), es]
    exact ⟨i0, i1, i2, i3, i4, i5, fun k k0 k1 => by rw [eo r _ (by omega) (by omega)]; exact i6 k k0 k1⟩
  · rw [e0] at a1 b1
    rw [h1 _ (by omega) (by omega), show aOw (mZer w 64) a b = 0 from mZer_i (by omega)]
  · rw [es, rA, mAlive_cong e0 (fun q q0 q1 => eo q 3 (by omega) (by omega))]
  · rw [e0]
    exact ⟨fun y y0 y1 => by rw [h2 (s + 3) (by omega) (by omega), h2 (s + 4) (by omega) (by omega), h2 (s + 6) (by omega) (by omega)]; exact r16.1 y y0 y1, fun a b a0 a1 b0 b1 _ => h1 _ (by omega) (by omega)⟩
theorem sc_settle2 (hsh : ShOK sh) (hfx : FxOK F) (hs : StAt sh F s) (hs9 : s + 9 < 154) (hR : Rp I s w) {B : Int} (hB : B ≤ 900000000) (hO : OKw B w) : jS G (d + 2) mX4_settle [jR (some 166), jR (some s)] (sh, I, F) 0 0 (rEI (vNet w) sh F (fun J => Rp J s (wNet w) ∧ ∀ a, a ≠ s + 7 → a ≠ 167 → J a = I a)) := by
  obtain ⟨g0, g1, g2, g3, g4, g5, g6, g7, g8, g9, e1, e2, e3, e4, e5, e6, e7, e8, e9⟩ := id hs
  obtain ⟨o1, o2, o3, o4, o5, o6, o7⟩ := hO
  have r1 := hR.2.1
  have ji : ∀ p, 0 ≤ p → p < aPe w → jin (mNet w p) := fun p p0 p1 => by
    have hO := nOK_0 (m := (aPe w - 1).toNat) (by omega) o6 o7
    have := nOK_in hO p p0 (by omega)
    have e : nN w p = mNet w p := rfl
    omega
  refine jS_go [some (jR (some 166)), some (jR (some s)), none, none, none, none] (by decide +kernel) rfl (by simp [jone]) (Nat.le_of_ble_eq_true rfl) rfl (fun hok => ?_)
  generalize hQ : rEI (vNet w) sh F (fun J => Rp J s (wNet w) ∧ ∀ a, a ≠ s + 7 → a ≠ 167 → J a = I a) = Q9
  refine j_aload_n dX4_settle_0 rfl ?_
  refine j_aload_n dX4_settle_1 rfl ?_
  refine r_cv1EV dX4_settle_2 cvX4_21 (by decide) (by first | assumption | exact hsh _ _ rfl) (Nat.le_of_ble_eq_true rfl) (Nat.le_of_eq (Nat.zero_add _)) (Nat.le_of_eq (Nat.zero_add _)) (sc_findNets hsh hfx hs hs9 hR ji) (fun J0 hJ0 => ?_)
  refine j_aload_n dX4_settle_5 rfl ?_
  refine r_getS dX4_settle_6 flX4_41 (by first | assumption | exact hsh _ _ rfl) (by assumption) ?_
  refine j_iconst dX4_settle_9 ?_
  refine r_cs2EV dX4_settle_10 csX4_44 (Nat.le_of_ble_eq_true rfl) (Nat.le_of_eq (Nat.zero_add _)) (Nat.le_of_eq (Nat.zero_add _)) (sj_fill g7 (by decide) (v := 0) (by decide)) (fun J1 hJ1 => ?_)
  refine j_iconst dX4_settle_13 ?_
  refine j_istore_n dX4_settle_14 (by decide) ?_
  skip
  have hR1 : Rp J1 s (mZer w 64) := Rp_zer (Rp_fr hR (fun a a0 a1 => hJ0.2 a (by omega))) hJ1.1 (fun a a0 a1 => hJ1.2 a (by omega))
  have fr1 : ∀ a, a ≠ s + 7 → a ≠ 167 → J1 a = I a := fun a h1 h2 => (hJ1.2 a h1).trans (hJ0.2 a h2)
  have n1 : ∀ p, 0 ≤ p → p < aPe w → J1 167 p = nN w p := fun p p0 p1 => by rw [hJ1.2 167 (by omega)]; exact hJ0.1 p p0 p1
  by_cases e : aPe w ≤ 0
  · have hv : vNet w = 0 := if_pos e
    have hwn : wNet w = mZer w 64 := if_pos e
    have q0 : J1 s 0 = 0 := by rw [hR1.1, show aPe (mZer w 64) = aPe w from mZer_o (by omega)]; omega
    refine j_iload_n dX4_settle_15 rfl ?_
    refine j_bipush dX4_settle_16 (by decide) ?_
    refine j_icmp_ge (tgt := 174) dX4_settle_18 rfl (by first | omega | (split <;> omega)) (by first | omega | (split <;> omega)) (fun c_18 => by exact absurd c_18 (by decide)) (fun c_18 => ?_)
    refine j_iconst dX4_settle_21 ?_
    refine j_istore_n dX4_settle_22 (by decide) ?_
    refine j_iconst dX4_settle_23 ?_
    refine j_istore dX4_settle_24 (by decide) ?_
    refine j_iconst dX4_settle_26 ?_
    refine j_istore dX4_settle_27 (by decide) ?_
    refine j_iload dX4_settle_29 rfl ?_
    refine j_aload_n dX4_settle_31 rfl ?_
    refine r_getIE dX4_settle_32 flX4_31 (by first | assumption | exact hsh _ _ rfl) q0 (fun b_32 => ?_)
    refine j_icmp_ge (tgt := 93) dX4_settle_35 rfl (by first | omega | (split <;> omega)) (by first | omega | (split <;> omega)) (fun c_35 => ?_) (fun c_35 => by exact absurd (by decide) c_35)
    refine j_aload_n dX4_settle_93 rfl ?_
    refine r_getIE dX4_settle_94 flX4_31 (by first | assumption | exact hsh _ _ rfl) q0 (fun b_94 => ?_)
    refine j_if_eq (tgt := 110) dX4_settle_97 rfl (by first | omega | (split <;> omega)) (fun c_97 => ?_) (fun c_97 => by exact absurd rfl c_97)
    refine j_iload_n dX4_settle_110 rfl ?_
    refine j_iret dX4_settle_111 rfl ?_
    rw [← hQ]
    exact rEI_of hv.symm ⟨by rw [hwn]; exact hR1, fr1⟩
  · obtain ⟨m, hm⟩ : ∃ m : Nat, aPe w = m + 1 := ⟨(aPe w - 1).toNat, by omega⟩
    have em : (aPe w - 1).toNat = m := by omega
    have hm7 : m ≤ 7 := by omega
    have hN := nOK_0 hm o6 o7
    have hv : vNet w = nK m (nN w, mZer w 64) := by unfold vNet; rw [if_neg e, em]
    have hwn : wNet w = (nIt m (nN w, mZer w 64) (nK m (nN w, mZer w 64)).toNat).2 := by unfold wNet; rw [if_neg e, em]
    have key : ∀ (m2 : Nat) (z : Int) (J : Nat → Int → Int) (S : nS) (o3 o4 o5 : Option jzV), z + m2 = 8 → 0 ≤ z → S = nIt m (nN w, mZer w 64) z.toNat → (∀ j : Nat, (j : Int) < z → 0 < nPay (nIt m (nN w, mZer w 64) j).1 m) → Rp J s S.2 → (∀ p, 0 ≤ p → p < aPe w → J 167 p = S.1 p) → (∀ a, a ≠ s + 7 → a ≠ 167 → J a = I a) → jW G mX4_settle (d + 2) Q9 15 [some (jR (some 166)), some (jR (some s)), some (jI z), o3, o4, o5] [] (sh, J, F) 0 0 := by
      intro m2
      induction m2 with
      | zero =>
        intro z J S o3 o4 o5 hz hz0 hS hj hRJ hn hfr
        have hK : nK m (nN w, mZer w 64) = 8 := by
          obtain ⟨k1, k2, k3⟩ := nK_ok hm7 (S := (nN w, mZer w 64)) hN
          by_cases c : nK m (nN w, mZer w 64) < 8
          · have := hj (nK m (nN w, mZer w 64)).toNat (by omega); omega
          · omega
        have ez : z = 8 := by omega
        subst ez
        refine j_iload_n dX4_settle_15 rfl ?_
        refine j_bipush dX4_settle_16 (by decide) ?_
        refine j_icmp_ge (tgt := 174) dX4_settle_18 rfl (by first | omega | (split <;> omega)) (by first | omega | (split <;> omega)) (fun c_18 => ?_) (fun c_18 => by exact absurd (by decide) c_18)
        refine j_bipush dX4_settle_174 (by decide) ?_
        refine j_iret dX4_settle_176 rfl ?_
        rw [← hQ]
        exact rEI_of (by rw [hv, hK]) ⟨by rw [hwn, hK, ← hS]; exact hRJ, hfr⟩
      | succ m2 ih =>
        intro z J S o3 o4 o5 hz hz0 hS hj hRJ hn hfr
        have hO := (nIt_ok hm7 (S := (nN w, mZer w 64)) hN z.toNat (fun j hj2 => hj j (by omega))).1
        rw [← hS] at hO
        have hin := nOK_in hO
        have r0 : J s 0 = aPe w := by rw [hfr s (by omega) (by omega)]; exact hR.1
        have hw8 := nIt_w hm7 hm hN z.toNat (fun j hj2 => hj j (by omega))
        rw [← hS] at hw8
        have eP : aPe S.2 = aPe w := hw8.1 0 (by omega)
        have inn : ∀ (m3 : Nat) (x : Int), x + m3 = m → 0 ≤ x → jW G mX4_settle (d + 2) Q9 29 [some (jR (some 166)), some (jR (some s)), some (jI z), some (jI (nFrom S.1 x.toNat)), some (jI (nTo S.1 x.toNat)), some (jI (x + 1))] [] (sh, J, F) 0 0 := by
          intro m3
          induction m3 with
          | zero =>
            intro x hx hx0
            have ex : x.toNat = m := by omega
            rw [ex]
            have hf := (nFrom_ok S.1 m).1
            have ht := (nTo_ok S.1 m).1
            have bF := hin (nFrom S.1 m) hf.1 hf.2
            have bT := hin (nTo S.1 m) ht.1 ht.2
            have qF := hn (nFrom S.1 m) hf.1 (by omega)
            have qT := hn (nTo S.1 m) ht.1 (by omega)
            by_cases c : S.1 (nTo S.1 m) ≤ 0
            · have hK := nK_eq hm7 (S := (nN w, mZer w 64)) hN hz0 hj (by rw [← hS]; exact (nPay_iff hO).2 c)
              refine j_iload dX4_settle_29 rfl ?_
              refine j_aload_n dX4_settle_31 rfl ?_
              refine r_getIE dX4_settle_32 flX4_31 (by first | assumption | exact hsh _ _ rfl) r0 (fun b_32 => ?_)
              refine j_icmp_ge (tgt := 93) dX4_settle_35 rfl (by first | omega | (split <;> omega)) (by first | omega | (split <;> omega)) (fun c_35 => ?_) (fun c_35 => by exact absurd (by omega) c_35)
              refine j_aload_n dX4_settle_93 rfl ?_
              refine r_getIE dX4_settle_94 flX4_31 (by first | assumption | exact hsh _ _ rfl) r0 (fun b_94 => ?_)
              refine j_if_eq (tgt := 110) dX4_settle_97 rfl (by first | omega | (split <;> omega)) (fun c_97 => by exact absurd c_97 (by omega)) (fun c_97 => ?_)
              refine j_aload_n dX4_settle_100 rfl ?_
              refine r_getS dX4_settle_101 flX4_9 (by first | assumption | exact hsh _ _ rfl) (fx_166_0 hfx) ?_
              refine j_iload dX4_settle_104 rfl ?_
              refine r_ialoadE dX4_settle_106 (by first | assumption | exact hsh _ _ rfl) (by first | omega | (split <;> omega)) (by first | omega | (split <;> omega)) qT (fun b_106 => ?_)
              refine j_if_gt (tgt := 112) dX4_settle_107 rfl (by first | omega | (split <;> omega)) (fun c_107 => by exact absurd c_107 (by omega)) (fun c_107 => ?_)
              refine j_iload_n dX4_settle_110 rfl ?_
              refine j_iret dX4_settle_111 rfl ?_
              rw [← hQ]
              exact rEI_of (by rw [hv, hK]) ⟨by rw [hwn, hK, ← hS]; exact hRJ, hfr⟩
            · have hp : 0 < nPay S.1 m := by have := (nPay_iff hO).1; omega
              have hp2 : nPay S.1 m = min (-(S.1 (nFrom S.1 m))) (S.1 (nTo S.1 m)) := rfl
              have hne : nTo S.1 m ≠ nFrom S.1 m := fun q => by rw [q] at hp2; omega
              have hstep : nIt m (nN w, mZer w 64) (z + 1).toNat = nStep m S := by rw [hS]; exact nIt_s _ _ hz0
              obtain ⟨K1, hK1⟩ : ∃ K, K = jup J 167 (nFrom S.1 m) (S.1 (nFrom S.1 m) + nPay S.1 m) := ⟨_, rfl⟩
              have q149 : K1 167 (nTo S.1 m) = S.1 (nTo S.1 m) := by rw [hK1, jup_row _ _ _ hne]; exact qT
              obtain ⟨K2, hK2⟩ : ∃ K, K = jup K1 167 (nTo S.1 m) (S.1 (nTo S.1 m) - nPay S.1 m) := ⟨_, rfl⟩
              have f2 : ∀ a, a ≠ 167 → K2 a = J a := fun a ha => by rw [hK2, jup_ne _ _ _ ha, hK1, jup_ne _ _ _ ha]
              have hRK : Rp K2 s S.2 := Rp_fr hRJ (fun a a0 a1 => f2 a (by omega))
              have hRK2 := Rp_ow (x := nPay S.1 m) hRK (p := nFrom S.1 m) (q := nTo S.1 m) (by omega) (by omega)
              have ih2 := fun o3 o4 o5 => ih (z + 1) (jup K2 (s + 7) (nFrom S.1 m * 8 + nTo S.1 m) (nPay S.1 m)) (nStep m S) o3 o4 o5 (by omega) (by omega) hstep.symm (fun j hj2 => by
                by_cases ej : (j : Int) = z
                · rw [show j = z.toNat by omega, ← hS]; exact hp
                · exact hj j (by omega)) hRK2 (fun p p0 p1 => by
                rw [jup_ne _ _ _ (by omega), hK2]
                show jup K1 167 _ _ 167 p = wup (wup S.1 _ _) _ _ p
                by_cases ep : p = nTo S.1 m
                · subst ep; rw [jup_same, wup_same]
                · rw [jup_row _ _ _ ep, wup_ne _ _ ep, hK1]
                  by_cases ep2 : p = nFrom S.1 m
                  · subst ep2; rw [jup_same, wup_same]
                  · rw [jup_row _ _ _ ep2, wup_ne _ _ ep2]; exact hn p p0 p1) (fun a h1 h2 => by rw [jup_ne _ _ _ h1, f2 a h2]; exact hfr a h1 h2)
              refine j_iload dX4_settle_29 rfl ?_
              refine j_aload_n dX4_settle_31 rfl ?_
              refine r_getIE dX4_settle_32 flX4_31 (by first | assumption | exact hsh _ _ rfl) r0 (fun b_32 => ?_)
              refine j_icmp_ge (tgt := 93) dX4_settle_35 rfl (by first | omega | (split <;> omega)) (by first | omega | (split <;> omega)) (fun c_35 => ?_) (fun c_35 => by exact absurd (by omega) c_35)
              refine j_aload_n dX4_settle_93 rfl ?_
              refine r_getIE dX4_settle_94 flX4_31 (by first | assumption | exact hsh _ _ rfl) r0 (fun b_94 => ?_)
              refine j_if_eq (tgt := 110) dX4_settle_97 rfl (by first | omega | (split <;> omega)) (fun c_97 => by exact absurd c_97 (by omega)) (fun c_97 => ?_)
              refine j_aload_n dX4_settle_100 rfl ?_
              refine r_getS dX4_settle_101 flX4_9 (by first | assumption | exact hsh _ _ rfl) (fx_166_0 hfx) ?_
              refine j_iload dX4_settle_104 rfl ?_
              refine r_ialoadE dX4_settle_106 (by first | assumption | exact hsh _ _ rfl) (by first | omega | (split <;> omega)) (by first | omega | (split <;> omega)) qT (fun b_106 => ?_)
              refine j_if_gt (tgt := 112) dX4_settle_107 rfl (by first | omega | (split <;> omega)) (fun c_107 => ?_) (fun c_107 => by exact absurd (by omega) c_107)
              refine j_aload_n dX4_settle_112 rfl ?_
              refine r_getS dX4_settle_113 flX4_9 (by first | assumption | exact hsh _ _ rfl) (fx_166_0 hfx) ?_
              refine j_iload_n dX4_settle_116 rfl ?_
              refine r_ialoadE dX4_settle_117 (by first | assumption | exact hsh _ _ rfl) (by first | omega | (split <;> omega)) (by first | omega | (split <;> omega)) qF (fun b_117 => ?_)
              refine j_ineg dX4_settle_118 ?_
              refine j_aload_n dX4_settle_119 rfl ?_
              refine r_getS dX4_settle_120 flX4_9 (by first | assumption | exact hsh _ _ rfl) (fx_166_0 hfx) ?_
              refine j_iload dX4_settle_123 rfl ?_
              refine r_ialoadE dX4_settle_125 (by first | assumption | exact hsh _ _ rfl) (by first | omega | (split <;> omega)) (by first | omega | (split <;> omega)) qT (fun b_125 => ?_)
              refine r_min dX4_settle_126 lmX4_50 (Nat.le_of_ble_eq_true rfl) (by first | omega | (split <;> omega)) (by first | omega | (split <;> omega)) ?_
              rw [← hp2]
              refine j_istore dX4_settle_129 (by decide) ?_
              refine j_aload_n dX4_settle_131 rfl ?_
              refine r_getS dX4_settle_132 flX4_9 (by first | assumption | exact hsh _ _ rfl) (fx_166_0 hfx) ?_
              refine j_iload_n dX4_settle_135 rfl ?_
              refine j_dup2 dX4_settle_136 trivial trivial ?_
              refine r_ialoadE dX4_settle_137 (by first | assumption | exact hsh _ _ rfl) (by first | omega | (split <;> omega)) (by first | omega | (split <;> omega)) qF (fun b_137 => ?_)
              refine j_iload dX4_settle_138 rfl ?_
              refine j_iadd dX4_settle_140 ?_
              refine r_iastore dX4_settle_141 (by first | assumption | exact hsh _ _ rfl) (by first | omega | (split <;> omega)) (by first | omega | (split <;> omega)) (by first | omega | (split <;> omega)) ?_
              rw [← hK1]
              refine j_aload_n dX4_settle_142 rfl ?_
              refine r_getS dX4_settle_143 flX4_9 (by first | assumption | exact hsh _ _ rfl) (fx_166_0 hfx) ?_
              refine j_iload dX4_settle_146 rfl ?_
              refine j_dup2 dX4_settle_148 trivial trivial ?_
              refine r_ialoadE dX4_settle_149 (by first | assumption | exact hsh _ _ rfl) (by first | omega | (split <;> omega)) (by first | omega | (split <;> omega)) q149 (fun b_149 => ?_)
              refine j_iload dX4_settle_150 rfl ?_
              refine j_isub dX4_settle_152 ?_
              refine r_iastore dX4_settle_153 (by first | assumption | exact hsh _ _ rfl) (by first | omega | (split <;> omega)) (by first | omega | (split <;> omega)) (by first | omega | (split <;> omega)) ?_
              rw [← hK2]
              refine j_aload_n dX4_settle_154 rfl ?_
              refine r_getS dX4_settle_155 flX4_41 (by first | assumption | exact hsh _ _ rfl) (by assumption) ?_
              refine j_iload_n dX4_settle_158 rfl ?_
              refine j_bipush dX4_settle_159 (by decide) ?_
              refine j_imul dX4_settle_161 ?_
              refine j_iload dX4_settle_162 rfl ?_
              refine j_iadd dX4_settle_164 ?_
              refine j_iload dX4_settle_165 rfl ?_
              refine r_iastore dX4_settle_167 (by first | assumption | exact hsh _ _ rfl) (by first | omega | (split <;> omega)) (by first | omega | (split <;> omega)) (by first | omega | (split <;> omega)) ?_
              refine j_iinc dX4_settle_168 rfl (by decide) ?_
              refine j_goto (tgt := 15) dX4_settle_171 rfl ?_
              exact ih2 _ _ _
          | succ m3 ih3 =>
            intro x hx hx0
            have hf := (nFrom_ok S.1 x.toNat).1
            have ht := (nTo_ok S.1 x.toNat).1
            have bF := hin (nFrom S.1 x.toNat) hf.1 (by omega)
            have bT := hin (nTo S.1 x.toNat) ht.1 (by omega)
            have bX := hin (x + 1) (by omega) (by omega)
            have qF := hn (nFrom S.1 x.toNat) hf.1 (by omega)
            have qT := hn (nTo S.1 x.toNat) ht.1 (by omega)
            have qX := hn (x + 1) (by omega) (by omega)
            have ih4 := ih3 (x + 1) (by omega) (by omega)
            rw [nFrom_s hx0, nTo_s hx0] at ih4
            refine j_iload dX4_settle_29 rfl ?_
            refine j_aload_n dX4_settle_31 rfl ?_
            refine r_getIE dX4_settle_32 flX4_31 (by first | assumption | exact hsh _ _ rfl) r0 (fun b_32 => ?_)
            refine j_icmp_ge (tgt := 93) dX4_settle_35 rfl (by first | omega | (split <;> omega)) (by first | omega | (split <;> omega)) (fun c_35 => by exact absurd c_35 (by omega)) (fun c_35 => ?_)
            refine j_aload_n dX4_settle_38 rfl ?_
            refine r_getS dX4_settle_39 flX4_9 (by first | assumption | exact hsh _ _ rfl) (fx_166_0 hfx) ?_
            refine j_iload dX4_settle_42 rfl ?_
            refine r_ialoadE dX4_settle_44 (by first | assumption | exact hsh _ _ rfl) (by first | omega | (split <;> omega)) (by first | omega | (split <;> omega)) qX (fun b_44 => ?_)
            refine j_aload_n dX4_settle_45 rfl ?_
            refine r_getS dX4_settle_46 flX4_9 (by first | assumption | exact hsh _ _ rfl) (fx_166_0 hfx) ?_
            refine j_iload_n dX4_settle_49 rfl ?_
            refine r_ialoadE dX4_settle_50 (by first | assumption | exact hsh _ _ rfl) (by first | omega | (split <;> omega)) (by first | omega | (split <;> omega)) qF (fun b_50 => ?_)
            refine j_icmp_ge (tgt := 59) dX4_settle_51 rfl (by first | omega | (split <;> omega)) (by first | omega | (split <;> omega)) (fun c_51 => ?_) (fun c_51 => ?_)
            · rw [if_neg (by omega)] at ih4
              refine j_iload_n dX4_settle_59 rfl ?_
              refine j_istore_n dX4_settle_60 (by decide) ?_
              refine j_aload_n dX4_settle_61 rfl ?_
              refine r_getS dX4_settle_62 flX4_9 (by first | assumption | exact hsh _ _ rfl) (fx_166_0 hfx) ?_
              refine j_iload dX4_settle_65 rfl ?_
              refine r_ialoadE dX4_settle_67 (by first | assumption | exact hsh _ _ rfl) (by first | omega | (split <;> omega)) (by first | omega | (split <;> omega)) qX (fun b_67 => ?_)
              refine j_aload_n dX4_settle_68 rfl ?_
              refine r_getS dX4_settle_69 flX4_9 (by first | assumption | exact hsh _ _ rfl) (fx_166_0 hfx) ?_
              refine j_iload dX4_settle_72 rfl ?_
              refine r_ialoadE dX4_settle_74 (by first | assumption | exact hsh _ _ rfl) (by first | omega | (split <;> omega)) (by first | omega | (split <;> omega)) qT (fun b_74 => ?_)
              refine j_icmp_le (tgt := 83) dX4_settle_75 rfl (by first | omega | (split <;> omega)) (by first | omega | (split <;> omega)) (fun c_75 => ?_) (fun c_75 => ?_)
              · rw [if_neg (show ¬ S.1 (nTo S.1 x.toNat) < S.1 (x + 1) by omega)] at ih4
                refine j_iload dX4_settle_83 rfl ?_
                refine j_istore dX4_settle_85 (by decide) ?_
                refine j_iinc dX4_settle_87 rfl (by decide) ?_
                refine j_goto (tgt := 29) dX4_settle_90 rfl ?_
                exact ih4
              · rw [if_pos (show S.1 (nTo S.1 x.toNat) < S.1 (x + 1) by omega)] at ih4
                refine j_iload dX4_settle_78 rfl ?_
                refine j_goto (tgt := 85) dX4_settle_80 rfl ?_
                refine j_istore dX4_settle_85 (by decide) ?_
                refine j_iinc dX4_settle_87 rfl (by decide) ?_
                refine j_goto (tgt := 29) dX4_settle_90 rfl ?_
                exact ih4
            · rw [if_pos (by omega)] at ih4
              refine j_iload dX4_settle_54 rfl ?_
              refine j_goto (tgt := 60) dX4_settle_56 rfl ?_
              refine j_istore_n dX4_settle_60 (by decide) ?_
              refine j_aload_n dX4_settle_61 rfl ?_
              refine r_getS dX4_settle_62 flX4_9 (by first | assumption | exact hsh _ _ rfl) (fx_166_0 hfx) ?_
              refine j_iload dX4_settle_65 rfl ?_
              refine r_ialoadE dX4_settle_67 (by first | assumption | exact hsh _ _ rfl) (by first | omega | (split <;> omega)) (by first | omega | (split <;> omega)) qX (fun b_67 => ?_)
              refine j_aload_n dX4_settle_68 rfl ?_
              refine r_getS dX4_settle_69 flX4_9 (by first | assumption | exact hsh _ _ rfl) (fx_166_0 hfx) ?_
              refine j_iload dX4_settle_72 rfl ?_
              refine r_ialoadE dX4_settle_74 (by first | assumption | exact hsh _ _ rfl) (by first | omega | (split <;> omega)) (by first | omega | (split <;> omega)) qT (fun b_74 => ?_)
              refine j_icmp_le (tgt := 83) dX4_settle_75 rfl (by first | omega | (split <;> omega)) (by first | omega | (split <;> omega)) (fun c_75 => ?_) (fun c_75 => ?_)
              · rw [if_neg (show ¬ S.1 (nTo S.1 x.toNat) < S.1 (x + 1) by omega)] at ih4
                refine j_iload dX4_settle_83 rfl ?_
                refine j_istore dX4_settle_85 (by decide) ?_
                refine j_iinc dX4_settle_87 rfl (by decide) ?_
                refine j_goto (tgt := 29) dX4_settle_90 rfl ?_
                exact ih4
              · rw [if_pos (show S.1 (nTo S.1 x.toNat) < S.1 (x + 1) by omega)] at ih4
                refine j_iload dX4_settle_78 rfl ?_
                refine j_goto (tgt := 85) dX4_settle_80 rfl ?_
                refine j_istore dX4_settle_85 (by decide) ?_
                refine j_iinc dX4_settle_87 rfl (by decide) ?_
                refine j_goto (tgt := 29) dX4_settle_90 rfl ?_
                exact ih4
        refine j_iload_n dX4_settle_15 rfl ?_
        refine j_bipush dX4_settle_16 (by decide) ?_
        refine j_icmp_ge (tgt := 174) dX4_settle_18 rfl (by first | omega | (split <;> omega)) (by first | omega | (split <;> omega)) (fun c_18 => by exact absurd c_18 (by omega)) (fun c_18 => ?_)
        refine j_iconst dX4_settle_21 ?_
        refine j_istore_n dX4_settle_22 (by decide) ?_
        refine j_iconst dX4_settle_23 ?_
        refine j_istore dX4_settle_24 (by decide) ?_
        refine j_iconst dX4_settle_26 ?_
        refine j_istore dX4_settle_27 (by decide) ?_
        exact inn m 0 (by omega) (by omega)
    exact key 8 0 J1 _ none none none (by omega) (by omega) rfl (fun j hj => by omega) hR1 n1 fr1
theorem cp_net (hP : Pl sh F) (hC : CR sh I F M) (hw : M 171 = w) {B : Int} (hB : B ≤ 900000000) (hO : OKw B w) : jS G (d + 6) mX11_net [jR (some 0)] (sh, I, F) 0 0 (rHI (vNet w) sh (CaO sh I (mzW (mzR M) (wNet w)))) := by
  obtain ⟨hsh, hfx, hmm, hst, h12, h22⟩ := id hP
  have hO2 := (wNet_ok hO).2
  refine jS_go [some (jR (some 0))] (by decide +kernel) rfl (by simp [jone]) (Nat.le_of_ble_eq_true rfl) rfl (fun hok => ?_)
  refine j_aload_n dX11_net_0 rfl ?_
  refine r_getS dX11_net_1 flX11_33 (by first | assumption | exact hsh _ _ rfl) (fx_0_7 hfx) ?_
  refine j_aload_n dX11_net_4 rfl ?_
  refine r_getS dX11_net_5 flX11_20 (by first | assumption | exact hsh _ _ rfl) (fx_0_3 hfx) ?_
  refine r_cv1HV dX11_net_8 cvX11_199 (by decide) (by first | assumption | exact hsh _ _ rfl) (Nat.le_of_ble_eq_true rfl) (Nat.le_of_eq (Nat.zero_add _)) (Nat.le_of_eq (Nat.zero_add _)) (cr_remember hP hC (by rw [hw]; exact hO.1)) (fun J F1 hJ => ?_)
  obtain ⟨-, hfx, -, hst1, -, -⟩ := id hJ.1
  obtain ⟨g0, -⟩ := id hst1
  have hS1 : Sr sh J F1 2 w := by rw [← hw]; exact hJ.2.1.1
  refine j_aload_n dX11_net_11 rfl ?_
  refine r_getS dX11_net_12 flX11_61 (by first | assumption | exact hsh _ _ rfl) (fx_0_11 hfx) ?_
  refine j_aload_n dX11_net_15 rfl ?_
  refine r_getS dX11_net_16 flX11_20 (by first | assumption | exact hsh _ _ rfl) (fx_0_3 hfx) ?_
  refine r_cv1EI dX11_net_19 cvX11_215 (by decide) (by first | assumption | exact hsh _ _ rfl) (Nat.le_of_ble_eq_true rfl) (Nat.le_of_eq (Nat.zero_add _)) (Nat.le_of_eq (Nat.zero_add _)) (sc_settle2 hsh hfx hst1 (by decide) hS1.1 hB hO) (fun K hK => ?_)
  refine j_iret dX11_net_22 rfl ?_
  refine ⟨K, F1, rfl, rfl, hJ.1, ?_, fun a ha => (hK.2 a (by omega) (by omega)).trans (hJ.2.2.2.1 a (by omega))⟩
  have hS2 : Sr sh K F1 2 (wNet w) := ⟨hK.1, Lg_w (Lg_fr hS1.2.1 (hK.2 _ (by decide) (by decide)) (hK.2 _ (by decide) (by decide))) (fun k hk => hO2 k (by omega)), by rw [hK.2 2 (by decide) (by decide), hO2 9 (by omega)]; exact hS1.2.2.1, LwR_w (LwR_fr hS1.2.2.2 (fun a ha => hK.2 a (by omega) (by omega))) (hO2 2 (by omega)) (fun k hk => hO2 k (by omega))⟩
  have hC2 := CR_now2 hJ.2.1 hS2 (fun a x0 x1 => hK.2 a (by omega) (by omega)) (fun k hk => (hO2 k (by omega)).trans (by rw [mzR_171, hw]))
  exact hC2
/-! ### the model -/
theorem mp_net (hsh : ShOK sh) (hfx : FxOK F) (hr : 0 ≤ I 170 7 ∧ I 170 7 ≤ 12) {B : Int} (hB : B ≤ 900000000) (hO : OKw B (I 171)) : jS G (d + 6) mX12_net [jR (some 170)] (sh, I, F) 0 0 (rEI (vNet (I 171)) sh F (AcO 0 I (mzW (mzR I) (wNet (I 171))))) := by
  obtain ⟨o1, o2, o3, o4, o5, o6, o7⟩ := hO
  have r1 := o1.1
  obtain ⟨w, hw⟩ : ∃ w, I 171 = w := ⟨_, rfl⟩
  rw [hw] at o1 o2 o3 o4 o5 o6 o7 r1 ⊢
  have ji : ∀ p, 0 ≤ p → p < aPe w → jin (mNet w p) := fun p p0 p1 => by
    have hO := nOK_0 (m := (aPe w - 1).toNat) (by omega) o6 o7
    have := nOK_in hO p p0 (by omega)
    have e : nN w p = mNet w p := rfl
    omega
  refine jS_go [some (jR (some 170)), none, none, none, none, none] (by decide +kernel) rfl (by simp [jone]) (Nat.le_of_ble_eq_true rfl) rfl (fun hok => ?_)
  refine j_aload_n dX12_net_0 rfl ?_
  refine j_iconst dX12_net_1 ?_
  refine r_putI dX12_net_2 flX12_3 rfl (by first | assumption | exact hsh _ _ rfl) (by first | omega | (split <;> omega)) (fun q => by cases q) ?_
  skip
  have hok1 : jzok (sh, jup I 170 0 0, F) := jzok_I hok jin_lit0
  obtain ⟨I1, hI1⟩ : ∃ J, J = jup I 170 0 0 := ⟨_, rfl⟩
  rw [← hI1] at hok1 ⊢
  have hok0 := hok
  clear hok
  have hok := hok1
  have fr1 : ∀ a, a ≠ 170 → I1 a = I a := fun a ha => by rw [hI1, jup_ne _ _ _ ha]
  have fr1k : ∀ k, k ≠ 0 → I1 170 k = I 170 k := fun k hk => by rw [hI1, jup_row _ _ _ hk]
  have fr1c : I1 170 0 = 0 := by rw [hI1, jup_same]
  have hw0 : I1 171 = I 171 := fr1 171 (by decide)
  have hr7 : I1 170 7 = I 170 7 := fr1k 7 (by decide)
  generalize hQ : rEI (vNet w) sh F (AcO 0 I (mzW (mzR I) (wNet w))) = Q9
  have sl := fun (J : Nat → Int → Int) (h : J 171 = w) => sm_laysNets (G := G) (d := d + 2) (F := F) (I := J) hsh hfx (by rw [h]; exact r1) (by rw [h]; exact ji)
  refine j_aload_n dX12_net_5 rfl ?_
  refine r_cv0EV dX12_net_6 cvX12_356 (by decide) (by first | assumption | exact hsh _ _ rfl) (Nat.le_of_ble_eq_true rfl) (Nat.le_of_eq (Nat.zero_add _)) (Nat.le_of_eq (Nat.zero_add _)) (sm_remembers hsh hfx hr7 hr) (fun J hJ => ?_)
  have eJ : J 171 = w := (hJ.2.2.1 171 (by decide) (by decide)).trans ((fr1 171 (by decide)).trans hw)
  have sl2 := sl J eJ
  rw [eJ] at sl2
  refine j_aload_n dX12_net_9 rfl ?_
  refine r_cv0EV dX12_net_10 cvX12_359 (by decide) (by first | assumption | exact hsh _ _ rfl) (Nat.le_of_ble_eq_true rfl) (Nat.le_of_eq (Nat.zero_add _)) (Nat.le_of_eq (Nat.zero_add _)) (sl2) (fun J0 hJ0 => ?_)
  refine j_iconst dX12_net_13 ?_
  refine j_istore_n dX12_net_14 (by decide) ?_
  skip
  have e0 : J0 171 = w := (hJ0.2 171 (by decide)).trans eJ
  have fin : ∀ (K : Nat → Int → Int), K 171 = wNet w → (∀ a, a ≠ 171 → a ≠ 182 → K a = J a) → AcO 0 I (mzW (mzR I) (wNet w)) K := fun K h1 h2 => by
    have h3 := Ac_of (K := fun a => if a = 171 then wNet w else J a) (w := wNet w) fr1 fr1k fr1c hJ (fun a ha => if_neg ha) (if_pos rfl)
    obtain ⟨c1, ⟨c2, c3, c4, c5, c6, c7, c8, c9⟩, c10⟩ := h3
    refine ⟨by rw [h2 170 (by decide) (by decide)]; exact c1, ⟨h1, by rw [h2 172 (by decide) (by decide)]; exact c3, by rw [h2 175 (by decide) (by decide)]; exact c4, by rw [h2 176 (by decide) (by decide)]; exact c5, by rw [h2 170 (by decide) (by decide)]; exact c6, by rw [h2 170 (by decide) (by decide)]; exact c7, by rw [h2 170 (by decide) (by decide)]; exact c8, by rw [h2 170 (by decide) (by decide)]; exact c9⟩, fun a ha => ?_⟩
    rw [h2 a (by omega) (by omega)]
    have t9 : (if a = 171 then wNet w else J a) = I a := c10 a ha
    rw [if_neg (by omega)] at t9
    exact t9
  -- all rows are emptied
  have zer : ∀ (m2 : Nat) (z : Int) (K : Nat → Int → Int), z + m2 = 64 → 0 ≤ z → K 171 = mZer w z → (∀ a, a ≠ 171 → K a = J0 a) → (∀ K : Nat → Int → Int, K 171 = mZer w 64 → (∀ a, a ≠ 171 → K a = J0 a) → jW G mX12_net (d + 6) Q9 37 [some (jR (some 170)), some (jI 64), none, none, none, none] [] (sh, K, F) 0 0) → jW G mX12_net (d + 6) Q9 15 [some (jR (some 170)), some (jI z), none, none, none, none] [] (sh, K, F) 0 0 := by
    intro m2
    induction m2 with
    | zero =>
      intro z K hz hz0 h1 h2 h3
      have ez : z = 64 := by omega
      subst ez
      refine j_iload_n dX12_net_15 rfl ?_
      refine j_bipush dX12_net_16 (by decide) ?_
      refine j_icmp_ge (tgt := 37) dX12_net_18 rfl (by first | omega | (split <;> omega)) (by first | omega | (split <;> omega)) (fun c_18 => ?_) (fun c_18 => by exact absurd (by decide) c_18)
      exact h3 K h1 h2
    | succ m2 ih =>
      intro z K hz hz0 h1 h2 h3
      have hst : wup (mZer w z) (116 + z) 0 = mZer w (z + 1) := by
        funext k
        unfold wup mZer
        by_cases c : k = 116 + z
        · rw [if_pos c, if_pos (by omega)]
        · rw [if_neg c]
          by_cases c2 : 116 ≤ k ∧ k < 116 + z
          · rw [if_pos c2, if_pos (by omega)]
          · rw [if_neg c2, if_neg (by omega)]
      refine j_iload_n dX12_net_15 rfl ?_
      refine j_bipush dX12_net_16 (by decide) ?_
      refine j_icmp_ge (tgt := 37) dX12_net_18 rfl (by first | omega | (split <;> omega)) (by first | omega | (split <;> omega)) (fun c_18 => by exact absurd c_18 (by omega)) (fun c_18 => ?_)
      refine j_aload_n dX12_net_21 rfl ?_
      refine r_getS dX12_net_22 flX12_13 (by first | assumption | exact hsh _ _ rfl) (fx_170_1 hfx) ?_
      refine j_bipush dX12_net_25 (by decide) ?_
      refine j_iload_n dX12_net_27 rfl ?_
      refine j_iadd dX12_net_28 ?_
      refine j_iconst dX12_net_29 ?_
      refine r_iastore dX12_net_30 (by first | assumption | exact hsh _ _ rfl) (by first | omega | (split <;> omega)) (by first | omega | (split <;> omega)) (by first | omega | (split <;> omega)) ?_
      refine j_iinc dX12_net_31 rfl (by decide) ?_
      refine j_goto (tgt := 15) dX12_net_34 rfl ?_
      exact ih (z + 1) _ (by omega) (by omega) (by rw [jup_at, h1, hst]) (fun a ha => by rw [jup_ne _ _ _ ha]; exact h2 a ha) h3
  refine zer 64 0 J0 (by decide) (by decide) (by rw [e0]; funext k; unfold mZer; rw [if_neg (by omega)]) (fun _ _ => rfl) (fun J1 e1 f1 => ?_)
  have n1 : ∀ p, 0 ≤ p → p < aPe w → J1 182 p = nN w p := fun p p0 p1 => by rw [f1 182 (by decide)]; exact hJ0.1 p p0 p1
  have ep1 : aPe (J1 171) = aPe w := by rw [e1]; exact mZer_o (by omega)
  have f2 : ∀ a, a ≠ 171 → a ≠ 182 → J1 a = J a := fun a h1 h2 => (f1 a h1).trans (hJ0.2 a h2)
  by_cases e : aPe w ≤ 0
  · have hv : vNet w = 0 := if_pos e
    have hwn : wNet w = mZer w 64 := if_pos e
    refine j_iconst dX12_net_37 ?_
    refine j_istore_n dX12_net_38 (by decide) ?_
    refine j_aload_n dX12_net_39 rfl ?_
    refine r_cv0I dX12_net_40 cvX12_74 (by decide) (by first | assumption | exact hsh _ _ rfl) (Nat.le_of_ble_eq_true rfl) (Nat.le_of_eq (Nat.zero_add _)) (Nat.le_of_eq (Nat.zero_add _)) (sm_people hsh hfx) ?_
    rw [ep1]
    refine j_if_le (tgt := 50) dX12_net_43 rfl (by first | omega | (split <;> omega)) (fun c_43 => ?_) (fun c_43 => by exact absurd (by omega) c_43)
    refine j_iconst dX12_net_50 ?_
    refine j_istore_n dX12_net_51 (by decide) ?_
    refine j_iload_n dX12_net_52 rfl ?_
    refine j_if_eq (tgt := 207) dX12_net_53 rfl (by first | omega | (split <;> omega)) (fun c_53 => ?_) (fun c_53 => by exact absurd rfl c_53)
    refine j_iload_n dX12_net_207 rfl ?_
    refine j_iret dX12_net_208 rfl ?_
    rw [← hQ]
    exact rEI_of hv.symm (fin J1 (by rw [hwn]; exact e1) f2)
  · obtain ⟨m, hm⟩ : ∃ m : Nat, aPe w = m + 1 := ⟨(aPe w - 1).toNat, by omega⟩
    have em : (aPe w - 1).toNat = m := by omega
    have hm7 : m ≤ 7 := by omega
    have hN := nOK_0 hm o6 o7
    have hv : vNet w = nK m (nN w, mZer w 64) := by unfold vNet; rw [if_neg e, em]
    have hwn : wNet w = (nIt m (nN w, mZer w 64) (nK m (nN w, mZer w 64)).toNat).2 := by unfold wNet; rw [if_neg e, em]
    obtain ⟨hk1, hk2, hk3⟩ := nK_ok hm7 (S := (nN w, mZer w 64)) hN
    have key : ∀ (m2 : Nat) (z : Int) (K : Nat → Int → Int) (S : nS) (o3 o4 o5 : Option jzV), z + m2 = nK m (nN w, mZer w 64) → 0 ≤ z → S = nIt m (nN w, mZer w 64) z.toNat → K 171 = S.2 → (∀ p, 0 ≤ p → p < aPe w → K 182 p = S.1 p) → (∀ a, a ≠ 171 → a ≠ 182 → K a = J a) → jW G mX12_net (d + 6) Q9 52 [some (jR (some 170)), some (jI z), some (jI 1), o3, o4, o5] [] (sh, K, F) 0 0 := by
      intro m2
      induction m2 with
      | zero =>
        intro z K S o3 o4 o5 hz hz0 hS hK hn hfr
        have eK : nK m (nN w, mZer w 64) = z := by omega
        have hj : ∀ j : Nat, (j : Int) < z → 0 < nPay (nIt m (nN w, mZer w 64) j).1 m := fun j hj => hk3 j (by omega)
        have hO := (nIt_ok hm7 (S := (nN w, mZer w 64)) hN z.toNat (fun j hj2 => hj j (by omega))).1
        have hw8 := nIt_w hm7 hm hN z.toNat (fun j hj2 => hj j (by omega))
        rw [eK, ← hS] at hk2
        rw [← hS] at hO hw8
        have hin := nOK_in hO
        have eP : aPe (K 171) = aPe w := by rw [hK]; exact hw8.1 0 (by omega)
        have inn : ∀ (m3 : Nat) (x : Int), x + m3 = m → 0 ≤ x → jW G mX12_net (d + 6) Q9 64 [some (jR (some 170)), some (jI z), some (jI 1), some (jI (nFrom S.1 x.toNat)), some (jI (nTo S.1 x.toNat)), some (jI (x + 1))] [] (sh, K, F) 0 0 := by
          intro m3
          induction m3 with
          | zero =>
            intro x hx hx0
            have ex : x.toNat = m := by omega
            rw [ex]
            have hf := (nFrom_ok S.1 m).1
            have ht := (nTo_ok S.1 m).1
            have bF := hin (nFrom S.1 m) hf.1 hf.2
            have bT := hin (nTo S.1 m) ht.1 ht.2
            have qF := hn (nFrom S.1 m) hf.1 (by omega)
            have qT := hn (nTo S.1 m) ht.1 (by omega)
            have hp2 : nPay S.1 m = min (-(S.1 (nFrom S.1 m))) (S.1 (nTo S.1 m)) := rfl
            refine j_iload dX12_net_64 rfl ?_
            refine j_aload_n dX12_net_66 rfl ?_
            refine r_cv0I dX12_net_67 cvX12_74 (by decide) (by first | assumption | exact hsh _ _ rfl) (Nat.le_of_ble_eq_true rfl) (Nat.le_of_eq (Nat.zero_add _)) (Nat.le_of_eq (Nat.zero_add _)) (sm_people hsh hfx) ?_
            rw [eP]
            refine j_icmp_ge (tgt := 128) dX12_net_70 rfl (by first | omega | (split <;> omega)) (by first | omega | (split <;> omega)) (fun c_70 => ?_) (fun c_70 => by exact absurd (by omega) c_70)
            refine j_aload_n dX12_net_128 rfl ?_
            refine r_getS dX12_net_129 flX12_51 (by first | assumption | exact hsh _ _ rfl) (fx_170_23 hfx) ?_
            refine j_iload_n dX12_net_132 rfl ?_
            refine r_ialoadE dX12_net_133 (by first | assumption | exact hsh _ _ rfl) (by first | omega | (split <;> omega)) (by first | omega | (split <;> omega)) qF (fun b_133 => ?_)
            refine j_ineg dX12_net_134 ?_
            refine j_aload_n dX12_net_135 rfl ?_
            refine r_getS dX12_net_136 flX12_51 (by first | assumption | exact hsh _ _ rfl) (fx_170_23 hfx) ?_
            refine j_iload dX12_net_139 rfl ?_
            refine r_ialoadE dX12_net_141 (by first | assumption | exact hsh _ _ rfl) (by first | omega | (split <;> omega)) (by first | omega | (split <;> omega)) qT (fun b_141 => ?_)
            refine r_min dX12_net_142 lmX12_275 (Nat.le_of_ble_eq_true rfl) (by first | omega | (split <;> omega)) (by first | omega | (split <;> omega)) ?_
            rw [← hp2]
            refine j_istore dX12_net_145 (by decide) ?_
            refine j_iload dX12_net_147 rfl ?_
            refine j_if_le (tgt := 156) dX12_net_149 rfl (by first | omega | (split <;> omega)) (fun c_149 => ?_) (fun c_149 => by exact absurd hk2 (by omega))
            refine j_iconst dX12_net_156 ?_
            refine j_istore_n dX12_net_157 (by decide) ?_
            refine j_iload_n dX12_net_158 rfl ?_
            refine j_if_ne (tgt := 165) dX12_net_159 rfl (by first | omega | (split <;> omega)) (fun c_159 => by exact absurd rfl c_159) (fun c_159 => ?_)
            refine j_goto (tgt := 52) dX12_net_162 rfl ?_
            refine j_iload_n dX12_net_52 rfl ?_
            refine j_if_eq (tgt := 207) dX12_net_53 rfl (by first | omega | (split <;> omega)) (fun c_53 => ?_) (fun c_53 => by exact absurd rfl c_53)
            refine j_iload_n dX12_net_207 rfl ?_
            refine j_iret dX12_net_208 rfl ?_
            rw [← hQ]
            exact rEI_of (by rw [hv, eK]) (fin K (by rw [hwn, eK, ← hS]; exact hK) hfr)
          | succ m3 ih3 =>
            intro x hx hx0
            have hf := (nFrom_ok S.1 x.toNat).1
            have ht := (nTo_ok S.1 x.toNat).1
            have bF := hin (nFrom S.1 x.toNat) hf.1 (by omega)
            have bT := hin (nTo S.1 x.toNat) ht.1 (by omega)
            have bX := hin (x + 1) (by omega) (by omega)
            have qF := hn (nFrom S.1 x.toNat) hf.1 (by omega)
            have qT := hn (nTo S.1 x.toNat) ht.1 (by omega)
            have qX := hn (x + 1) (by omega) (by omega)
            have ih4 := ih3 (x + 1) (by omega) (by omega)
            rw [nFrom_s hx0, nTo_s hx0] at ih4
            refine j_iload dX12_net_64 rfl ?_
            refine j_aload_n dX12_net_66 rfl ?_
            refine r_cv0I dX12_net_67 cvX12_74 (by decide) (by first | assumption | exact hsh _ _ rfl) (Nat.le_of_ble_eq_true rfl) (Nat.le_of_eq (Nat.zero_add _)) (Nat.le_of_eq (Nat.zero_add _)) (sm_people hsh hfx) ?_
            rw [eP]
            refine j_icmp_ge (tgt := 128) dX12_net_70 rfl (by first | omega | (split <;> omega)) (by first | omega | (split <;> omega)) (fun c_70 => by exact absurd c_70 (by omega)) (fun c_70 => ?_)
            refine j_aload_n dX12_net_73 rfl ?_
            refine r_getS dX12_net_74 flX12_51 (by first | assumption | exact hsh _ _ rfl) (fx_170_23 hfx) ?_
            refine j_iload dX12_net_77 rfl ?_
            refine r_ialoadE dX12_net_79 (by first | assumption | exact hsh _ _ rfl) (by first | omega | (split <;> omega)) (by first | omega | (split <;> omega)) qX (fun b_79 => ?_)
            refine j_aload_n dX12_net_80 rfl ?_
            refine r_getS dX12_net_81 flX12_51 (by first | assumption | exact hsh _ _ rfl) (fx_170_23 hfx) ?_
            refine j_iload_n dX12_net_84 rfl ?_
            refine r_ialoadE dX12_net_85 (by first | assumption | exact hsh _ _ rfl) (by first | omega | (split <;> omega)) (by first | omega | (split <;> omega)) qF (fun b_85 => ?_)
            refine j_icmp_ge (tgt := 94) dX12_net_86 rfl (by first | omega | (split <;> omega)) (by first | omega | (split <;> omega)) (fun c_86 => ?_) (fun c_86 => ?_)
            · rw [if_neg (by omega)] at ih4
              refine j_iload_n dX12_net_94 rfl ?_
              refine j_istore_n dX12_net_95 (by decide) ?_
              refine j_aload_n dX12_net_96 rfl ?_
              refine r_getS dX12_net_97 flX12_51 (by first | assumption | exact hsh _ _ rfl) (fx_170_23 hfx) ?_
              refine j_iload dX12_net_100 rfl ?_
              refine r_ialoadE dX12_net_102 (by first | assumption | exact hsh _ _ rfl) (by first | omega | (split <;> omega)) (by first | omega | (split <;> omega)) qX (fun b_102 => ?_)
              refine j_aload_n dX12_net_103 rfl ?_
              refine r_getS dX12_net_104 flX12_51 (by first | assumption | exact hsh _ _ rfl) (fx_170_23 hfx) ?_
              refine j_iload dX12_net_107 rfl ?_
              refine r_ialoadE dX12_net_109 (by first | assumption | exact hsh _ _ rfl) (by first | omega | (split <;> omega)) (by first | omega | (split <;> omega)) qT (fun b_109 => ?_)
              refine j_icmp_le (tgt := 118) dX12_net_110 rfl (by first | omega | (split <;> omega)) (by first | omega | (split <;> omega)) (fun c_110 => ?_) (fun c_110 => ?_)
              · rw [if_neg (show ¬ S.1 (nTo S.1 x.toNat) < S.1 (x + 1) by omega)] at ih4
                refine j_iload dX12_net_118 rfl ?_
                refine j_istore dX12_net_120 (by decide) ?_
                refine j_iinc dX12_net_122 rfl (by decide) ?_
                refine j_goto (tgt := 64) dX12_net_125 rfl ?_
                exact ih4
              · rw [if_pos (show S.1 (nTo S.1 x.toNat) < S.1 (x + 1) by omega)] at ih4
                refine j_iload dX12_net_113 rfl ?_
                refine j_goto (tgt := 120) dX12_net_115 rfl ?_
                refine j_istore dX12_net_120 (by decide) ?_
                refine j_iinc dX12_net_122 rfl (by decide) ?_
                refine j_goto (tgt := 64) dX12_net_125 rfl ?_
                exact ih4
            · rw [if_pos (by omega)] at ih4
              refine j_iload dX12_net_89 rfl ?_
              refine j_goto (tgt := 95) dX12_net_91 rfl ?_
              refine j_istore_n dX12_net_95 (by decide) ?_
              refine j_aload_n dX12_net_96 rfl ?_
              refine r_getS dX12_net_97 flX12_51 (by first | assumption | exact hsh _ _ rfl) (fx_170_23 hfx) ?_
              refine j_iload dX12_net_100 rfl ?_
              refine r_ialoadE dX12_net_102 (by first | assumption | exact hsh _ _ rfl) (by first | omega | (split <;> omega)) (by first | omega | (split <;> omega)) qX (fun b_102 => ?_)
              refine j_aload_n dX12_net_103 rfl ?_
              refine r_getS dX12_net_104 flX12_51 (by first | assumption | exact hsh _ _ rfl) (fx_170_23 hfx) ?_
              refine j_iload dX12_net_107 rfl ?_
              refine r_ialoadE dX12_net_109 (by first | assumption | exact hsh _ _ rfl) (by first | omega | (split <;> omega)) (by first | omega | (split <;> omega)) qT (fun b_109 => ?_)
              refine j_icmp_le (tgt := 118) dX12_net_110 rfl (by first | omega | (split <;> omega)) (by first | omega | (split <;> omega)) (fun c_110 => ?_) (fun c_110 => ?_)
              · rw [if_neg (show ¬ S.1 (nTo S.1 x.toNat) < S.1 (x + 1) by omega)] at ih4
                refine j_iload dX12_net_118 rfl ?_
                refine j_istore dX12_net_120 (by decide) ?_
                refine j_iinc dX12_net_122 rfl (by decide) ?_
                refine j_goto (tgt := 64) dX12_net_125 rfl ?_
                exact ih4
              · rw [if_pos (show S.1 (nTo S.1 x.toNat) < S.1 (x + 1) by omega)] at ih4
                refine j_iload dX12_net_113 rfl ?_
                refine j_goto (tgt := 120) dX12_net_115 rfl ?_
                refine j_istore dX12_net_120 (by decide) ?_
                refine j_iinc dX12_net_122 rfl (by decide) ?_
                refine j_goto (tgt := 64) dX12_net_125 rfl ?_
                exact ih4
        refine j_iload_n dX12_net_52 rfl ?_
        refine j_if_eq (tgt := 207) dX12_net_53 rfl (by first | omega | (split <;> omega)) (fun c_53 => by exact absurd c_53 (by decide)) (fun c_53 => ?_)
        refine j_iconst dX12_net_56 ?_
        refine j_istore_n dX12_net_57 (by decide) ?_
        refine j_iconst dX12_net_58 ?_
        refine j_istore dX12_net_59 (by decide) ?_
        refine j_iconst dX12_net_61 ?_
        refine j_istore dX12_net_62 (by decide) ?_
        exact inn m 0 (by omega) (by omega)
      | succ m2 ih =>
        intro z K S o3 o4 o5 hz hz0 hS hK hn hfr
        have hj : ∀ j : Nat, (j : Int) < z → 0 < nPay (nIt m (nN w, mZer w 64) j).1 m := fun j hj => hk3 j (by omega)
        have hO := (nIt_ok hm7 (S := (nN w, mZer w 64)) hN z.toNat (fun j hj2 => hj j (by omega))).1
        have hw8 := nIt_w hm7 hm hN z.toNat (fun j hj2 => hj j (by omega))
        have hp := hk3 z.toNat (by omega)
        rw [← hS] at hp hO hw8
        have hin := nOK_in hO
        have eP : aPe (K 171) = aPe w := by rw [hK]; exact hw8.1 0 (by omega)
        have inn : ∀ (m3 : Nat) (x : Int), x + m3 = m → 0 ≤ x → jW G mX12_net (d + 6) Q9 64 [some (jR (some 170)), some (jI z), some (jI 1), some (jI (nFrom S.1 x.toNat)), some (jI (nTo S.1 x.toNat)), some (jI (x + 1))] [] (sh, K, F) 0 0 := by
          intro m3
          induction m3 with
          | zero =>
            intro x hx hx0
            have ex : x.toNat = m := by omega
            rw [ex]
            have hf := (nFrom_ok S.1 m).1
            have ht := (nTo_ok S.1 m).1
            have bF := hin (nFrom S.1 m) hf.1 hf.2
            have bT := hin (nTo S.1 m) ht.1 ht.2
            have qF := hn (nFrom S.1 m) hf.1 (by omega)
            have qT := hn (nTo S.1 m) ht.1 (by omega)
            have hp2 : nPay S.1 m = min (-(S.1 (nFrom S.1 m))) (S.1 (nTo S.1 m)) := rfl
            have hne : nTo S.1 m ≠ nFrom S.1 m := fun q => by rw [q] at hp2; omega
            have hstep : nIt m (nN w, mZer w 64) (z + 1).toNat = nStep m S := by rw [hS]; exact nIt_s _ _ hz0
            obtain ⟨K1, hK1⟩ : ∃ L, L = jup K 182 (nFrom S.1 m) (S.1 (nFrom S.1 m) + nPay S.1 m) := ⟨_, rfl⟩
            have q183 : K1 182 (nTo S.1 m) = S.1 (nTo S.1 m) := by rw [hK1, jup_row _ _ _ hne]; exact qT
            obtain ⟨K2, hK2⟩ : ∃ L, L = jup K1 182 (nTo S.1 m) (S.1 (nTo S.1 m) - nPay S.1 m) := ⟨_, rfl⟩
            have g2 : ∀ a, a ≠ 182 → K2 a = K a := fun a ha => by rw [hK2, jup_ne _ _ _ ha, hK1, jup_ne _ _ _ ha]
            have ih2 := fun o3 o4 o5 => ih (z + 1) (jup K2 171 (116 + 8 * nFrom S.1 m + nTo S.1 m) (nPay S.1 m)) (nStep m S) o3 o4 o5 (by omega) (by omega) hstep.symm (by rw [jup_at, g2 171 (by decide), hK]; rfl) (fun p p0 p1 => by
              rw [jup_ne _ _ _ (by decide), hK2]
              show jup K1 182 _ _ 182 p = wup (wup S.1 _ _) _ _ p
              by_cases ep : p = nTo S.1 m
              · subst ep; rw [jup_same, wup_same]
              · rw [jup_row _ _ _ ep, wup_ne _ _ ep, hK1]
                by_cases ep2 : p = nFrom S.1 m
                · subst ep2; rw [jup_same, wup_same]
                · rw [jup_row _ _ _ ep2, wup_ne _ _ ep2]; exact hn p p0 p1) (fun a h1 h2 => by rw [jup_ne _ _ _ h1, g2 a h2]; exact hfr a h1 h2)
            refine j_iload dX12_net_64 rfl ?_
            refine j_aload_n dX12_net_66 rfl ?_
            refine r_cv0I dX12_net_67 cvX12_74 (by decide) (by first | assumption | exact hsh _ _ rfl) (Nat.le_of_ble_eq_true rfl) (Nat.le_of_eq (Nat.zero_add _)) (Nat.le_of_eq (Nat.zero_add _)) (sm_people hsh hfx) ?_
            rw [eP]
            refine j_icmp_ge (tgt := 128) dX12_net_70 rfl (by first | omega | (split <;> omega)) (by first | omega | (split <;> omega)) (fun c_70 => ?_) (fun c_70 => by exact absurd (by omega) c_70)
            refine j_aload_n dX12_net_128 rfl ?_
            refine r_getS dX12_net_129 flX12_51 (by first | assumption | exact hsh _ _ rfl) (fx_170_23 hfx) ?_
            refine j_iload_n dX12_net_132 rfl ?_
            refine r_ialoadE dX12_net_133 (by first | assumption | exact hsh _ _ rfl) (by first | omega | (split <;> omega)) (by first | omega | (split <;> omega)) qF (fun b_133 => ?_)
            refine j_ineg dX12_net_134 ?_
            refine j_aload_n dX12_net_135 rfl ?_
            refine r_getS dX12_net_136 flX12_51 (by first | assumption | exact hsh _ _ rfl) (fx_170_23 hfx) ?_
            refine j_iload dX12_net_139 rfl ?_
            refine r_ialoadE dX12_net_141 (by first | assumption | exact hsh _ _ rfl) (by first | omega | (split <;> omega)) (by first | omega | (split <;> omega)) qT (fun b_141 => ?_)
            refine r_min dX12_net_142 lmX12_275 (Nat.le_of_ble_eq_true rfl) (by first | omega | (split <;> omega)) (by first | omega | (split <;> omega)) ?_
            rw [← hp2]
            refine j_istore dX12_net_145 (by decide) ?_
            refine j_iload dX12_net_147 rfl ?_
            refine j_if_le (tgt := 156) dX12_net_149 rfl (by first | omega | (split <;> omega)) (fun c_149 => by exact absurd c_149 (by omega)) (fun c_149 => ?_)
            refine j_iconst dX12_net_152 ?_
            refine j_goto (tgt := 157) dX12_net_153 rfl ?_
            refine j_istore_n dX12_net_157 (by decide) ?_
            refine j_iload_n dX12_net_158 rfl ?_
            refine j_if_ne (tgt := 165) dX12_net_159 rfl (by first | omega | (split <;> omega)) (fun c_159 => ?_) (fun c_159 => by exact absurd c_159 (by decide))
            refine j_aload_n dX12_net_165 rfl ?_
            refine r_getS dX12_net_166 flX12_51 (by first | assumption | exact hsh _ _ rfl) (fx_170_23 hfx) ?_
            refine j_iload_n dX12_net_169 rfl ?_
            refine j_dup2 dX12_net_170 trivial trivial ?_
            refine r_ialoadE dX12_net_171 (by first | assumption | exact hsh _ _ rfl) (by first | omega | (split <;> omega)) (by first | omega | (split <;> omega)) qF (fun b_171 => ?_)
            refine j_iload dX12_net_172 rfl ?_
            refine j_iadd dX12_net_174 ?_
            refine r_iastore dX12_net_175 (by first | assumption | exact hsh _ _ rfl) (by first | omega | (split <;> omega)) (by first | omega | (split <;> omega)) (by first | omega | (split <;> omega)) ?_
            rw [← hK1]
            refine j_aload_n dX12_net_176 rfl ?_
            refine r_getS dX12_net_177 flX12_51 (by first | assumption | exact hsh _ _ rfl) (fx_170_23 hfx) ?_
            refine j_iload dX12_net_180 rfl ?_
            refine j_dup2 dX12_net_182 trivial trivial ?_
            refine r_ialoadE dX12_net_183 (by first | assumption | exact hsh _ _ rfl) (by first | omega | (split <;> omega)) (by first | omega | (split <;> omega)) q183 (fun b_183 => ?_)
            refine j_iload dX12_net_184 rfl ?_
            refine j_isub dX12_net_186 ?_
            refine r_iastore dX12_net_187 (by first | assumption | exact hsh _ _ rfl) (by first | omega | (split <;> omega)) (by first | omega | (split <;> omega)) (by first | omega | (split <;> omega)) ?_
            rw [← hK2]
            refine j_aload_n dX12_net_188 rfl ?_
            refine r_getS dX12_net_189 flX12_13 (by first | assumption | exact hsh _ _ rfl) (fx_170_1 hfx) ?_
            refine j_iload_n dX12_net_192 rfl ?_
            refine j_iload dX12_net_193 rfl ?_
            refine r_cs2I dX12_net_195 csX12_71 (Nat.le_of_ble_eq_true rfl) (Nat.le_of_eq (Nat.zero_add _)) (Nat.le_of_eq (Nat.zero_add _)) (sm_owedAt) ?_
            refine j_iload dX12_net_198 rfl ?_
            refine r_iastore dX12_net_200 (by first | assumption | exact hsh _ _ rfl) (by first | omega | (split <;> omega)) (by first | omega | (split <;> omega)) (by first | omega | (split <;> omega)) ?_
            refine j_iinc dX12_net_201 rfl (by decide) ?_
            refine j_goto (tgt := 52) dX12_net_204 rfl ?_
            exact ih2 _ _ _
          | succ m3 ih3 =>
            intro x hx hx0
            have hf := (nFrom_ok S.1 x.toNat).1
            have ht := (nTo_ok S.1 x.toNat).1
            have bF := hin (nFrom S.1 x.toNat) hf.1 (by omega)
            have bT := hin (nTo S.1 x.toNat) ht.1 (by omega)
            have bX := hin (x + 1) (by omega) (by omega)
            have qF := hn (nFrom S.1 x.toNat) hf.1 (by omega)
            have qT := hn (nTo S.1 x.toNat) ht.1 (by omega)
            have qX := hn (x + 1) (by omega) (by omega)
            have ih4 := ih3 (x + 1) (by omega) (by omega)
            rw [nFrom_s hx0, nTo_s hx0] at ih4
            refine j_iload dX12_net_64 rfl ?_
            refine j_aload_n dX12_net_66 rfl ?_
            refine r_cv0I dX12_net_67 cvX12_74 (by decide) (by first | assumption | exact hsh _ _ rfl) (Nat.le_of_ble_eq_true rfl) (Nat.le_of_eq (Nat.zero_add _)) (Nat.le_of_eq (Nat.zero_add _)) (sm_people hsh hfx) ?_
            rw [eP]
            refine j_icmp_ge (tgt := 128) dX12_net_70 rfl (by first | omega | (split <;> omega)) (by first | omega | (split <;> omega)) (fun c_70 => by exact absurd c_70 (by omega)) (fun c_70 => ?_)
            refine j_aload_n dX12_net_73 rfl ?_
            refine r_getS dX12_net_74 flX12_51 (by first | assumption | exact hsh _ _ rfl) (fx_170_23 hfx) ?_
            refine j_iload dX12_net_77 rfl ?_
            refine r_ialoadE dX12_net_79 (by first | assumption | exact hsh _ _ rfl) (by first | omega | (split <;> omega)) (by first | omega | (split <;> omega)) qX (fun b_79 => ?_)
            refine j_aload_n dX12_net_80 rfl ?_
            refine r_getS dX12_net_81 flX12_51 (by first | assumption | exact hsh _ _ rfl) (fx_170_23 hfx) ?_
            refine j_iload_n dX12_net_84 rfl ?_
            refine r_ialoadE dX12_net_85 (by first | assumption | exact hsh _ _ rfl) (by first | omega | (split <;> omega)) (by first | omega | (split <;> omega)) qF (fun b_85 => ?_)
            refine j_icmp_ge (tgt := 94) dX12_net_86 rfl (by first | omega | (split <;> omega)) (by first | omega | (split <;> omega)) (fun c_86 => ?_) (fun c_86 => ?_)
            · rw [if_neg (by omega)] at ih4
              refine j_iload_n dX12_net_94 rfl ?_
              refine j_istore_n dX12_net_95 (by decide) ?_
              refine j_aload_n dX12_net_96 rfl ?_
              refine r_getS dX12_net_97 flX12_51 (by first | assumption | exact hsh _ _ rfl) (fx_170_23 hfx) ?_
              refine j_iload dX12_net_100 rfl ?_
              refine r_ialoadE dX12_net_102 (by first | assumption | exact hsh _ _ rfl) (by first | omega | (split <;> omega)) (by first | omega | (split <;> omega)) qX (fun b_102 => ?_)
              refine j_aload_n dX12_net_103 rfl ?_
              refine r_getS dX12_net_104 flX12_51 (by first | assumption | exact hsh _ _ rfl) (fx_170_23 hfx) ?_
              refine j_iload dX12_net_107 rfl ?_
              refine r_ialoadE dX12_net_109 (by first | assumption | exact hsh _ _ rfl) (by first | omega | (split <;> omega)) (by first | omega | (split <;> omega)) qT (fun b_109 => ?_)
              refine j_icmp_le (tgt := 118) dX12_net_110 rfl (by first | omega | (split <;> omega)) (by first | omega | (split <;> omega)) (fun c_110 => ?_) (fun c_110 => ?_)
              · rw [if_neg (show ¬ S.1 (nTo S.1 x.toNat) < S.1 (x + 1) by omega)] at ih4
                refine j_iload dX12_net_118 rfl ?_
                refine j_istore dX12_net_120 (by decide) ?_
                refine j_iinc dX12_net_122 rfl (by decide) ?_
                refine j_goto (tgt := 64) dX12_net_125 rfl ?_
                exact ih4
              · rw [if_pos (show S.1 (nTo S.1 x.toNat) < S.1 (x + 1) by omega)] at ih4
                refine j_iload dX12_net_113 rfl ?_
                refine j_goto (tgt := 120) dX12_net_115 rfl ?_
                refine j_istore dX12_net_120 (by decide) ?_
                refine j_iinc dX12_net_122 rfl (by decide) ?_
                refine j_goto (tgt := 64) dX12_net_125 rfl ?_
                exact ih4
            · rw [if_pos (by omega)] at ih4
              refine j_iload dX12_net_89 rfl ?_
              refine j_goto (tgt := 95) dX12_net_91 rfl ?_
              refine j_istore_n dX12_net_95 (by decide) ?_
              refine j_aload_n dX12_net_96 rfl ?_
              refine r_getS dX12_net_97 flX12_51 (by first | assumption | exact hsh _ _ rfl) (fx_170_23 hfx) ?_
              refine j_iload dX12_net_100 rfl ?_
              refine r_ialoadE dX12_net_102 (by first | assumption | exact hsh _ _ rfl) (by first | omega | (split <;> omega)) (by first | omega | (split <;> omega)) qX (fun b_102 => ?_)
              refine j_aload_n dX12_net_103 rfl ?_
              refine r_getS dX12_net_104 flX12_51 (by first | assumption | exact hsh _ _ rfl) (fx_170_23 hfx) ?_
              refine j_iload dX12_net_107 rfl ?_
              refine r_ialoadE dX12_net_109 (by first | assumption | exact hsh _ _ rfl) (by first | omega | (split <;> omega)) (by first | omega | (split <;> omega)) qT (fun b_109 => ?_)
              refine j_icmp_le (tgt := 118) dX12_net_110 rfl (by first | omega | (split <;> omega)) (by first | omega | (split <;> omega)) (fun c_110 => ?_) (fun c_110 => ?_)
              · rw [if_neg (show ¬ S.1 (nTo S.1 x.toNat) < S.1 (x + 1) by omega)] at ih4
                refine j_iload dX12_net_118 rfl ?_
                refine j_istore dX12_net_120 (by decide) ?_
                refine j_iinc dX12_net_122 rfl (by decide) ?_
                refine j_goto (tgt := 64) dX12_net_125 rfl ?_
                exact ih4
              · rw [if_pos (show S.1 (nTo S.1 x.toNat) < S.1 (x + 1) by omega)] at ih4
                refine j_iload dX12_net_113 rfl ?_
                refine j_goto (tgt := 120) dX12_net_115 rfl ?_
                refine j_istore dX12_net_120 (by decide) ?_
                refine j_iinc dX12_net_122 rfl (by decide) ?_
                refine j_goto (tgt := 64) dX12_net_125 rfl ?_
                exact ih4
        refine j_iload_n dX12_net_52 rfl ?_
        refine j_if_eq (tgt := 207) dX12_net_53 rfl (by first | omega | (split <;> omega)) (fun c_53 => by exact absurd c_53 (by decide)) (fun c_53 => ?_)
        refine j_iconst dX12_net_56 ?_
        refine j_istore_n dX12_net_57 (by decide) ?_
        refine j_iconst dX12_net_58 ?_
        refine j_istore dX12_net_59 (by decide) ?_
        refine j_iconst dX12_net_61 ?_
        refine j_istore dX12_net_62 (by decide) ?_
        exact inn m 0 (by omega) (by omega)
    refine j_iconst dX12_net_37 ?_
    refine j_istore_n dX12_net_38 (by decide) ?_
    refine j_aload_n dX12_net_39 rfl ?_
    refine r_cv0I dX12_net_40 cvX12_74 (by decide) (by first | assumption | exact hsh _ _ rfl) (Nat.le_of_ble_eq_true rfl) (Nat.le_of_eq (Nat.zero_add _)) (Nat.le_of_eq (Nat.zero_add _)) (sm_people hsh hfx) ?_
    rw [ep1]
    refine j_if_le (tgt := 50) dX12_net_43 rfl (by first | omega | (split <;> omega)) (fun c_43 => by exact absurd c_43 (by omega)) (fun c_43 => ?_)
    refine j_iconst dX12_net_46 ?_
    refine j_goto (tgt := 51) dX12_net_47 rfl ?_
    refine j_istore_n dX12_net_51 (by decide) ?_
    exact key (nK m (nN w, mZer w 64)).toNat 0 J1 _ _ _ _ (by omega) (by omega) rfl e1 n1 f2
end
