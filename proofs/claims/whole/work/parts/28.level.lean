/-! WHAT ONE MUST BEAR: the least level -/
theorem aPaD_min (w : Int → Int) (p day : Int) : aPaD w p (min 9999 day) = aPaD w p day := by
  unfold aPaD
  rw [show min 9999 (min 9999 day) = min 9999 day by omega]
theorem mFelt_mono {w : Int → Int} {p n a b : Int} (h : a ≤ b) : mFelt w p n a ≤ mFelt w p n b :=
  jfold_rel (fun _ x y => x ≤ y) (Int.le_refl _) (fun k x y _ _ q => by
    show x + max 0 _ ≤ y + max 0 _
    omega)
def LeastL (w : Int → Int) (p n L : Int) : Prop := 0 ≤ L ∧ aOf w p 1 ≤ mFelt w p n L ∧ ∀ k, 0 ≤ k → k < L → mFelt w p n k < aOf w p 1
theorem LeastL_one {w : Int → Int} {p n L L' : Int} (h : LeastL w p n L) (h' : LeastL w p n L') : L = L' := by
  rcases Int.lt_trichotomy L L' with q | q | q
  · have := h'.2.2 L h.1 q
    have := h.2.1
    omega
  · exact q
  · have := h.2.2 L' h'.1 q
    have := h'.2.1
    omega
noncomputable def mLevel (w : Int → Int) (p n : Int) : Int := by
  classical
  exact if h : ∃ L, LeastL w p n L then Classical.choose h else 0
theorem mLevel_of {w : Int → Int} {p n L : Int} (h : LeastL w p n L) : mLevel w p n = L := by
  have hx : ∃ L, LeastL w p n L := ⟨L, h⟩
  unfold mLevel
  rw [dif_pos hx]
  exact LeastL_one (Classical.choose_spec hx) h
theorem mFelt_big {w : Int → Int} (hD : WfD w) (hB : WfB w) {p n x : Int} (h0 : 0 ≤ p ∧ p < aPe w) (h1 : 1 ≤ n ∧ n ≤ 40) (h2 : 0 ≤ x) : x ≤ mFelt w p n (x + 9) := by
  have := jfold_ind (f := fun k a => a + max 0 (x + 9 - aPaD w p (w 3 + k))) (a := 0) (fun j a => 0 ≤ a ∧ (1 ≤ j → x ≤ a)) ⟨by decide, fun q => by omega⟩ (n := n.toNat) (fun j y h3 h4 q => by
    have := aPaD_in hB h0 (day := w 3 + j) (by omega)
    exact ⟨by omega, fun _ => by omega⟩)
  exact this.2 (by omega)
section
variable {G : jzG} {d : Nat} {sh : List (Nat × Nat)} {I : Nat → Int → Int} {F : Nat → Int → Option Nat}
theorem sm_levelOf (hsh : ShOK sh) (hfx : FxOK F) (hP : WfP (I 171)) (hD : WfD (I 171)) (hB : WfB (I 171)) (hA : WfA (I 171)) {p n : Int} (h0 : 0 ≤ p ∧ p < aPe (I 171)) (h1 : 1 ≤ n ∧ n ≤ 40) : jS G (d + 4) mX12_levelOf [jR (some 170), jI p, jI n] (sh, I, F) 0 0 (rI (mLevel (I 171) p n) (sh, I, F)) := by
  have hP2 := hP.2
  have hAp := hA p h0.1 h0.2
  refine jS_go [some (jR (some 170)), some (jI p), some (jI n), none, none, none] (by decide +kernel) rfl (by simp [jone]) (Nat.le_of_ble_eq_true rfl) rfl (fun hok => ?_)
  have loop : ∀ (m : Nat) (lo hi : Int) (o : Option jzV), (hi - lo).toNat ≤ m → 0 ≤ lo → lo ≤ hi → hi ≤ 100009 → aOf (I 171) p 1 ≤ mFelt (I 171) p n hi → (∀ k, 0 ≤ k → k < lo → mFelt (I 171) p n k < aOf (I 171) p 1) → jW G mX12_levelOf (d + 4) (rI (mLevel (I 171) p n) (sh, I, F)) 7 [some (jR (some 170)), some (jI p), some (jI n), some (jI lo), some (jI hi), o] [] (sh, I, F) 0 0 := by
    intro m
    induction m with
    | zero =>
      intro lo hi o hm h2 h3 h4 h5 h6
      have e : lo = hi := by omega
      subst e
      refine j_iload_n dX12_levelOf_7 rfl ?_
      refine j_iload dX12_levelOf_8 rfl ?_
      refine j_icmp_ge (tgt := 47) dX12_levelOf_10 rfl (by first | omega | (split <;> omega)) (by first | omega | (split <;> omega)) (fun c_10 => ?_) (fun c_10 => by exact absurd (by omega) c_10)
      refine j_iload_n dX12_levelOf_47 rfl ?_
      refine j_iret dX12_levelOf_48 rfl ?_
      exact rI_of (mLevel_of ⟨h2, h5, h6⟩).symm rfl
    | succ m ih =>
      intro lo hi o hm h2 h3 h4 h5 h6
      refine j_iload_n dX12_levelOf_7 rfl ?_
      refine j_iload dX12_levelOf_8 rfl ?_
      refine j_icmp_ge (tgt := 47) dX12_levelOf_10 rfl (by first | omega | (split <;> omega)) (by first | omega | (split <;> omega)) (fun c_10 => ?_) (fun c_10 => ?_)
      · have e : lo = hi := by omega
        subst e
        refine j_iload_n dX12_levelOf_47 rfl ?_
        refine j_iret dX12_levelOf_48 rfl ?_
        exact rI_of (mLevel_of ⟨h2, h5, h6⟩).symm rfl
      · refine j_iload_n dX12_levelOf_13 rfl ?_
        refine j_iload dX12_levelOf_14 rfl ?_
        refine j_iadd dX12_levelOf_16 ?_
        refine j_iconst dX12_levelOf_17 ?_
        refine r_idivN dX12_levelOf_18 (by first | omega | (split <;> omega)) (by first | omega | (split <;> omega)) ?_
        refine j_istore dX12_levelOf_19 (by decide) ?_
        refine j_aload_n dX12_levelOf_21 rfl ?_
        refine j_iload_n dX12_levelOf_22 rfl ?_
        refine j_iload_n dX12_levelOf_23 rfl ?_
        refine j_iload dX12_levelOf_24 rfl ?_
        refine r_cv3I dX12_levelOf_26 cvX12_367 (by decide) (by first | assumption | exact hsh _ _ rfl) (Nat.le_of_ble_eq_true rfl) (Nat.le_of_eq (Nat.zero_add _)) (Nat.le_of_eq (Nat.zero_add _)) (sm_isFelt hsh hfx hP hD hB h0 (by omega) (by omega)) ?_
        refine j_if_eq (tgt := 39) dX12_levelOf_29 rfl (by first | omega | (split <;> omega)) (fun c_29 => ?_) (fun c_29 => ?_)
        · rw [ite0] at c_29
          refine j_iload dX12_levelOf_39 rfl ?_
          refine j_iconst dX12_levelOf_41 ?_
          refine j_iadd dX12_levelOf_42 ?_
          refine j_istore_n dX12_levelOf_43 (by decide) ?_
          refine j_goto (tgt := 7) dX12_levelOf_44 rfl ?_
          first | exact ih _ _ _ (by omega) (by omega) (by omega) (by omega) c_30 h6 | exact ih _ _ _ (by omega) (by omega) (by omega) (by omega) h5 (fun k hk0 hk1 => by have := mFelt_mono (w := I 171) (p := p) (n := n) (show k ≤ (lo + hi) / 2 by omega); omega)
        · rw [ite0] at c_29
          have c_30 := Classical.not_not.mp c_29
          refine j_iload dX12_levelOf_32 rfl ?_
          refine j_istore dX12_levelOf_34 (by decide) ?_
          refine j_goto (tgt := 44) dX12_levelOf_36 rfl ?_
          refine j_goto (tgt := 7) dX12_levelOf_44 rfl ?_
          first | exact ih _ _ _ (by omega) (by omega) (by omega) (by omega) c_30 h6 | exact ih _ _ _ (by omega) (by omega) (by omega) (by omega) h5 (fun k hk0 hk1 => by have := mFelt_mono (w := I 171) (p := p) (n := n) (show k ≤ (lo + hi) / 2 by omega); omega)
  refine j_iconst dX12_levelOf_0 ?_
  refine j_istore_n dX12_levelOf_1 (by decide) ?_
  refine j_ldcw (n := 100009) dX12_levelOf_2 kcX12_366 ?_
  refine j_istore dX12_levelOf_5 (by decide) ?_
  exact loop 200000 0 100009 _ (by omega) (by omega) (by omega) (by omega) (by have := mFelt_big hD hB h0 h1 (x := 100000) (by omega); rw [show (100000 : Int) + 9 = 100009 from rfl] at this; omega) (fun k hk0 hk1 => by omega)
theorem sc_roomUnder {s : Nat} {w : Int → Int} (hs : StAt sh F s) (hR : Rp I s w) (hD : WfD w) (hB : WfB w) {p n level : Int} (h0 : 0 ≤ p ∧ p < aPe w) (h1 : 0 ≤ n ∧ n ≤ 41) (h2 : 0 ≤ level ∧ level ≤ 110000) : jS G (d + 1) mX1_roomUnder [jR (some s), jI p, jI n, jI level] (sh, I, F) 0 0 (rI (mFelt w p n level) (sh, I, F)) := by
  obtain ⟨g0, g1, g2, g3, g4, g5, g6, g7, g8, g9, e1, e2, e3, e4, e5, e6, e7, e8, e9⟩ := id hs
  obtain ⟨r0, r1, rP, rO, rA, r9, r10, r11, r12, r13, r14, r15, r16, r17⟩ := id hR
  refine jS_go [some (jR (some s)), some (jI p), some (jI n), some (jI level), none, none] (by decide +kernel) rfl (by simp [jone]) (Nat.le_of_ble_eq_true rfl) rfl (fun hok => ?_)
  refine j_iconst dX1_roomUnder_0 ?_
  refine j_istore dX1_roomUnder_1 (by decide) ?_
  refine j_iconst dX1_roomUnder_3 ?_
  refine j_istore dX1_roomUnder_4 (by decide) ?_
  skip
  refine jW_loop 6 (fun z a => 0 ≤ a ∧ a ≤ z * 110000) (fun k a => a + max 0 (level - aPaD w p (w 3 + k))) 0 n (fun z a => [some (jR (some s)), some (jI p), some (jI n), some (jI level), some (jI a), some (jI z)]) (fun _ _ => (sh, I, F)) h1.1 (by simp) (fun z a h3 h4 h5 => by have := aPaD_in hB h0 (day := w 3 + z) (by omega); omega) (fun a ha hPa => ?_) (fun z a hz0 hz1 hPa ih => ?_)
  · refine j_iload dX1_roomUnder_6 rfl ?_
    refine j_iload_n dX1_roomUnder_8 rfl ?_
    refine j_icmp_ge (tgt := 40) dX1_roomUnder_9 rfl (by first | omega | (split <;> omega)) (by first | omega | (split <;> omega)) (fun c_9 => ?_) (fun c_9 => by exact absurd (by omega) c_9)
    refine j_iload dX1_roomUnder_40 rfl ?_
    refine j_iret dX1_roomUnder_42 rfl ?_
    exact rI_of ha rfl
  · have hr := aPaD_in hB h0 (day := w 3 + z) (by omega)
    rw [← aPaD_min] at ih hr
    refine j_iload dX1_roomUnder_6 rfl ?_
    refine j_iload_n dX1_roomUnder_8 rfl ?_
    refine j_icmp_ge (tgt := 40) dX1_roomUnder_9 rfl (by first | omega | (split <;> omega)) (by first | omega | (split <;> omega)) (fun c_9 => by exact absurd c_9 (by omega)) (fun c_9 => ?_)
    refine j_iload dX1_roomUnder_12 rfl ?_
    refine j_iconst dX1_roomUnder_14 ?_
    refine j_iload_n dX1_roomUnder_15 rfl ?_
    refine j_aload_n dX1_roomUnder_16 rfl ?_
    refine j_iload_n dX1_roomUnder_17 rfl ?_
    refine j_aload_n dX1_roomUnder_18 rfl ?_
    refine j_iload dX1_roomUnder_19 rfl ?_
    refine r_cv1I dX1_roomUnder_21 cvX1_41 (by decide) (by first | assumption | exact hsh _ _ rfl) (Nat.le_of_ble_eq_true rfl) (Nat.le_of_eq (Nat.zero_add _)) (Nat.le_of_eq (Nat.zero_add _)) (sc_dayIn hs hR (by omega) hD) ?_
    refine r_cv2I dX1_roomUnder_24 cvX1_9 (by decide) (by first | assumption | exact hsh _ _ rfl) (Nat.le_of_ble_eq_true rfl) (Nat.le_of_eq (Nat.zero_add _)) (Nat.le_of_eq (Nat.zero_add _)) (sc_painOn hs hR h0 (by omega)) ?_
    refine j_isub dX1_roomUnder_27 ?_
    refine r_max dX1_roomUnder_28 lmX1_54 (Nat.le_of_ble_eq_true rfl) (by first | omega | (split <;> omega)) (by first | omega | (split <;> omega)) ?_
    refine j_iadd dX1_roomUnder_31 ?_
    refine j_istore dX1_roomUnder_32 (by decide) ?_
    refine j_iinc dX1_roomUnder_34 rfl (by decide) ?_
    refine j_goto (tgt := 6) dX1_roomUnder_37 rfl ?_
    exact ih
theorem sc_leastBorne {s : Nat} {w : Int → Int} (hs : StAt sh F s) (hR : Rp I s w) (hD : WfD w) (hB : WfB w) (hA : WfA w) {p n : Int} (h0 : 0 ≤ p ∧ p < aPe w) (h1 : 1 ≤ n ∧ n ≤ 40) : jS G (d + 2) mX1_leastBorne [jR (some s), jI p, jI n] (sh, I, F) 0 0 (rI (mLevel w p n) (sh, I, F)) := by
  obtain ⟨g0, g1, g2, g3, g4, g5, g6, g7, g8, g9, e1, e2, e3, e4, e5, e6, e7, e8, e9⟩ := id hs
  obtain ⟨r0, r1, rP, rO, rA, r9, r10, r11, r12, r13, r14, r15, r16, r17⟩ := id hR
  have hAp := hA p h0.1 h0.2
  obtain ⟨q0, q1, q2, q3, q4, q5, q6⟩ := rP p h0.1 h0.2
  refine jS_go [some (jR (some s)), some (jI p), some (jI n), none, none, none, none] (by decide +kernel) rfl (by simp [jone]) (Nat.le_of_ble_eq_true rfl) rfl (fun hok => ?_)
  have loop : ∀ (m : Nat) (g lo hi : Int) (o : Option jzV), g + m = 32 → 0 ≤ g → hi - lo < 2 ^ m → 0 ≤ lo → lo ≤ hi → hi ≤ 100008 → aOf w p 1 ≤ mFelt w p n hi → (∀ k, 0 ≤ k → k < lo → mFelt w p n k < aOf w p 1) → jW G mX1_leastBorne (d + 2) (rI (mLevel w p n) (sh, I, F)) 29 [some (jR (some s)), some (jI p), some (jI n), some (jI lo), some (jI hi), some (jI g), o] [] (sh, I, F) 0 0 := by
    intro m
    induction m with
    | zero =>
      intro g lo hi o hg hg0 hm h2 h3 h4 h5 h6
      have e : lo = hi := by omega
      subst e
      refine j_iload dX1_leastBorne_29 rfl ?_
      refine j_bipush dX1_leastBorne_31 (by decide) ?_
      refine j_icmp_ge (tgt := 85) dX1_leastBorne_33 rfl (by first | omega | (split <;> omega)) (by first | omega | (split <;> omega)) (fun c_33 => ?_) (fun c_33 => by exact absurd (by omega) c_33)
      refine j_iload_n dX1_leastBorne_85 rfl ?_
      refine j_iret dX1_leastBorne_86 rfl ?_
      exact rI_of (mLevel_of ⟨h2, h5, h6⟩).symm rfl
    | succ m ih =>
      intro g lo hi o hg hg0 hm h2 h3 h4 h5 h6
      rw [Int.pow_succ] at hm
      have hmf := mFelt_in hD hB h0 (n := n) (level := (lo + hi) / 2) (by omega) (by omega)
      refine j_iload dX1_leastBorne_29 rfl ?_
      refine j_bipush dX1_leastBorne_31 (by decide) ?_
      refine j_icmp_ge (tgt := 85) dX1_leastBorne_33 rfl (by first | omega | (split <;> omega)) (by first | omega | (split <;> omega)) (fun c_33 => by exact absurd c_33 (by omega)) (fun c_33 => ?_)
      refine j_iload_n dX1_leastBorne_36 rfl ?_
      refine j_iload dX1_leastBorne_37 rfl ?_
      refine j_icmp_ge (tgt := 85) dX1_leastBorne_39 rfl (by first | omega | (split <;> omega)) (by first | omega | (split <;> omega)) (fun c_39 => ?_) (fun c_39 => ?_)
      · have e : lo = hi := by omega
        subst e
        refine j_iload_n dX1_leastBorne_85 rfl ?_
        refine j_iret dX1_leastBorne_86 rfl ?_
        exact rI_of (mLevel_of ⟨h2, h5, h6⟩).symm rfl
      · refine j_iload_n dX1_leastBorne_42 rfl ?_
        refine j_iload dX1_leastBorne_43 rfl ?_
        refine j_iadd dX1_leastBorne_45 ?_
        refine j_iconst dX1_leastBorne_46 ?_
        refine r_idivN dX1_leastBorne_47 (by first | omega | (split <;> omega)) (by first | omega | (split <;> omega)) ?_
        refine j_istore dX1_leastBorne_48 (by decide) ?_
        refine j_aload_n dX1_leastBorne_50 rfl ?_
        refine j_iload_n dX1_leastBorne_51 rfl ?_
        refine j_iload_n dX1_leastBorne_52 rfl ?_
        refine j_iload dX1_leastBorne_53 rfl ?_
        refine r_cs4I dX1_leastBorne_55 csX1_30 (Nat.le_of_ble_eq_true rfl) (Nat.le_of_eq (Nat.zero_add _)) (Nat.le_of_eq (Nat.zero_add _)) (sc_roomUnder hs hR hD hB h0 (by omega) (by omega)) ?_
        refine j_aload_n dX1_leastBorne_58 rfl ?_
        refine r_getS dX1_leastBorne_59 flX1_27 (by first | assumption | exact hsh _ _ rfl) (by assumption) ?_
        refine j_iload_n dX1_leastBorne_62 rfl ?_
        refine r_ialoadE dX1_leastBorne_63 (by first | assumption | exact hsh _ _ rfl) (by first | omega | (split <;> omega)) (by first | omega | (split <;> omega)) q1 (fun b_63 => ?_)
        refine j_icmp_lt (tgt := 74) dX1_leastBorne_64 rfl (by first | omega | (split <;> omega)) (by first | omega | (split <;> omega)) (fun c_64 => ?_) (fun c_64 => ?_)
        · refine j_iload dX1_leastBorne_74 rfl ?_
          refine j_iconst dX1_leastBorne_76 ?_
          refine j_iadd dX1_leastBorne_77 ?_
          refine j_istore_n dX1_leastBorne_78 (by decide) ?_
          refine j_iinc dX1_leastBorne_79 rfl (by decide) ?_
          refine j_goto (tgt := 29) dX1_leastBorne_82 rfl ?_
          first | exact ih _ _ _ _ (by omega) (by omega) (by omega) (by omega) (by omega) (by omega) (by omega) h6 | exact ih _ _ _ _ (by omega) (by omega) (by omega) (by omega) (by omega) (by omega) h5 (fun k hk0 hk1 => by have := mFelt_mono (w := w) (p := p) (n := n) (show k ≤ (lo + hi) / 2 by omega); omega)
        · refine j_iload dX1_leastBorne_67 rfl ?_
          refine j_istore dX1_leastBorne_69 (by decide) ?_
          refine j_goto (tgt := 79) dX1_leastBorne_71 rfl ?_
          refine j_iinc dX1_leastBorne_79 rfl (by decide) ?_
          refine j_goto (tgt := 29) dX1_leastBorne_82 rfl ?_
          first | exact ih _ _ _ _ (by omega) (by omega) (by omega) (by omega) (by omega) (by omega) (by omega) h6 | exact ih _ _ _ _ (by omega) (by omega) (by omega) (by omega) (by omega) (by omega) h5 (fun k hk0 hk1 => by have := mFelt_mono (w := w) (p := p) (n := n) (show k ≤ (lo + hi) / 2 by omega); omega)
  have hf0 := (mFelt_in hD hB h0 (n := n) (level := 0) (by omega) (by omega)).1
  have hf1 := mFelt_big hD hB h0 h1 (x := aOf w p 1) (by omega)
  refine j_iconst dX1_leastBorne_0 ?_
  refine j_istore_n dX1_leastBorne_1 (by decide) ?_
  refine j_aload_n dX1_leastBorne_2 rfl ?_
  refine r_getS dX1_leastBorne_3 flX1_27 (by first | assumption | exact hsh _ _ rfl) (by assumption) ?_
  refine j_iload_n dX1_leastBorne_6 rfl ?_
  refine r_ialoadE dX1_leastBorne_7 (by first | assumption | exact hsh _ _ rfl) (by first | omega | (split <;> omega)) (by first | omega | (split <;> omega)) q1 (fun b_7 => ?_)
  refine j_if_ne (tgt := 15) dX1_leastBorne_8 rfl (by first | omega | (split <;> omega)) (fun c_8 => ?_) (fun c_8 => ?_)
  · refine j_aload_n dX1_leastBorne_15 rfl ?_
    refine r_getS dX1_leastBorne_16 flX1_27 (by first | assumption | exact hsh _ _ rfl) (by assumption) ?_
    refine j_iload_n dX1_leastBorne_19 rfl ?_
    refine r_ialoadE dX1_leastBorne_20 (by first | assumption | exact hsh _ _ rfl) (by first | omega | (split <;> omega)) (by first | omega | (split <;> omega)) q1 (fun b_20 => ?_)
    refine j_bipush dX1_leastBorne_21 (by decide) ?_
    refine j_iadd dX1_leastBorne_23 ?_
    refine j_istore dX1_leastBorne_24 (by decide) ?_
    refine j_iconst dX1_leastBorne_26 ?_
    refine j_istore dX1_leastBorne_27 (by decide) ?_
    exact loop 32 0 0 _ _ (by omega) (by omega) (by omega) (by omega) (by omega) (by omega) (by first | exact hf1 | omega) (fun k hk0 hk1 => by omega)
  · refine j_iconst dX1_leastBorne_11 ?_
    refine j_goto (tgt := 24) dX1_leastBorne_12 rfl ?_
    refine j_istore dX1_leastBorne_24 (by decide) ?_
    refine j_iconst dX1_leastBorne_26 ?_
    refine j_istore dX1_leastBorne_27 (by decide) ?_
    exact loop 32 0 0 _ _ (by omega) (by omega) (by omega) (by omega) (by omega) (by omega) (by first | exact hf1 | omega) (fun k hk0 hk1 => by omega)
end
