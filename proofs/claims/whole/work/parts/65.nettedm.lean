/-! THE FEWEST PAYMENTS: THE MODEL -/
theorem mDif_pos {x q : Int} (hx : 0 ≤ x ∧ x < 256) (hq : 1 ≤ q ∧ q < x) (h : jAnd q x = q) : 1 ≤ mDif x q := by
  have hd := mDif_b hx (y := q) (by omega)
  by_cases e : mDif x q = 0
  · have : x = q := jset_ext hx (by omega) (fun r r0 r1 => by
      constructor
      · intro h2
        by_cases c : jbit q r
        · exact c
        · have := (hd.2 r r0 r1).2 ⟨h2, c⟩
          rw [e] at this
          exact absurd this (jbit_0 r0 (by omega))
      · exact (sub_is hx (y := q) (by omega)).1 h r r0 r1)
    omega
  · omega
section
variable {G : jzG} {d : Nat} {sh : List (Nat × Nat)} {I : Nat → Int → Int} {F : Nat → Int → Option Nat} {w : Int → Int}
theorem sm_netAll (hsh : ShOK sh) (hfx : FxOK F) {n : Nat} (hn : n ≤ 8) {N : Int → Int} (hp : aPe (I 171) = n) (hN : ∀ p, 0 ≤ p → p < (n : Int) → I 182 p = N p) {x : Int} : jS G (d + 1) mX12_netAll [jR (some 170), jI x] (sh, I, F) 0 0 (rI (sS N n x) (sh, I, F)) := by
  refine jS_go [some (jR (some 170)), some (jI x), none, none] (by decide +kernel) rfl (by simp [jone]) (Nat.le_of_ble_eq_true rfl) rfl (fun hok => ?_)
  refine j_iconst dX12_netAll_0 ?_
  refine j_istore_n dX12_netAll_1 (by decide) ?_
  refine j_iconst dX12_netAll_2 ?_
  refine j_istore_n dX12_netAll_3 (by decide) ?_
  skip
  refine jW_loop 4 (fun _ _ => True) (fun p a => a + (if jbit x p then N p else 0)) 0 n (fun z a => [some (jR (some 170)), some (jI x), some (jI a), some (jI z)]) (fun _ _ => (sh, I, F)) (by omega) trivial (fun _ _ _ _ _ => trivial) (fun a ha _ => ?_) (fun z a hz0 hz1 _ ih => ?_)
  · refine j_iload_n dX12_netAll_4 rfl ?_
    refine j_aload_n dX12_netAll_5 rfl ?_
    refine r_cv0I dX12_netAll_6 cvX12_74 (by decide) (by first | assumption | exact hsh _ _ rfl) (Nat.le_of_ble_eq_true rfl) (Nat.le_of_eq (Nat.zero_add _)) (Nat.le_of_eq (Nat.zero_add _)) (sm_people hsh hfx) ?_
    rw [hp]
    refine j_icmp_ge (tgt := 39) dX12_netAll_9 rfl (by first | omega | (split <;> omega)) (by first | omega | (split <;> omega)) (fun c_9 => ?_) (fun c_9 => by exact absurd (by omega) c_9)
    refine j_iload_n dX12_netAll_39 rfl ?_
    refine j_iret dX12_netAll_40 rfl ?_
    exact rI_of (by rw [ha]; rfl) rfl
  · have q := hN z hz0 hz1
    refine j_iload_n dX12_netAll_4 rfl ?_
    refine j_aload_n dX12_netAll_5 rfl ?_
    refine r_cv0I dX12_netAll_6 cvX12_74 (by decide) (by first | assumption | exact hsh _ _ rfl) (Nat.le_of_ble_eq_true rfl) (Nat.le_of_eq (Nat.zero_add _)) (Nat.le_of_eq (Nat.zero_add _)) (sm_people hsh hfx) ?_
    rw [hp]
    refine j_icmp_ge (tgt := 39) dX12_netAll_9 rfl (by first | omega | (split <;> omega)) (by first | omega | (split <;> omega)) (fun c_9 => by exact absurd c_9 (by omega)) (fun c_9 => ?_)
    refine j_iload_n dX12_netAll_12 rfl ?_
    refine j_iload_n dX12_netAll_13 rfl ?_
    refine j_iload_n dX12_netAll_14 rfl ?_
    refine r_cs2I dX12_netAll_15 csX12_332 (Nat.le_of_ble_eq_true rfl) (Nat.le_of_eq (Nat.zero_add _)) (Nat.le_of_eq (Nat.zero_add _)) (sm_has) ?_
    refine j_if_eq (tgt := 30) dX12_netAll_18 rfl (by first | omega | (split <;> omega)) (fun c_18 => ?_) (fun c_18 => ?_)
    · rw [ite0] at c_18
      rw [if_neg c_18] at ih
      refine j_iconst dX12_netAll_30 ?_
      refine j_iadd dX12_netAll_31 ?_
      refine j_istore_n dX12_netAll_32 (by decide) ?_
      refine j_iinc dX12_netAll_33 rfl (by decide) ?_
      refine j_goto (tgt := 4) dX12_netAll_36 rfl ?_
      exact ih
    · rw [ite0, Classical.not_not] at c_18
      rw [if_pos c_18] at ih
      refine j_aload_n dX12_netAll_21 rfl ?_
      refine r_getS dX12_netAll_22 flX12_51 (by first | assumption | exact hsh _ _ rfl) (fx_170_23 hfx) ?_
      refine j_iload_n dX12_netAll_25 rfl ?_
      refine r_ialoadE dX12_netAll_26 (by first | assumption | exact hsh _ _ rfl) (by first | omega | (split <;> omega)) (by first | omega | (split <;> omega)) q (fun b_26 => ?_)
      refine j_goto (tgt := 31) dX12_netAll_27 rfl ?_
      refine j_iadd dX12_netAll_31 ?_
      refine j_istore_n dX12_netAll_32 (by decide) ?_
      refine j_iinc dX12_netAll_33 rfl (by decide) ?_
      refine j_goto (tgt := 4) dX12_netAll_36 rfl ?_
      exact ih
theorem sm_zerosOf (hsh : ShOK sh) (hfx : FxOK F) {n : Nat} (hn : n ≤ 8) {N Z : Int → Int} (hp : aPe (I 171) = n) (hN : ∀ p, 0 ≤ p → p < (n : Int) → I 182 p = N p) (hS : ∀ y, -900000000 ≤ sS N n y ∧ sS N n y ≤ 900000000) {x : Int} (hx : 1 ≤ x ∧ x < 256) (hZ : ∀ y, 1 ≤ y → y < x → I 183 y = Z y) (hZb : ∀ y, 1 ≤ y → y < x → -1 ≤ Z y ∧ Z y ≤ 256) : jS G (d + 2) mX12_zerosOf [jR (some 170), jI x] (sh, I, F) 0 0 (rI (zV N Z n x) (sh, I, F)) := by
  have hx8 : 0 ≤ x ∧ x < 256 := by omega
  have sn := sm_netAll (G := G) (d := d) (I := I) (F := F) hsh hfx hn hp hN (x := x)
  have bs := hS x
  refine jS_go [some (jR (some 170)), some (jI x), none, none] (by decide +kernel) rfl (by simp [jone]) (Nat.le_of_ble_eq_true rfl) rfl (fun hok => ?_)
  by_cases e : sS N n x = 0
  · have hv : zV N Z n x = zB Z x (x - 1).toNat := if_pos e
    have loop : ∀ (k : Nat) (y : Int), y < k → 0 ≤ y → y < x → jAnd y x = y → (1 ≤ zB Z x (x - 1 - y).toNat ∧ zB Z x (x - 1 - y).toNat ≤ 512) → jW G mX12_zerosOf (d + 2) (rI (zV N Z n x) (sh, I, F)) 18 [some (jR (some 170)), some (jI x), some (jI (zB Z x (x - 1 - y).toNat)), some (jI y)] [] (sh, I, F) 0 0 := by
      intro k
      induction k with
      | zero => intro y hk h0; omega
      | succ k ih =>
        intro y hk hy0 hyx hys hb
        by_cases c : y = 0
        · subst c
          refine j_iload_n dX12_zerosOf_18 rfl ?_
          refine j_if_le (tgt := 75) dX12_zerosOf_19 rfl (by first | omega | (split <;> omega)) (fun c_19 => ?_) (fun c_19 => by exact absurd (by decide) c_19)
          refine j_iload_n dX12_zerosOf_75 rfl ?_
          refine j_iret dX12_zerosOf_76 rfl ?_
          exact rI_of (by rw [hv, Int.sub_zero]) rfl
        · have hd := mDif_in hx8 (q := y) (by omega) hys
          have hd2 : 0 ≤ jAnd x (jXor y (-1)) ∧ jAnd x (jXor y (-1)) < x := hd
          have hd3 := mDif_pos hx8 (q := y) (by omega) hys
          have q1 := hZ y (by omega) hyx
          have q2 : I 183 (jAnd x (jXor y (-1))) = Z (mDif x y) := hZ (mDif x y) hd3 hd.2
          have z1 := hZb y (by omega) hyx
          have z2 := hZb (mDif x y) hd3 hd.2
          -- the next one
          have hnx := and_sub hx8 (y := y - 1) (by omega)
          obtain ⟨v, hvv⟩ : ∃ v, jAnd (y - 1) x = v := ⟨_, rfl⟩
          rw [hvv] at hnx
          have hst : zB Z x (x - 1 - v).toNat = if zC Z x y then max (zB Z x (x - 1 - y).toNat) (Z y + Z (mDif x y)) else zB Z x (x - 1 - y).toNat := by
            have h1 : zB Z x (x - 1 - v).toNat = zB Z x ((x - 1 - y).toNat + 1) := zB_skip (by omega) (fun t t0 t1 hq => by
              refine sub_next hx8 (y := y) (q := x - 1 - t) (by omega) hys (by omega) (by omega) hq.1)
            rw [h1]
            show (if zC Z x (x - 1 - ((x - 1 - y).toNat : Int)) then _ else _) = _
            rw [show x - 1 - ((x - 1 - y).toNat : Int) = y by omega]
            rfl
          have fin : ∀ r, r = zB Z x (x - 1 - v).toNat → (1 ≤ r ∧ r ≤ 512) → jW G mX12_zerosOf (d + 2) (rI (zV N Z n x) (sh, I, F)) 66 [some (jR (some 170)), some (jI x), some (jI r), some (jI y)] [] (sh, I, F) 0 0 := by
            intro r hr hrb
            subst hr
            refine j_iload_n dX12_zerosOf_66 rfl ?_
            refine j_iconst dX12_zerosOf_67 ?_
            refine j_isub dX12_zerosOf_68 ?_
            refine j_iload_n dX12_zerosOf_69 rfl ?_
            refine r_iand dX12_zerosOf_70 (fun b_70 => ?_)
            rw [hvv]
            refine j_istore_n dX12_zerosOf_71 (by decide) ?_
            refine j_goto (tgt := 18) dX12_zerosOf_72 rfl ?_
            exact ih v (by omega) hnx.1.1 (by omega) hnx.2 hrb
          by_cases c1 : 0 < Z y
          · by_cases c2 : 0 < Z (mDif x y)
            · rw [if_pos ⟨hys, c1, c2⟩] at hst
              have f2 := fin _ hst.symm (by omega)
              refine j_iload_n dX12_zerosOf_18 rfl ?_
              refine j_if_le (tgt := 75) dX12_zerosOf_19 rfl (by first | omega | (split <;> omega)) (fun c_19 => by exact absurd c_19 (by omega)) (fun c_19 => ?_)
              refine j_aload_n dX12_zerosOf_22 rfl ?_
              refine r_getS dX12_zerosOf_23 flX12_54 (by first | assumption | exact hsh _ _ rfl) (fx_170_24 hfx) ?_
              refine j_iload_n dX12_zerosOf_26 rfl ?_
              refine r_ialoadE dX12_zerosOf_27 (by first | assumption | exact hsh _ _ rfl) (by first | omega | (split <;> omega)) (by first | omega | (split <;> omega)) q1 (fun b_27 => ?_)
              refine j_if_le (tgt := 66) dX12_zerosOf_28 rfl (by first | omega | (split <;> omega)) (fun c_28 => by exact absurd c_28 (by omega)) (fun c_28 => ?_)
              refine j_aload_n dX12_zerosOf_31 rfl ?_
              refine r_getS dX12_zerosOf_32 flX12_54 (by first | assumption | exact hsh _ _ rfl) (fx_170_24 hfx) ?_
              refine j_iload_n dX12_zerosOf_35 rfl ?_
              refine j_iload_n dX12_zerosOf_36 rfl ?_
              refine j_iconst dX12_zerosOf_37 ?_
              refine r_ixor dX12_zerosOf_38 (fun b_38 => ?_)
              refine r_iand dX12_zerosOf_39 (fun b_39 => ?_)
              refine r_ialoadE dX12_zerosOf_40 (by first | assumption | exact hsh _ _ rfl) (by first | omega | (split <;> omega)) (by first | omega | (split <;> omega)) q2 (fun b_40 => ?_)
              refine j_if_le (tgt := 66) dX12_zerosOf_41 rfl (by first | omega | (split <;> omega)) (fun c_41 => by exact absurd c_41 (by omega)) (fun c_41 => ?_)
              refine j_iload_n dX12_zerosOf_44 rfl ?_
              refine j_aload_n dX12_zerosOf_45 rfl ?_
              refine r_getS dX12_zerosOf_46 flX12_54 (by first | assumption | exact hsh _ _ rfl) (fx_170_24 hfx) ?_
              refine j_iload_n dX12_zerosOf_49 rfl ?_
              refine r_ialoadE dX12_zerosOf_50 (by first | assumption | exact hsh _ _ rfl) (by first | omega | (split <;> omega)) (by first | omega | (split <;> omega)) q1 (fun b_50 => ?_)
              refine j_aload_n dX12_zerosOf_51 rfl ?_
              refine r_getS dX12_zerosOf_52 flX12_54 (by first | assumption | exact hsh _ _ rfl) (fx_170_24 hfx) ?_
              refine j_iload_n dX12_zerosOf_55 rfl ?_
              refine j_iload_n dX12_zerosOf_56 rfl ?_
              refine j_iconst dX12_zerosOf_57 ?_
              refine r_ixor dX12_zerosOf_58 (fun b_58 => ?_)
              refine r_iand dX12_zerosOf_59 (fun b_59 => ?_)
              refine r_ialoadE dX12_zerosOf_60 (by first | assumption | exact hsh _ _ rfl) (by first | omega | (split <;> omega)) (by first | omega | (split <;> omega)) q2 (fun b_60 => ?_)
              refine j_iadd dX12_zerosOf_61 ?_
              refine r_max dX12_zerosOf_62 lmX12_280 (Nat.le_of_ble_eq_true rfl) (by first | omega | (split <;> omega)) (by first | omega | (split <;> omega)) ?_
              refine j_istore_n dX12_zerosOf_65 (by decide) ?_
              exact f2
            · rw [if_neg (fun q => c2 q.2.2)] at hst
              have f2 := fin _ hst.symm hb
              refine j_iload_n dX12_zerosOf_18 rfl ?_
              refine j_if_le (tgt := 75) dX12_zerosOf_19 rfl (by first | omega | (split <;> omega)) (fun c_19 => by exact absurd c_19 (by omega)) (fun c_19 => ?_)
              refine j_aload_n dX12_zerosOf_22 rfl ?_
              refine r_getS dX12_zerosOf_23 flX12_54 (by first | assumption | exact hsh _ _ rfl) (fx_170_24 hfx) ?_
              refine j_iload_n dX12_zerosOf_26 rfl ?_
              refine r_ialoadE dX12_zerosOf_27 (by first | assumption | exact hsh _ _ rfl) (by first | omega | (split <;> omega)) (by first | omega | (split <;> omega)) q1 (fun b_27 => ?_)
              refine j_if_le (tgt := 66) dX12_zerosOf_28 rfl (by first | omega | (split <;> omega)) (fun c_28 => by exact absurd c_28 (by omega)) (fun c_28 => ?_)
              refine j_aload_n dX12_zerosOf_31 rfl ?_
              refine r_getS dX12_zerosOf_32 flX12_54 (by first | assumption | exact hsh _ _ rfl) (fx_170_24 hfx) ?_
              refine j_iload_n dX12_zerosOf_35 rfl ?_
              refine j_iload_n dX12_zerosOf_36 rfl ?_
              refine j_iconst dX12_zerosOf_37 ?_
              refine r_ixor dX12_zerosOf_38 (fun b_38 => ?_)
              refine r_iand dX12_zerosOf_39 (fun b_39 => ?_)
              refine r_ialoadE dX12_zerosOf_40 (by first | assumption | exact hsh _ _ rfl) (by first | omega | (split <;> omega)) (by first | omega | (split <;> omega)) q2 (fun b_40 => ?_)
              refine j_if_le (tgt := 66) dX12_zerosOf_41 rfl (by first | omega | (split <;> omega)) (fun c_41 => ?_) (fun c_41 => by exact absurd (by omega) c_41)
              exact f2
          · rw [if_neg (fun q => c1 q.2.1)] at hst
            have f2 := fin _ hst.symm hb
            refine j_iload_n dX12_zerosOf_18 rfl ?_
            refine j_if_le (tgt := 75) dX12_zerosOf_19 rfl (by first | omega | (split <;> omega)) (fun c_19 => by exact absurd c_19 (by omega)) (fun c_19 => ?_)
            refine j_aload_n dX12_zerosOf_22 rfl ?_
            refine r_getS dX12_zerosOf_23 flX12_54 (by first | assumption | exact hsh _ _ rfl) (fx_170_24 hfx) ?_
            refine j_iload_n dX12_zerosOf_26 rfl ?_
            refine r_ialoadE dX12_zerosOf_27 (by first | assumption | exact hsh _ _ rfl) (by first | omega | (split <;> omega)) (by first | omega | (split <;> omega)) q1 (fun b_27 => ?_)
            refine j_if_le (tgt := 66) dX12_zerosOf_28 rfl (by first | omega | (split <;> omega)) (fun c_28 => ?_) (fun c_28 => by exact absurd (by omega) c_28)
            exact f2
    have hn0 := and_sub hx8 (y := x - 1) (by omega)
    obtain ⟨v, hvv⟩ : ∃ v, jAnd (x - 1) x = v := ⟨_, rfl⟩
    rw [hvv] at hn0
    have h1 : zB Z x (x - 1 - v).toNat = 1 := zB_skip (k := 0) (by omega) (fun t t0 t1 hq => by
      have hxx : jAnd x x = x := (sub_is hx8 hx8).2 (fun q q0 q1 h => h)
      exact sub_next hx8 (y := x) (q := x - 1 - t) (by omega) hxx (by omega) (by omega) hq.1)
    have l0 := loop 256 v (by omega) hn0.1.1 (by omega) hn0.2 (by rw [h1]; decide)
    rw [h1] at l0
    refine j_aload_n dX12_zerosOf_0 rfl ?_
    refine j_iload_n dX12_zerosOf_1 rfl ?_
    refine r_cv1I dX12_zerosOf_2 cvX12_373 (by decide) (by first | assumption | exact hsh _ _ rfl) (Nat.le_of_ble_eq_true rfl) (Nat.le_of_eq (Nat.zero_add _)) (Nat.le_of_eq (Nat.zero_add _)) (sn) ?_
    rw [e]
    refine j_if_eq (tgt := 10) dX12_zerosOf_5 rfl (by first | omega | (split <;> omega)) (fun c_5 => ?_) (fun c_5 => by exact absurd rfl c_5)
    refine j_iconst dX12_zerosOf_10 ?_
    refine j_istore_n dX12_zerosOf_11 (by decide) ?_
    refine j_iload_n dX12_zerosOf_12 rfl ?_
    refine j_iconst dX12_zerosOf_13 ?_
    refine j_isub dX12_zerosOf_14 ?_
    refine j_iload_n dX12_zerosOf_15 rfl ?_
    refine r_iand dX12_zerosOf_16 (fun b_16 => ?_)
    rw [hvv]
    refine j_istore_n dX12_zerosOf_17 (by decide) ?_
    exact l0
  · have hv : zV N Z n x = -1 := if_neg e
    refine j_aload_n dX12_zerosOf_0 rfl ?_
    refine j_iload_n dX12_zerosOf_1 rfl ?_
    refine r_cv1I dX12_zerosOf_2 cvX12_373 (by decide) (by first | assumption | exact hsh _ _ rfl) (Nat.le_of_ble_eq_true rfl) (Nat.le_of_eq (Nat.zero_add _)) (Nat.le_of_eq (Nat.zero_add _)) (sn) ?_
    refine j_if_eq (tgt := 10) dX12_zerosOf_5 rfl (by first | omega | (split <;> omega)) (fun c_5 => by exact absurd c_5 e) (fun c_5 => ?_)
    refine j_iconst dX12_zerosOf_8 ?_
    refine j_iret dX12_zerosOf_9 rfl ?_
    exact rI_of hv.symm rfl
theorem mp_netted (hsh : ShOK sh) (hfx : FxOK F) {B : Int} (hB : B ≤ 900000000) (hO : OKw B (I 171)) : jS G (d + 6) mX12_netted [jR (some 170)] (sh, I, F) 0 0 (rEI (vNtd (I 171)) sh F (AcO 0 I I)) := by
  have hvn := vNtd_need hO
  obtain ⟨o1, o2, o3, o4, o5, o6, o7⟩ := hO
  have r1 := o1.1
  obtain ⟨w, hw⟩ : ∃ w, I 171 = w := ⟨_, rfl⟩
  rw [hw] at o1 o2 o3 o4 o5 o6 o7 r1 hvn ⊢
  have nk : 0 < aPe w → nOK (aPe w - 1).toNat B (nN w) := fun h => nOK_0 (by omega) o6 o7
  have ji : ∀ p, 0 ≤ p → p < aPe w → jin (mNet w p) := fun p p0 p1 => by
    have := nOK_in (nk (by omega)) p p0 (by omega)
    have e : nN w p = mNet w p := rfl
    omega
  obtain ⟨n, hn⟩ : ∃ n : Nat, aPe w = n := ⟨(aPe w).toNat, by omega⟩
  have en : (aPe w).toNat = n := by omega
  rw [en] at hvn
  have hn8 : n ≤ 8 := by omega
  have sin : ∀ x, -900000000 ≤ sS (nN w) n x ∧ sS (nN w) n x ≤ 900000000 := fun x => by
    by_cases c : 0 < aPe w
    · have := sS_in (nk c) x
      rw [show (aPe w - 1).toNat + 1 = n by omega] at this
      omega
    · rw [show n = 0 by omega]; show -900000000 ≤ (0 : Int) ∧ (0 : Int) ≤ 900000000; decide
  have hd := nNd_b (N := nN w) (n := n) hn8
  refine jS_go [some (jR (some 170)), none, none] (by decide +kernel) rfl (by simp [jone]) (Nat.le_of_ble_eq_true rfl) rfl (fun hok => ?_)
  refine j_aload_n dX12_netted_0 rfl ?_
  refine j_iconst dX12_netted_1 ?_
  refine r_putI dX12_netted_2 flX12_3 rfl (by first | assumption | exact hsh _ _ rfl) (by first | omega | (split <;> omega)) (fun q => by cases q) ?_
  skip
  have hok1 : jzok (sh, jup I 170 0 0, F) := jzok_I hok jin_lit0
  obtain ⟨I1, hI1⟩ : ∃ J, J = jup I 170 0 0 := ⟨_, rfl⟩
  rw [← hI1] at hok1 ⊢
  have hok0 := hok
  clear hok
  have hok := hok1
  have fr1 : ∀ a, a ≠ 170 → I1 a = I a := fun a ha => by rw [hI1, jup_ne _ _ _ ha]
  have fr1k : ∀ k, k ≠ 0 → I1 170 k = I 170 k := fun k hk => by rw [hI1, jup_row _ _ _ hk]
  have fr1c : I1 170 0 = 0 := by rw [hI1, jup_same]
  have hw0 : I1 171 = I 171 := fr1 171 (by decide)
  generalize hQ : rEI (vNtd w) sh F (AcO 0 I I) = Q9
  have eI : I1 171 = w := hw0.trans hw
  have sl := sm_laysNets (G := G) (d := d + 2) (F := F) (I := I1) hsh hfx (by rw [eI]; exact r1) (by rw [eI]; exact ji)
  rw [eI] at sl
  refine j_aload_n dX12_netted_5 rfl ?_
  refine r_cv0EV dX12_netted_6 cvX12_359 (by decide) (by first | assumption | exact hsh _ _ rfl) (Nat.le_of_ble_eq_true rfl) (Nat.le_of_eq (Nat.zero_add _)) (Nat.le_of_eq (Nat.zero_add _)) (sl) (fun J hJ => ?_)
  refine j_iconst dX12_netted_9 ?_
  refine j_istore_n dX12_netted_10 (by decide) ?_
  refine j_iconst dX12_netted_11 ?_
  refine j_istore_n dX12_netted_12 (by decide) ?_
  skip
  have eJ : J 171 = w := (hJ.2 171 (by decide)).trans eI
  have ep : aPe (J 171) = aPe w := by rw [eJ]
  have fin : ∀ K : Nat → Int → Int, (∀ a, a ≠ 183 → K a = J a) → AcO 0 I I K := fun K hK => by
    have h2 : ∀ a, a ≠ 170 → a ≠ 182 → a ≠ 183 → K a = I a := fun a h1 h2 h3 => by rw [hK a h3, hJ.2 a h2, fr1 a h1]
    have h3 : ∀ k, k ≠ 0 → K 170 k = I 170 k := fun k hk => by rw [hK 170 (by decide), hJ.2 170 (by decide), fr1k k hk]
    exact ⟨by rw [hK 170 (by decide), hJ.2 170 (by decide), fr1c], ⟨h2 171 (by decide) (by decide) (by decide), h2 172 (by decide) (by decide) (by decide), h2 175 (by decide) (by decide) (by decide), h2 176 (by decide) (by decide) (by decide), h3 6 (by decide), h3 7 (by decide), h3 9 (by decide), h3 14 (by decide)⟩, fun a ha => h2 a (by omega) (by omega) (by omega)⟩
  -- the table
  have key : ∀ (m : Nat) (x : Int) (K : Nat → Int → Int), x + m = nNd (nN w) n + 1 → 1 ≤ x → (∀ y, 1 ≤ y → y < x → K 183 y = zG (nN w) n y) → (∀ a, a ≠ 183 → K a = J a) → jW G mX12_netted (d + 6) Q9 48 [some (jR (some 170)), some (jI (nNd (nN w) n)), some (jI x)] [] (sh, K, F) 0 0 := by
    intro m
    induction m with
    | zero =>
      intro x K hx hx1 hz hK
      by_cases e : nNd (nN w) n = 0
      · rw [if_pos e] at hvn
        refine j_iload_n dX12_netted_48 rfl ?_
        refine j_iload_n dX12_netted_49 rfl ?_
        refine j_icmp_gt (tgt := 70) dX12_netted_50 rfl (by first | omega | (split <;> omega)) (by first | omega | (split <;> omega)) (fun c_50 => ?_) (fun c_50 => by exact absurd (by omega) c_50)
        refine j_iload_n dX12_netted_70 rfl ?_
        refine j_if_ne (tgt := 78) dX12_netted_71 rfl (by first | omega | (split <;> omega)) (fun c_71 => by exact absurd e c_71) (fun c_71 => ?_)
        refine j_iconst dX12_netted_74 ?_
        refine j_goto (tgt := 89) dX12_netted_75 rfl ?_
        refine j_iret dX12_netted_89 rfl ?_
        rw [← hQ]
        exact rEI_of hvn.symm (fin K hK)
      · rw [if_neg e] at hvn
        have q := hz (nNd (nN w) n) (by omega) (by omega)
        have zb := zG_in (N := nN w) (n := n) hn8 (x := nNd (nN w) n) ⟨hd.1, fun q q0 q1 h => ((hd.2 q q0 q1).1 h).1⟩
        refine j_iload_n dX12_netted_48 rfl ?_
        refine j_iload_n dX12_netted_49 rfl ?_
        refine j_icmp_gt (tgt := 70) dX12_netted_50 rfl (by first | omega | (split <;> omega)) (by first | omega | (split <;> omega)) (fun c_50 => ?_) (fun c_50 => by exact absurd (by omega) c_50)
        refine j_iload_n dX12_netted_70 rfl ?_
        refine j_if_ne (tgt := 78) dX12_netted_71 rfl (by first | omega | (split <;> omega)) (fun c_71 => ?_) (fun c_71 => by exact absurd (Classical.not_not.1 c_71) e)
        refine j_iload_n dX12_netted_78 rfl ?_
        refine r_cs1J dX12_netted_79 csX12_379 (Nat.le_of_ble_eq_true rfl) (Nat.le_of_eq (Nat.zero_add _)) (Nat.le_of_eq (Nat.zero_add _)) (sj_bitCount) (jAnd_in _ _) (fun b_79 => ?_)
        refine j_aload_n dX12_netted_82 rfl ?_
        refine r_getS dX12_netted_83 flX12_54 (by first | assumption | exact hsh _ _ rfl) (fx_170_24 hfx) ?_
        refine j_iload_n dX12_netted_86 rfl ?_
        refine r_ialoadE dX12_netted_87 (by first | assumption | exact hsh _ _ rfl) (by first | omega | (split <;> omega)) (by first | omega | (split <;> omega)) q (fun b_87 => ?_)
        refine j_isub dX12_netted_88 ?_
        refine j_iret dX12_netted_89 rfl ?_
        rw [← hQ]
        exact rEI_of hvn.symm (fin K hK)
    | succ m ih =>
      intro x K hx hx1 hz hK
      have pw : ∀ y, 0 ≤ y → y ≤ nNd (nN w) n → Mk n y := fun y y0 y1 => ⟨by omega, fun q q0 q1 hq => by
        by_cases c : q < (n : Int)
        · exact c
        · exfalso
          have hpow : ∀ (k : Fin 9) (y : Fin 256) (q : Fin 8), (y.val : Int) ≤ jShl 1 (k.val : Int) - 1 → jbit (y.val : Int) (q.val : Int) → q.val < k.val := by decide +kernel
          have hall := aAll_b (w := w) r1
          rw [en] at hall
          have hle := Sub8_le (x := nNd (nN w) n) hd.1 (y := aAllS w) hall.1 (fun q q0 q1 h => (hall.2 q q0 q1).2 ((hd.2 q q0 q1).1 h).1)
          have h5 := hpow ⟨n, by omega⟩ ⟨y.toNat, by omega⟩ ⟨q.toNat, by omega⟩ (by
            show ((y.toNat : Nat) : Int) ≤ jShl 1 ((n : Nat) : Int) - 1
            have : aAllS w = jShl 1 ((n : Nat) : Int) - 1 := by unfold aAllS; rw [hn]
            omega) (by
            show jbit ((y.toNat : Nat) : Int) ((q.toNat : Nat) : Int)
            rw [show ((y.toNat : Nat) : Int) = y by omega, show ((q.toNat : Nat) : Int) = q by omega]; exact hq)
          have h6 : q.toNat < n := h5
          omega⟩
      have sz := sm_zerosOf (G := G) (d := d + 3) (F := F) (I := K) hsh hfx hn8 (N := nN w) (Z := zG (nN w) n) (by rw [hK 171 (by decide), ep]; exact hn) (fun p p0 p1 => by rw [hK 182 (by decide)]; exact hJ.1 p p0 (by omega)) sin (x := x) (by omega) hz (fun y y0 y1 => zG_in hn8 (pw y (by omega) (by omega)))
      have zb := zG_in (N := nN w) (n := n) hn8 (x := x) (pw x (by omega) (by omega))
      rw [← zG_v (by omega)] at sz
      refine j_iload_n dX12_netted_48 rfl ?_
      refine j_iload_n dX12_netted_49 rfl ?_
      refine j_icmp_gt (tgt := 70) dX12_netted_50 rfl (by first | omega | (split <;> omega)) (by first | omega | (split <;> omega)) (fun c_50 => by exact absurd c_50 (by omega)) (fun c_50 => ?_)
      refine j_aload_n dX12_netted_53 rfl ?_
      refine r_getS dX12_netted_54 flX12_54 (by first | assumption | exact hsh _ _ rfl) (fx_170_24 hfx) ?_
      refine j_iload_n dX12_netted_57 rfl ?_
      refine j_aload_n dX12_netted_58 rfl ?_
      refine j_iload_n dX12_netted_59 rfl ?_
      refine r_cv1I dX12_netted_60 cvX12_376 (by decide) (by first | assumption | exact hsh _ _ rfl) (Nat.le_of_ble_eq_true rfl) (Nat.le_of_eq (Nat.zero_add _)) (Nat.le_of_eq (Nat.zero_add _)) (sz) ?_
      refine r_iastore dX12_netted_63 (by first | assumption | exact hsh _ _ rfl) (by first | omega | (split <;> omega)) (by first | omega | (split <;> omega)) (by first | omega | (split <;> omega)) ?_
      refine j_iinc dX12_netted_64 rfl (by decide) ?_
      refine j_goto (tgt := 48) dX12_netted_67 rfl ?_
      exact ih (x + 1) _ (by omega) (by omega) (fun y y0 y1 => by
        by_cases c : y = x
        · subst c; exact jup_same _ _ _ _
        · rw [jup_row _ _ _ c]; exact hz y y0 (by omega)) (fun a ha => by rw [jup_ne _ _ _ ha]; exact hK a ha)
  -- those whose nets are something
  refine jW_loop 13 (fun _ _ => True) (fun p a => jOr a (if nN w p = 0 then 0 else jShl 1 p)) 0 (aPe w) (fun z a => [some (jR (some 170)), some (jI a), some (jI z)]) (fun _ _ => (sh, J, F)) r1.1 trivial (fun _ _ _ _ _ => trivial) (fun a ha _ => ?_) (fun z a hz0 hz1 _ ih => ?_)
  · have ha2 : a = nNd (nN w) n := by rw [ha, en]; rfl
    subst ha2
    refine j_iload_n dX12_netted_13 rfl ?_
    refine j_aload_n dX12_netted_14 rfl ?_
    refine r_cv0I dX12_netted_15 cvX12_74 (by decide) (by first | assumption | exact hsh _ _ rfl) (Nat.le_of_ble_eq_true rfl) (Nat.le_of_eq (Nat.zero_add _)) (Nat.le_of_eq (Nat.zero_add _)) (sm_people hsh hfx) ?_
    rw [ep]
    refine j_icmp_ge (tgt := 46) dX12_netted_18 rfl (by first | omega | (split <;> omega)) (by first | omega | (split <;> omega)) (fun c_18 => ?_) (fun c_18 => by exact absurd (by omega) c_18)
    refine j_iconst dX12_netted_46 ?_
    refine j_istore_n dX12_netted_47 (by decide) ?_
    exact key (nNd (nN w) n).toNat 1 J (by omega) (by omega) (fun y y0 y1 => by omega) (fun _ _ => rfl)
  · have q : J 182 z = nN w z := hJ.1 z hz0 hz1
    refine j_iload_n dX12_netted_13 rfl ?_
    refine j_aload_n dX12_netted_14 rfl ?_
    refine r_cv0I dX12_netted_15 cvX12_74 (by decide) (by first | assumption | exact hsh _ _ rfl) (Nat.le_of_ble_eq_true rfl) (Nat.le_of_eq (Nat.zero_add _)) (Nat.le_of_eq (Nat.zero_add _)) (sm_people hsh hfx) ?_
    rw [ep]
    refine j_icmp_ge (tgt := 46) dX12_netted_18 rfl (by first | omega | (split <;> omega)) (by first | omega | (split <;> omega)) (fun c_18 => by exact absurd c_18 (by omega)) (fun c_18 => ?_)
    refine j_iload_n dX12_netted_21 rfl ?_
    refine j_aload_n dX12_netted_22 rfl ?_
    refine r_getS dX12_netted_23 flX12_51 (by first | assumption | exact hsh _ _ rfl) (fx_170_23 hfx) ?_
    refine j_iload_n dX12_netted_26 rfl ?_
    refine r_ialoadE dX12_netted_27 (by first | assumption | exact hsh _ _ rfl) (by first | omega | (split <;> omega)) (by first | omega | (split <;> omega)) q (fun b_27 => ?_)
    refine j_if_eq (tgt := 37) dX12_netted_28 rfl (by first | omega | (split <;> omega)) (fun c_28 => ?_) (fun c_28 => ?_)
    · rw [if_pos c_28] at ih
      refine j_iconst dX12_netted_37 ?_
      refine r_ior dX12_netted_38 (fun b_38 => ?_)
      refine j_istore_n dX12_netted_39 (by decide) ?_
      refine j_iinc dX12_netted_40 rfl (by decide) ?_
      refine j_goto (tgt := 13) dX12_netted_43 rfl ?_
      exact ih
    · rw [if_neg c_28] at ih
      refine j_iconst dX12_netted_31 ?_
      refine j_iload_n dX12_netted_32 rfl ?_
      refine r_ishl dX12_netted_33 (fun b_33 => ?_)
      refine j_goto (tgt := 38) dX12_netted_34 rfl ?_
      refine r_ior dX12_netted_38 (fun b_38 => ?_)
      refine j_istore_n dX12_netted_39 (by decide) ?_
      refine j_iinc dX12_netted_40 rfl (by decide) ?_
      refine j_goto (tgt := 13) dX12_netted_43 rfl ?_
      exact ih
end
