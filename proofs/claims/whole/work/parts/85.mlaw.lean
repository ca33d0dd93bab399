/-! THE MODEL READS A LAW -/
def lMd (I : Nat → Int → Int) (B : Int → Int) (n : Int) (R : pR) (J : Nat → Int → Int) : Prop := FrP I J ∧ (R.1 = 1 → Mp J B n R.2.1 R.2.2.1 R.2.2.2) ∧ (R.1 = 0 → ∃ p, Mt J B n p R.2.1)
theorem lMd_0 {I J : Nat → Int → Int} {B : Int → Int} {n p q m : Int} {w : Int → Int} (hf : FrP I J) (h : Mt J B n p q) : lMd I B n (0, q, m, w) J := ⟨hf, fun h => absurd h (show ¬ (0 : Int) = 1 by decide), fun _ => ⟨p, h⟩⟩
theorem lMd_1 {I J : Nat → Int → Int} {B : Int → Int} {n q m : Int} {w : Int → Int} (hf : FrP I J) (h : Mp J B n q m w) : lMd I B n (1, q, m, w) J := ⟨hf, fun _ => h, fun h => absurd h (show ¬ (1 : Int) = 0 by decide)⟩
theorem FrP_w {I J : Nat → Int → Int} {k v : Int} (h : FrP I J) (hk : 1270 ≤ k) : FrP I (jup J 171 k v) := ⟨fun a a0 a1 => by rw [jup_ne _ _ _ a1]; exact h.1 a a0 a1, fun j k0 k1 k2 k3 => by rw [jup_ne _ _ _ (by decide)]; exact h.2.1 j k0 k1 k2 k3, fun j hj => by rw [jup_row _ _ _ (by omega)]; exact h.2.2 j hj⟩
section
variable {G : jzG} {d : Nat} {sh : List (Nat × Nat)} {I : Nat → Int → Int} {F : Nat → Int → Option Nat} {B : Int → Int} {n q m z : Int} {w : Int → Int}
theorem ml_line (hsh : ShOK sh) (hfx : FxOK F) (hM : Mt I B n (lx B n 97 122 q) q) (hq : 0 ≤ q ∧ q ≤ n) (hw : I 171 = w) (h16 : I 170 16 = m) (hz : 0 ≤ z ∧ z < 12) (hm : 0 ≤ m ∧ m ≤ q) : jS G (d + 28) mX12_readLawLine [jR (some 170), jI z] (sh, I, F) 0 0 (rEI (pLine B n z q m w).1 sh F (lMd I B n (pLine B n z q m w))) := by
  have hn4 := hM.2.2.2.2.2
  have s15 := mt_isWordQ (G := G) (d := d + 23) (F := F) hsh hfx hM hq (t := 15) (by decide)
  have s16 := mt_isWordQ (G := G) (d := d + 23) (F := F) hsh hfx hM hq (t := 16) (by decide)
  have hR : pLine B n z q m w = if vWd B n q 16 ∨ vWd B n q 15 then (if vNm B n (tkN B n q) 3 0 99 then (if vWd B n (tkN B n (tkN B n q)) 17 then pThen (pCond B n (pAtom B n 6) (tkN B n (tkN B n (tkN B n q))) m (pHd w z (pPut B n q) (tV B n (tkN B n q)) m)) (fun q1 m1 w1 => (1, q1, m1, wup w1 (1270 + 4 * z + 3) m1)) else (1, tkN B n (tkN B n q), m, wup (pHd w z (pPut B n q) (tV B n (tkN B n q)) m) (1270 + 4 * z + 3) m)) else (0, tkN B n q, m, w)) else (0, q, m, w) := rfl
  refine jS_go [some (jR (some 170)), some (jI z), none, none] (by decide +kernel) rfl (by simp [jone]) (Nat.le_of_ble_eq_true rfl) rfl (fun hok => ?_)
  by_cases e : vWd B n q 16 ∨ vWd B n q 15
  · have t1 : q + 1 ≤ tkN B n q ∧ tkN B n q ≤ n := by
      rcases e with e | e <;> exact wd_s hq.2 e
    have eE : lx B n 97 122 q = tkE B n q := by
      rcases e with e | e
      · exact wd_E (by decide) hq.2 e
      · exact wd_E (by decide) hq.2 e
    obtain ⟨q1, hq1⟩ : ∃ x, tkN B n q = x := ⟨_, rfl⟩
    have hp1 : lxB B n (lx B n 97 122 q) = q1 := by rw [eE]; exact hq1
    rw [hq1] at hR t1
    rw [if_pos e] at hR
    -- behind the first word
    have mid : ∀ y : Int, pPut B n q = y → (y = 0 ∨ y = 1) → jW G mX12_readLawLine (d + 28) (rEI (pLine B n z q m w).1 sh F (lMd I B n (pLine B n z q m w))) 44 [some (jR (some 170)), some (jI z), some (jI (1270 + 4 * z)), some (jI y)] [jI y, jI (1270 + 4 * z), jR (some 171)] (sh, I, F) 0 0 := by
      intro y hy hy2
      have hM1 : Mt (jup I 171 (1270 + 4 * z) y) B n (lx B n 97 122 q) q := Mt_w hM
      have sF := mt_figures (G := G) (d := d + 25) (F := F) hsh hfx hM1 (lo := 0) (hi := 99) (f := 3) (by decide) (by decide) (by decide) (by decide)
      rw [hp1] at sF
      have f0 : FrP I (jup I 171 (1270 + 4 * z) y) := FrP_w FrP_0 (by omega)
      rw [hy] at hR
      by_cases e2 : vNm B n q1 3 0 99
      · rw [if_pos e2] at hR
        have t2 := nm_s t1.2 e2
        have hx := tV_in e2
        have ef : vFg B n q1 3 0 99 = tV B n q1 := if_pos e2
        rw [ef, if_pos e2.1] at sF
        obtain ⟨q2, hq2⟩ : ∃ x, tkN B n q1 = x := ⟨_, rfl⟩
        obtain ⟨a, ha⟩ : ∃ x, tV B n q1 = x := ⟨_, rfl⟩
        rw [hq2, ha] at hR
        rw [hq2] at t2
        rw [ha] at sF hx
        -- behind the head
        have fin : ∀ J : Nat → Int → Int, Mt J B n (tkE B n q1) q1 → FrX (jup I 171 (1270 + 4 * z) y) J → jW G mX12_readLawLine (d + 28) (rEI (pLine B n z q m w).1 sh F (lMd I B n (pLine B n z q m w))) 91 [some (jR (some 170)), some (jI z), some (jI (1270 + 4 * z)), some (jI y)] [] (sh, jup (jup (jup J 171 (1270 + 4 * z + 1) a) 171 (1270 + 4 * z + 2) m) 170 13 0, F) 0 0 := by
          intro J hMJ hfJ
          obtain ⟨K, hK⟩ : ∃ K, K = jup (jup (jup J 171 (1270 + 4 * z + 1) a) 171 (1270 + 4 * z + 2) m) 170 13 0 := ⟨_, rfl⟩
          rw [← hK]
          have hMK : Mt K B n (tkE B n q1) q1 := by rw [hK]; exact Mt_13 (Mt_w (Mt_w hMJ))
          have k171 : K 171 = pHd w z y a m := by
            rw [hK, jup_ne _ _ _ (by decide), jup_at, jup_at, hfJ.1 171 (by decide), jup_at, hw]
            rfl
          have k16 : K 170 16 = m := by rw [hK, jup_row _ _ _ (by decide), jup_ne _ _ _ (by decide), jup_ne _ _ _ (by decide), hfJ.2 16 (by decide) (by decide), jup_ne _ _ _ (by decide)]; exact h16
          have hMp : Mp K B n q2 m (pHd w z y a m) := ⟨⟨_, _, hMK, hq2⟩, k171, k16⟩
          have k13 : K 170 13 = 0 := by rw [hK, jup_same]
          have fK : FrP I K := by rw [hK]; exact FrP_tr (FrP_w (FrP_w (FrP_tr f0 (FrP_X hfJ)) (by omega)) (by omega)) FrP_13
          by_cases e3 : vWd B n q2 17
          · have t3 := wd_s t2.2 e3
            rw [if_pos e3] at hR
            have sT := ml_pass1 (G := G) (d := d + 22) (F := F) hsh hfx hMp (t := 17) (by decide) e3
            have sC := fun (N : Nat → Int → Int) (h0 : N 170 13 = 0) (h1 : Mp N B n (tkN B n q2) m (pHd w z y a m)) => ml_cond (G := G) (d := d + 18) (F := F) (deep := 0) hsh hfx (pAtom_g (B := B) (n := n) 6) (fun J q m w a0 a1 a2 a3 => ml_atom (G := G) (B := B) (n := n) hsh hfx 6 (d + 18 + 7) (by omega) (by omega) J q m w (by rw [a0]; rfl) a1 a2 a3) h0 h1 ⟨hm.1, by omega⟩
            have hcg := pCond_g (B := B) (pAtom_g (B := B) (n := n) 6) (m := m) (w := pHd w z y a m) t3.2
            generalize pCond B n (pAtom B n 6) (tkN B n q2) m (pHd w z y a m) = S at *
            rcases hcg with g0 | ⟨g1, g2, g3, g4, g5, g6, -⟩
            · rw [pThen_f g0.1] at hR
              rw [hR, g0.1]
              rw [g0.1] at sC
              refine j_aload_n dX12_readLawLine_91 rfl ?_
              refine j_ldcS dX12_readLawLine_92 (t := 17) (by decide +kernel) ?_
              refine r_cv1EI dX12_readLawLine_94 cvX12_211 (by decide) (by first | assumption | exact hsh _ _ rfl) (Nat.le_of_ble_eq_true rfl) (Nat.le_of_eq (Nat.zero_add _)) (Nat.le_of_eq (Nat.zero_add _)) (sT) (fun P hP => ?_)
              refine j_if_eq (tgt := 109) dX12_readLawLine_97 rfl (by first | omega | (split <;> omega)) (fun c_97 => by exact absurd c_97 (by decide)) (fun c_97 => ?_)
              refine j_aload_n dX12_readLawLine_100 rfl ?_
              refine r_cv0EI dX12_readLawLine_101 cvX12_206 (by decide) (by first | assumption | exact hsh _ _ rfl) (Nat.le_of_ble_eq_true rfl) (Nat.le_of_eq (Nat.zero_add _)) (Nat.le_of_eq (Nat.zero_add _)) (sC P (by rw [hP.2.2.2]; exact k13) hP.2.1) (fun V hV => ?_)
              refine j_if_ne (tgt := 109) dX12_readLawLine_104 rfl (by first | omega | (split <;> omega)) (fun c_104 => by exact absurd c_104 (by decide)) (fun c_104 => ?_)
              refine j_iconst dX12_readLawLine_107 ?_
              refine j_zret dX12_readLawLine_108 rfl (by omega) ?_
              exact rEI_of rfl ⟨FrP_tr (FrP_tr fK hP.2.2.1) hV.1, fun h => absurd h (by rw [g0.1]; decide), hV.2.2⟩
            · rw [pThen_t g1] at hR
              rw [hR]
              rw [g1] at sC
              have q117 := fun (V : Nat → Int → Int) (h : Mp V B n S.2.1 S.2.2.1 S.2.2.2) => h.2.2
              refine j_aload_n dX12_readLawLine_91 rfl ?_
              refine j_ldcS dX12_readLawLine_92 (t := 17) (by decide +kernel) ?_
              refine r_cv1EI dX12_readLawLine_94 cvX12_211 (by decide) (by first | assumption | exact hsh _ _ rfl) (Nat.le_of_ble_eq_true rfl) (Nat.le_of_eq (Nat.zero_add _)) (Nat.le_of_eq (Nat.zero_add _)) (sT) (fun P hP => ?_)
              refine j_if_eq (tgt := 109) dX12_readLawLine_97 rfl (by first | omega | (split <;> omega)) (fun c_97 => by exact absurd c_97 (by decide)) (fun c_97 => ?_)
              refine j_aload_n dX12_readLawLine_100 rfl ?_
              refine r_cv0EI dX12_readLawLine_101 cvX12_206 (by decide) (by first | assumption | exact hsh _ _ rfl) (Nat.le_of_ble_eq_true rfl) (Nat.le_of_eq (Nat.zero_add _)) (Nat.le_of_eq (Nat.zero_add _)) (sC P (by rw [hP.2.2.2]; exact k13) hP.2.1) (fun V hV => ?_)
              have hMV := (hV.2.1 g1).1
              refine j_if_ne (tgt := 109) dX12_readLawLine_104 rfl (by first | omega | (split <;> omega)) (fun c_104 => ?_) (fun c_104 => by exact absurd c_104 (by decide))
              refine j_aload_n dX12_readLawLine_109 rfl ?_
              refine r_getS dX12_readLawLine_110 flX12_13 (by first | assumption | exact hsh _ _ rfl) (fx_170_1 hfx) ?_
              refine j_iload_n dX12_readLawLine_113 rfl ?_
              refine j_iconst dX12_readLawLine_114 ?_
              refine j_iadd dX12_readLawLine_115 ?_
              refine j_aload_n dX12_readLawLine_116 rfl ?_
              refine r_getIE dX12_readLawLine_117 flX12_182 (by first | assumption | exact hsh _ _ rfl) (q117 V hMV) (fun b_117 => ?_)
              refine r_iastore dX12_readLawLine_120 (by first | assumption | exact hsh _ _ rfl) (by first | omega | (split <;> omega)) (by first | omega | (split <;> omega)) (by first | omega | (split <;> omega)) ?_
              refine j_iconst dX12_readLawLine_121 ?_
              refine j_zret dX12_readLawLine_122 rfl (by omega) ?_
              obtain ⟨⟨p9, b9, hM9, hp9⟩, hw9, hm9⟩ := hMV
              exact rEI_of rfl (lMd_1 (FrP_w (FrP_tr (FrP_tr fK hP.2.2.1) hV.1) (by omega)) ⟨⟨p9, b9, Mt_w hM9, hp9⟩, by rw [jup_at, hw9], by rw [jup_ne _ _ _ (by decide)]; exact hm9⟩)
          · rw [if_neg e3] at hR
            rw [hR]
            have sT := ml_pass0 (G := G) (d := d + 22) (F := F) hsh hfx hMp (t := 17) (by decide) e3
            have q117 := fun (V : Nat → Int → Int) (h : Mp V B n q2 m (pHd w z y a m)) => h.2.2
            refine j_aload_n dX12_readLawLine_91 rfl ?_
            refine j_ldcS dX12_readLawLine_92 (t := 17) (by decide +kernel) ?_
            refine r_cv1EI dX12_readLawLine_94 cvX12_211 (by decide) (by first | assumption | exact hsh _ _ rfl) (Nat.le_of_ble_eq_true rfl) (Nat.le_of_eq (Nat.zero_add _)) (Nat.le_of_eq (Nat.zero_add _)) (sT) (fun P hP => ?_)
            refine j_if_eq (tgt := 109) dX12_readLawLine_97 rfl (by first | omega | (split <;> omega)) (fun c_97 => ?_) (fun c_97 => by exact absurd c_97 (by decide))
            refine j_aload_n dX12_readLawLine_109 rfl ?_
            refine r_getS dX12_readLawLine_110 flX12_13 (by first | assumption | exact hsh _ _ rfl) (fx_170_1 hfx) ?_
            refine j_iload_n dX12_readLawLine_113 rfl ?_
            refine j_iconst dX12_readLawLine_114 ?_
            refine j_iadd dX12_readLawLine_115 ?_
            refine j_aload_n dX12_readLawLine_116 rfl ?_
            refine r_getIE dX12_readLawLine_117 flX12_182 (by first | assumption | exact hsh _ _ rfl) (q117 P hP.2.1) (fun b_117 => ?_)
            refine r_iastore dX12_readLawLine_120 (by first | assumption | exact hsh _ _ rfl) (by first | omega | (split <;> omega)) (by first | omega | (split <;> omega)) (by first | omega | (split <;> omega)) ?_
            refine j_iconst dX12_readLawLine_121 ?_
            refine j_zret dX12_readLawLine_122 rfl (by omega) ?_
            obtain ⟨⟨p9, b9, hM9, hp9⟩, hw9, hm9⟩ := hP.2.1
            exact rEI_of rfl (lMd_1 (FrP_w (FrP_tr fK hP.2.2.1) (by omega)) ⟨⟨p9, b9, Mt_w hM9, hp9⟩, by rw [jup_at, hw9], by rw [jup_ne _ _ _ (by decide)]; exact hm9⟩)
        have q68 : ∀ J : Nat → Int → Int, jup J 171 (1270 + 4 * z + 1) a 171 (1270 + 4 * z + 1) = a := fun J => jup_same _ _ _ _
        have q82 : ∀ J : Nat → Int → Int, FrX (jup I 171 (1270 + 4 * z) y) J → jup J 171 (1270 + 4 * z + 1) a 170 16 = m := fun J h => by rw [jup_ne _ _ _ (by decide), h.2 16 (by decide) (by decide), jup_ne _ _ _ (by decide)]; exact h16
        refine r_iastore dX12_readLawLine_44 (by first | assumption | exact hsh _ _ rfl) (by first | omega | (split <;> omega)) (by first | omega | (split <;> omega)) (by first | omega | (split <;> omega)) ?_
        refine j_aload_n dX12_readLawLine_45 rfl ?_
        refine r_getS dX12_readLawLine_46 flX12_13 (by first | assumption | exact hsh _ _ rfl) (fx_170_1 hfx) ?_
        refine j_iload_n dX12_readLawLine_49 rfl ?_
        refine j_iconst dX12_readLawLine_50 ?_
        refine j_iadd dX12_readLawLine_51 ?_
        refine j_aload_n dX12_readLawLine_52 rfl ?_
        refine j_iconst dX12_readLawLine_53 ?_
        refine j_bipush dX12_readLawLine_54 (by decide) ?_
        refine j_iconst dX12_readLawLine_56 ?_
        refine r_cv3EI dX12_readLawLine_57 cvX12_118 (by decide) (by first | assumption | exact hsh _ _ rfl) (Nat.le_of_ble_eq_true rfl) (Nat.le_of_eq (Nat.zero_add _)) (Nat.le_of_eq (Nat.zero_add _)) (sF) (fun J hJ => ?_)
        refine r_iastore dX12_readLawLine_60 (by first | assumption | exact hsh _ _ rfl) (by first | omega | (split <;> omega)) (by first | omega | (split <;> omega)) (by first | omega | (split <;> omega)) ?_
        refine j_aload_n dX12_readLawLine_61 rfl ?_
        refine r_getS dX12_readLawLine_62 flX12_13 (by first | assumption | exact hsh _ _ rfl) (fx_170_1 hfx) ?_
        refine j_iload_n dX12_readLawLine_65 rfl ?_
        refine j_iconst dX12_readLawLine_66 ?_
        refine j_iadd dX12_readLawLine_67 ?_
        refine r_ialoadE dX12_readLawLine_68 (by first | assumption | exact hsh _ _ rfl) (by first | omega | (split <;> omega)) (by first | omega | (split <;> omega)) (q68 J) (fun b_68 => ?_)
        refine j_if_ge (tgt := 74) dX12_readLawLine_69 rfl (by first | omega | (split <;> omega)) (fun c_69 => ?_) (fun c_69 => by exact absurd hx.1 c_69)
        refine j_aload_n dX12_readLawLine_74 rfl ?_
        refine r_getS dX12_readLawLine_75 flX12_13 (by first | assumption | exact hsh _ _ rfl) (fx_170_1 hfx) ?_
        refine j_iload_n dX12_readLawLine_78 rfl ?_
        refine j_iconst dX12_readLawLine_79 ?_
        refine j_iadd dX12_readLawLine_80 ?_
        refine j_aload_n dX12_readLawLine_81 rfl ?_
        refine r_getIE dX12_readLawLine_82 flX12_182 (by first | assumption | exact hsh _ _ rfl) (q82 J hJ.2) (fun b_82 => ?_)
        refine r_iastore dX12_readLawLine_85 (by first | assumption | exact hsh _ _ rfl) (by first | omega | (split <;> omega)) (by first | omega | (split <;> omega)) (by first | omega | (split <;> omega)) ?_
        refine j_aload_n dX12_readLawLine_86 rfl ?_
        refine j_iconst dX12_readLawLine_87 ?_
        refine r_putI dX12_readLawLine_88 flX12_203 rfl (by first | assumption | exact hsh _ _ rfl) (by first | omega | (split <;> omega)) (fun q => by cases q) ?_
        exact fin J hJ.1 hJ.2
      · rw [if_neg e2] at hR
        rw [hR]
        have ef : vFg B n q1 3 0 99 = -1 := if_neg e2
        rw [ef] at sF
        have q68 : ∀ J : Nat → Int → Int, jup J 171 (1270 + 4 * z + 1) (-1) 171 (1270 + 4 * z + 1) = -1 := fun J => jup_same _ _ _ _
        refine r_iastore dX12_readLawLine_44 (by first | assumption | exact hsh _ _ rfl) (by first | omega | (split <;> omega)) (by first | omega | (split <;> omega)) (by first | omega | (split <;> omega)) ?_
        refine j_aload_n dX12_readLawLine_45 rfl ?_
        refine r_getS dX12_readLawLine_46 flX12_13 (by first | assumption | exact hsh _ _ rfl) (fx_170_1 hfx) ?_
        refine j_iload_n dX12_readLawLine_49 rfl ?_
        refine j_iconst dX12_readLawLine_50 ?_
        refine j_iadd dX12_readLawLine_51 ?_
        refine j_aload_n dX12_readLawLine_52 rfl ?_
        refine j_iconst dX12_readLawLine_53 ?_
        refine j_bipush dX12_readLawLine_54 (by decide) ?_
        refine j_iconst dX12_readLawLine_56 ?_
        refine r_cv3EI dX12_readLawLine_57 cvX12_118 (by decide) (by first | assumption | exact hsh _ _ rfl) (Nat.le_of_ble_eq_true rfl) (Nat.le_of_eq (Nat.zero_add _)) (Nat.le_of_eq (Nat.zero_add _)) (sF) (fun J hJ => ?_)
        refine r_iastore dX12_readLawLine_60 (by first | assumption | exact hsh _ _ rfl) (by first | omega | (split <;> omega)) (by first | omega | (split <;> omega)) (by first | omega | (split <;> omega)) ?_
        refine j_aload_n dX12_readLawLine_61 rfl ?_
        refine r_getS dX12_readLawLine_62 flX12_13 (by first | assumption | exact hsh _ _ rfl) (fx_170_1 hfx) ?_
        refine j_iload_n dX12_readLawLine_65 rfl ?_
        refine j_iconst dX12_readLawLine_66 ?_
        refine j_iadd dX12_readLawLine_67 ?_
        refine r_ialoadE dX12_readLawLine_68 (by first | assumption | exact hsh _ _ rfl) (by first | omega | (split <;> omega)) (by first | omega | (split <;> omega)) (q68 J) (fun b_68 => ?_)
        refine j_if_ge (tgt := 74) dX12_readLawLine_69 rfl (by first | omega | (split <;> omega)) (fun c_69 => by exact absurd c_69 (by decide)) (fun c_69 => ?_)
        refine j_iconst dX12_readLawLine_72 ?_
        refine j_zret dX12_readLawLine_73 rfl (by omega) ?_
        exact rEI_of rfl (lMd_0 (FrP_w (FrP_tr f0 (FrP_X hJ.2)) (by omega)) (Mt_w hJ.1))
    by_cases e6 : vWd B n q 16
    · rw [if_pos e6] at s16
      have hp : pPut B n q = 1 := if_pos e6
      refine j_sipush dX12_readLawLine_0 (by decide) ?_
      refine j_iconst dX12_readLawLine_3 ?_
      refine j_iload_n dX12_readLawLine_4 rfl ?_
      refine j_imul dX12_readLawLine_5 ?_
      refine j_iadd dX12_readLawLine_6 ?_
      refine j_istore_n dX12_readLawLine_7 (by decide) ?_
      refine j_aload_n dX12_readLawLine_8 rfl ?_
      refine j_ldcS dX12_readLawLine_9 (t := 16) (by decide +kernel) ?_
      refine r_cv1I dX12_readLawLine_11 cvX12_114 (by decide) (by first | assumption | exact hsh _ _ rfl) (Nat.le_of_ble_eq_true rfl) (Nat.le_of_eq (Nat.zero_add _)) (Nat.le_of_eq (Nat.zero_add _)) (s16) ?_
      refine j_istore_n dX12_readLawLine_14 (by decide) ?_
      refine j_iload_n dX12_readLawLine_15 rfl ?_
      refine j_if_ne (tgt := 30) dX12_readLawLine_16 rfl (by first | omega | (split <;> omega)) (fun c_16 => ?_) (fun c_16 => by exact absurd (by decide) c_16)
      refine j_aload_n dX12_readLawLine_30 rfl ?_
      refine r_getS dX12_readLawLine_31 flX12_13 (by first | assumption | exact hsh _ _ rfl) (fx_170_1 hfx) ?_
      refine j_iload_n dX12_readLawLine_34 rfl ?_
      refine j_iload_n dX12_readLawLine_35 rfl ?_
      refine j_if_eq (tgt := 43) dX12_readLawLine_36 rfl (by first | omega | (split <;> omega)) (fun c_36 => by exact absurd c_36 (by decide)) (fun c_36 => ?_)
      refine j_iconst dX12_readLawLine_39 ?_
      refine j_goto (tgt := 44) dX12_readLawLine_40 rfl ?_
      exact mid 1 hp (Or.inr rfl)
    · have e5 : vWd B n q 15 := e.elim (fun h => absurd h e6) id
      rw [if_pos e5] at s15
      rw [if_neg e6] at s16
      have hp : pPut B n q = 0 := if_neg e6
      refine j_sipush dX12_readLawLine_0 (by decide) ?_
      refine j_iconst dX12_readLawLine_3 ?_
      refine j_iload_n dX12_readLawLine_4 rfl ?_
      refine j_imul dX12_readLawLine_5 ?_
      refine j_iadd dX12_readLawLine_6 ?_
      refine j_istore_n dX12_readLawLine_7 (by decide) ?_
      refine j_aload_n dX12_readLawLine_8 rfl ?_
      refine j_ldcS dX12_readLawLine_9 (t := 16) (by decide +kernel) ?_
      refine r_cv1I dX12_readLawLine_11 cvX12_114 (by decide) (by first | assumption | exact hsh _ _ rfl) (Nat.le_of_ble_eq_true rfl) (Nat.le_of_eq (Nat.zero_add _)) (Nat.le_of_eq (Nat.zero_add _)) (s16) ?_
      refine j_istore_n dX12_readLawLine_14 (by decide) ?_
      refine j_iload_n dX12_readLawLine_15 rfl ?_
      refine j_if_ne (tgt := 30) dX12_readLawLine_16 rfl (by first | omega | (split <;> omega)) (fun c_16 => by exact absurd rfl c_16) (fun c_16 => ?_)
      refine j_aload_n dX12_readLawLine_19 rfl ?_
      refine j_ldcS dX12_readLawLine_20 (t := 15) (by decide +kernel) ?_
      refine r_cv1I dX12_readLawLine_22 cvX12_114 (by decide) (by first | assumption | exact hsh _ _ rfl) (Nat.le_of_ble_eq_true rfl) (Nat.le_of_eq (Nat.zero_add _)) (Nat.le_of_eq (Nat.zero_add _)) (s15) ?_
      refine j_if_ne (tgt := 30) dX12_readLawLine_25 rfl (by first | omega | (split <;> omega)) (fun c_25 => ?_) (fun c_25 => by exact absurd c_25 (by decide))
      refine j_aload_n dX12_readLawLine_30 rfl ?_
      refine r_getS dX12_readLawLine_31 flX12_13 (by first | assumption | exact hsh _ _ rfl) (fx_170_1 hfx) ?_
      refine j_iload_n dX12_readLawLine_34 rfl ?_
      refine j_iload_n dX12_readLawLine_35 rfl ?_
      refine j_if_eq (tgt := 43) dX12_readLawLine_36 rfl (by first | omega | (split <;> omega)) (fun c_36 => ?_) (fun c_36 => by exact absurd rfl c_36)
      refine j_iconst dX12_readLawLine_43 ?_
      exact mid 0 hp (Or.inl rfl)
  · rw [if_neg e] at hR
    rw [hR]
    rw [if_neg (fun h => e (Or.inr h))] at s15
    rw [if_neg (fun h => e (Or.inl h))] at s16
    refine j_sipush dX12_readLawLine_0 (by decide) ?_
    refine j_iconst dX12_readLawLine_3 ?_
    refine j_iload_n dX12_readLawLine_4 rfl ?_
    refine j_imul dX12_readLawLine_5 ?_
    refine j_iadd dX12_readLawLine_6 ?_
    refine j_istore_n dX12_readLawLine_7 (by decide) ?_
    refine j_aload_n dX12_readLawLine_8 rfl ?_
    refine j_ldcS dX12_readLawLine_9 (t := 16) (by decide +kernel) ?_
    refine r_cv1I dX12_readLawLine_11 cvX12_114 (by decide) (by first | assumption | exact hsh _ _ rfl) (Nat.le_of_ble_eq_true rfl) (Nat.le_of_eq (Nat.zero_add _)) (Nat.le_of_eq (Nat.zero_add _)) (s16) ?_
    refine j_istore_n dX12_readLawLine_14 (by decide) ?_
    refine j_iload_n dX12_readLawLine_15 rfl ?_
    refine j_if_ne (tgt := 30) dX12_readLawLine_16 rfl (by first | omega | (split <;> omega)) (fun c_16 => by exact absurd rfl c_16) (fun c_16 => ?_)
    refine j_aload_n dX12_readLawLine_19 rfl ?_
    refine j_ldcS dX12_readLawLine_20 (t := 15) (by decide +kernel) ?_
    refine r_cv1I dX12_readLawLine_22 cvX12_114 (by decide) (by first | assumption | exact hsh _ _ rfl) (Nat.le_of_ble_eq_true rfl) (Nat.le_of_eq (Nat.zero_add _)) (Nat.le_of_eq (Nat.zero_add _)) (s15) ?_
    refine j_if_ne (tgt := 30) dX12_readLawLine_25 rfl (by first | omega | (split <;> omega)) (fun c_25 => by exact absurd c_25 (by decide)) (fun c_25 => ?_)
    refine j_iconst dX12_readLawLine_28 ?_
    refine j_zret dX12_readLawLine_29 rfl (by omega) ?_
    exact rEI_of rfl (lMd_0 FrP_0 hM)
theorem ml_readLine (hsh : ShOK sh) (hfx : FxOK F) (hM : Mp I B n q m w) (hz : 0 ≤ z ∧ z < 12) (hm : 0 ≤ m ∧ m ≤ q) : jS G (d + 29) mX12_readLine [jR (some 170), jI 0, jI z] (sh, I, F) 0 0 (rEI (pLine B n z q m w).1 sh F (lMd I B n (pLine B n z q m w))) := by
  have hq := Mp_q hM
  obtain ⟨⟨p, b, hMt, hp⟩, hw, h16⟩ := hM
  have sL := fun (J : Nat → Int → Int) (hJ : Mt J B n (lx B n 97 122 q) q ∧ FrX I J) => ml_line (G := G) (d := d) (F := F) hsh hfx hJ.1 hq.1 ((FrX_171 hJ.2).trans hw) (by rw [hJ.2.2 16 (by decide) (by decide)]; exact h16) hz hm
  have h01 : (pLine B n z q m w).1 = 0 ∨ (pLine B n z q m w).1 = 1 := by
    rcases pLine_g (B := B) (z := z) (m := m) (w := w) hq.1.2 hz hm.1 with h | h
    · exact Or.inl h.1
    · exact Or.inr h.1
  refine jS_go [some (jR (some 170)), some (jI 0), some (jI z)] (by decide +kernel) rfl (by simp [jone]) (Nat.le_of_ble_eq_true rfl) rfl (fun hok => ?_)
  generalize pLine B n z q m w = R at *
  rcases h01 with e | e
  · rw [e] at sL ⊢
    refine j_aload_n dX12_readLine_0 rfl ?_
    refine r_cv0EV dX12_readLine_1 cvX12_111 (by decide) (by first | assumption | exact hsh _ _ rfl) (Nat.le_of_ble_eq_true rfl) (Nat.le_of_eq (Nat.zero_add _)) (Nat.le_of_eq (Nat.zero_add _)) (mt_lettersQ hsh hfx hMt hp) (fun J hJ => ?_)
    refine j_iload_n dX12_readLine_4 rfl ?_
    refine j_iload_n dX12_readLine_5 rfl ?_
    refine j_if_eq (tgt := 14) dX12_readLine_6 rfl (by first | omega | (split <;> omega)) (fun c_6 => ?_) (fun c_6 => by exact absurd rfl c_6)
    refine j_bipush dX12_readLine_14 (by decide) ?_
    refine j_icmp_ge (tgt := 45) dX12_readLine_16 rfl (by first | omega | (split <;> omega)) (by first | omega | (split <;> omega)) (fun c_16 => by exact absurd c_16 (by omega)) (fun c_16 => ?_)
    refine j_iload_n dX12_readLine_19 rfl ?_
    refine j_if_eq (tgt := 33) dX12_readLine_20 rfl (by first | omega | (split <;> omega)) (fun c_20 => ?_) (fun c_20 => by exact absurd rfl c_20)
    refine j_aload_n dX12_readLine_33 rfl ?_
    refine j_iload_n dX12_readLine_34 rfl ?_
    refine r_cv1EI dX12_readLine_35 cvX12_239 (by decide) (by first | assumption | exact hsh _ _ rfl) (Nat.le_of_ble_eq_true rfl) (Nat.le_of_eq (Nat.zero_add _)) (Nat.le_of_eq (Nat.zero_add _)) (sL J hJ) (fun K hK => ?_)
    refine j_if_eq (tgt := 45) dX12_readLine_38 rfl (by first | omega | (split <;> omega)) (fun c_38 => ?_) (fun c_38 => by exact absurd c_38 (by decide))
    refine j_iconst dX12_readLine_45 ?_
    refine j_zret dX12_readLine_46 rfl (by omega) ?_
    exact rEI_of rfl ⟨FrP_tr (FrP_X hJ.2) hK.1, hK.2⟩
  · rw [e] at sL ⊢
    refine j_aload_n dX12_readLine_0 rfl ?_
    refine r_cv0EV dX12_readLine_1 cvX12_111 (by decide) (by first | assumption | exact hsh _ _ rfl) (Nat.le_of_ble_eq_true rfl) (Nat.le_of_eq (Nat.zero_add _)) (Nat.le_of_eq (Nat.zero_add _)) (mt_lettersQ hsh hfx hMt hp) (fun J hJ => ?_)
    refine j_iload_n dX12_readLine_4 rfl ?_
    refine j_iload_n dX12_readLine_5 rfl ?_
    refine j_if_eq (tgt := 14) dX12_readLine_6 rfl (by first | omega | (split <;> omega)) (fun c_6 => ?_) (fun c_6 => by exact absurd rfl c_6)
    refine j_bipush dX12_readLine_14 (by decide) ?_
    refine j_icmp_ge (tgt := 45) dX12_readLine_16 rfl (by first | omega | (split <;> omega)) (by first | omega | (split <;> omega)) (fun c_16 => by exact absurd c_16 (by omega)) (fun c_16 => ?_)
    refine j_iload_n dX12_readLine_19 rfl ?_
    refine j_if_eq (tgt := 33) dX12_readLine_20 rfl (by first | omega | (split <;> omega)) (fun c_20 => ?_) (fun c_20 => by exact absurd rfl c_20)
    refine j_aload_n dX12_readLine_33 rfl ?_
    refine j_iload_n dX12_readLine_34 rfl ?_
    refine r_cv1EI dX12_readLine_35 cvX12_239 (by decide) (by first | assumption | exact hsh _ _ rfl) (Nat.le_of_ble_eq_true rfl) (Nat.le_of_eq (Nat.zero_add _)) (Nat.le_of_eq (Nat.zero_add _)) (sL J hJ) (fun K hK => ?_)
    refine j_if_eq (tgt := 45) dX12_readLine_38 rfl (by first | omega | (split <;> omega)) (fun c_38 => by exact absurd c_38 (by decide)) (fun c_38 => ?_)
    refine j_iconst dX12_readLine_41 ?_
    refine j_goto (tgt := 46) dX12_readLine_42 rfl ?_
    refine j_zret dX12_readLine_46 rfl (by omega) ?_
    exact rEI_of rfl ⟨FrP_tr (FrP_X hJ.2) hK.1, hK.2⟩
theorem ml_readLine12 (hsh : ShOK sh) (hfx : FxOK F) (hM : Mp I B n q m w) : jS G (d + 29) mX12_readLine [jR (some 170), jI 0, jI 12] (sh, I, F) 0 0 (rEI 0 sh F (fun J => (∃ x, Mt J B n x q) ∧ FrP I J)) := by
  obtain ⟨⟨p, b, hMt, hp⟩, hw, h16⟩ := hM
  refine jS_go [some (jR (some 170)), some (jI 0), some (jI 12)] (by decide +kernel) rfl (by simp [jone]) (Nat.le_of_ble_eq_true rfl) rfl (fun hok => ?_)
  refine j_aload_n dX12_readLine_0 rfl ?_
  refine r_cv0EV dX12_readLine_1 cvX12_111 (by decide) (by first | assumption | exact hsh _ _ rfl) (Nat.le_of_ble_eq_true rfl) (Nat.le_of_eq (Nat.zero_add _)) (Nat.le_of_eq (Nat.zero_add _)) (mt_lettersQ hsh hfx hMt hp) (fun J hJ => ?_)
  refine j_iload_n dX12_readLine_4 rfl ?_
  refine j_iload_n dX12_readLine_5 rfl ?_
  refine j_if_eq (tgt := 14) dX12_readLine_6 rfl (by first | omega | (split <;> omega)) (fun c_6 => ?_) (fun c_6 => by exact absurd rfl c_6)
  refine j_bipush dX12_readLine_14 (by decide) ?_
  refine j_icmp_ge (tgt := 45) dX12_readLine_16 rfl (by first | omega | (split <;> omega)) (by first | omega | (split <;> omega)) (fun c_16 => ?_) (fun c_16 => by exact absurd (by decide) c_16)
  refine j_iconst dX12_readLine_45 ?_
  refine j_zret dX12_readLine_46 rfl (by omega) ?_
  exact rEI_of rfl ⟨⟨_, hJ.1⟩, FrP_X hJ.2⟩
/-- what of the model is as it was when a law's text has been read -/
def FrV (I J : Nat → Int → Int) : Prop := (∀ a, a ≠ 170 → a ≠ 171 → J a = I a) ∧ (∀ k, k ≠ 0 → k ≠ 9 → k ≠ 10 → k ≠ 11 → k ≠ 12 → k ≠ 13 → k ≠ 16 → J 170 k = I 170 k) ∧ (J 170 0 = 0 ∧ J 170 9 = 0) ∧ ∀ k, k < 1270 → J 171 k = I 171 k
theorem ml_readAll (hsh : ShOK sh) (hfx : FxOK F) (hn : I 170 9 = n) (hn2 : 0 ≤ n ∧ n ≤ 400) (hB : ∀ k, 0 ≤ k → k < n → (0 ≤ B k ∧ B k ≤ 255) ∧ I 176 k = sg8 (B k)) (hw : I 171 = w) : jS G (d + 30) mX12_readAll [jR (some 170), jI 0] (sh, I, F) 0 0 (rEI (pTxt B n (lxB B n 0) w).1 sh F (fun J => FrV I J ∧ (0 ≤ (pTxt B n (lxB B n 0) w).1 → J 171 = (pTxt B n (lxB B n 0) w).2.2.2) ∧ ((pTxt B n (lxB B n 0) w).1 = -1 → J 170 12 = (pTxt B n (lxB B n 0) w).2.1))) := by
  obtain ⟨q, hq⟩ : ∃ q, lxB B n 0 = q := ⟨_, rfl⟩
  rw [hq]
  have hqi := lx_le (B := B) (n := n) (lo := 32) (hi := 32) (p := 0) hn2.1
  rw [show lx B n 32 32 0 = q from hq] at hqi
  obtain ⟨I1, hI1⟩ : ∃ I1, I1 = jup (jup (jup (jup (jup I 170 0 0) 170 11 n) 170 9 0) 170 10 0) 170 16 0 := ⟨_, rfl⟩
  have f1 : ∀ a, a ≠ 170 → I1 a = I a := fun a ha => by rw [hI1, jup_ne _ _ _ ha, jup_ne _ _ _ ha, jup_ne _ _ _ ha, jup_ne _ _ _ ha, jup_ne _ _ _ ha]
  have f2 : ∀ k, k ≠ 0 → k ≠ 9 → k ≠ 10 → k ≠ 11 → k ≠ 16 → I1 170 k = I 170 k := fun k x0 x1 x2 x3 x5 => by rw [hI1, jup_row _ _ _ x5, jup_row _ _ _ x2, jup_row _ _ _ x1, jup_row _ _ _ x3, jup_row _ _ _ x0]
  have f3 : I1 170 0 = 0 ∧ I1 170 9 = 0 := ⟨by rw [hI1, jup_row _ _ _ (by decide), jup_row _ _ _ (by decide), jup_row _ _ _ (by decide), jup_row _ _ _ (by decide), jup_same], by rw [hI1, jup_row _ _ _ (by decide), jup_row _ _ _ (by decide), jup_same]⟩
  have f16 : I1 170 16 = 0 := by rw [hI1, jup_same]
  have hM1 : Mt I1 B n 0 (I1 170 12) := ⟨by rw [hI1, jup_row _ _ _ (by decide), jup_row _ _ _ (by decide), jup_row _ _ _ (by decide), jup_same], by rw [hI1, jup_row _ _ _ (by decide), jup_same], rfl, fun k k0 k1 => by rw [f1 176 (by decide)]; exact hB k k0 k1, ⟨by omega, hn2.1⟩, hn2.2⟩
  have hMp1 : Mp I1 B n q 0 w := ⟨⟨0, _, hM1, hq⟩, by rw [f1 171 (by decide)]; exact hw, f16⟩
  have frV : ∀ J : Nat → Int → Int, FrP I1 J → FrV I J := fun J h => ⟨fun a a0 a1 => (h.1 a a0 a1).trans (f1 a a0), fun k x0 x1 x2 x3 x4 x5 x6 => (h.2.1 k x2 x4 x5 x6).trans (f2 k x0 x1 x2 x3 x6), ⟨(h.2.1 0 (by decide) (by decide) (by decide) (by decide)).trans f3.1, (h.2.1 9 (by decide) (by decide) (by decide) (by decide)).trans f3.2⟩, fun k hk => by rw [h.2.2 k hk, f1 171 (by decide)]⟩
  refine jS_go [some (jR (some 170)), some (jI 0), none] (by decide +kernel) rfl (by simp [jone]) (Nat.le_of_ble_eq_true rfl) rfl (fun hok => ?_)
  generalize hQ : rEI (pTxt B n q w).1 sh F (fun J => FrV I J ∧ (0 ≤ (pTxt B n q w).1 → J 171 = (pTxt B n q w).2.2.2) ∧ ((pTxt B n q w).1 = -1 → J 170 12 = (pTxt B n q w).2.1)) = Q9
  have hkE : ∀ q, q ≤ n → (q = n ↔ tkK B n q = 0) := fun q hq => by
    have := tkK_in (B := B) (n := n) (q := q)
    rcases this with k | ⟨k0, k | k | k⟩ <;> omega
  have sb := mt_blanks (G := G) (d := d + 28) (F := F) hsh hfx hM1
  rw [hq] at sb
  have hqq : lxB B n q = q := by rw [← hq]; exact lx_idem hn2.1
  by_cases c : tkK B n q = 0
  · have e2 : pTxt B n q w = (0, q, 0, w) := if_pos c
    rw [e2] at hQ
    have en := (hkE q hqi.2).2 c
    refine j_aload_n dX12_readAll_0 rfl ?_
    refine r_cv0V dX12_readAll_1 cvX12_242 (by decide) (by first | assumption | exact hsh _ _ rfl) (Nat.le_of_ble_eq_true rfl) (Nat.le_of_eq (Nat.zero_add _)) (Nat.le_of_eq (Nat.zero_add _)) (mb_uses hsh hn hn2) ?_
    refine j_aload_n dX12_readAll_4 rfl ?_
    refine j_iconst dX12_readAll_5 ?_
    refine r_putI dX12_readAll_6 flX12_182 rfl (by first | assumption | exact hsh _ _ rfl) (by first | omega | (split <;> omega)) (fun q => by cases q) ?_
    rw [← hI1]
    refine j_aload_n dX12_readAll_9 rfl ?_
    refine r_cv0EV dX12_readAll_10 cvX12_99 (by decide) (by first | assumption | exact hsh _ _ rfl) (Nat.le_of_ble_eq_true rfl) (Nat.le_of_eq (Nat.zero_add _)) (Nat.le_of_eq (Nat.zero_add _)) (sb) (fun J hJ => ?_)
    have j2 := hJ.1.2.1
    have j1 := hJ.1.1
    refine j_aload_n dX12_readAll_13 rfl ?_
    refine r_getIE dX12_readAll_14 flX12_86 (by first | assumption | exact hsh _ _ rfl) j2 (fun b_14 => ?_)
    refine j_aload_n dX12_readAll_17 rfl ?_
    refine r_getIE dX12_readAll_18 flX12_89 (by first | assumption | exact hsh _ _ rfl) j1 (fun b_18 => ?_)
    refine j_icmp_ne (tgt := 26) dX12_readAll_21 rfl (by first | omega | (split <;> omega)) (by first | omega | (split <;> omega)) (fun c_21 => by exact absurd en c_21) (fun c_21 => ?_)
    refine j_iconst dX12_readAll_24 ?_
    refine j_iret dX12_readAll_25 rfl ?_
    rw [← hQ]
    exact rEI_of rfl ⟨frV J (FrP_X hJ.2), fun _ => by rw [FrX_171 hJ.2, f1 171 (by decide)]; exact hw, fun h => absurd h (show ¬ (0 : Int) = -1 by decide)⟩
  · have e2 : pTxt B n q w = pLns B n 12 0 q 0 w := if_neg c
    rw [e2] at hQ
    have en : ¬ q = n := fun x => c ((hkE q hqi.2).1 x)
    have key : ∀ (k : Nat) (z q m : Int) (w : Int → Int) (J : Nat → Int → Int), z + k = 12 → 0 ≤ z → 0 ≤ m → m ≤ q → Mp J B n q m w → FrP I1 J → jW G mX12_readAll (d + 30) (rEI (pLns B n k z q m w).1 sh F (fun J => FrV I J ∧ (0 ≤ (pLns B n k z q m w).1 → J 171 = (pLns B n k z q m w).2.2.2) ∧ ((pLns B n k z q m w).1 = -1 → J 170 12 = (pLns B n k z q m w).2.1))) 28 [some (jR (some 170)), some (jI 0), some (jI z)] [] (sh, J, F) 0 0 := by
      intro k
      induction k with
      | zero =>
        intro z q m w J hz hz0 hm hmq hMJ hf
        have ez : z = 12 := by omega
        subst ez
        refine j_aload_n dX12_readAll_28 rfl ?_
        refine j_iload_n dX12_readAll_29 rfl ?_
        refine j_iload_n dX12_readAll_30 rfl ?_
        refine r_cv2EI dX12_readAll_31 cvX12_245 (by decide) (by first | assumption | exact hsh _ _ rfl) (Nat.le_of_ble_eq_true rfl) (Nat.le_of_eq (Nat.zero_add _)) (Nat.le_of_eq (Nat.zero_add _)) (ml_readLine12 hsh hfx hMJ) (fun K hK => ?_)
        refine j_if_ne (tgt := 39) dX12_readAll_34 rfl (by first | omega | (split <;> omega)) (fun c_34 => by exact absurd c_34 (by decide)) (fun c_34 => ?_)
        refine j_iconst dX12_readAll_37 ?_
        refine j_iret dX12_readAll_38 rfl ?_
        obtain ⟨⟨x, hx⟩, hfK⟩ := hK
        exact rEI_of rfl ⟨frV K (FrP_tr hf hfK), fun h => absurd h (show ¬ (0 : Int) ≤ -1 by decide), fun _ => hx.2.2.1⟩
      | succ k ih =>
        intro z q m w J hz hz0 hm hmq hMJ hf
        have hq9 := Mp_q hMJ
        have sL := ml_readLine (G := G) (d := d) (F := F) hsh hfx hMJ (z := z) (by omega) ⟨hm, hmq⟩
        have hg := pLine_g (B := B) (z := z) (m := m) (w := w) hq9.1.2 ⟨hz0, by omega⟩ hm
        have hR : pLns B n (k + 1) z q m w = if (pLine B n z q m w).1 = 0 then (-1, (pLine B n z q m w).2) else if tkK B n (pLine B n z q m w).2.1 = 0 then (z + 1, (pLine B n z q m w).2) else if vSg B n (pLine B n z q m w).2.1 59 then pLns B n k (z + 1) (tkN B n (pLine B n z q m w).2.1) (pLine B n z q m w).2.2.1 (pLine B n z q m w).2.2.2 else (-1, (pLine B n z q m w).2) := rfl
        rw [hR]
        generalize pLine B n z q m w = R at *
        rcases hg with g | ⟨g1, g2, g3, g4, g5, g6, g7, g8, g9⟩
        · rw [if_pos g.1]
          rw [g.1] at sL
          refine j_aload_n dX12_readAll_28 rfl ?_
          refine j_iload_n dX12_readAll_29 rfl ?_
          refine j_iload_n dX12_readAll_30 rfl ?_
          refine r_cv2EI dX12_readAll_31 cvX12_245 (by decide) (by first | assumption | exact hsh _ _ rfl) (Nat.le_of_ble_eq_true rfl) (Nat.le_of_eq (Nat.zero_add _)) (Nat.le_of_eq (Nat.zero_add _)) (sL) (fun K hK => ?_)
          refine j_if_ne (tgt := 39) dX12_readAll_34 rfl (by first | omega | (split <;> omega)) (fun c_34 => by exact absurd c_34 (by decide)) (fun c_34 => ?_)
          refine j_iconst dX12_readAll_37 ?_
          refine j_iret dX12_readAll_38 rfl ?_
          obtain ⟨hfK, -, h0⟩ := hK
          obtain ⟨x, hx⟩ := h0 g.1
          exact rEI_of rfl ⟨frV K (FrP_tr hf hfK), fun h => absurd h (show ¬ (0 : Int) ≤ -1 by decide), fun _ => hx.2.2.1⟩
        · have n1 : ¬ R.1 = 0 := by omega
          rw [if_neg n1]
          rw [g1] at sL
          have sB := fun (K : Nat → Int → Int) (p2 b2 : Int) (hK : Mt K B n p2 b2) (hp2 : lxB B n p2 = R.2.1) => by
            have := mt_blanks (G := G) (d := d + 28) (F := F) hsh hfx hK
            rw [hp2] at this
            exact this
          by_cases c2 : tkK B n R.2.1 = 0
          · rw [if_pos c2]
            have en2 := (hkE R.2.1 g3).2 c2
            refine j_aload_n dX12_readAll_28 rfl ?_
            refine j_iload_n dX12_readAll_29 rfl ?_
            refine j_iload_n dX12_readAll_30 rfl ?_
            refine r_cv2EI dX12_readAll_31 cvX12_245 (by decide) (by first | assumption | exact hsh _ _ rfl) (Nat.le_of_ble_eq_true rfl) (Nat.le_of_eq (Nat.zero_add _)) (Nat.le_of_eq (Nat.zero_add _)) (sL) (fun K hK => ?_)
            obtain ⟨hfK, h1, -⟩ := hK
            obtain ⟨⟨p2, b2, hM2, hp2⟩, hw2, hm2⟩ := h1 g1
            refine j_if_ne (tgt := 39) dX12_readAll_34 rfl (by first | omega | (split <;> omega)) (fun c_34 => ?_) (fun c_34 => by exact absurd c_34 (by decide))
            refine j_aload_n dX12_readAll_39 rfl ?_
            refine r_cv0EV dX12_readAll_40 cvX12_99 (by decide) (by first | assumption | exact hsh _ _ rfl) (Nat.le_of_ble_eq_true rfl) (Nat.le_of_eq (Nat.zero_add _)) (Nat.le_of_eq (Nat.zero_add _)) (sB K p2 b2 hM2 hp2) (fun L hL => ?_)
            have j2 := hL.1.2.1
            have j1 := hL.1.1
            refine j_aload_n dX12_readAll_43 rfl ?_
            refine r_getIE dX12_readAll_44 flX12_86 (by first | assumption | exact hsh _ _ rfl) j2 (fun b_44 => ?_)
            refine j_aload_n dX12_readAll_47 rfl ?_
            refine r_getIE dX12_readAll_48 flX12_89 (by first | assumption | exact hsh _ _ rfl) j1 (fun b_48 => ?_)
            refine j_icmp_ne (tgt := 58) dX12_readAll_51 rfl (by first | omega | (split <;> omega)) (by first | omega | (split <;> omega)) (fun c_51 => by exact absurd en2 c_51) (fun c_51 => ?_)
            refine j_iload_n dX12_readAll_54 rfl ?_
            refine j_iconst dX12_readAll_55 ?_
            refine j_iadd dX12_readAll_56 ?_
            refine j_iret dX12_readAll_57 rfl ?_
            exact rEI_of rfl ⟨frV L (FrP_tr hf (FrP_tr hfK (FrP_X hL.2))), fun _ => (FrX_171 hL.2).trans hw2, fun h => absurd h (show ¬ (z + 1 = -1) by omega)⟩
          · rw [if_neg c2]
            have en2 : ¬ R.2.1 = n := fun x => c2 ((hkE R.2.1 g3).1 x)
            by_cases c3 : vSg B n R.2.1 59
            · rw [if_pos c3]
              have ht := sg_s g3 c3
              have c4 := (sg_iff (B := B) (n := n) (q := R.2.1) (c := 59) (by decide)).1 c3
              have eE : tkE B n R.2.1 = R.2.1 + 1 := by
                have e59 : B R.2.1 = 59 := by omega
                unfold tkE; rw [if_pos c4.1, e59, if_neg (by decide), if_neg (by decide)]
              refine j_aload_n dX12_readAll_28 rfl ?_
              refine j_iload_n dX12_readAll_29 rfl ?_
              refine j_iload_n dX12_readAll_30 rfl ?_
              refine r_cv2EI dX12_readAll_31 cvX12_245 (by decide) (by first | assumption | exact hsh _ _ rfl) (Nat.le_of_ble_eq_true rfl) (Nat.le_of_eq (Nat.zero_add _)) (Nat.le_of_eq (Nat.zero_add _)) (sL) (fun K hK => ?_)
              obtain ⟨hfK, h1, -⟩ := hK
              obtain ⟨⟨p2, b2, hM2, hp2⟩, hw2, hm2⟩ := h1 g1
              refine j_if_ne (tgt := 39) dX12_readAll_34 rfl (by first | omega | (split <;> omega)) (fun c_34 => ?_) (fun c_34 => by exact absurd c_34 (by decide))
              refine j_aload_n dX12_readAll_39 rfl ?_
              refine r_cv0EV dX12_readAll_40 cvX12_99 (by decide) (by first | assumption | exact hsh _ _ rfl) (Nat.le_of_ble_eq_true rfl) (Nat.le_of_eq (Nat.zero_add _)) (Nat.le_of_eq (Nat.zero_add _)) (sB K p2 b2 hM2 hp2) (fun L hL => ?_)
              have j2 := hL.1.2.1
              have j1 := hL.1.1
              have sa := mt_isAt (G := G) (d := d + 29) (F := F) hsh hfx hL.1 (lo := 59) (hi := 59) (by decide) (by decide) (by decide) (by decide)
              rw [if_pos c4] at sa
              refine j_aload_n dX12_readAll_43 rfl ?_
              refine r_getIE dX12_readAll_44 flX12_86 (by first | assumption | exact hsh _ _ rfl) j2 (fun b_44 => ?_)
              refine j_aload_n dX12_readAll_47 rfl ?_
              refine r_getIE dX12_readAll_48 flX12_89 (by first | assumption | exact hsh _ _ rfl) j1 (fun b_48 => ?_)
              refine j_icmp_ne (tgt := 58) dX12_readAll_51 rfl (by first | omega | (split <;> omega)) (by first | omega | (split <;> omega)) (fun c_51 => ?_) (fun c_51 => by exact absurd (Classical.not_not.1 c_51) en2)
              refine j_aload_n dX12_readAll_58 rfl ?_
              refine j_bipush dX12_readAll_59 (by decide) ?_
              refine j_bipush dX12_readAll_61 (by decide) ?_
              refine r_cv2I dX12_readAll_63 cvX12_92 (by decide) (by first | assumption | exact hsh _ _ rfl) (Nat.le_of_ble_eq_true rfl) (Nat.le_of_eq (Nat.zero_add _)) (Nat.le_of_eq (Nat.zero_add _)) (sa) ?_
              refine j_if_ne (tgt := 71) dX12_readAll_66 rfl (by first | omega | (split <;> omega)) (fun c_66 => ?_) (fun c_66 => by exact absurd c_66 (by decide))
              refine j_aload_n dX12_readAll_71 rfl ?_
              refine j_dup dX12_readAll_72 trivial ?_
              refine r_getIE dX12_readAll_73 flX12_86 (by first | assumption | exact hsh _ _ rfl) j2 (fun b_73 => ?_)
              refine j_iconst dX12_readAll_76 ?_
              refine j_iadd dX12_readAll_77 ?_
              refine r_putI dX12_readAll_78 flX12_86 rfl (by first | assumption | exact hsh _ _ rfl) (by first | omega | (split <;> omega)) (fun q => by cases q) ?_
              refine j_iinc dX12_readAll_81 rfl (by decide) ?_
              refine j_goto (tgt := 28) dX12_readAll_84 rfl ?_
              exact ih (z + 1) (tkN B n R.2.1) R.2.2.1 R.2.2.2 _ (by omega) (by omega) (by omega) (by omega) ⟨⟨R.2.1 + 1, R.2.1, Mt_10 hL.1 (by omega), by rw [← eE]⟩, by rw [jup_ne _ _ _ (by decide)]; exact (FrX_171 hL.2).trans hw2, by rw [jup_row _ _ _ (by decide), hL.2.2 16 (by decide) (by decide)]; exact hm2⟩ (FrP_tr hf (FrP_tr hfK (FrP_tr (FrP_X hL.2) (FrP_X (FrX_up FrX_0 (Or.inl rfl))))))
            · rw [if_neg c3]
              have c4 : ¬ (R.2.1 < n ∧ 59 ≤ B R.2.1 ∧ B R.2.1 ≤ 59) := fun x => c3 ((sg_iff (B := B) (n := n) (q := R.2.1) (c := 59) (by decide)).2 x)
              refine j_aload_n dX12_readAll_28 rfl ?_
              refine j_iload_n dX12_readAll_29 rfl ?_
              refine j_iload_n dX12_readAll_30 rfl ?_
              refine r_cv2EI dX12_readAll_31 cvX12_245 (by decide) (by first | assumption | exact hsh _ _ rfl) (Nat.le_of_ble_eq_true rfl) (Nat.le_of_eq (Nat.zero_add _)) (Nat.le_of_eq (Nat.zero_add _)) (sL) (fun K hK => ?_)
              obtain ⟨hfK, h1, -⟩ := hK
              obtain ⟨⟨p2, b2, hM2, hp2⟩, hw2, hm2⟩ := h1 g1
              refine j_if_ne (tgt := 39) dX12_readAll_34 rfl (by first | omega | (split <;> omega)) (fun c_34 => ?_) (fun c_34 => by exact absurd c_34 (by decide))
              refine j_aload_n dX12_readAll_39 rfl ?_
              refine r_cv0EV dX12_readAll_40 cvX12_99 (by decide) (by first | assumption | exact hsh _ _ rfl) (Nat.le_of_ble_eq_true rfl) (Nat.le_of_eq (Nat.zero_add _)) (Nat.le_of_eq (Nat.zero_add _)) (sB K p2 b2 hM2 hp2) (fun L hL => ?_)
              have j2 := hL.1.2.1
              have j1 := hL.1.1
              have sa := mt_isAt (G := G) (d := d + 29) (F := F) hsh hfx hL.1 (lo := 59) (hi := 59) (by decide) (by decide) (by decide) (by decide)
              rw [if_neg c4] at sa
              refine j_aload_n dX12_readAll_43 rfl ?_
              refine r_getIE dX12_readAll_44 flX12_86 (by first | assumption | exact hsh _ _ rfl) j2 (fun b_44 => ?_)
              refine j_aload_n dX12_readAll_47 rfl ?_
              refine r_getIE dX12_readAll_48 flX12_89 (by first | assumption | exact hsh _ _ rfl) j1 (fun b_48 => ?_)
              refine j_icmp_ne (tgt := 58) dX12_readAll_51 rfl (by first | omega | (split <;> omega)) (by first | omega | (split <;> omega)) (fun c_51 => ?_) (fun c_51 => by exact absurd (Classical.not_not.1 c_51) en2)
              refine j_aload_n dX12_readAll_58 rfl ?_
              refine j_bipush dX12_readAll_59 (by decide) ?_
              refine j_bipush dX12_readAll_61 (by decide) ?_
              refine r_cv2I dX12_readAll_63 cvX12_92 (by decide) (by first | assumption | exact hsh _ _ rfl) (Nat.le_of_ble_eq_true rfl) (Nat.le_of_eq (Nat.zero_add _)) (Nat.le_of_eq (Nat.zero_add _)) (sa) ?_
              refine j_if_ne (tgt := 71) dX12_readAll_66 rfl (by first | omega | (split <;> omega)) (fun c_66 => by exact absurd c_66 (by decide)) (fun c_66 => ?_)
              refine j_iconst dX12_readAll_69 ?_
              refine j_iret dX12_readAll_70 rfl ?_
              exact rEI_of rfl ⟨frV L (FrP_tr hf (FrP_tr hfK (FrP_X hL.2))), fun h => absurd h (show ¬ (0 : Int) ≤ -1 by decide), fun _ => hL.1.2.2.1⟩
    have k0 := fun J hM hf => key 12 0 q 0 w J (by omega) (by omega) (by omega) (by omega) hM hf
    rw [hQ] at k0
    refine j_aload_n dX12_readAll_0 rfl ?_
    refine r_cv0V dX12_readAll_1 cvX12_242 (by decide) (by first | assumption | exact hsh _ _ rfl) (Nat.le_of_ble_eq_true rfl) (Nat.le_of_eq (Nat.zero_add _)) (Nat.le_of_eq (Nat.zero_add _)) (mb_uses hsh hn hn2) ?_
    refine j_aload_n dX12_readAll_4 rfl ?_
    refine j_iconst dX12_readAll_5 ?_
    refine r_putI dX12_readAll_6 flX12_182 rfl (by first | assumption | exact hsh _ _ rfl) (by first | omega | (split <;> omega)) (fun q => by cases q) ?_
    rw [← hI1]
    refine j_aload_n dX12_readAll_9 rfl ?_
    refine r_cv0EV dX12_readAll_10 cvX12_99 (by decide) (by first | assumption | exact hsh _ _ rfl) (Nat.le_of_ble_eq_true rfl) (Nat.le_of_eq (Nat.zero_add _)) (Nat.le_of_eq (Nat.zero_add _)) (sb) (fun J hJ => ?_)
    have j2 := hJ.1.2.1
    have j1 := hJ.1.1
    refine j_aload_n dX12_readAll_13 rfl ?_
    refine r_getIE dX12_readAll_14 flX12_86 (by first | assumption | exact hsh _ _ rfl) j2 (fun b_14 => ?_)
    refine j_aload_n dX12_readAll_17 rfl ?_
    refine r_getIE dX12_readAll_18 flX12_89 (by first | assumption | exact hsh _ _ rfl) j1 (fun b_18 => ?_)
    refine j_icmp_ne (tgt := 26) dX12_readAll_21 rfl (by first | omega | (split <;> omega)) (by first | omega | (split <;> omega)) (fun c_21 => ?_) (fun c_21 => by exact absurd (Classical.not_not.1 c_21) en)
    refine j_iconst dX12_readAll_26 ?_
    refine j_istore_n dX12_readAll_27 (by decide) ?_
    exact k0 J (Mp_X hMp1 hJ.1 hqq hJ.2) (FrP_X hJ.2)
end
