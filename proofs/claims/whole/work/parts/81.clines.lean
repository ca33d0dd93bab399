/-! THE CLASS READS A LAW'S LINES -/
theorem jOr_w {a b : Int} (ha : 0 ≤ a ∧ a < 4096) (hb : 0 ≤ b ∧ b < 4096) : (0 ≤ jOr a b ∧ jOr a b < 4096) ∧ ∀ p : Int, 0 ≤ p → p < 31 → (jbit (jOr a b) p ↔ jbit a p ∨ jbit b p) := by
  obtain ⟨m, rfl⟩ := Int.eq_ofNat_of_zero_le ha.1
  obtain ⟨n, rfl⟩ := Int.eq_ofNat_of_zero_le hb.1
  have h1 : m < 2 ^ 12 := by omega
  have h2 : n < 2 ^ 12 := by omega
  have h3 : m ||| n < 2 ^ 12 := Nat.or_lt_two_pow h1 h2
  rw [jOr_nat (by omega) (by omega)]
  refine ⟨⟨by omega, by omega⟩, fun p hp0 hp1 => ?_⟩
  obtain ⟨q, rfl⟩ := Int.eq_ofNat_of_zero_le hp0
  rw [jbit_nat (by omega) (by omega), jbit_nat (by omega) (by omega), jbit_nat (by omega) (by omega), Nat.testBit_or, Bool.or_eq_true]
theorem jShl_w {p : Int} (h0 : 0 ≤ p) (h1 : p < 12) : (0 < jShl 1 p ∧ jShl 1 p < 4096) ∧ ∀ q : Int, 0 ≤ q → q < 31 → (jbit (jShl 1 p) q ↔ q = p) := by
  obtain ⟨n, rfl⟩ := Int.eq_ofNat_of_zero_le h0
  have e : 2 ^ n < 2 ^ 12 := Nat.pow_lt_pow_right (by decide) (by omega)
  have e0 : 0 < 2 ^ n := Nat.pow_pos (by decide)
  rw [jShl_nat (by omega)]
  refine ⟨⟨by omega, by omega⟩, fun q hq0 hq1 => ?_⟩
  obtain ⟨k, rfl⟩ := Int.eq_ofNat_of_zero_le hq0
  rw [jbit_nat (by omega) (by omega), Nat.testBit_two_pow, decide_eq_true_eq]
  omega
theorem wd_pd {B : Int → Int} {n q : Int} (h : vWd B n q 15) : ¬ vWd B n q 16 := fun h2 => by
  have h3 := h.2.1
  have h4 := h2.2.1
  have e1 : txL 15 = 4 := rfl
  have e2 : txL 16 = 3 := rfl
  omega
/-- amounts and kinds of the lines; where they begin and end -/
def LrA (I : Nat → Int → Int) (z : Int) (w : Int → Int) : Prop := (∀ j, 0 ≤ j → j < z → I 158 j = w (1270 + 4 * j + 1)) ∧ (0 ≤ I 156 5 ∧ I 156 5 < 4096) ∧ ∀ j, 0 ≤ j → j < 12 → (jbit (I 156 5) j ↔ j < z ∧ w (1270 + 4 * j) = 0)
def LrS (I : Nat → Int → Int) (z : Int) (w : Int → Int) : Prop := ∀ j, 0 ≤ j → j < z → I 159 j = w (1270 + 4 * j + 2) ∧ I 159 (j + 1) = w (1270 + 4 * j + 3)
theorem LrC_w {I : Nat → Int → Int} {m : Int} {w v : Int → Int} (h : LrC I m w) (hv : ∀ k, 1318 ≤ k → k < 1318 + 2 * m → v k = w k) : LrC I m v := ⟨h.1, fun i i0 i1 => by
  rw [h.2 i i0 i1]
  show jCode (w (1318 + 2 * i)) (w (1318 + 2 * i + 1)) = jCode (v (1318 + 2 * i)) (v (1318 + 2 * i + 1))
  rw [hv _ (by omega) (by omega), hv _ (by omega) (by omega)]⟩
theorem LrA_fr {I J : Nat → Int → Int} {z : Int} {w : Int → Int} (h : LrA I z w) (h1 : J 158 = I 158) (h2 : J 156 5 = I 156 5) : LrA J z w := by
  unfold LrA
  rw [h1, h2]
  exact h
theorem LrA_FrL {I J : Nat → Int → Int} {z : Int} {w : Int → Int} (h : LrA I z w) (hf : FrL I J) : LrA J z w := LrA_fr h (hf.1 158 (by decide) (by decide) (by decide)) (hf.2.1 5 (by decide))
/-- a line more -/
theorem LrA_n {I J : Nat → Int → Int} {z a y put : Int} {w v : Int → Int} (h : LrA I z w) (hz : 0 ≤ z ∧ z < 12) (hJ : J 158 = wup (I 158) z a) (hy : (y = 1 ∧ put = 0) ∨ (y = 0 ∧ put = 1)) (hd : J 156 5 = jOr (I 156 5) (if y = 1 then jShl 1 z else 0)) (hv : ∀ k, k < 1270 + 4 * z → v k = w k) (h0 : v (1270 + 4 * z) = put) (h1 : v (1270 + 4 * z + 1) = a) : LrA J (z + 1) v := by
  obtain ⟨b1, b2, b3⟩ := h
  have hs := jShl_w hz.1 hz.2
  have hx : 0 ≤ (if y = 1 then jShl 1 z else 0) ∧ (if y = 1 then jShl 1 z else 0) < 4096 := by split <;> omega
  have ho := jOr_w b2 hx
  refine ⟨fun j j0 j1 => ?_, by rw [hd]; exact ho.1, fun j j0 j1 => ?_⟩
  · rw [hJ]
    by_cases c : j = z
    · subst c; rw [wup_same, h1]
    · rw [wup_ne _ _ c, b1 j j0 (by omega), hv _ (by omega)]
  · rw [hd, ho.2 j j0 (by omega), b3 j j0 j1]
    by_cases c : j = z
    · subst c
      rw [h0]
      rcases hy with ⟨rfl, rfl⟩ | ⟨rfl, rfl⟩
      · rw [if_pos rfl, hs.2 j j0 (by omega)]
        constructor
        · intro _; exact ⟨by omega, rfl⟩
        · intro _; exact Or.inr rfl
      · rw [if_neg (by decide)]
        constructor
        · rintro (h | h)
          · omega
          · exact absurd h (jbit_0 j0 (by omega))
        · intro h; omega
    · have e : jbit (if y = 1 then jShl 1 z else 0) j ↔ False := by
        refine ⟨fun q => ?_, fun q => q.elim⟩
        by_cases cy : y = 1
        · rw [if_pos cy] at q
          exact c ((hs.2 j j0 (by omega)).1 q)
        · rw [if_neg cy] at q
          exact jbit_0 j0 (by omega) q
      rw [e]
      by_cases c2 : j < z
      · rw [hv (1270 + 4 * j) (by omega)]
        constructor
        · rintro (h | h)
          · exact ⟨by omega, h.2⟩
          · exact h.elim
        · intro h; exact Or.inl ⟨c2, h.2⟩
      · constructor
        · rintro (h | h)
          · omega
          · exact h.elim
        · intro h; omega
def lCl (I : Nat → Int → Int) (B : Int → Int) (n z : Int) (R : pR) (J : Nat → Int → Int) : Prop := Tx J B n R.2.1 ∧ (R.1 = 1 → LrC J R.2.2.1 R.2.2.2 ∧ LrA J (z + 1) R.2.2.2 ∧ J 156 4 = I 156 4) ∧ ∀ a, a ≠ 154 → a ≠ 156 → a ≠ 157 → a ≠ 158 → J a = I a
section
variable {G : jzG} {d : Nat} {sh : List (Nat × Nat)} {I : Nat → Int → Int} {F : Nat → Int → Option Nat} {B : Int → Int} {n q m z : Int} {w : Int → Int}
theorem sl_line (hsh : ShOK sh) (hfx : FxOK F) (hT : Tx I B n q) (hL : LrC I m w) (hA : LrA I z w) (hz : 0 ≤ z ∧ z < 12) (hm : 0 ≤ m ∧ m ≤ q) : jS G (d + 22) mX6_readLine [jR (some 156), jR (some 154), jI z] (sh, I, F) 0 0 (rEI (pLine B n z q m w).1 sh F (lCl I B n z (pLine B n z q m w))) := by
  have t8 := hT.2.2.2.2.2.2.2
  have s15 := st_isWord (G := G) (d := d + 17) (F := F) hsh hfx hT (t := 15) (by decide)
  have s16 := st_isWord (G := G) (d := d + 17) (F := F) hsh hfx hT (t := 16) (by decide)
  have hR : pLine B n z q m w = if vWd B n q 16 ∨ vWd B n q 15 then (if vNm B n (tkN B n q) 3 0 99 then (if vWd B n (tkN B n (tkN B n q)) 17 then pThen (pCond B n (pAtom B n 6) (tkN B n (tkN B n (tkN B n q))) m (pHd w z (pPut B n q) (tV B n (tkN B n q)) m)) (fun q1 m1 w1 => (1, q1, m1, wup w1 (1270 + 4 * z + 3) m1)) else (1, tkN B n (tkN B n q), m, wup (pHd w z (pPut B n q) (tV B n (tkN B n q)) m) (1270 + 4 * z + 3) m)) else (0, tkN B n q, m, w)) else (0, q, m, w) := rfl
  refine jS_go [some (jR (some 156)), some (jR (some 154)), some (jI z), none] (by decide +kernel) rfl (by simp [jone]) (Nat.le_of_ble_eq_true rfl) rfl (fun hok => ?_)
  by_cases e : vWd B n q 16 ∨ vWd B n q 15
  · have t1 : q + 1 ≤ tkN B n q ∧ tkN B n q ≤ n := by
      rcases e with e | e <;> exact wd_s t8.1.2 e
    obtain ⟨q1, hq1⟩ : ∃ x, tkN B n q = x := ⟨_, rfl⟩
    rw [hq1] at hR t1
    rw [if_pos e] at hR
    -- behind the first word: y says that it draws
    have mid : ∀ y : Int, ((y = 1 ∧ pPut B n q = 0) ∨ (y = 0 ∧ pPut B n q = 1)) → jW G mX6_readLine (d + 22) (rEI (pLine B n z q m w).1 sh F (lCl I B n z (pLine B n z q m w))) 22 [some (jR (some 156)), some (jR (some 154)), some (jI z), some (jI y)] [] (sh, I, F) 0 0 := by
      intro y hy
      have sn := st_next (G := G) (d := d + 20) (F := F) hsh hfx hT
      rw [hq1] at sn
      have sN := fun (J : Nat → Int → Int) (h : Tx J B n q1) => st_isNumber (G := G) (d := d + 21) (F := F) hsh h (f := 3) (lo := 0) (hi := 99) (by decide) (by decide) (by decide)
      by_cases e2 : vNm B n q1 3 0 99
      · rw [if_pos e2] at hR sN
        have t2 := nm_s t1.2 e2
        have hx := tV_in e2
        have v6 := fun (J : Nat → Int → Int) (h : Tx J B n q1) => Tx_v h (by decide) e2
        obtain ⟨q2, hq2⟩ : ∃ x, tkN B n q1 = x := ⟨_, rfl⟩
        obtain ⟨a, ha⟩ : ∃ x, tV B n q1 = x := ⟨_, rfl⟩
        obtain ⟨put, hput⟩ : ∃ x, pPut B n q = x := ⟨_, rfl⟩
        rw [hq2, ha, hput] at hR
        rw [hq2] at t2
        rw [ha] at v6 hx
        rw [hput] at hy
        -- behind the amount
        have fin : ∀ (J K : Nat → Int → Int), Tx J B n q1 → Fr1 154 I J → (∀ a, a ≠ 156 → a ≠ 158 → K a = J a) → (∀ k, k ≠ 5 → K 156 k = J 156 k) → K 158 = wup (J 158) z a → K 156 5 = jOr (I 156 5) (if y = 1 then jShl 1 z else 0) → jW G mX6_readLine (d + 22) (rEI (pLine B n z q m w).1 sh F (lCl I B n z (pLine B n z q m w))) 69 [some (jR (some 156)), some (jR (some 154)), some (jI z), some (jI y)] [] (sh, K, F) 0 0 := by
          intro J K hTJ hfJ k1 k2 k3 k4
          have hTK : Tx K B n q1 := Tx_fr hTJ (k1 154 (by decide) (by decide)) (k1 155 (by decide) (by decide))
          have hLJ := LrC_154 hL hfJ
          have hLK : LrC K m w := ⟨by rw [k2 3 (by decide)]; exact hLJ.1, fun i i0 i1 => by rw [k1 157 (by decide) (by decide)]; exact hLJ.2 i i0 i1⟩
          have hLH : LrC K m (pHd w z put a m) := LrC_w hLK (fun k k0 _ => pHd_o (by omega))
          have kf : ∀ a, a ≠ 154 → a ≠ 156 → a ≠ 157 → a ≠ 158 → K a = I a := fun a a0 a1 _ a3 => (k1 a a1 a3).trans (hfJ a a0)
          have hAK : ∀ v : Int → Int, (∀ k, k < 1318 → k ≠ 1270 + 4 * z + 3 → v k = pHd w z put a m k) → LrA K (z + 1) v := fun v hv => LrA_n hA hz (by rw [k3, hfJ 158 (by decide)]) hy k4 (fun k hk => by rw [hv k (by omega) (by omega), pHd_o (by omega)]) (by rw [hv _ (by omega) (by omega), pHd_0]) (by rw [hv _ (by omega) (by omega), pHd_1])
          have sn2 := st_next (G := G) (d := d + 20) (F := F) hsh hfx hTK
          rw [hq2] at sn2
          by_cases e3 : vWd B n q2 17
          · have t3 := wd_s t2.2 e3
            rw [if_pos e3] at hR
            have sT := fun (N : Nat → Int → Int) (h : Tx N B n q2) => st_takesWord1 (G := G) (d := d + 16) (F := F) hsh hfx h (t := 17) (by decide) e3
            have sC := fun (N : Nat → Int → Int) (h1 : Tx N B n (tkN B n q2)) (h2 : LrC N m (pHd w z put a m)) => sl_cond (G := G) (d := d + 12) (F := F) (deep := 0) hsh hfx (pAtom_g (B := B) (n := n) 6) (fun J q m w a1 a2 a3 a4 => by have := sl_atom (G := G) (B := B) (n := n) hsh hfx 6 (d + 12 + 8) (by omega) (by omega) J q m w a1 a2 a3 a4; rw [show (6 - ((6 : Nat) : Int)) = 0 from rfl] at this; exact this) h1 h2 ⟨hm.1, by omega⟩
            have h01 := pGd_01 (pCond_g (B := B) (pAtom_g (B := B) (n := n) 6) (m := m) (w := pHd w z put a m) t3.2)
            have hcg := pCond_g (B := B) (pAtom_g (B := B) (n := n) 6) (m := m) (w := pHd w z put a m) t3.2
            generalize pCond B n (pAtom B n 6) (tkN B n q2) m (pHd w z put a m) = S at *
            rcases hcg with g0 | ⟨g1, g2, g3, g4, g5, g6, -⟩
            · rw [pThen_f g0.1] at hR
              rw [hR, g0.1]
              rw [g0.1] at sC
              refine j_aload_n dX6_readLine_69 rfl ?_
              refine r_cv0EV dX6_readLine_70 cvX6_64 (by decide) (by first | assumption | exact hsh _ _ rfl) (Nat.le_of_ble_eq_true rfl) (Nat.le_of_eq (Nat.zero_add _)) (Nat.le_of_eq (Nat.zero_add _)) (sn2) (fun N hN => ?_)
              refine j_aload_n dX6_readLine_73 rfl ?_
              refine j_ldcS dX6_readLine_74 (t := 17) (by decide +kernel) ?_
              refine r_cv1EI dX6_readLine_76 cvX6_76 (by decide) (by first | assumption | exact hsh _ _ rfl) (Nat.le_of_ble_eq_true rfl) (Nat.le_of_eq (Nat.zero_add _)) (Nat.le_of_eq (Nat.zero_add _)) (sT N hN.1) (fun P hP => ?_)
              refine j_if_eq (tgt := 91) dX6_readLine_79 rfl (by first | omega | (split <;> omega)) (fun c_79 => by exact absurd c_79 (by decide)) (fun c_79 => ?_)
              refine j_aload_n dX6_readLine_82 rfl ?_
              refine j_aload_n dX6_readLine_83 rfl ?_
              refine j_iconst dX6_readLine_84 ?_
              refine r_cv2EI dX6_readLine_85 cvX6_79 (by decide) (by first | assumption | exact hsh _ _ rfl) (Nat.le_of_ble_eq_true rfl) (Nat.le_of_eq (Nat.zero_add _)) (Nat.le_of_eq (Nat.zero_add _)) (sC P hP.1 (LrC_154 (LrC_154 hLH hN.2) hP.2)) (fun V hV => ?_)
              refine j_if_eq (tgt := 95) dX6_readLine_88 rfl (by first | omega | (split <;> omega)) (fun c_88 => ?_) (fun c_88 => by exact absurd c_88 (by decide))
              refine j_iconst dX6_readLine_95 ?_
              refine j_zret dX6_readLine_96 rfl (by omega) ?_
              exact rEI_of rfl ⟨hV.1, fun h => absurd h (by rw [g0.1]; decide), fun a a0 a1 a2 a3 => by rw [hV.2.2.1 a a0 a1 a2, hP.2 a a0, hN.2 a a0, kf a a0 a1 a2 a3]⟩
            · rw [pThen_t g1] at hR
              rw [hR]
              rw [g1] at sC
              refine j_aload_n dX6_readLine_69 rfl ?_
              refine r_cv0EV dX6_readLine_70 cvX6_64 (by decide) (by first | assumption | exact hsh _ _ rfl) (Nat.le_of_ble_eq_true rfl) (Nat.le_of_eq (Nat.zero_add _)) (Nat.le_of_eq (Nat.zero_add _)) (sn2) (fun N hN => ?_)
              refine j_aload_n dX6_readLine_73 rfl ?_
              refine j_ldcS dX6_readLine_74 (t := 17) (by decide +kernel) ?_
              refine r_cv1EI dX6_readLine_76 cvX6_76 (by decide) (by first | assumption | exact hsh _ _ rfl) (Nat.le_of_ble_eq_true rfl) (Nat.le_of_eq (Nat.zero_add _)) (Nat.le_of_eq (Nat.zero_add _)) (sT N hN.1) (fun P hP => ?_)
              refine j_if_eq (tgt := 91) dX6_readLine_79 rfl (by first | omega | (split <;> omega)) (fun c_79 => by exact absurd c_79 (by decide)) (fun c_79 => ?_)
              refine j_aload_n dX6_readLine_82 rfl ?_
              refine j_aload_n dX6_readLine_83 rfl ?_
              refine j_iconst dX6_readLine_84 ?_
              refine r_cv2EI dX6_readLine_85 cvX6_79 (by decide) (by first | assumption | exact hsh _ _ rfl) (Nat.le_of_ble_eq_true rfl) (Nat.le_of_eq (Nat.zero_add _)) (Nat.le_of_eq (Nat.zero_add _)) (sC P hP.1 (LrC_154 (LrC_154 hLH hN.2) hP.2)) (fun V hV => ?_)
              refine j_if_eq (tgt := 95) dX6_readLine_88 rfl (by first | omega | (split <;> omega)) (fun c_88 => by exact absurd c_88 (by decide)) (fun c_88 => ?_)
              refine j_iconst dX6_readLine_91 ?_
              refine j_goto (tgt := 96) dX6_readLine_92 rfl ?_
              refine j_zret dX6_readLine_96 rfl (by omega) ?_
              refine rEI_of rfl ⟨hV.1, fun _ => ⟨LrC_w (hV.2.1 g1) (fun k k0 _ => wup_ne _ _ (by omega)), ?_, by rw [hV.2.2.2.1 4 (by decide), hP.2 156 (by decide), hN.2 156 (by decide), k2 4 (by decide), hfJ 156 (by decide)]⟩, fun a a0 a1 a2 a3 => by rw [hV.2.2.1 a a0 a1 a2, hP.2 a a0, hN.2 a a0, kf a a0 a1 a2 a3]⟩
              refine LrA_FrL (LrA_FrL (LrA_FrL (hAK _ (fun k k0 k1 => ?_)) (FrL_154 hN.2)) (FrL_154 hP.2)) hV.2.2
              show wup S.2.2.2 (1270 + 4 * z + 3) S.2.2.1 k = _
              rw [wup_ne _ _ k1, g6 k (by omega)]
          · rw [if_neg e3] at hR
            rw [hR]
            have sT := fun (N : Nat → Int → Int) (h : Tx N B n q2) => st_takesWord0 (G := G) (d := d + 16) (F := F) hsh hfx h (t := 17) (by decide) e3
            refine j_aload_n dX6_readLine_69 rfl ?_
            refine r_cv0EV dX6_readLine_70 cvX6_64 (by decide) (by first | assumption | exact hsh _ _ rfl) (Nat.le_of_ble_eq_true rfl) (Nat.le_of_eq (Nat.zero_add _)) (Nat.le_of_eq (Nat.zero_add _)) (sn2) (fun N hN => ?_)
            refine j_aload_n dX6_readLine_73 rfl ?_
            refine j_ldcS dX6_readLine_74 (t := 17) (by decide +kernel) ?_
            refine r_cv1I dX6_readLine_76 cvX6_76 (by decide) (by first | assumption | exact hsh _ _ rfl) (Nat.le_of_ble_eq_true rfl) (Nat.le_of_eq (Nat.zero_add _)) (Nat.le_of_eq (Nat.zero_add _)) (sT N hN.1) ?_
            refine j_if_eq (tgt := 91) dX6_readLine_79 rfl (by first | omega | (split <;> omega)) (fun c_79 => ?_) (fun c_79 => by exact absurd c_79 (by decide))
            refine j_iconst dX6_readLine_91 ?_
            refine j_goto (tgt := 96) dX6_readLine_92 rfl ?_
            refine j_zret dX6_readLine_96 rfl (by omega) ?_
            refine rEI_of rfl ⟨hN.1, fun _ => ⟨LrC_w (LrC_154 hLH hN.2) (fun k k0 _ => wup_ne _ _ (by omega)), ?_, by rw [hN.2 156 (by decide), k2 4 (by decide), hfJ 156 (by decide)]⟩, fun a a0 a1 a2 a3 => by rw [hN.2 a a0, kf a a0 a1 a2 a3]⟩
            exact LrA_FrL (hAK _ (fun k k0 k1 => wup_ne _ _ k1)) (FrL_154 hN.2)
        have q51 : ∀ J : Nat → Int → Int, Fr1 154 I J → jup J 158 z a 156 5 = I 156 5 := fun J h => by rw [jup_ne _ _ _ (by decide), h 156 (by decide)]
        rcases hy with ⟨rfl, hy⟩ | ⟨rfl, hy⟩
        · rw [if_pos rfl] at fin
          have hjo := jOr_in (I 156 5) (jShl 1 z)
          refine j_aload_n dX6_readLine_22 rfl ?_
          refine r_cv0EV dX6_readLine_23 cvX6_64 (by decide) (by first | assumption | exact hsh _ _ rfl) (Nat.le_of_ble_eq_true rfl) (Nat.le_of_eq (Nat.zero_add _)) (Nat.le_of_eq (Nat.zero_add _)) (sn) (fun J hJ => ?_)
          refine j_aload_n dX6_readLine_26 rfl ?_
          refine j_iconst dX6_readLine_27 ?_
          refine j_iconst dX6_readLine_28 ?_
          refine j_bipush dX6_readLine_29 (by decide) ?_
          refine r_cv3I dX6_readLine_31 cvX6_67 (by decide) (by first | assumption | exact hsh _ _ rfl) (Nat.le_of_ble_eq_true rfl) (Nat.le_of_eq (Nat.zero_add _)) (Nat.le_of_eq (Nat.zero_add _)) (sN J hJ.1) ?_
          refine j_if_ne (tgt := 39) dX6_readLine_34 rfl (by first | omega | (split <;> omega)) (fun c_34 => ?_) (fun c_34 => by exact absurd c_34 (by decide))
          refine j_aload_n dX6_readLine_39 rfl ?_
          refine r_getS dX6_readLine_40 flX6_15 (by first | assumption | exact hsh _ _ rfl) (fx_156_1 hfx) ?_
          refine j_iload_n dX6_readLine_43 rfl ?_
          refine j_aload_n dX6_readLine_44 rfl ?_
          refine r_getIE dX6_readLine_45 flX6_71 (by first | assumption | exact hsh _ _ rfl) (v6 J hJ.1) (fun b_45 => ?_)
          refine r_iastore dX6_readLine_48 (by first | assumption | exact hsh _ _ rfl) (by first | omega | (split <;> omega)) (by first | omega | (split <;> omega)) (by first | omega | (split <;> omega)) ?_
          refine j_aload_n dX6_readLine_49 rfl ?_
          refine j_dup dX6_readLine_50 trivial ?_
          refine r_getIE dX6_readLine_51 flX6_28 (by first | assumption | exact hsh _ _ rfl) (q51 J hJ.2) (fun b_51 => ?_)
          refine j_iload_n dX6_readLine_54 rfl ?_
          refine j_if_eq (tgt := 64) dX6_readLine_55 rfl (by first | omega | (split <;> omega)) (fun c_55 => by exact absurd c_55 (by decide)) (fun c_55 => ?_)
          refine j_iconst dX6_readLine_58 ?_
          refine j_iload_n dX6_readLine_59 rfl ?_
          refine r_ishl dX6_readLine_60 (fun b_60 => ?_)
          refine j_goto (tgt := 65) dX6_readLine_61 rfl ?_
          refine r_ior dX6_readLine_65 (fun b_65 => ?_)
          refine r_putI dX6_readLine_66 flX6_28 rfl (by first | assumption | exact hsh _ _ rfl) (by first | omega | (split <;> omega)) (fun q => by cases q) ?_
          exact fin J _ hJ.1 hJ.2 (fun a a0 a1 => by rw [jup_ne _ _ _ a0, jup_ne _ _ _ a1]) (fun k hk => by rw [jup_row _ _ _ hk, jup_ne _ _ _ (by decide)]) (by rw [jup_ne _ _ _ (by decide), jup_at]) (jup_same _ _ _ _)
        · rw [if_neg (by decide)] at fin
          have hjo := jOr_in (I 156 5) 0
          refine j_aload_n dX6_readLine_22 rfl ?_
          refine r_cv0EV dX6_readLine_23 cvX6_64 (by decide) (by first | assumption | exact hsh _ _ rfl) (Nat.le_of_ble_eq_true rfl) (Nat.le_of_eq (Nat.zero_add _)) (Nat.le_of_eq (Nat.zero_add _)) (sn) (fun J hJ => ?_)
          refine j_aload_n dX6_readLine_26 rfl ?_
          refine j_iconst dX6_readLine_27 ?_
          refine j_iconst dX6_readLine_28 ?_
          refine j_bipush dX6_readLine_29 (by decide) ?_
          refine r_cv3I dX6_readLine_31 cvX6_67 (by decide) (by first | assumption | exact hsh _ _ rfl) (Nat.le_of_ble_eq_true rfl) (Nat.le_of_eq (Nat.zero_add _)) (Nat.le_of_eq (Nat.zero_add _)) (sN J hJ.1) ?_
          refine j_if_ne (tgt := 39) dX6_readLine_34 rfl (by first | omega | (split <;> omega)) (fun c_34 => ?_) (fun c_34 => by exact absurd c_34 (by decide))
          refine j_aload_n dX6_readLine_39 rfl ?_
          refine r_getS dX6_readLine_40 flX6_15 (by first | assumption | exact hsh _ _ rfl) (fx_156_1 hfx) ?_
          refine j_iload_n dX6_readLine_43 rfl ?_
          refine j_aload_n dX6_readLine_44 rfl ?_
          refine r_getIE dX6_readLine_45 flX6_71 (by first | assumption | exact hsh _ _ rfl) (v6 J hJ.1) (fun b_45 => ?_)
          refine r_iastore dX6_readLine_48 (by first | assumption | exact hsh _ _ rfl) (by first | omega | (split <;> omega)) (by first | omega | (split <;> omega)) (by first | omega | (split <;> omega)) ?_
          refine j_aload_n dX6_readLine_49 rfl ?_
          refine j_dup dX6_readLine_50 trivial ?_
          refine r_getIE dX6_readLine_51 flX6_28 (by first | assumption | exact hsh _ _ rfl) (q51 J hJ.2) (fun b_51 => ?_)
          refine j_iload_n dX6_readLine_54 rfl ?_
          refine j_if_eq (tgt := 64) dX6_readLine_55 rfl (by first | omega | (split <;> omega)) (fun c_55 => ?_) (fun c_55 => by exact absurd rfl c_55)
          refine j_iconst dX6_readLine_64 ?_
          refine r_ior dX6_readLine_65 (fun b_65 => ?_)
          refine r_putI dX6_readLine_66 flX6_28 rfl (by first | assumption | exact hsh _ _ rfl) (by first | omega | (split <;> omega)) (fun q => by cases q) ?_
          exact fin J _ hJ.1 hJ.2 (fun a a0 a1 => by rw [jup_ne _ _ _ a0, jup_ne _ _ _ a1]) (fun k hk => by rw [jup_row _ _ _ hk, jup_ne _ _ _ (by decide)]) (by rw [jup_ne _ _ _ (by decide), jup_at]) (jup_same _ _ _ _)
      · rw [if_neg e2] at hR sN
        rw [hR]
        refine j_aload_n dX6_readLine_22 rfl ?_
        refine r_cv0EV dX6_readLine_23 cvX6_64 (by decide) (by first | assumption | exact hsh _ _ rfl) (Nat.le_of_ble_eq_true rfl) (Nat.le_of_eq (Nat.zero_add _)) (Nat.le_of_eq (Nat.zero_add _)) (sn) (fun J hJ => ?_)
        refine j_aload_n dX6_readLine_26 rfl ?_
        refine j_iconst dX6_readLine_27 ?_
        refine j_iconst dX6_readLine_28 ?_
        refine j_bipush dX6_readLine_29 (by decide) ?_
        refine r_cv3I dX6_readLine_31 cvX6_67 (by decide) (by first | assumption | exact hsh _ _ rfl) (Nat.le_of_ble_eq_true rfl) (Nat.le_of_eq (Nat.zero_add _)) (Nat.le_of_eq (Nat.zero_add _)) (sN J hJ.1) ?_
        refine j_if_ne (tgt := 39) dX6_readLine_34 rfl (by first | omega | (split <;> omega)) (fun c_34 => by exact absurd c_34 (by decide)) (fun c_34 => ?_)
        refine j_iconst dX6_readLine_37 ?_
        refine j_zret dX6_readLine_38 rfl (by omega) ?_
        exact rEI_of rfl ⟨hJ.1, fun h => absurd h (show ¬ (0 : Int) = 1 by decide), fun a a0 _ _ _ => hJ.2 a a0⟩
    by_cases e5 : vWd B n q 15
    · rw [if_pos e5] at s15
      have hp : pPut B n q = 0 := if_neg (wd_pd e5)
      refine j_aload_n dX6_readLine_0 rfl ?_
      refine j_ldcS dX6_readLine_1 (t := 15) (by decide +kernel) ?_
      refine r_cv1I dX6_readLine_3 cvX6_58 (by decide) (by first | assumption | exact hsh _ _ rfl) (Nat.le_of_ble_eq_true rfl) (Nat.le_of_eq (Nat.zero_add _)) (Nat.le_of_eq (Nat.zero_add _)) (s15) ?_
      refine j_istore_n dX6_readLine_6 (by decide) ?_
      refine j_iload_n dX6_readLine_7 rfl ?_
      refine j_if_ne (tgt := 22) dX6_readLine_8 rfl (by first | omega | (split <;> omega)) (fun c_8 => ?_) (fun c_8 => by exact absurd (by decide) c_8)
      exact mid 1 (Or.inl ⟨rfl, hp⟩)
    · have e6 : vWd B n q 16 := e.elim id (fun h => absurd h e5)
      rw [if_neg e5] at s15
      rw [if_pos e6] at s16
      have hp : pPut B n q = 1 := if_pos e6
      refine j_aload_n dX6_readLine_0 rfl ?_
      refine j_ldcS dX6_readLine_1 (t := 15) (by decide +kernel) ?_
      refine r_cv1I dX6_readLine_3 cvX6_58 (by decide) (by first | assumption | exact hsh _ _ rfl) (Nat.le_of_ble_eq_true rfl) (Nat.le_of_eq (Nat.zero_add _)) (Nat.le_of_eq (Nat.zero_add _)) (s15) ?_
      refine j_istore_n dX6_readLine_6 (by decide) ?_
      refine j_iload_n dX6_readLine_7 rfl ?_
      refine j_if_ne (tgt := 22) dX6_readLine_8 rfl (by first | omega | (split <;> omega)) (fun c_8 => by exact absurd rfl c_8) (fun c_8 => ?_)
      refine j_aload_n dX6_readLine_11 rfl ?_
      refine j_ldcS dX6_readLine_12 (t := 16) (by decide +kernel) ?_
      refine r_cv1I dX6_readLine_14 cvX6_58 (by decide) (by first | assumption | exact hsh _ _ rfl) (Nat.le_of_ble_eq_true rfl) (Nat.le_of_eq (Nat.zero_add _)) (Nat.le_of_eq (Nat.zero_add _)) (s16) ?_
      refine j_if_ne (tgt := 22) dX6_readLine_17 rfl (by first | omega | (split <;> omega)) (fun c_17 => ?_) (fun c_17 => by exact absurd c_17 (by decide))
      exact mid 0 (Or.inr ⟨rfl, hp⟩)
  · rw [if_neg e] at hR
    rw [hR]
    rw [if_neg (fun h => e (Or.inr h))] at s15
    rw [if_neg (fun h => e (Or.inl h))] at s16
    refine j_aload_n dX6_readLine_0 rfl ?_
    refine j_ldcS dX6_readLine_1 (t := 15) (by decide +kernel) ?_
    refine r_cv1I dX6_readLine_3 cvX6_58 (by decide) (by first | assumption | exact hsh _ _ rfl) (Nat.le_of_ble_eq_true rfl) (Nat.le_of_eq (Nat.zero_add _)) (Nat.le_of_eq (Nat.zero_add _)) (s15) ?_
    refine j_istore_n dX6_readLine_6 (by decide) ?_
    refine j_iload_n dX6_readLine_7 rfl ?_
    refine j_if_ne (tgt := 22) dX6_readLine_8 rfl (by first | omega | (split <;> omega)) (fun c_8 => by exact absurd rfl c_8) (fun c_8 => ?_)
    refine j_aload_n dX6_readLine_11 rfl ?_
    refine j_ldcS dX6_readLine_12 (t := 16) (by decide +kernel) ?_
    refine r_cv1I dX6_readLine_14 cvX6_58 (by decide) (by first | assumption | exact hsh _ _ rfl) (Nat.le_of_ble_eq_true rfl) (Nat.le_of_eq (Nat.zero_add _)) (Nat.le_of_eq (Nat.zero_add _)) (s16) ?_
    refine j_if_ne (tgt := 22) dX6_readLine_17 rfl (by first | omega | (split <;> omega)) (fun c_17 => by exact absurd c_17 (by decide)) (fun c_17 => ?_)
    refine j_iconst dX6_readLine_20 ?_
    refine j_zret dX6_readLine_21 rfl (by omega) ?_
    exact rEI_of rfl ⟨hT, fun h => absurd h (show ¬ (0 : Int) = 1 by decide), fun _ _ _ _ _ => rfl⟩
/-- what a law's reading may change -/
def FrM (I J : Nat → Int → Int) : Prop := (∀ a, a ≠ 154 → a ≠ 156 → a ≠ 157 → a ≠ 158 → a ≠ 159 → J a = I a) ∧ J 159 0 = I 159 0
def nCl (I : Nat → Int → Int) (B : Int → Int) (n : Int) (R : pR) (J : Nat → Int → Int) : Prop := Tx J B n R.2.1 ∧ (0 ≤ R.1 → LrC J R.2.2.1 R.2.2.2 ∧ LrA J R.1 R.2.2.2 ∧ LrS J R.1 R.2.2.2 ∧ J 156 4 = R.1) ∧ FrM I J
theorem nCl_f {I J : Nat → Int → Int} {B : Int → Int} {n q m : Int} {w : Int → Int} (hT : Tx J B n q) (hf : FrM I J) : nCl I B n (-1, q, m, w) J := ⟨hT, fun h => absurd h (show ¬ (0 : Int) ≤ -1 by decide), hf⟩
theorem sl_lines {Q : jzO → jzH → Prop} {rc rs : Nat} (hsh : ShOK sh) (hfx : FxOK F) (hT : Tx I B n q) (hL : LrC I 0 w) (hA : LrA I 0 w) (h4 : I 156 4 = 0) (h159 : I 159 0 = 0) (k0 : (pLns B n 12 0 q 0 w).1 = -1 → ∀ V, nCl I B n (pLns B n 12 0 q 0 w) V → Q (.inl (some (jR none))) (sh, V, F)) (k1 : ¬ (pLns B n 12 0 q 0 w).1 = -1 → ∀ V o, nCl I B n (pLns B n 12 0 q 0 w) V → jW G mX6_read (d + 24) Q 101 [some (jR (some 156)), some (jR (some 154)), o] [] (sh, V, F) rc rs) : jW G mX6_read (d + 24) Q 28 [some (jR (some 156)), some (jR (some 154)), some (jI 1)] [] (sh, I, F) rc rs := by
  have key : ∀ (k : Nat) (z q m : Int) (w : Int → Int) (J : Nat → Int → Int), z + k = 12 → 0 ≤ z → 0 ≤ m → m ≤ q → Tx J B n q → LrC J m w → LrA J z w → LrS J z w → J 156 4 = z → J 159 z = m → FrM I J → ((pLns B n k z q m w).1 = -1 → ∀ V, nCl I B n (pLns B n k z q m w) V → Q (.inl (some (jR none))) (sh, V, F)) → (¬ (pLns B n k z q m w).1 = -1 → ∀ V o, nCl I B n (pLns B n k z q m w) V → jW G mX6_read (d + 24) Q 101 [some (jR (some 156)), some (jR (some 154)), o] [] (sh, V, F) rc rs) → jW G mX6_read (d + 24) Q 28 [some (jR (some 156)), some (jR (some 154)), some (jI 1)] [] (sh, J, F) rc rs := by
    clear k0 k1
    intro k
    induction k with
    | zero =>
      intro z q m w J hz hz0 hm hmq hT hL hA hS h4 h9 hf k0 k1
      have hR : pLns B n 0 z q m w = (-1, q, m, w) := rfl
      rw [hR] at k0
      refine j_iload_n dX6_read_28 rfl ?_
      refine j_if_eq (tgt := 88) dX6_read_29 rfl (by first | omega | (split <;> omega)) (fun c_29 => by exact absurd c_29 (by decide)) (fun c_29 => ?_)
      refine j_aload_n dX6_read_32 rfl ?_
      refine r_getIE dX6_read_33 flX6_25 (by first | assumption | exact hsh _ _ rfl) h4 (fun b_33 => ?_)
      refine j_bipush dX6_read_36 (by decide) ?_
      refine j_icmp_ge (tgt := 88) dX6_read_38 rfl (by first | omega | (split <;> omega)) (by first | omega | (split <;> omega)) (fun c_38 => ?_) (fun c_38 => by exact absurd (by omega) c_38)
      refine j_iload_n dX6_read_88 rfl ?_
      refine j_if_ne (tgt := 99) dX6_read_89 rfl (by first | omega | (split <;> omega)) (fun c_89 => ?_) (fun c_89 => by exact absurd (by decide) c_89)
      refine j_null dX6_read_99 ?_
      refine j_aret dX6_read_100 rfl (Or.inl ⟨_, rfl⟩) ?_
      exact k0 rfl J (nCl_f hT hf)
    | succ k ih =>
      intro z q m w J hz hz0 hm hmq hT hL hA hS h4 h9 hf k0 k1
      have t8 := hT.2.2.2.2.2.2.2
      have sL := sl_line (G := G) (d := d + 1) (F := F) hsh hfx hT hL hA ⟨hz0, by omega⟩ ⟨hm, hmq⟩
      have hg := pLine_g (B := B) (z := z) (m := m) (w := w) t8.1.2 ⟨hz0, by omega⟩ hm
      have hR : pLns B n (k + 1) z q m w = if (pLine B n z q m w).1 = 0 then (-1, (pLine B n z q m w).2) else if tkK B n (pLine B n z q m w).2.1 = 0 then (z + 1, (pLine B n z q m w).2) else if vSg B n (pLine B n z q m w).2.1 59 then pLns B n k (z + 1) (tkN B n (pLine B n z q m w).2.1) (pLine B n z q m w).2.2.1 (pLine B n z q m w).2.2.2 else (-1, (pLine B n z q m w).2) := rfl
      rw [hR] at k0 k1
      clear hR
      generalize pLine B n z q m w = S at *
      rcases hg with g | ⟨g1, g2, g3, g4, g5, g6, g7, g8, g9⟩
      · rw [if_pos g.1] at k0
        rw [g.1] at sL
        refine j_iload_n dX6_read_28 rfl ?_
        refine j_if_eq (tgt := 88) dX6_read_29 rfl (by first | omega | (split <;> omega)) (fun c_29 => by exact absurd c_29 (by decide)) (fun c_29 => ?_)
        refine j_aload_n dX6_read_32 rfl ?_
        refine r_getIE dX6_read_33 flX6_25 (by first | assumption | exact hsh _ _ rfl) h4 (fun b_33 => ?_)
        refine j_bipush dX6_read_36 (by decide) ?_
        refine j_icmp_ge (tgt := 88) dX6_read_38 rfl (by first | omega | (split <;> omega)) (by first | omega | (split <;> omega)) (fun c_38 => by exact absurd c_38 (by omega)) (fun c_38 => ?_)
        refine j_aload_n dX6_read_41 rfl ?_
        refine j_aload_n dX6_read_42 rfl ?_
        refine j_aload_n dX6_read_43 rfl ?_
        refine r_getIE dX6_read_44 flX6_25 (by first | assumption | exact hsh _ _ rfl) h4 (fun b_44 => ?_)
        refine r_cv2EI dX6_read_47 cvX6_37 (by decide) (by first | assumption | exact hsh _ _ rfl) (Nat.le_of_ble_eq_true rfl) (Nat.le_of_eq (Nat.zero_add _)) (Nat.le_of_eq (Nat.zero_add _)) (sL) (fun K hK => ?_)
        refine j_if_ne (tgt := 55) dX6_read_50 rfl (by first | omega | (split <;> omega)) (fun c_50 => by exact absurd c_50 (by decide)) (fun c_50 => ?_)
        refine j_null dX6_read_53 ?_
        refine j_aret dX6_read_54 rfl (Or.inl ⟨_, rfl⟩) ?_
        exact k0 rfl K (nCl_f hK.1 ⟨fun a a0 a1 a2 a3 a4 => by rw [hK.2.2 a a0 a1 a2 a3, hf.1 a a0 a1 a2 a3 a4], by rw [hK.2.2 159 (by decide) (by decide) (by decide) (by decide)]; exact hf.2⟩)
      · have n1 : ¬ S.1 = 0 := by omega
        rw [if_neg n1] at k0 k1
        rw [g1] at sL
        -- behind a line
        have fin : ∀ K : Nat → Int → Int, lCl J B n z S K → ∀ V : Nat → Int → Int, V = jup (jup K 156 4 (z + 1)) 159 (z + 1) S.2.2.1 → Tx V B n S.2.1 ∧ LrC V S.2.2.1 S.2.2.2 ∧ LrA V (z + 1) S.2.2.2 ∧ LrS V (z + 1) S.2.2.2 ∧ V 159 (z + 1) = S.2.2.1 ∧ V 156 4 = z + 1 ∧ FrM I V := by
          intro K hK V hV
          obtain ⟨k1, k2, k3⟩ := hK
          obtain ⟨k4, k5, -⟩ := k2 g1
          have vf : ∀ a, a ≠ 156 → a ≠ 159 → V a = K a := fun a a0 a1 => by rw [hV, jup_ne _ _ _ a1, jup_ne _ _ _ a0]
          have v6 : ∀ k, k ≠ 4 → V 156 k = K 156 k := fun k hk => by rw [hV, jup_ne _ _ _ (by decide), jup_row _ _ _ hk]
          have v9 : ∀ k, k ≠ z + 1 → V 159 k = J 159 k := fun k hk => by rw [hV, jup_row _ _ _ hk, jup_ne _ _ _ (by decide), k3 159 (by decide) (by decide) (by decide) (by decide)]
          have v9s : V 159 (z + 1) = S.2.2.1 := by rw [hV, jup_same]
          refine ⟨Tx_fr k1 (vf 154 (by decide) (by decide)) (vf 155 (by decide) (by decide)), ⟨by rw [v6 3 (by decide)]; exact k4.1, fun i i0 i1 => by rw [vf 157 (by decide) (by decide)]; exact k4.2 i i0 i1⟩, LrA_fr k5 (vf 158 (by decide) (by decide)) (v6 5 (by decide)), fun j j0 j1 => ?_, v9s, by rw [hV, jup_ne _ _ _ (by decide), jup_same], fun a a0 a1 a2 a3 a4 => by rw [vf a a1 a4, k3 a a0 a1 a2 a3, hf.1 a a0 a1 a2 a3 a4], by rw [v9 0 (by omega)]; exact hf.2⟩
          by_cases c : j = z
          · subst c
            exact ⟨by rw [v9 j (by omega), h9, g8], by rw [v9s, g9]⟩
          · have h2 := hS j j0 (by omega)
            exact ⟨by rw [v9 j (by omega), h2.1, g6 _ (by omega)], by rw [v9 (j + 1) (by omega), h2.2, g6 _ (by omega)]⟩
        have l4 : ∀ K : Nat → Int → Int, jup K 156 4 (z + 1) 156 4 = z + 1 := fun K => jup_same _ _ _ _
        have l3 : ∀ K : Nat → Int → Int, lCl J B n z S K → jup K 156 4 (z + 1) 156 3 = S.2.2.1 := fun K hK => by rw [jup_row _ _ _ (by decide)]; exact (hK.2.1 g1).1.1
        have t9 : 0 ≤ S.2.2.1 ∧ S.2.2.1 ≤ 400 := by omega
        have l5 : ∀ K : Nat → Int → Int, lCl J B n z S K → K 156 4 = z := fun K hK => (hK.2.1 g1).2.2.trans h4
        by_cases c3 : vSg B n S.2.1 59
        · have c2 : ¬ tkK B n S.2.1 = 0 := by have := c3.1; omega
          rw [if_neg c2, if_pos c3] at k0 k1
          have ht := sg_s g3 c3
          have sS := fun (V : Nat → Int → Int) (h : Tx V B n S.2.1) => st_takesSign1 (G := G) (d := d + 18) (F := F) hsh hfx h (c := 59) (by decide) c3
          refine j_iload_n dX6_read_28 rfl ?_
          refine j_if_eq (tgt := 88) dX6_read_29 rfl (by first | omega | (split <;> omega)) (fun c_29 => by exact absurd c_29 (by decide)) (fun c_29 => ?_)
          refine j_aload_n dX6_read_32 rfl ?_
          refine r_getIE dX6_read_33 flX6_25 (by first | assumption | exact hsh _ _ rfl) h4 (fun b_33 => ?_)
          refine j_bipush dX6_read_36 (by decide) ?_
          refine j_icmp_ge (tgt := 88) dX6_read_38 rfl (by first | omega | (split <;> omega)) (by first | omega | (split <;> omega)) (fun c_38 => by exact absurd c_38 (by omega)) (fun c_38 => ?_)
          refine j_aload_n dX6_read_41 rfl ?_
          refine j_aload_n dX6_read_42 rfl ?_
          refine j_aload_n dX6_read_43 rfl ?_
          refine r_getIE dX6_read_44 flX6_25 (by first | assumption | exact hsh _ _ rfl) h4 (fun b_44 => ?_)
          refine r_cv2EI dX6_read_47 cvX6_37 (by decide) (by first | assumption | exact hsh _ _ rfl) (Nat.le_of_ble_eq_true rfl) (Nat.le_of_eq (Nat.zero_add _)) (Nat.le_of_eq (Nat.zero_add _)) (sL) (fun K hK => ?_)
          refine j_if_ne (tgt := 55) dX6_read_50 rfl (by first | omega | (split <;> omega)) (fun c_50 => ?_) (fun c_50 => by exact absurd c_50 (by decide))
          refine j_aload_n dX6_read_55 rfl ?_
          refine j_dup dX6_read_56 trivial ?_
          refine r_getIE dX6_read_57 flX6_25 (by first | assumption | exact hsh _ _ rfl) (l5 K hK) (fun b_57 => ?_)
          refine j_iconst dX6_read_60 ?_
          refine j_iadd dX6_read_61 ?_
          refine r_putI dX6_read_62 flX6_25 rfl (by first | assumption | exact hsh _ _ rfl) (by first | omega | (split <;> omega)) (fun q => by cases q) ?_
          refine j_aload_n dX6_read_65 rfl ?_
          refine r_getS dX6_read_66 flX6_18 (by first | assumption | exact hsh _ _ rfl) (fx_156_2 hfx) ?_
          refine j_aload_n dX6_read_69 rfl ?_
          refine r_getIE dX6_read_70 flX6_25 (by first | assumption | exact hsh _ _ rfl) (l4 K) (fun b_70 => ?_)
          refine j_aload_n dX6_read_73 rfl ?_
          refine r_getIE dX6_read_74 flX6_21 (by first | assumption | exact hsh _ _ rfl) (l3 K hK) (fun b_74 => ?_)
          refine r_iastore dX6_read_77 (by first | assumption | exact hsh _ _ rfl) (by first | omega | (split <;> omega)) (by first | omega | (split <;> omega)) (by first | omega | (split <;> omega)) ?_
          obtain ⟨V, hV⟩ : ∃ V, V = jup (jup K 156 4 (z + 1)) 159 (z + 1) S.2.2.1 := ⟨_, rfl⟩
          rw [← hV]
          obtain ⟨u1, u2, u3, u4, u5, u6, u7⟩ := fin K hK V hV
          refine j_aload_n dX6_read_78 rfl ?_
          refine j_bipush dX6_read_79 (by decide) ?_
          refine r_cv1EI dX6_read_81 cvX6_41 (by decide) (by first | assumption | exact hsh _ _ rfl) (Nat.le_of_ble_eq_true rfl) (Nat.le_of_eq (Nat.zero_add _)) (Nat.le_of_eq (Nat.zero_add _)) (sS V u1) (fun P hP => ?_)
          refine j_istore_n dX6_read_84 (by decide) ?_
          refine j_goto (tgt := 28) dX6_read_85 rfl ?_
          exact ih (z + 1) (tkN B n S.2.1) S.2.2.1 S.2.2.2 P (by omega) (by omega) (by omega) (by omega) hP.1 (LrC_154 u2 hP.2) (LrA_FrL u3 (FrL_154 hP.2)) (fun j j0 j1 => by rw [hP.2 159 (by decide)]; exact u4 j j0 j1) (by rw [hP.2 156 (by decide)]; exact u6) (by rw [hP.2 159 (by decide)]; exact u5) ⟨fun a a0 a1 a2 a3 a4 => by rw [hP.2 a a0, u7.1 a a0 a1 a2 a3 a4], by rw [hP.2 159 (by decide)]; exact u7.2⟩ k0 k1
        · have sS := fun (V : Nat → Int → Int) (h : Tx V B n S.2.1) => st_takesSign0 (G := G) (d := d + 18) (F := F) hsh hfx h (c := 59) (by decide) c3
          have sEn := fun (V : Nat → Int → Int) (h : Tx V B n S.2.1) => st_isEnd (G := G) (d := d + 23) (F := F) hsh h
          have out : ∀ V : Nat → Int → Int, Tx V B n S.2.1 → LrC V S.2.2.1 S.2.2.2 → LrA V (z + 1) S.2.2.2 → LrS V (z + 1) S.2.2.2 → V 156 4 = z + 1 → FrM I V → jW G mX6_read (d + 24) Q 28 [some (jR (some 156)), some (jR (some 154)), some (jI 0)] [] (sh, V, F) rc rs := by
            intro V u1 u2 u3 u4 u6 u7
            by_cases c2 : tkK B n S.2.1 = 0
            · rw [if_pos c2] at k0 k1 sEn
              refine j_iload_n dX6_read_28 rfl ?_
              refine j_if_eq (tgt := 88) dX6_read_29 rfl (by first | omega | (split <;> omega)) (fun c_29 => ?_) (fun c_29 => by exact absurd rfl c_29)
              refine j_iload_n dX6_read_88 rfl ?_
              refine j_if_ne (tgt := 99) dX6_read_89 rfl (by first | omega | (split <;> omega)) (fun c_89 => by exact absurd rfl c_89) (fun c_89 => ?_)
              refine j_aload_n dX6_read_92 rfl ?_
              refine r_cv0I dX6_read_93 cvX6_31 (by decide) (by first | assumption | exact hsh _ _ rfl) (Nat.le_of_ble_eq_true rfl) (Nat.le_of_eq (Nat.zero_add _)) (Nat.le_of_eq (Nat.zero_add _)) (sEn V u1) ?_
              refine j_if_ne (tgt := 101) dX6_read_96 rfl (by first | omega | (split <;> omega)) (fun c_96 => ?_) (fun c_96 => by exact absurd c_96 (by decide))
              exact k1 (show ¬ (z + 1 = -1) by omega) V _ ⟨u1, fun _ => ⟨u2, u3, u4, u6⟩, u7⟩
            · rw [if_neg c2] at k0 k1 sEn
              rw [if_neg c3] at k0
              refine j_iload_n dX6_read_28 rfl ?_
              refine j_if_eq (tgt := 88) dX6_read_29 rfl (by first | omega | (split <;> omega)) (fun c_29 => ?_) (fun c_29 => by exact absurd rfl c_29)
              refine j_iload_n dX6_read_88 rfl ?_
              refine j_if_ne (tgt := 99) dX6_read_89 rfl (by first | omega | (split <;> omega)) (fun c_89 => by exact absurd rfl c_89) (fun c_89 => ?_)
              refine j_aload_n dX6_read_92 rfl ?_
              refine r_cv0I dX6_read_93 cvX6_31 (by decide) (by first | assumption | exact hsh _ _ rfl) (Nat.le_of_ble_eq_true rfl) (Nat.le_of_eq (Nat.zero_add _)) (Nat.le_of_eq (Nat.zero_add _)) (sEn V u1) ?_
              refine j_if_ne (tgt := 101) dX6_read_96 rfl (by first | omega | (split <;> omega)) (fun c_96 => by exact absurd c_96 (by decide)) (fun c_96 => ?_)
              refine j_null dX6_read_99 ?_
              refine j_aret dX6_read_100 rfl (Or.inl ⟨_, rfl⟩) ?_
              exact k0 rfl V (nCl_f u1 u7)
          refine j_iload_n dX6_read_28 rfl ?_
          refine j_if_eq (tgt := 88) dX6_read_29 rfl (by first | omega | (split <;> omega)) (fun c_29 => by exact absurd c_29 (by decide)) (fun c_29 => ?_)
          refine j_aload_n dX6_read_32 rfl ?_
          refine r_getIE dX6_read_33 flX6_25 (by first | assumption | exact hsh _ _ rfl) h4 (fun b_33 => ?_)
          refine j_bipush dX6_read_36 (by decide) ?_
          refine j_icmp_ge (tgt := 88) dX6_read_38 rfl (by first | omega | (split <;> omega)) (by first | omega | (split <;> omega)) (fun c_38 => by exact absurd c_38 (by omega)) (fun c_38 => ?_)
          refine j_aload_n dX6_read_41 rfl ?_
          refine j_aload_n dX6_read_42 rfl ?_
          refine j_aload_n dX6_read_43 rfl ?_
          refine r_getIE dX6_read_44 flX6_25 (by first | assumption | exact hsh _ _ rfl) h4 (fun b_44 => ?_)
          refine r_cv2EI dX6_read_47 cvX6_37 (by decide) (by first | assumption | exact hsh _ _ rfl) (Nat.le_of_ble_eq_true rfl) (Nat.le_of_eq (Nat.zero_add _)) (Nat.le_of_eq (Nat.zero_add _)) (sL) (fun K hK => ?_)
          refine j_if_ne (tgt := 55) dX6_read_50 rfl (by first | omega | (split <;> omega)) (fun c_50 => ?_) (fun c_50 => by exact absurd c_50 (by decide))
          refine j_aload_n dX6_read_55 rfl ?_
          refine j_dup dX6_read_56 trivial ?_
          refine r_getIE dX6_read_57 flX6_25 (by first | assumption | exact hsh _ _ rfl) (l5 K hK) (fun b_57 => ?_)
          refine j_iconst dX6_read_60 ?_
          refine j_iadd dX6_read_61 ?_
          refine r_putI dX6_read_62 flX6_25 rfl (by first | assumption | exact hsh _ _ rfl) (by first | omega | (split <;> omega)) (fun q => by cases q) ?_
          refine j_aload_n dX6_read_65 rfl ?_
          refine r_getS dX6_read_66 flX6_18 (by first | assumption | exact hsh _ _ rfl) (fx_156_2 hfx) ?_
          refine j_aload_n dX6_read_69 rfl ?_
          refine r_getIE dX6_read_70 flX6_25 (by first | assumption | exact hsh _ _ rfl) (l4 K) (fun b_70 => ?_)
          refine j_aload_n dX6_read_73 rfl ?_
          refine r_getIE dX6_read_74 flX6_21 (by first | assumption | exact hsh _ _ rfl) (l3 K hK) (fun b_74 => ?_)
          refine r_iastore dX6_read_77 (by first | assumption | exact hsh _ _ rfl) (by first | omega | (split <;> omega)) (by first | omega | (split <;> omega)) (by first | omega | (split <;> omega)) ?_
          obtain ⟨V, hV⟩ : ∃ V, V = jup (jup K 156 4 (z + 1)) 159 (z + 1) S.2.2.1 := ⟨_, rfl⟩
          rw [← hV]
          obtain ⟨u1, u2, u3, u4, u5, u6, u7⟩ := fin K hK V hV
          refine j_aload_n dX6_read_78 rfl ?_
          refine j_bipush dX6_read_79 (by decide) ?_
          refine r_cv1I dX6_read_81 cvX6_41 (by decide) (by first | assumption | exact hsh _ _ rfl) (Nat.le_of_ble_eq_true rfl) (Nat.le_of_eq (Nat.zero_add _)) (Nat.le_of_eq (Nat.zero_add _)) (sS V u1) ?_
          refine j_istore_n dX6_read_84 (by decide) ?_
          refine j_goto (tgt := 28) dX6_read_85 rfl ?_
          exact out V u1 u2 u3 u4 u6 u7
  have t8 := hT.2.2.2.2.2.2.2
  exact key 12 0 q 0 w I (by omega) (by omega) (by omega) t8.1.1 hT hL hA (fun j j0 j1 => by omega) h4 h159 ⟨fun _ _ _ _ _ _ => rfl, rfl⟩ k0 k1
end
