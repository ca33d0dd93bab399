/-! THE MODEL READS A CONDITION -/
def FrP (I J : Nat → Int → Int) : Prop := (∀ a, a ≠ 170 → a ≠ 171 → J a = I a) ∧ (∀ k, k ≠ 10 → k ≠ 12 → k ≠ 13 → k ≠ 16 → J 170 k = I 170 k) ∧ ∀ k, k < 1270 → J 171 k = I 171 k
theorem FrP_0 {I : Nat → Int → Int} : FrP I I := ⟨fun _ _ _ => rfl, fun _ _ _ _ _ => rfl, fun _ _ => rfl⟩
theorem FrP_tr {I J K : Nat → Int → Int} (h : FrP I J) (h2 : FrP J K) : FrP I K := ⟨fun a a0 a1 => (h2.1 a a0 a1).trans (h.1 a a0 a1), fun k k0 k1 k2 k3 => (h2.2.1 k k0 k1 k2 k3).trans (h.2.1 k k0 k1 k2 k3), fun k hk => (h2.2.2 k hk).trans (h.2.2 k hk)⟩
theorem FrP_X {I J : Nat → Int → Int} (h : FrX I J) : FrP I J := ⟨fun a a0 _ => h.1 a a0, fun k k0 k1 _ _ => h.2 k k0 k1, fun k _ => by rw [h.1 171 (by decide)]⟩
/-- a step was laid, or the depth has changed -/
def FrQ (I J : Nat → Int → Int) : Prop := (∀ a, a ≠ 170 → a ≠ 171 → J a = I a) ∧ ∀ k, k ≠ 13 → k ≠ 16 → J 170 k = I 170 k
theorem Mt_Q {I J : Nat → Int → Int} {B : Int → Int} {n p b : Int} (h : Mt I B n p b) (hf : FrQ I J) : Mt J B n p b := by
  obtain ⟨h1, h2, h3, h4, h5, h6⟩ := h
  exact ⟨by rw [hf.2 11 (by decide) (by decide)]; exact h1, by rw [hf.2 10 (by decide) (by decide)]; exact h2, by rw [hf.2 12 (by decide) (by decide)]; exact h3, fun k k0 k1 => by rw [hf.1 176 (by decide) (by decide)]; exact h4 k k0 k1, h5, h6⟩
/-- the model stands at q with m steps and the rows w -/
def Mp (I : Nat → Int → Int) (B : Int → Int) (n q m : Int) (w : Int → Int) : Prop := (∃ p b, Mt I B n p b ∧ lxB B n p = q) ∧ I 171 = w ∧ I 170 16 = m
/-- the model's state behind a piece of a condition -/
def pMd (I : Nat → Int → Int) (B : Int → Int) (n : Int) (R : pR) (J : Nat → Int → Int) : Prop := FrP I J ∧ (R.1 = 1 → Mp J B n R.2.1 R.2.2.1 R.2.2.2 ∧ J 170 13 = I 170 13) ∧ (R.1 = 0 → ∃ p, Mt J B n p R.2.1)
theorem pMd_0 {I J : Nat → Int → Int} {B : Int → Int} {n p q m : Int} {w : Int → Int} (hf : FrP I J) (h : Mt J B n p q) : pMd I B n (0, q, m, w) J := ⟨hf, fun h => absurd h (show ¬ (0 : Int) = 1 by decide), fun _ => ⟨p, h⟩⟩
theorem pMd_1 {I J : Nat → Int → Int} {B : Int → Int} {n q m : Int} {w : Int → Int} (hf : FrP I J) (h : Mp J B n q m w) (h3 : J 170 13 = I 170 13) : pMd I B n (1, q, m, w) J := ⟨hf, fun _ => ⟨h, h3⟩, fun h => absurd h (show ¬ (1 : Int) = 0 by decide)⟩
theorem pMd_fr {I J K : Nat → Int → Int} {B : Int → Int} {n : Int} {R : pR} (h : pMd J B n R K) (hf : FrP I J) (h3 : J 170 13 = I 170 13) : pMd I B n R K := ⟨FrP_tr hf h.1, fun h1 => ⟨(h.2.1 h1).1, (h.2.1 h1).2.trans h3⟩, h.2.2⟩
section
variable {G : jzG} {d : Nat} {sh : List (Nat × Nat)} {I : Nat → Int → Int} {F : Nat → Int → Option Nat} {B : Int → Int} {n q m : Int} {w : Int → Int}
theorem Mp_q (h : Mp I B n q m w) : (0 ≤ q ∧ q ≤ n) ∧ n ≤ 400 := by
  obtain ⟨⟨p, b, hM, hp⟩, -⟩ := h
  obtain ⟨h1, h2, h3, h4, h5, h6⟩ := hM
  have := lx_le (B := B) (n := n) (lo := 32) (hi := 32) (p := p) h5.2
  rw [show lx B n 32 32 p = q from hp] at this
  omega
theorem me_emits (hsh : ShOK sh) (hfx : FxOK F) (hw : I 171 = w) (hm : I 170 16 = m) (hm2 : 0 ≤ m ∧ m ≤ 399) {st a : Int} (j1 : jin st) (j2 : jin a) : jS G d mX12_emits [jR (some 170), jI st, jI a] (sh, I, F) 0 0 (rEV sh F (fun J => J 171 = pE w m st a ∧ J 170 16 = m + 1 ∧ (∀ a, a ≠ 170 → a ≠ 171 → J a = I a) ∧ ∀ k, k ≠ 16 → J 170 k = I 170 k)) := by
  refine jS_go [some (jR (some 170)), some (jI st), some (jI a)] (by decide +kernel) rfl (by simp [jone]) (Nat.le_of_ble_eq_true rfl) rfl (fun hok => ?_)
  have q25 : jup I 171 (1318 + 2 * m) st 170 16 = m := by rw [jup_ne _ _ _ (by decide)]; exact hm
  have q36 : jup (jup I 171 (1318 + 2 * m) st) 171 (1318 + 2 * m + 1) a 170 16 = m := by rw [jup_ne _ _ _ (by decide)]; exact q25
  refine j_aload_n dX12_emits_0 rfl ?_
  refine r_getS dX12_emits_1 flX12_13 (by first | assumption | exact hsh _ _ rfl) (fx_170_1 hfx) ?_
  refine j_sipush dX12_emits_4 (by decide) ?_
  refine j_iconst dX12_emits_7 ?_
  refine j_aload_n dX12_emits_8 rfl ?_
  refine r_getIE dX12_emits_9 flX12_182 (by first | assumption | exact hsh _ _ rfl) hm (fun b_9 => ?_)
  refine j_imul dX12_emits_12 ?_
  refine j_iadd dX12_emits_13 ?_
  refine j_iload_n dX12_emits_14 rfl ?_
  refine r_iastore dX12_emits_15 (by first | assumption | exact hsh _ _ rfl) (by first | omega | (split <;> omega)) (by first | omega | (split <;> omega)) (by first | omega | (split <;> omega)) ?_
  refine j_aload_n dX12_emits_16 rfl ?_
  refine r_getS dX12_emits_17 flX12_13 (by first | assumption | exact hsh _ _ rfl) (fx_170_1 hfx) ?_
  refine j_sipush dX12_emits_20 (by decide) ?_
  refine j_iconst dX12_emits_23 ?_
  refine j_aload_n dX12_emits_24 rfl ?_
  refine r_getIE dX12_emits_25 flX12_182 (by first | assumption | exact hsh _ _ rfl) q25 (fun b_25 => ?_)
  refine j_imul dX12_emits_28 ?_
  refine j_iadd dX12_emits_29 ?_
  refine j_iconst dX12_emits_30 ?_
  refine j_iadd dX12_emits_31 ?_
  refine j_iload_n dX12_emits_32 rfl ?_
  refine r_iastore dX12_emits_33 (by first | assumption | exact hsh _ _ rfl) (by first | omega | (split <;> omega)) (by first | omega | (split <;> omega)) (by first | omega | (split <;> omega)) ?_
  refine j_aload_n dX12_emits_34 rfl ?_
  refine j_dup dX12_emits_35 trivial ?_
  refine r_getIE dX12_emits_36 flX12_182 (by first | assumption | exact hsh _ _ rfl) q36 (fun b_36 => ?_)
  refine j_iconst dX12_emits_39 ?_
  refine j_iadd dX12_emits_40 ?_
  refine r_putI dX12_emits_41 flX12_182 rfl (by first | assumption | exact hsh _ _ rfl) (by first | omega | (split <;> omega)) (fun q => by cases q) ?_
  refine j_vret dX12_emits_44 rfl ?_
  refine rEV_of ⟨?_, jup_same _ _ _ _, fun a a0 a1 => by rw [jup_ne _ _ _ a0, jup_ne _ _ _ a1, jup_ne _ _ _ a1], fun k hk => by rw [jup_row _ _ _ hk, jup_ne _ _ _ (by decide), jup_ne _ _ _ (by decide)]⟩
  rw [jup_ne _ _ _ (by decide), jup_at, jup_at, hw]
  rfl
/-- what a step that is laid leaves -/
theorem em_Q {J : Nat → Int → Int} {st a : Int} (h : J 171 = pE w m st a ∧ J 170 16 = m + 1 ∧ (∀ a, a ≠ 170 → a ≠ 171 → J a = I a) ∧ ∀ k, k ≠ 16 → J 170 k = I 170 k) (hw : I 171 = w) (hm : 0 ≤ m) : FrQ I J ∧ FrP I J ∧ J 170 13 = I 170 13 := by
  obtain ⟨h1, h2, h3, h4⟩ := h
  exact ⟨⟨h3, fun k _ hk => h4 k hk⟩, ⟨h3, fun k _ _ _ hk => h4 k hk, fun k hk => by rw [h1, hw, pE_o (by omega)]⟩, h4 13 (by decide)⟩
/-- behind a step that is laid -/
theorem Mp_em {J : Nat → Int → Int} {st a : Int} (hM : Mp I B n q m w) (h : J 171 = pE w m st a ∧ J 170 16 = m + 1 ∧ (∀ a, a ≠ 170 → a ≠ 171 → J a = I a) ∧ ∀ k, k ≠ 16 → J 170 k = I 170 k) : Mp J B n q (m + 1) (pE w m st a) := by
  obtain ⟨⟨p, b, h1, h2⟩, -⟩ := hM
  exact ⟨⟨p, b, Mt_Q h1 ⟨h.2.2.1, fun k _ hk => h.2.2.2 k hk⟩, h2⟩, h.1, h.2.1⟩
theorem Mp_X {J : Nat → Int → Int} {p b q1 : Int} (hM : Mp I B n q m w) (h : Mt J B n p b) (hp : lxB B n p = q1) (hf : FrX I J) : Mp J B n q1 m w := ⟨⟨p, b, h, hp⟩, by rw [hf.1 171 (by decide)]; exact hM.2.1, by rw [hf.2 16 (by decide) (by decide)]; exact hM.2.2⟩
theorem lxB_q {p : Int} (h : p ≤ n) (hp : lxB B n p = q) : lxB B n q = q := by rw [← hp]; exact lx_idem h
theorem ml_part (hsh : ShOK sh) (hfx : FxOK F) (hM : Mp I B n q m w) (hm : 0 ≤ m ∧ m + 2 ≤ q) : jS G (d + 5) mX12_readPart [jR (some 170)] (sh, I, F) 0 0 (rEI (pPart B n q m w).1 sh F (pMd I B n (pPart B n q m w))) := by
  have hq := Mp_q hM
  obtain ⟨p, b, hMt, hp⟩ := hM.1
  have h5 := hMt.2.2.2.2.1
  have hqq := lxB_q h5.2 hp
  have sl := mt_lettersQ (G := G) (d := d + 2) (F := F) hsh hfx hMt hp
  have hk := tkK_in (B := B) (n := n) (q := q)
  have hll := lx_le (B := B) (n := n) (lo := 97) (hi := 122) (p := q) hq.1.2
  refine jS_go [some (jR (some 170)), none] (by decide +kernel) rfl (by simp [jone]) (Nat.le_of_ble_eq_true rfl) rfl (fun hok => ?_)
  by_cases e1 : tkK B n q = 1
  · have hL : q < n ∧ isL (B q) := by
      rcases hk with k | ⟨kq, k | k | k⟩
      · omega
      · exact ⟨kq, k.2⟩
      · omega
      · omega
    have hlt : q < lx B n 97 122 q := by
      rw [lx_t ⟨hL.1, hL.2⟩]
      have := lx_le (B := B) (n := n) (lo := 97) (hi := 122) (p := q + 1) (by omega)
      omega
    have eE : tkE B n q = lx B n 97 122 q := by unfold tkE; rw [if_pos hL.1, if_pos hL.2]
    have nv : ¬ vNm B n q 3 0 999 := fun h => by have := h.1; omega
    have sW := fun (J : Nat → Int → Int) (h : Mt J B n (lx B n 97 122 q) q) (t : Nat) (ht : t < 33) => mt_isWordQ (G := G) (d := d) (F := F) hsh hfx h hq.1 (t := t) ht
    have pt := fun (J : Nat → Int → Int) (h : Mt J B n (lx B n 97 122 q) q) => h.2.1
    have bg := fun (J : Nat → Int → Int) (h : Mt J B n (lx B n 97 122 q) q) => h.2.2.1
    -- behind the words
    have fin : ∀ (v : Int) (J : Nat → Int → Int), pSt B n q = v → (v = -1 ∨ (0 ≤ v ∧ v ≤ 4)) → Mt J B n (lx B n 97 122 q) q → FrX I J → jW G mX12_readPart (d + 5) (rEI (pPart B n q m w).1 sh F (pMd I B n (pPart B n q m w))) 101 [some (jR (some 170)), none] [jI v] (sh, J, F) 0 0 := by
      intro v J hv hv2 hMJ hf
      have hMpJ : Mp J B n (tkN B n q) m w := Mp_X hM hMJ (by rw [← eE]) hf
      have sE := me_emits (G := G) (d := d + 4) (F := F) hsh hfx hMpJ.2.1 hMpJ.2.2 (by omega) (st := v) (a := 0) (by omega) (by decide)
      rcases hv2 with rfl | hv2
      · have hR : pPart B n q m w = (0, q, m, w) := if_pos hv
        rw [hR]
        refine j_istore_n dX12_readPart_101 (by decide) ?_
        refine j_aload_n dX12_readPart_102 rfl ?_
        refine j_iload_n dX12_readPart_103 rfl ?_
        refine j_iconst dX12_readPart_104 ?_
        refine r_cv2EV dX12_readPart_105 cvX12_185 (by decide) (by first | assumption | exact hsh _ _ rfl) (Nat.le_of_ble_eq_true rfl) (Nat.le_of_eq (Nat.zero_add _)) (Nat.le_of_eq (Nat.zero_add _)) (sE) (fun K hK => ?_)
        have hQ := em_Q hK hMpJ.2.1 hm.1
        refine j_iload_n dX12_readPart_108 rfl ?_
        refine j_if_lt (tgt := 116) dX12_readPart_109 rfl (by first | omega | (split <;> omega)) (fun c_109 => ?_) (fun c_109 => by exact absurd (by decide) c_109)
        refine j_iconst dX12_readPart_116 ?_
        refine j_zret dX12_readPart_117 rfl (by omega) ?_
        exact rEI_of rfl (pMd_0 (FrP_tr (FrP_X hf) hQ.2.1) (Mt_Q hMJ hQ.1))
      · have ha : pAr B n q = 0 := if_neg (by omega)
        have hR : pPart B n q m w = (1, tkN B n q, m + 1, pE w m v 0) := by unfold pPart; rw [if_neg (by omega), ha, hv]
        rw [hR]
        refine j_istore_n dX12_readPart_101 (by decide) ?_
        refine j_aload_n dX12_readPart_102 rfl ?_
        refine j_iload_n dX12_readPart_103 rfl ?_
        refine j_iconst dX12_readPart_104 ?_
        refine r_cv2EV dX12_readPart_105 cvX12_185 (by decide) (by first | assumption | exact hsh _ _ rfl) (Nat.le_of_ble_eq_true rfl) (Nat.le_of_eq (Nat.zero_add _)) (Nat.le_of_eq (Nat.zero_add _)) (sE) (fun K hK => ?_)
        have hQ := em_Q hK hMpJ.2.1 hm.1
        refine j_iload_n dX12_readPart_108 rfl ?_
        refine j_if_lt (tgt := 116) dX12_readPart_109 rfl (by first | omega | (split <;> omega)) (fun c_109 => by exact absurd c_109 (by omega)) (fun c_109 => ?_)
        refine j_iconst dX12_readPart_112 ?_
        refine j_goto (tgt := 117) dX12_readPart_113 rfl ?_
        refine j_zret dX12_readPart_117 rfl (by omega) ?_
        exact rEI_of rfl (pMd_1 (FrP_tr (FrP_X hf) hQ.2.1) (Mp_em hMpJ hK) (by rw [hQ.2.2, hf.2 13 (by decide) (by decide)]))
    by_cases h1 : vWd B n q 21
    · have s1 := fun J h => sW J h 21 (by decide)
      rw [if_pos h1] at s1
      have es : pSt B n q = 0 := by unfold pSt; rw [if_neg nv, if_pos h1]
      refine j_aload_n dX12_readPart_0 rfl ?_
      refine r_cv0EV dX12_readPart_1 cvX12_111 (by decide) (by first | assumption | exact hsh _ _ rfl) (Nat.le_of_ble_eq_true rfl) (Nat.le_of_eq (Nat.zero_add _)) (Nat.le_of_eq (Nat.zero_add _)) (sl) (fun J hJ => ?_)
      refine j_aload_n dX12_readPart_4 rfl ?_
      refine r_getIE dX12_readPart_5 flX12_86 (by first | assumption | exact hsh _ _ rfl) (pt J hJ.1) (fun b_5 => ?_)
      refine j_aload_n dX12_readPart_8 rfl ?_
      refine r_getIE dX12_readPart_9 flX12_96 (by first | assumption | exact hsh _ _ rfl) (bg J hJ.1) (fun b_9 => ?_)
      refine j_icmp_ne (tgt := 35) dX12_readPart_12 rfl (by first | omega | (split <;> omega)) (by first | omega | (split <;> omega)) (fun c_12 => ?_) (fun c_12 => by exact absurd (Classical.not_not.1 c_12) (by omega))
      refine j_aload_n dX12_readPart_35 rfl ?_
      refine j_ldcS dX12_readPart_36 (t := 21) (by decide +kernel) ?_
      refine r_cv1I dX12_readPart_38 cvX12_114 (by decide) (by first | assumption | exact hsh _ _ rfl) (Nat.le_of_ble_eq_true rfl) (Nat.le_of_eq (Nat.zero_add _)) (Nat.le_of_eq (Nat.zero_add _)) (s1 J hJ.1) ?_
      refine j_if_eq (tgt := 48) dX12_readPart_41 rfl (by first | omega | (split <;> omega)) (fun c_41 => by exact absurd c_41 (by decide)) (fun c_41 => ?_)
      refine j_iconst dX12_readPart_44 ?_
      refine j_goto (tgt := 101) dX12_readPart_45 rfl ?_
      exact fin 0 J es (Or.inr (by decide)) hJ.1 hJ.2
    · have s1 := fun J h => sW J h 21 (by decide)
      rw [if_neg h1] at s1
      by_cases h2 : vWd B n q 2
      · have s2 := fun J h => sW J h 2 (by decide)
        rw [if_pos h2] at s2
        have es : pSt B n q = 1 := by unfold pSt; rw [if_neg nv, if_neg h1, if_pos h2]
        refine j_aload_n dX12_readPart_0 rfl ?_
        refine r_cv0EV dX12_readPart_1 cvX12_111 (by decide) (by first | assumption | exact hsh _ _ rfl) (Nat.le_of_ble_eq_true rfl) (Nat.le_of_eq (Nat.zero_add _)) (Nat.le_of_eq (Nat.zero_add _)) (sl) (fun J hJ => ?_)
        refine j_aload_n dX12_readPart_4 rfl ?_
        refine r_getIE dX12_readPart_5 flX12_86 (by first | assumption | exact hsh _ _ rfl) (pt J hJ.1) (fun b_5 => ?_)
        refine j_aload_n dX12_readPart_8 rfl ?_
        refine r_getIE dX12_readPart_9 flX12_96 (by first | assumption | exact hsh _ _ rfl) (bg J hJ.1) (fun b_9 => ?_)
        refine j_icmp_ne (tgt := 35) dX12_readPart_12 rfl (by first | omega | (split <;> omega)) (by first | omega | (split <;> omega)) (fun c_12 => ?_) (fun c_12 => by exact absurd (Classical.not_not.1 c_12) (by omega))
        refine j_aload_n dX12_readPart_35 rfl ?_
        refine j_ldcS dX12_readPart_36 (t := 21) (by decide +kernel) ?_
        refine r_cv1I dX12_readPart_38 cvX12_114 (by decide) (by first | assumption | exact hsh _ _ rfl) (Nat.le_of_ble_eq_true rfl) (Nat.le_of_eq (Nat.zero_add _)) (Nat.le_of_eq (Nat.zero_add _)) (s1 J hJ.1) ?_
        refine j_if_eq (tgt := 48) dX12_readPart_41 rfl (by first | omega | (split <;> omega)) (fun c_41 => ?_) (fun c_41 => by exact absurd c_41 (by decide))
        refine j_aload_n dX12_readPart_48 rfl ?_
        refine j_ldcS dX12_readPart_49 (t := 2) (by decide +kernel) ?_
        refine r_cv1I dX12_readPart_51 cvX12_114 (by decide) (by first | assumption | exact hsh _ _ rfl) (Nat.le_of_ble_eq_true rfl) (Nat.le_of_eq (Nat.zero_add _)) (Nat.le_of_eq (Nat.zero_add _)) (s2 J hJ.1) ?_
        refine j_if_eq (tgt := 61) dX12_readPart_54 rfl (by first | omega | (split <;> omega)) (fun c_54 => by exact absurd c_54 (by decide)) (fun c_54 => ?_)
        refine j_iconst dX12_readPart_57 ?_
        refine j_goto (tgt := 101) dX12_readPart_58 rfl ?_
        exact fin 1 J es (Or.inr (by decide)) hJ.1 hJ.2
      · have s2 := fun J h => sW J h 2 (by decide)
        rw [if_neg h2] at s2
        by_cases h3 : vWd B n q 6
        · have s3 := fun J h => sW J h 6 (by decide)
          rw [if_pos h3] at s3
          have es : pSt B n q = 2 := by unfold pSt; rw [if_neg nv, if_neg h1, if_neg h2, if_pos h3]
          refine j_aload_n dX12_readPart_0 rfl ?_
          refine r_cv0EV dX12_readPart_1 cvX12_111 (by decide) (by first | assumption | exact hsh _ _ rfl) (Nat.le_of_ble_eq_true rfl) (Nat.le_of_eq (Nat.zero_add _)) (Nat.le_of_eq (Nat.zero_add _)) (sl) (fun J hJ => ?_)
          refine j_aload_n dX12_readPart_4 rfl ?_
          refine r_getIE dX12_readPart_5 flX12_86 (by first | assumption | exact hsh _ _ rfl) (pt J hJ.1) (fun b_5 => ?_)
          refine j_aload_n dX12_readPart_8 rfl ?_
          refine r_getIE dX12_readPart_9 flX12_96 (by first | assumption | exact hsh _ _ rfl) (bg J hJ.1) (fun b_9 => ?_)
          refine j_icmp_ne (tgt := 35) dX12_readPart_12 rfl (by first | omega | (split <;> omega)) (by first | omega | (split <;> omega)) (fun c_12 => ?_) (fun c_12 => by exact absurd (Classical.not_not.1 c_12) (by omega))
          refine j_aload_n dX12_readPart_35 rfl ?_
          refine j_ldcS dX12_readPart_36 (t := 21) (by decide +kernel) ?_
          refine r_cv1I dX12_readPart_38 cvX12_114 (by decide) (by first | assumption | exact hsh _ _ rfl) (Nat.le_of_ble_eq_true rfl) (Nat.le_of_eq (Nat.zero_add _)) (Nat.le_of_eq (Nat.zero_add _)) (s1 J hJ.1) ?_
          refine j_if_eq (tgt := 48) dX12_readPart_41 rfl (by first | omega | (split <;> omega)) (fun c_41 => ?_) (fun c_41 => by exact absurd c_41 (by decide))
          refine j_aload_n dX12_readPart_48 rfl ?_
          refine j_ldcS dX12_readPart_49 (t := 2) (by decide +kernel) ?_
          refine r_cv1I dX12_readPart_51 cvX12_114 (by decide) (by first | assumption | exact hsh _ _ rfl) (Nat.le_of_ble_eq_true rfl) (Nat.le_of_eq (Nat.zero_add _)) (Nat.le_of_eq (Nat.zero_add _)) (s2 J hJ.1) ?_
          refine j_if_eq (tgt := 61) dX12_readPart_54 rfl (by first | omega | (split <;> omega)) (fun c_54 => ?_) (fun c_54 => by exact absurd c_54 (by decide))
          refine j_aload_n dX12_readPart_61 rfl ?_
          refine j_ldcS dX12_readPart_62 (t := 6) (by decide +kernel) ?_
          refine r_cv1I dX12_readPart_64 cvX12_114 (by decide) (by first | assumption | exact hsh _ _ rfl) (Nat.le_of_ble_eq_true rfl) (Nat.le_of_eq (Nat.zero_add _)) (Nat.le_of_eq (Nat.zero_add _)) (s3 J hJ.1) ?_
          refine j_if_eq (tgt := 74) dX12_readPart_67 rfl (by first | omega | (split <;> omega)) (fun c_67 => by exact absurd c_67 (by decide)) (fun c_67 => ?_)
          refine j_iconst dX12_readPart_70 ?_
          refine j_goto (tgt := 101) dX12_readPart_71 rfl ?_
          exact fin 2 J es (Or.inr (by decide)) hJ.1 hJ.2
        · have s3 := fun J h => sW J h 6 (by decide)
          rw [if_neg h3] at s3
          by_cases h4 : vWd B n q 1
          · have s4 := fun J h => sW J h 1 (by decide)
            rw [if_pos h4] at s4
            have es : pSt B n q = 3 := by unfold pSt; rw [if_neg nv, if_neg h1, if_neg h2, if_neg h3, if_pos h4]
            refine j_aload_n dX12_readPart_0 rfl ?_
            refine r_cv0EV dX12_readPart_1 cvX12_111 (by decide) (by first | assumption | exact hsh _ _ rfl) (Nat.le_of_ble_eq_true rfl) (Nat.le_of_eq (Nat.zero_add _)) (Nat.le_of_eq (Nat.zero_add _)) (sl) (fun J hJ => ?_)
            refine j_aload_n dX12_readPart_4 rfl ?_
            refine r_getIE dX12_readPart_5 flX12_86 (by first | assumption | exact hsh _ _ rfl) (pt J hJ.1) (fun b_5 => ?_)
            refine j_aload_n dX12_readPart_8 rfl ?_
            refine r_getIE dX12_readPart_9 flX12_96 (by first | assumption | exact hsh _ _ rfl) (bg J hJ.1) (fun b_9 => ?_)
            refine j_icmp_ne (tgt := 35) dX12_readPart_12 rfl (by first | omega | (split <;> omega)) (by first | omega | (split <;> omega)) (fun c_12 => ?_) (fun c_12 => by exact absurd (Classical.not_not.1 c_12) (by omega))
            refine j_aload_n dX12_readPart_35 rfl ?_
            refine j_ldcS dX12_readPart_36 (t := 21) (by decide +kernel) ?_
            refine r_cv1I dX12_readPart_38 cvX12_114 (by decide) (by first | assumption | exact hsh _ _ rfl) (Nat.le_of_ble_eq_true rfl) (Nat.le_of_eq (Nat.zero_add _)) (Nat.le_of_eq (Nat.zero_add _)) (s1 J hJ.1) ?_
            refine j_if_eq (tgt := 48) dX12_readPart_41 rfl (by first | omega | (split <;> omega)) (fun c_41 => ?_) (fun c_41 => by exact absurd c_41 (by decide))
            refine j_aload_n dX12_readPart_48 rfl ?_
            refine j_ldcS dX12_readPart_49 (t := 2) (by decide +kernel) ?_
            refine r_cv1I dX12_readPart_51 cvX12_114 (by decide) (by first | assumption | exact hsh _ _ rfl) (Nat.le_of_ble_eq_true rfl) (Nat.le_of_eq (Nat.zero_add _)) (Nat.le_of_eq (Nat.zero_add _)) (s2 J hJ.1) ?_
            refine j_if_eq (tgt := 61) dX12_readPart_54 rfl (by first | omega | (split <;> omega)) (fun c_54 => ?_) (fun c_54 => by exact absurd c_54 (by decide))
            refine j_aload_n dX12_readPart_61 rfl ?_
            refine j_ldcS dX12_readPart_62 (t := 6) (by decide +kernel) ?_
            refine r_cv1I dX12_readPart_64 cvX12_114 (by decide) (by first | assumption | exact hsh _ _ rfl) (Nat.le_of_ble_eq_true rfl) (Nat.le_of_eq (Nat.zero_add _)) (Nat.le_of_eq (Nat.zero_add _)) (s3 J hJ.1) ?_
            refine j_if_eq (tgt := 74) dX12_readPart_67 rfl (by first | omega | (split <;> omega)) (fun c_67 => ?_) (fun c_67 => by exact absurd c_67 (by decide))
            refine j_aload_n dX12_readPart_74 rfl ?_
            refine j_ldcS dX12_readPart_75 (t := 1) (by decide +kernel) ?_
            refine r_cv1I dX12_readPart_77 cvX12_114 (by decide) (by first | assumption | exact hsh _ _ rfl) (Nat.le_of_ble_eq_true rfl) (Nat.le_of_eq (Nat.zero_add _)) (Nat.le_of_eq (Nat.zero_add _)) (s4 J hJ.1) ?_
            refine j_if_eq (tgt := 87) dX12_readPart_80 rfl (by first | omega | (split <;> omega)) (fun c_80 => by exact absurd c_80 (by decide)) (fun c_80 => ?_)
            refine j_iconst dX12_readPart_83 ?_
            refine j_goto (tgt := 101) dX12_readPart_84 rfl ?_
            exact fin 3 J es (Or.inr (by decide)) hJ.1 hJ.2
          · have s4 := fun J h => sW J h 1 (by decide)
            rw [if_neg h4] at s4
            have s5 := fun J h => sW J h 22 (by decide)
            by_cases h5 : vWd B n q 22
            · rw [if_pos h5] at s5
              have es : pSt B n q = 4 := by unfold pSt; rw [if_neg nv, if_neg h1, if_neg h2, if_neg h3, if_neg h4, if_pos h5]
              refine j_aload_n dX12_readPart_0 rfl ?_
              refine r_cv0EV dX12_readPart_1 cvX12_111 (by decide) (by first | assumption | exact hsh _ _ rfl) (Nat.le_of_ble_eq_true rfl) (Nat.le_of_eq (Nat.zero_add _)) (Nat.le_of_eq (Nat.zero_add _)) (sl) (fun J hJ => ?_)
              refine j_aload_n dX12_readPart_4 rfl ?_
              refine r_getIE dX12_readPart_5 flX12_86 (by first | assumption | exact hsh _ _ rfl) (pt J hJ.1) (fun b_5 => ?_)
              refine j_aload_n dX12_readPart_8 rfl ?_
              refine r_getIE dX12_readPart_9 flX12_96 (by first | assumption | exact hsh _ _ rfl) (bg J hJ.1) (fun b_9 => ?_)
              refine j_icmp_ne (tgt := 35) dX12_readPart_12 rfl (by first | omega | (split <;> omega)) (by first | omega | (split <;> omega)) (fun c_12 => ?_) (fun c_12 => by exact absurd (Classical.not_not.1 c_12) (by omega))
              refine j_aload_n dX12_readPart_35 rfl ?_
              refine j_ldcS dX12_readPart_36 (t := 21) (by decide +kernel) ?_
              refine r_cv1I dX12_readPart_38 cvX12_114 (by decide) (by first | assumption | exact hsh _ _ rfl) (Nat.le_of_ble_eq_true rfl) (Nat.le_of_eq (Nat.zero_add _)) (Nat.le_of_eq (Nat.zero_add _)) (s1 J hJ.1) ?_
              refine j_if_eq (tgt := 48) dX12_readPart_41 rfl (by first | omega | (split <;> omega)) (fun c_41 => ?_) (fun c_41 => by exact absurd c_41 (by decide))
              refine j_aload_n dX12_readPart_48 rfl ?_
              refine j_ldcS dX12_readPart_49 (t := 2) (by decide +kernel) ?_
              refine r_cv1I dX12_readPart_51 cvX12_114 (by decide) (by first | assumption | exact hsh _ _ rfl) (Nat.le_of_ble_eq_true rfl) (Nat.le_of_eq (Nat.zero_add _)) (Nat.le_of_eq (Nat.zero_add _)) (s2 J hJ.1) ?_
              refine j_if_eq (tgt := 61) dX12_readPart_54 rfl (by first | omega | (split <;> omega)) (fun c_54 => ?_) (fun c_54 => by exact absurd c_54 (by decide))
              refine j_aload_n dX12_readPart_61 rfl ?_
              refine j_ldcS dX12_readPart_62 (t := 6) (by decide +kernel) ?_
              refine r_cv1I dX12_readPart_64 cvX12_114 (by decide) (by first | assumption | exact hsh _ _ rfl) (Nat.le_of_ble_eq_true rfl) (Nat.le_of_eq (Nat.zero_add _)) (Nat.le_of_eq (Nat.zero_add _)) (s3 J hJ.1) ?_
              refine j_if_eq (tgt := 74) dX12_readPart_67 rfl (by first | omega | (split <;> omega)) (fun c_67 => ?_) (fun c_67 => by exact absurd c_67 (by decide))
              refine j_aload_n dX12_readPart_74 rfl ?_
              refine j_ldcS dX12_readPart_75 (t := 1) (by decide +kernel) ?_
              refine r_cv1I dX12_readPart_77 cvX12_114 (by decide) (by first | assumption | exact hsh _ _ rfl) (Nat.le_of_ble_eq_true rfl) (Nat.le_of_eq (Nat.zero_add _)) (Nat.le_of_eq (Nat.zero_add _)) (s4 J hJ.1) ?_
              refine j_if_eq (tgt := 87) dX12_readPart_80 rfl (by first | omega | (split <;> omega)) (fun c_80 => ?_) (fun c_80 => by exact absurd c_80 (by decide))
              refine j_aload_n dX12_readPart_87 rfl ?_
              refine j_ldcS dX12_readPart_88 (t := 22) (by decide +kernel) ?_
              refine r_cv1I dX12_readPart_90 cvX12_114 (by decide) (by first | assumption | exact hsh _ _ rfl) (Nat.le_of_ble_eq_true rfl) (Nat.le_of_eq (Nat.zero_add _)) (Nat.le_of_eq (Nat.zero_add _)) (s5 J hJ.1) ?_
              refine j_if_eq (tgt := 100) dX12_readPart_93 rfl (by first | omega | (split <;> omega)) (fun c_93 => by exact absurd c_93 (by decide)) (fun c_93 => ?_)
              refine j_iconst dX12_readPart_96 ?_
              refine j_goto (tgt := 101) dX12_readPart_97 rfl ?_
              exact fin 4 J es (Or.inr (by decide)) hJ.1 hJ.2
            · rw [if_neg h5] at s5
              have es : pSt B n q = -1 := by unfold pSt; rw [if_neg nv, if_neg h1, if_neg h2, if_neg h3, if_neg h4, if_neg h5]
              refine j_aload_n dX12_readPart_0 rfl ?_
              refine r_cv0EV dX12_readPart_1 cvX12_111 (by decide) (by first | assumption | exact hsh _ _ rfl) (Nat.le_of_ble_eq_true rfl) (Nat.le_of_eq (Nat.zero_add _)) (Nat.le_of_eq (Nat.zero_add _)) (sl) (fun J hJ => ?_)
              refine j_aload_n dX12_readPart_4 rfl ?_
              refine r_getIE dX12_readPart_5 flX12_86 (by first | assumption | exact hsh _ _ rfl) (pt J hJ.1) (fun b_5 => ?_)
              refine j_aload_n dX12_readPart_8 rfl ?_
              refine r_getIE dX12_readPart_9 flX12_96 (by first | assumption | exact hsh _ _ rfl) (bg J hJ.1) (fun b_9 => ?_)
              refine j_icmp_ne (tgt := 35) dX12_readPart_12 rfl (by first | omega | (split <;> omega)) (by first | omega | (split <;> omega)) (fun c_12 => ?_) (fun c_12 => by exact absurd (Classical.not_not.1 c_12) (by omega))
              refine j_aload_n dX12_readPart_35 rfl ?_
              refine j_ldcS dX12_readPart_36 (t := 21) (by decide +kernel) ?_
              refine r_cv1I dX12_readPart_38 cvX12_114 (by decide) (by first | assumption | exact hsh _ _ rfl) (Nat.le_of_ble_eq_true rfl) (Nat.le_of_eq (Nat.zero_add _)) (Nat.le_of_eq (Nat.zero_add _)) (s1 J hJ.1) ?_
              refine j_if_eq (tgt := 48) dX12_readPart_41 rfl (by first | omega | (split <;> omega)) (fun c_41 => ?_) (fun c_41 => by exact absurd c_41 (by decide))
              refine j_aload_n dX12_readPart_48 rfl ?_
              refine j_ldcS dX12_readPart_49 (t := 2) (by decide +kernel) ?_
              refine r_cv1I dX12_readPart_51 cvX12_114 (by decide) (by first | assumption | exact hsh _ _ rfl) (Nat.le_of_ble_eq_true rfl) (Nat.le_of_eq (Nat.zero_add _)) (Nat.le_of_eq (Nat.zero_add _)) (s2 J hJ.1) ?_
              refine j_if_eq (tgt := 61) dX12_readPart_54 rfl (by first | omega | (split <;> omega)) (fun c_54 => ?_) (fun c_54 => by exact absurd c_54 (by decide))
              refine j_aload_n dX12_readPart_61 rfl ?_
              refine j_ldcS dX12_readPart_62 (t := 6) (by decide +kernel) ?_
              refine r_cv1I dX12_readPart_64 cvX12_114 (by decide) (by first | assumption | exact hsh _ _ rfl) (Nat.le_of_ble_eq_true rfl) (Nat.le_of_eq (Nat.zero_add _)) (Nat.le_of_eq (Nat.zero_add _)) (s3 J hJ.1) ?_
              refine j_if_eq (tgt := 74) dX12_readPart_67 rfl (by first | omega | (split <;> omega)) (fun c_67 => ?_) (fun c_67 => by exact absurd c_67 (by decide))
              refine j_aload_n dX12_readPart_74 rfl ?_
              refine j_ldcS dX12_readPart_75 (t := 1) (by decide +kernel) ?_
              refine r_cv1I dX12_readPart_77 cvX12_114 (by decide) (by first | assumption | exact hsh _ _ rfl) (Nat.le_of_ble_eq_true rfl) (Nat.le_of_eq (Nat.zero_add _)) (Nat.le_of_eq (Nat.zero_add _)) (s4 J hJ.1) ?_
              refine j_if_eq (tgt := 87) dX12_readPart_80 rfl (by first | omega | (split <;> omega)) (fun c_80 => ?_) (fun c_80 => by exact absurd c_80 (by decide))
              refine j_aload_n dX12_readPart_87 rfl ?_
              refine j_ldcS dX12_readPart_88 (t := 22) (by decide +kernel) ?_
              refine r_cv1I dX12_readPart_90 cvX12_114 (by decide) (by first | assumption | exact hsh _ _ rfl) (Nat.le_of_ble_eq_true rfl) (Nat.le_of_eq (Nat.zero_add _)) (Nat.le_of_eq (Nat.zero_add _)) (s5 J hJ.1) ?_
              refine j_if_eq (tgt := 100) dX12_readPart_93 rfl (by first | omega | (split <;> omega)) (fun c_93 => ?_) (fun c_93 => by exact absurd c_93 (by decide))
              refine j_iconst dX12_readPart_100 ?_
              exact fin (-1) J es (Or.inl rfl) hJ.1 hJ.2
  · have hnL : ¬ (q < n ∧ 97 ≤ B q ∧ B q ≤ 122) := by
      rcases hk with k | ⟨kq, k | k | k⟩ <;> omega
    have el : lx B n 97 122 q = q := lx_f hnL
    rw [el] at sl
    have nw : ∀ t, ¬ vWd B n q t := fun t h => e1 h.1
    have sF := fun (J : Nat → Int → Int) (h : Mt J B n q q) => mt_figures (G := G) (d := d + 2) (F := F) hsh hfx h (lo := 0) (hi := 999) (f := 3) (by decide) (by decide) (by decide) (by decide)
    rw [hqq] at sF
    have pt := fun (J : Nat → Int → Int) (h : Mt J B n q q) => h.2.1
    have bg := fun (J : Nat → Int → Int) (h : Mt J B n q q) => h.2.2.1
    by_cases hv : vNm B n q 3 0 999
    · have es : pSt B n q = 7 := if_pos hv
      have ea : pAr B n q = tV B n q := if_pos es
      have hx := tV_in hv
      have ef : vFg B n q 3 0 999 = tV B n q := if_pos hv
      have hR : pPart B n q m w = (1, tkN B n q, m + 1, pE w m 7 (tV B n q)) := by unfold pPart; rw [es, ea, if_neg (by decide)]
      rw [hR]
      rw [ef, if_pos hv.1] at sF
      obtain ⟨v, hv9⟩ : ∃ x, tV B n q = x := ⟨_, rfl⟩
      rw [hv9] at sF hx ⊢
      have sE := fun (K : Nat → Int → Int) (h1 : K 171 = w) (h2 : K 170 16 = m) => me_emits (G := G) (d := d + 4) (F := F) hsh hfx h1 h2 (by omega) (st := 7) (a := v) (by decide) (by omega)
      refine j_aload_n dX12_readPart_0 rfl ?_
      refine r_cv0EV dX12_readPart_1 cvX12_111 (by decide) (by first | assumption | exact hsh _ _ rfl) (Nat.le_of_ble_eq_true rfl) (Nat.le_of_eq (Nat.zero_add _)) (Nat.le_of_eq (Nat.zero_add _)) (sl) (fun J hJ => ?_)
      refine j_aload_n dX12_readPart_4 rfl ?_
      refine r_getIE dX12_readPart_5 flX12_86 (by first | assumption | exact hsh _ _ rfl) (pt J hJ.1) (fun b_5 => ?_)
      refine j_aload_n dX12_readPart_8 rfl ?_
      refine r_getIE dX12_readPart_9 flX12_96 (by first | assumption | exact hsh _ _ rfl) (bg J hJ.1) (fun b_9 => ?_)
      refine j_icmp_ne (tgt := 35) dX12_readPart_12 rfl (by first | omega | (split <;> omega)) (by first | omega | (split <;> omega)) (fun c_12 => by exact absurd rfl c_12) (fun c_12 => ?_)
      refine j_aload_n dX12_readPart_15 rfl ?_
      refine j_iconst dX12_readPart_16 ?_
      refine j_sipush dX12_readPart_17 (by decide) ?_
      refine j_iconst dX12_readPart_20 ?_
      refine r_cv3EI dX12_readPart_21 cvX12_118 (by decide) (by first | assumption | exact hsh _ _ rfl) (Nat.le_of_ble_eq_true rfl) (Nat.le_of_eq (Nat.zero_add _)) (Nat.le_of_eq (Nat.zero_add _)) (sF J hJ.1) (fun K hK => ?_)
      have hMpK : Mp K B n (tkN B n q) m w := Mp_X hM hK.1 rfl (FrX_tr hJ.2 hK.2)
      refine j_istore_n dX12_readPart_24 (by decide) ?_
      refine j_aload_n dX12_readPart_25 rfl ?_
      refine j_bipush dX12_readPart_26 (by decide) ?_
      refine j_iload_n dX12_readPart_28 rfl ?_
      refine r_cv2EV dX12_readPart_29 cvX12_185 (by decide) (by first | assumption | exact hsh _ _ rfl) (Nat.le_of_ble_eq_true rfl) (Nat.le_of_eq (Nat.zero_add _)) (Nat.le_of_eq (Nat.zero_add _)) (sE K hMpK.2.1 hMpK.2.2) (fun P hP => ?_)
      have hQ := em_Q hP hMpK.2.1 hm.1
      refine j_goto (tgt := 108) dX12_readPart_32 rfl ?_
      refine j_iload_n dX12_readPart_108 rfl ?_
      refine j_if_lt (tgt := 116) dX12_readPart_109 rfl (by first | omega | (split <;> omega)) (fun c_109 => by exact absurd c_109 (by omega)) (fun c_109 => ?_)
      refine j_iconst dX12_readPart_112 ?_
      refine j_goto (tgt := 117) dX12_readPart_113 rfl ?_
      refine j_zret dX12_readPart_117 rfl (by omega) ?_
      exact rEI_of rfl (pMd_1 (FrP_tr (FrP_X (FrX_tr hJ.2 hK.2)) hQ.2.1) (Mp_em hMpK hP) (by rw [hQ.2.2, hK.2.2 13 (by decide) (by decide), hJ.2.2 13 (by decide) (by decide)]))
    · have es : pSt B n q = -1 := by unfold pSt; rw [if_neg hv, if_neg (nw _), if_neg (nw _), if_neg (nw _), if_neg (nw _), if_neg (nw _)]
      have ef : vFg B n q 3 0 999 = -1 := if_neg hv
      have hR : pPart B n q m w = (0, q, m, w) := if_pos es
      rw [hR]
      rw [ef] at sF
      have sE := fun (K : Nat → Int → Int) (h1 : K 171 = w) (h2 : K 170 16 = m) => me_emits (G := G) (d := d + 4) (F := F) hsh hfx h1 h2 (by omega) (st := 7) (a := -1) (by decide) (by decide)
      refine j_aload_n dX12_readPart_0 rfl ?_
      refine r_cv0EV dX12_readPart_1 cvX12_111 (by decide) (by first | assumption | exact hsh _ _ rfl) (Nat.le_of_ble_eq_true rfl) (Nat.le_of_eq (Nat.zero_add _)) (Nat.le_of_eq (Nat.zero_add _)) (sl) (fun J hJ => ?_)
      refine j_aload_n dX12_readPart_4 rfl ?_
      refine r_getIE dX12_readPart_5 flX12_86 (by first | assumption | exact hsh _ _ rfl) (pt J hJ.1) (fun b_5 => ?_)
      refine j_aload_n dX12_readPart_8 rfl ?_
      refine r_getIE dX12_readPart_9 flX12_96 (by first | assumption | exact hsh _ _ rfl) (bg J hJ.1) (fun b_9 => ?_)
      refine j_icmp_ne (tgt := 35) dX12_readPart_12 rfl (by first | omega | (split <;> omega)) (by first | omega | (split <;> omega)) (fun c_12 => by exact absurd rfl c_12) (fun c_12 => ?_)
      refine j_aload_n dX12_readPart_15 rfl ?_
      refine j_iconst dX12_readPart_16 ?_
      refine j_sipush dX12_readPart_17 (by decide) ?_
      refine j_iconst dX12_readPart_20 ?_
      refine r_cv3EI dX12_readPart_21 cvX12_118 (by decide) (by first | assumption | exact hsh _ _ rfl) (Nat.le_of_ble_eq_true rfl) (Nat.le_of_eq (Nat.zero_add _)) (Nat.le_of_eq (Nat.zero_add _)) (sF J hJ.1) (fun K hK => ?_)
      have hMpK := Mp_X hM hK.1 rfl (FrX_tr hJ.2 hK.2)
      refine j_istore_n dX12_readPart_24 (by decide) ?_
      refine j_aload_n dX12_readPart_25 rfl ?_
      refine j_bipush dX12_readPart_26 (by decide) ?_
      refine j_iload_n dX12_readPart_28 rfl ?_
      refine r_cv2EV dX12_readPart_29 cvX12_185 (by decide) (by first | assumption | exact hsh _ _ rfl) (Nat.le_of_ble_eq_true rfl) (Nat.le_of_eq (Nat.zero_add _)) (Nat.le_of_eq (Nat.zero_add _)) (sE K hMpK.2.1 hMpK.2.2) (fun P hP => ?_)
      have hQ := em_Q hP hMpK.2.1 hm.1
      refine j_goto (tgt := 108) dX12_readPart_32 rfl ?_
      refine j_iload_n dX12_readPart_108 rfl ?_
      refine j_if_lt (tgt := 116) dX12_readPart_109 rfl (by first | omega | (split <;> omega)) (fun c_109 => ?_) (fun c_109 => by exact absurd (by decide) c_109)
      refine j_iconst dX12_readPart_116 ?_
      refine j_zret dX12_readPart_117 rfl (by omega) ?_
      exact rEI_of rfl (pMd_0 (FrP_tr (FrP_X (FrX_tr hJ.2 hK.2)) hQ.2.1) (Mt_Q hK.1 hQ.1))
theorem ml_sum (hsh : ShOK sh) (hfx : FxOK F) (hM : Mp I B n q m w) (hm : 0 ≤ m ∧ m + 2 ≤ q) : jS G (d + 6) mX12_readSum [jR (some 170)] (sh, I, F) 0 0 (rEI (pSum B n q m w).1 sh F (pMd I B n (pSum B n q m w))) := by
  refine jS_go [some (jR (some 170))] (by decide +kernel) rfl (by simp [jone]) (Nat.le_of_ble_eq_true rfl) rfl (fun hok => ?_)
  have key : ∀ (u : Nat) (q m : Int) (w : Int → Int) (J : Nat → Int → Int), n - q < u → 0 ≤ m → m + 2 ≤ q → Mp J B n q m w → FrP I J → J 170 13 = I 170 13 → jW G mX12_readSum (d + 6) (rEI (pSumR B n 401 q m w).1 sh F (pMd I B n (pSumR B n 401 q m w))) 9 [some (jR (some 170))] [] (sh, J, F) 0 0 := by
    intro u
    induction u with
    | zero =>
      intro q m w J hu hm0 hmq hM hf h13
      have hq := Mp_q hM
      omega
    | succ u ih =>
      intro q m w J hu hm0 hmq hM hf h13
      have hq := Mp_q hM
      obtain ⟨p, b, hMt, hp⟩ := hM.1
      have h5 := hMt.2.2.2.2.1
      have hqq := lxB_q h5.2 hp
      rw [pSumR_u (by omega) hq.1.2 hq.2]
      by_cases e : vSg B n q 43
      · rw [if_pos e]
        have ht := sg_s hq.1.2 e
        have sS := mt_sign1 (G := G) (d := d + 3) (F := F) hsh hfx hMt (c := 43) (by decide) (by rw [hp]; exact e)
        rw [hp] at sS
        have sP := fun (K : Nat → Int → Int) (h : Mp K B n (tkN B n q) m w) => ml_part (G := G) (d := d) (F := F) hsh hfx h ⟨hm0, by omega⟩
        have hg := pPart_g (B := B) (m := m) (w := w) ht.2
        generalize pPart B n (tkN B n q) m w = S at *
        rcases hg with g | ⟨g1, g2, g3, g4, g5, -⟩
        · rw [pThen_f g.1, g.1]
          rw [g.1] at sP
          refine j_aload_n dX12_readSum_9 rfl ?_
          refine j_bipush dX12_readSum_10 (by decide) ?_
          refine r_cv1EI dX12_readSum_12 cvX12_196 (by decide) (by first | assumption | exact hsh _ _ rfl) (Nat.le_of_ble_eq_true rfl) (Nat.le_of_eq (Nat.zero_add _)) (Nat.le_of_eq (Nat.zero_add _)) (sS) (fun K hK => ?_)
          have hMK := Mp_X hM hK.1 rfl hK.2
          refine j_if_eq (tgt := 37) dX12_readSum_15 rfl (by first | omega | (split <;> omega)) (fun c_15 => by exact absurd c_15 (by decide)) (fun c_15 => ?_)
          refine j_aload_n dX12_readSum_18 rfl ?_
          refine r_cv0EI dX12_readSum_19 cvX12_193 (by decide) (by first | assumption | exact hsh _ _ rfl) (Nat.le_of_ble_eq_true rfl) (Nat.le_of_eq (Nat.zero_add _)) (Nat.le_of_eq (Nat.zero_add _)) (sP K hMK) (fun P hP => ?_)
          refine j_if_ne (tgt := 27) dX12_readSum_22 rfl (by first | omega | (split <;> omega)) (fun c_22 => by exact absurd c_22 (by decide)) (fun c_22 => ?_)
          refine j_iconst dX12_readSum_25 ?_
          refine j_zret dX12_readSum_26 rfl (by omega) ?_
          exact rEI_of rfl (pMd_fr hP (FrP_tr hf (FrP_X hK.2)) (by rw [hK.2.2 13 (by decide) (by decide)]; exact h13))
        · rw [pThen_t g1]
          rw [g1] at sP
          have sE := fun (P : Nat → Int → Int) (h : Mp P B n S.2.1 S.2.2.1 S.2.2.2) => me_emits (G := G) (d := d + 5) (F := F) hsh hfx h.2.1 h.2.2 (by omega) (st := 8) (a := 0) (by decide) (by decide)
          refine j_aload_n dX12_readSum_9 rfl ?_
          refine j_bipush dX12_readSum_10 (by decide) ?_
          refine r_cv1EI dX12_readSum_12 cvX12_196 (by decide) (by first | assumption | exact hsh _ _ rfl) (Nat.le_of_ble_eq_true rfl) (Nat.le_of_eq (Nat.zero_add _)) (Nat.le_of_eq (Nat.zero_add _)) (sS) (fun K hK => ?_)
          have hMK := Mp_X hM hK.1 rfl hK.2
          refine j_if_eq (tgt := 37) dX12_readSum_15 rfl (by first | omega | (split <;> omega)) (fun c_15 => by exact absurd c_15 (by decide)) (fun c_15 => ?_)
          refine j_aload_n dX12_readSum_18 rfl ?_
          refine r_cv0EI dX12_readSum_19 cvX12_193 (by decide) (by first | assumption | exact hsh _ _ rfl) (Nat.le_of_ble_eq_true rfl) (Nat.le_of_eq (Nat.zero_add _)) (Nat.le_of_eq (Nat.zero_add _)) (sP K hMK) (fun P hP => ?_)
          have hMP := hP.2.1 g1
          refine j_if_ne (tgt := 27) dX12_readSum_22 rfl (by first | omega | (split <;> omega)) (fun c_22 => ?_) (fun c_22 => by exact absurd c_22 (by decide))
          refine j_aload_n dX12_readSum_27 rfl ?_
          refine j_bipush dX12_readSum_28 (by decide) ?_
          refine j_iconst dX12_readSum_30 ?_
          refine r_cv2EV dX12_readSum_31 cvX12_185 (by decide) (by first | assumption | exact hsh _ _ rfl) (Nat.le_of_ble_eq_true rfl) (Nat.le_of_eq (Nat.zero_add _)) (Nat.le_of_eq (Nat.zero_add _)) (sE P hMP.1) (fun N hN => ?_)
          have hQ := em_Q hN hMP.1.2.1 (by omega)
          refine j_goto (tgt := 9) dX12_readSum_34 rfl ?_
          exact ih S.2.1 (S.2.2.1 + 1) _ N (by omega) (by omega) (by omega) (Mp_em hMP.1 hN) (FrP_tr (FrP_tr (FrP_tr hf (FrP_X hK.2)) hP.1) hQ.2.1) (by rw [hQ.2.2, hMP.2, hK.2.2 13 (by decide) (by decide)]; exact h13)
      · rw [if_neg e]
        have sS := mt_sign0 (G := G) (d := d + 3) (F := F) hsh hfx hMt (c := 43) (by decide) (by rw [hp]; exact e)
        rw [hp] at sS
        refine j_aload_n dX12_readSum_9 rfl ?_
        refine j_bipush dX12_readSum_10 (by decide) ?_
        refine r_cv1EI dX12_readSum_12 cvX12_196 (by decide) (by first | assumption | exact hsh _ _ rfl) (Nat.le_of_ble_eq_true rfl) (Nat.le_of_eq (Nat.zero_add _)) (Nat.le_of_eq (Nat.zero_add _)) (sS) (fun K hK => ?_)
        refine j_if_eq (tgt := 37) dX12_readSum_15 rfl (by first | omega | (split <;> omega)) (fun c_15 => ?_) (fun c_15 => by exact absurd c_15 (by decide))
        refine j_iconst dX12_readSum_37 ?_
        refine j_zret dX12_readSum_38 rfl (by omega) ?_
        exact rEI_of rfl (pMd_1 (FrP_tr hf (FrP_X hK.2)) (Mp_X hM hK.1 hqq hK.2) (by rw [hK.2.2 13 (by decide) (by decide)]; exact h13))
  have hq := Mp_q hM
  have sP := ml_part (G := G) (d := d) (F := F) hsh hfx hM hm
  have hg := pPart_g (B := B) (m := m) (w := w) hq.1.2
  have hR : pSum B n q m w = pThen (pPart B n q m w) (pSumR B n 401) := rfl
  rw [hR]
  generalize pPart B n q m w = S at *
  rcases hg with g | ⟨g1, g2, g3, g4, g5, -⟩
  · rw [pThen_f g.1, g.1]
    rw [g.1] at sP
    refine j_aload_n dX12_readSum_0 rfl ?_
    refine r_cv0EI dX12_readSum_1 cvX12_193 (by decide) (by first | assumption | exact hsh _ _ rfl) (Nat.le_of_ble_eq_true rfl) (Nat.le_of_eq (Nat.zero_add _)) (Nat.le_of_eq (Nat.zero_add _)) (sP) (fun K hK => ?_)
    refine j_if_ne (tgt := 9) dX12_readSum_4 rfl (by first | omega | (split <;> omega)) (fun c_4 => by exact absurd c_4 (by decide)) (fun c_4 => ?_)
    refine j_iconst dX12_readSum_7 ?_
    refine j_zret dX12_readSum_8 rfl (by omega) ?_
    exact rEI_of rfl hK
  · rw [pThen_t g1]
    rw [g1] at sP
    refine j_aload_n dX12_readSum_0 rfl ?_
    refine r_cv0EI dX12_readSum_1 cvX12_193 (by decide) (by first | assumption | exact hsh _ _ rfl) (Nat.le_of_ble_eq_true rfl) (Nat.le_of_eq (Nat.zero_add _)) (Nat.le_of_eq (Nat.zero_add _)) (sP) (fun K hK => ?_)
    have hMK := hK.2.1 g1
    refine j_if_ne (tgt := 9) dX12_readSum_4 rfl (by first | omega | (split <;> omega)) (fun c_4 => ?_) (fun c_4 => by exact absurd c_4 (by decide))
    exact key 401 S.2.1 S.2.2.1 S.2.2.2 K (by omega) (by omega) (by omega) hMK.1 hK.1 hMK.2
end
